/-! ===== the law's loop ===== -/
def LI (L : Nat) (xs : Nat → Int32) (j : Nat) (h : am_H) : Prop := ∃ S, St_ok S ∧ cI h S ∧ rI h S ∧ h_x h = (L, xs) ∧ h_n h ≤ 118 + 1000 * j ∧ h_s h ≤ 24577 + 2000 * j
theorem LI_vp {L : Nat} {xs : Nat → Int32} {j : Nat} {h : am_H} (hx : h_x h = (L, xs)) (hj : 6 * j + 6 ≤ L) (hL : L ≤ 3072) : ∀ c, c < 6 → vp_in (nI (6 * j) + nI c) (h_x h).1 := by
  intro c hc
  rw [hx, nI_add]
  exact vp_in_nI (show 6 * j + c < L by omega) (by omega)
theorem LI_v0 {L : Nat} {xs : Nat → Int32} {j : Nat} {h : am_H} (hx : h_x h = (L, xs)) (hj : 6 * j + 6 ≤ L) (hL : L ≤ 3072) : vp_in (nI (6 * j)) (h_x h).1 := by
  rw [hx]
  exact vp_in_nI (show 6 * j < L by omega) (by omega)
theorem LI_st {L : Nat} {xs : Nat → Int32} {j : Nat} {h h1 h2 : am_H} {S' : St} (hx : h_x h = (L, xs)) (hn : h_n h ≤ 118 + 1000 * j) (hs : h_s h ≤ 24577 + 2000 * j) (ok' : St_ok S') (g1 : gC h h1) (C1 : cI h1 S') (g2 : gj h1 h2 pR pR N0) (R2 : rI h2 S') : LI L xs (j + 1) h2 := by
  have e1 : h_n h2 = h_n h1 := congrArg Prod.fst g2.1
  have e2 : h_s h2 = h_s h1 := congrArg Prod.snd g2.1
  have a1 := g1.2.1
  have a2 := g1.2.2
  exact ⟨S', ok', C1.R ok' g2, R2, g2.2.2.1.trans (g1.1.2.1.trans hx), by omega, by omega⟩
theorem LI_up {L : Nat} {xs : Nat → Int32} {j : Nat} {h : am_H} (I : LI L xs j h) : LI L xs (j + 1) h := by
  obtain ⟨S, ok, C, R, hx, hn, hs⟩ := I
  exact ⟨S, ok, C, R, hx, by omega, by omega⟩
theorem it_ {p A B : Prop} {dp : Decidable p} (a : p → A) (b : ¬ p → B) : if p then A else B := by
  by_cases z : p
  · rw [if_pos z]; exact a z
  · rw [if_neg z]; exact b z
theorem lc_feed {Q : Option am_V → am_H → Prop} {h : am_H} {L : Nat} {xs : Nat → Int32} {j : Nat} (I : LI L xs j h) (hj : 6 * j + 6 ≤ L) (hL : L ≤ 3072) (K : ∀ h', LI L xs (j + 1) h' → ex_ 69 0 18 [some (v_x 20), some (v_r (some 0)), some (v_r (some 93)), some (v_i (nI (6 * j) + (6 : Int32)))] [] h' Q) : ex_ 69 0 240 [some (v_x 20), some (v_r (some 0)), some (v_r (some 93)), some (v_i (nI (6 * j)))] [] h Q := by
  obtain ⟨S, ok, C, R, hx, hn, hs⟩ := I
  have L0 := C.1
  have vp := LI_vp hx hj hL
  obtain ⟨v, S', ok', wc, wr⟩ := w_feed ok (x1 := ((h_x h).2 (Int32.toNatClampNeg ((nI (6 * j)) + (1 : Int32))))) (x2 := ((h_x h).2 (Int32.toNatClampNeg ((nI (6 * j)) + (2 : Int32))))) (x3 := ((h_x h).2 (Int32.toNatClampNeg ((nI (6 * j)) + (3 : Int32))))) (x4 := ((h_x h).2 (Int32.toNatClampNeg ((nI (6 * j)) + (4 : Int32))))) (x5 := ((h_x h).2 (Int32.toNatClampNeg ((nI (6 * j)) + (5 : Int32)))))
  refine (b_L_law_240 (d := 68) _ _ _ L0).2 ?_
  refine ⟨vp 1 (by decide), vp 2 (by decide), vp 3 (by decide), vp 4 (by decide), vp 5 (by decide), ?_⟩
  refine wc 4 h _ C (fun h1 g1 C1 => ?_)
  have L1 := C1.1
  have R1 := R.C ok g1.1 L1
  have hx1 : h_x h1 = h_x h := g1.1.2.1
  show ex_ 69 0 269 [some (v_x 20), some (v_r (some 0)), some (v_r (some 93)), some (v_i (nI (6 * j)))] [v_i v] h1 Q
  refine (b_L_law_269 (d := 68) _ _ _ _ L1).2 ?_
  rw [hx1]
  refine ⟨vp 1 (by decide), vp 2 (by decide), vp 3 (by decide), vp 4 (by decide), vp 5 (by decide), ?_⟩
  refine wr 4 h1 _ R1 (fun h2 g2 R2 => ?_)
  show ex_ 69 0 298 [some (v_x 20), some (v_r (some 0)), some (v_r (some 93)), some (v_i (nI (6 * j)))] [v_i v, v_i v] h2 Q
  refine (b_L_law_298 (d := 69) _ _ _ _ _ _ _).2 ?_
  rw [if_pos rfl]
  refine (b_L_law_1675 (d := 69) _ _ _ _ _).2 ?_
  exact K h2 (LI_st hx hn hs ok' g1 C1 g2 R2)
theorem lc_house {Q : Option am_V → am_H → Prop} {h : am_H} {L : Nat} {xs : Nat → Int32} {j : Nat} (I : LI L xs j h) (hj : 6 * j + 6 ≤ L) (hL : L ≤ 3072) (K : ∀ h', LI L xs (j + 1) h' → ex_ 69 0 18 [some (v_x 20), some (v_r (some 0)), some (v_r (some 93)), some (v_i (nI (6 * j) + (6 : Int32)))] [] h' Q) : ex_ 69 0 303 [some (v_x 20), some (v_r (some 0)), some (v_r (some 93)), some (v_i (nI (6 * j)))] [] h Q := by
  obtain ⟨S, ok, C, R, hx, hn, hs⟩ := I
  have L0 := C.1
  have vp := LI_vp hx hj hL
  obtain ⟨v, S', ok', wc, wr⟩ := w_house ok (x1 := ((h_x h).2 (Int32.toNatClampNeg ((nI (6 * j)) + (1 : Int32)))))
  refine (b_L_law_303 (d := 68) _ _ _ L0).2 ?_
  refine ⟨vp 1 (by decide), ?_⟩
  refine wc 4 h _ C (fun h1 g1 C1 => ?_)
  have L1 := C1.1
  have R1 := R.C ok g1.1 L1
  have hx1 : h_x h1 = h_x h := g1.1.2.1
  show ex_ 69 0 312 [some (v_x 20), some (v_r (some 0)), some (v_r (some 93)), some (v_i (nI (6 * j)))] [v_i v] h1 Q
  refine (b_L_law_312 (d := 68) _ _ _ _ L1).2 ?_
  rw [hx1]
  refine ⟨vp 1 (by decide), ?_⟩
  refine wr 4 h1 _ R1 (fun h2 g2 R2 => ?_)
  show ex_ 69 0 321 [some (v_x 20), some (v_r (some 0)), some (v_r (some 93)), some (v_i (nI (6 * j)))] [v_i v, v_i v] h2 Q
  refine (b_L_law_321 (d := 69) _ _ _ _ _ _ _).2 ?_
  rw [if_pos rfl]
  refine (b_L_law_1675 (d := 69) _ _ _ _ _).2 ?_
  exact K h2 (LI_st hx hn hs ok' g1 C1 g2 R2)
theorem lc_fault {Q : Option am_V → am_H → Prop} {h : am_H} {L : Nat} {xs : Nat → Int32} {j : Nat} (I : LI L xs j h) (hj : 6 * j + 6 ≤ L) (hL : L ≤ 3072) (K : ∀ h', LI L xs (j + 1) h' → ex_ 69 0 18 [some (v_x 20), some (v_r (some 0)), some (v_r (some 93)), some (v_i (nI (6 * j) + (6 : Int32)))] [] h' Q) : ex_ 69 0 326 [some (v_x 20), some (v_r (some 0)), some (v_r (some 93)), some (v_i (nI (6 * j)))] [] h Q := by
  obtain ⟨S, ok, C, R, hx, hn, hs⟩ := I
  have L0 := C.1
  have vp := LI_vp hx hj hL
  obtain ⟨v, S', ok', wc, wr⟩ := w_fault ok (x1 := ((h_x h).2 (Int32.toNatClampNeg ((nI (6 * j)) + (1 : Int32)))))
  refine (b_L_law_326 (d := 68) _ _ _ L0).2 ?_
  refine ⟨vp 1 (by decide), ?_⟩
  refine wc 4 h _ C (fun h1 g1 C1 => ?_)
  have L1 := C1.1
  have R1 := R.C ok g1.1 L1
  have hx1 : h_x h1 = h_x h := g1.1.2.1
  show ex_ 69 0 335 [some (v_x 20), some (v_r (some 0)), some (v_r (some 93)), some (v_i (nI (6 * j)))] [v_i v] h1 Q
  refine (b_L_law_335 (d := 68) _ _ _ _ L1).2 ?_
  rw [hx1]
  refine ⟨vp 1 (by decide), ?_⟩
  refine wr 4 h1 _ R1 (fun h2 g2 R2 => ?_)
  show ex_ 69 0 344 [some (v_x 20), some (v_r (some 0)), some (v_r (some 93)), some (v_i (nI (6 * j)))] [v_i v, v_i v] h2 Q
  refine (b_L_law_344 (d := 69) _ _ _ _ _ _ _).2 ?_
  rw [if_pos rfl]
  refine (b_L_law_1675 (d := 69) _ _ _ _ _).2 ?_
  exact K h2 (LI_st hx hn hs ok' g1 C1 g2 R2)
theorem lc_parent {Q : Option am_V → am_H → Prop} {h : am_H} {L : Nat} {xs : Nat → Int32} {j : Nat} (I : LI L xs j h) (hj : 6 * j + 6 ≤ L) (hL : L ≤ 3072) (K : ∀ h', LI L xs (j + 1) h' → ex_ 69 0 18 [some (v_x 20), some (v_r (some 0)), some (v_r (some 93)), some (v_i (nI (6 * j) + (6 : Int32)))] [] h' Q) : ex_ 69 0 349 [some (v_x 20), some (v_r (some 0)), some (v_r (some 93)), some (v_i (nI (6 * j)))] [] h Q := by
  obtain ⟨S, ok, C, R, hx, hn, hs⟩ := I
  have L0 := C.1
  have vp := LI_vp hx hj hL
  obtain ⟨v, S', ok', wc, wr⟩ := w_parent ok (x1 := ((h_x h).2 (Int32.toNatClampNeg ((nI (6 * j)) + (1 : Int32))))) (x2 := ((h_x h).2 (Int32.toNatClampNeg ((nI (6 * j)) + (2 : Int32)))))
  refine (b_L_law_349 (d := 68) _ _ _ L0).2 ?_
  refine ⟨vp 1 (by decide), vp 2 (by decide), ?_⟩
  refine wc 4 h _ C (fun h1 g1 C1 => ?_)
  have L1 := C1.1
  have R1 := R.C ok g1.1 L1
  have hx1 : h_x h1 = h_x h := g1.1.2.1
  show ex_ 69 0 363 [some (v_x 20), some (v_r (some 0)), some (v_r (some 93)), some (v_i (nI (6 * j)))] [v_i v] h1 Q
  refine (b_L_law_363 (d := 68) _ _ _ _ L1).2 ?_
  rw [hx1]
  refine ⟨vp 1 (by decide), vp 2 (by decide), ?_⟩
  refine wr 4 h1 _ R1 (fun h2 g2 R2 => ?_)
  show ex_ 69 0 377 [some (v_x 20), some (v_r (some 0)), some (v_r (some 93)), some (v_i (nI (6 * j)))] [v_i v, v_i v] h2 Q
  refine (b_L_law_377 (d := 69) _ _ _ _ _ _ _).2 ?_
  rw [if_pos rfl]
  refine (b_L_law_1675 (d := 69) _ _ _ _ _).2 ?_
  exact K h2 (LI_st hx hn hs ok' g1 C1 g2 R2)
theorem lc_defines {Q : Option am_V → am_H → Prop} {h : am_H} {L : Nat} {xs : Nat → Int32} {j : Nat} (I : LI L xs j h) (hj : 6 * j + 6 ≤ L) (hL : L ≤ 3072) (K : ∀ h', LI L xs (j + 1) h' → ex_ 69 0 18 [some (v_x 20), some (v_r (some 0)), some (v_r (some 93)), some (v_i (nI (6 * j) + (6 : Int32)))] [] h' Q) : ex_ 69 0 382 [some (v_x 20), some (v_r (some 0)), some (v_r (some 93)), some (v_i (nI (6 * j)))] [] h Q := by
  obtain ⟨S, ok, C, R, hx, hn, hs⟩ := I
  have L0 := C.1
  have vp := LI_vp hx hj hL
  obtain ⟨v, S', ok', wc, wr⟩ := w_defines ok (x1 := ((h_x h).2 (Int32.toNatClampNeg ((nI (6 * j)) + (1 : Int32))))) (x2 := ((h_x h).2 (Int32.toNatClampNeg ((nI (6 * j)) + (2 : Int32)))))
  refine (b_L_law_382 (d := 68) _ _ _ L0).2 ?_
  refine ⟨vp 1 (by decide), vp 2 (by decide), ?_⟩
  refine wc 4 h _ C (fun h1 g1 C1 => ?_)
  have L1 := C1.1
  have R1 := R.C ok g1.1 L1
  have hx1 : h_x h1 = h_x h := g1.1.2.1
  show ex_ 69 0 396 [some (v_x 20), some (v_r (some 0)), some (v_r (some 93)), some (v_i (nI (6 * j)))] [v_i v] h1 Q
  refine (b_L_law_396 (d := 68) _ _ _ _ L1).2 ?_
  rw [hx1]
  refine ⟨vp 1 (by decide), vp 2 (by decide), ?_⟩
  refine wr 4 h1 _ R1 (fun h2 g2 R2 => ?_)
  show ex_ 69 0 410 [some (v_x 20), some (v_r (some 0)), some (v_r (some 93)), some (v_i (nI (6 * j)))] [v_i v, v_i v] h2 Q
  refine (b_L_law_410 (d := 69) _ _ _ _ _ _ _).2 ?_
  rw [if_pos rfl]
  refine (b_L_law_1675 (d := 69) _ _ _ _ _).2 ?_
  exact K h2 (LI_st hx hn hs ok' g1 C1 g2 R2)
theorem lc_state {Q : Option am_V → am_H → Prop} {h : am_H} {L : Nat} {xs : Nat → Int32} {j : Nat} (I : LI L xs j h) (hj : 6 * j + 6 ≤ L) (hL : L ≤ 3072) (K : ∀ h', LI L xs (j + 1) h' → ex_ 69 0 18 [some (v_x 20), some (v_r (some 0)), some (v_r (some 93)), some (v_i (nI (6 * j) + (6 : Int32)))] [] h' Q) : ex_ 69 0 415 [some (v_x 20), some (v_r (some 0)), some (v_r (some 93)), some (v_i (nI (6 * j)))] [] h Q := by
  obtain ⟨S, ok, C, R, hx, hn, hs⟩ := I
  have L0 := C.1
  have vp := LI_vp hx hj hL
  obtain ⟨v, S', ok', wc, wr⟩ := w_state ok (x1 := ((h_x h).2 (Int32.toNatClampNeg ((nI (6 * j)) + (1 : Int32)))))
  refine (b_L_law_415 (d := 68) _ _ _ L0).2 ?_
  refine ⟨vp 1 (by decide), ?_⟩
  refine wc 4 h _ C (fun h1 g1 C1 => ?_)
  have L1 := C1.1
  have R1 := R.C ok g1.1 L1
  have hx1 : h_x h1 = h_x h := g1.1.2.1
  show ex_ 69 0 424 [some (v_x 20), some (v_r (some 0)), some (v_r (some 93)), some (v_i (nI (6 * j)))] [v_i v] h1 Q
  refine (b_L_law_424 (d := 68) _ _ _ _ L1).2 ?_
  rw [hx1]
  refine ⟨vp 1 (by decide), ?_⟩
  refine wr 4 h1 _ R1 (fun h2 g2 R2 => ?_)
  show ex_ 69 0 433 [some (v_x 20), some (v_r (some 0)), some (v_r (some 93)), some (v_i (nI (6 * j)))] [v_i v, v_i v] h2 Q
  refine (b_L_law_433 (d := 69) _ _ _ _ _ _ _).2 ?_
  rw [if_pos rfl]
  refine (b_L_law_1675 (d := 69) _ _ _ _ _).2 ?_
  exact K h2 (LI_st hx hn hs ok' g1 C1 g2 R2)
theorem lc_order {Q : Option am_V → am_H → Prop} {h : am_H} {L : Nat} {xs : Nat → Int32} {j : Nat} (I : LI L xs j h) (hj : 6 * j + 6 ≤ L) (hL : L ≤ 3072) (K : ∀ h', LI L xs (j + 1) h' → ex_ 69 0 18 [some (v_x 20), some (v_r (some 0)), some (v_r (some 93)), some (v_i (nI (6 * j) + (6 : Int32)))] [] h' Q) : ex_ 69 0 438 [some (v_x 20), some (v_r (some 0)), some (v_r (some 93)), some (v_i (nI (6 * j)))] [] h Q := by
  obtain ⟨S, ok, C, R, hx, hn, hs⟩ := I
  have L0 := C.1
  have vp := LI_vp hx hj hL
  obtain ⟨v, S', ok', wc, wr⟩ := w_order ok (x1 := ((h_x h).2 (Int32.toNatClampNeg ((nI (6 * j)) + (1 : Int32))))) (x2 := ((h_x h).2 (Int32.toNatClampNeg ((nI (6 * j)) + (2 : Int32)))))
  refine (b_L_law_438 (d := 68) _ _ _ L0).2 ?_
  refine ⟨vp 1 (by decide), vp 2 (by decide), ?_⟩
  refine wc 4 h _ C (fun h1 g1 C1 => ?_)
  have L1 := C1.1
  have R1 := R.C ok g1.1 L1
  have hx1 : h_x h1 = h_x h := g1.1.2.1
  show ex_ 69 0 452 [some (v_x 20), some (v_r (some 0)), some (v_r (some 93)), some (v_i (nI (6 * j)))] [v_i v] h1 Q
  refine (b_L_law_452 (d := 68) _ _ _ _ L1).2 ?_
  rw [hx1]
  refine ⟨vp 1 (by decide), vp 2 (by decide), ?_⟩
  refine wr 4 h1 _ R1 (fun h2 g2 R2 => ?_)
  show ex_ 69 0 466 [some (v_x 20), some (v_r (some 0)), some (v_r (some 93)), some (v_i (nI (6 * j)))] [v_i v, v_i v] h2 Q
  refine (b_L_law_466 (d := 69) _ _ _ _ _ _ _).2 ?_
  rw [if_pos rfl]
  refine (b_L_law_1675 (d := 69) _ _ _ _ _).2 ?_
  exact K h2 (LI_st hx hn hs ok' g1 C1 g2 R2)
theorem lc_place {Q : Option am_V → am_H → Prop} {h : am_H} {L : Nat} {xs : Nat → Int32} {j : Nat} (I : LI L xs j h) (hj : 6 * j + 6 ≤ L) (hL : L ≤ 3072) (K : ∀ h', LI L xs (j + 1) h' → ex_ 69 0 18 [some (v_x 20), some (v_r (some 0)), some (v_r (some 93)), some (v_i (nI (6 * j) + (6 : Int32)))] [] h' Q) : ex_ 69 0 471 [some (v_x 20), some (v_r (some 0)), some (v_r (some 93)), some (v_i (nI (6 * j)))] [] h Q := by
  obtain ⟨S, ok, C, R, hx, hn, hs⟩ := I
  have L0 := C.1
  have vp := LI_vp hx hj hL
  obtain ⟨v, S', ok', wc, wr⟩ := w_place ok (x1 := ((h_x h).2 (Int32.toNatClampNeg ((nI (6 * j)) + (1 : Int32))))) (x2 := ((h_x h).2 (Int32.toNatClampNeg ((nI (6 * j)) + (2 : Int32)))))
  refine (b_L_law_471 (d := 68) _ _ _ L0).2 ?_
  refine ⟨vp 1 (by decide), vp 2 (by decide), ?_⟩
  refine wc 4 h _ C (fun h1 g1 C1 => ?_)
  have L1 := C1.1
  have R1 := R.C ok g1.1 L1
  have hx1 : h_x h1 = h_x h := g1.1.2.1
  show ex_ 69 0 485 [some (v_x 20), some (v_r (some 0)), some (v_r (some 93)), some (v_i (nI (6 * j)))] [v_i v] h1 Q
  refine (b_L_law_485 (d := 68) _ _ _ _ L1).2 ?_
  rw [hx1]
  refine ⟨vp 1 (by decide), vp 2 (by decide), ?_⟩
  refine wr 4 h1 _ R1 (fun h2 g2 R2 => ?_)
  show ex_ 69 0 499 [some (v_x 20), some (v_r (some 0)), some (v_r (some 93)), some (v_i (nI (6 * j)))] [v_i v, v_i v] h2 Q
  refine (b_L_law_499 (d := 69) _ _ _ _ _ _ _).2 ?_
  rw [if_pos rfl]
  refine (b_L_law_1675 (d := 69) _ _ _ _ _).2 ?_
  exact K h2 (LI_st hx hn hs ok' g1 C1 g2 R2)
theorem lc_above {Q : Option am_V → am_H → Prop} {h : am_H} {L : Nat} {xs : Nat → Int32} {j : Nat} (I : LI L xs j h) (hj : 6 * j + 6 ≤ L) (hL : L ≤ 3072) (K : ∀ h', LI L xs (j + 1) h' → ex_ 69 0 18 [some (v_x 20), some (v_r (some 0)), some (v_r (some 93)), some (v_i (nI (6 * j) + (6 : Int32)))] [] h' Q) : ex_ 69 0 504 [some (v_x 20), some (v_r (some 0)), some (v_r (some 93)), some (v_i (nI (6 * j)))] [] h Q := by
  obtain ⟨S, ok, C, R, hx, hn, hs⟩ := I
  have L0 := C.1
  have vp := LI_vp hx hj hL
  obtain ⟨v, S', ok', wc, wr⟩ := w_above ok (x1 := ((h_x h).2 (Int32.toNatClampNeg ((nI (6 * j)) + (1 : Int32)))))
  refine (b_L_law_504 (d := 68) _ _ _ L0).2 ?_
  refine ⟨vp 1 (by decide), ?_⟩
  refine wc 4 h _ C (fun h1 g1 C1 => ?_)
  have L1 := C1.1
  have R1 := R.C ok g1.1 L1
  have hx1 : h_x h1 = h_x h := g1.1.2.1
  show ex_ 69 0 513 [some (v_x 20), some (v_r (some 0)), some (v_r (some 93)), some (v_i (nI (6 * j)))] [v_i v] h1 Q
  refine (b_L_law_513 (d := 68) _ _ _ _ L1).2 ?_
  rw [hx1]
  refine ⟨vp 1 (by decide), ?_⟩
  refine wr 4 h1 _ R1 (fun h2 g2 R2 => ?_)
  show ex_ 69 0 522 [some (v_x 20), some (v_r (some 0)), some (v_r (some 93)), some (v_i (nI (6 * j)))] [v_i v, v_i v] h2 Q
  refine (b_L_law_522 (d := 69) _ _ _ _ _ _ _).2 ?_
  rw [if_pos rfl]
  refine (b_L_law_1675 (d := 69) _ _ _ _ _).2 ?_
  exact K h2 (LI_st hx hn hs ok' g1 C1 g2 R2)
theorem lc_below {Q : Option am_V → am_H → Prop} {h : am_H} {L : Nat} {xs : Nat → Int32} {j : Nat} (I : LI L xs j h) (hj : 6 * j + 6 ≤ L) (hL : L ≤ 3072) (K : ∀ h', LI L xs (j + 1) h' → ex_ 69 0 18 [some (v_x 20), some (v_r (some 0)), some (v_r (some 93)), some (v_i (nI (6 * j) + (6 : Int32)))] [] h' Q) : ex_ 69 0 527 [some (v_x 20), some (v_r (some 0)), some (v_r (some 93)), some (v_i (nI (6 * j)))] [] h Q := by
  obtain ⟨S, ok, C, R, hx, hn, hs⟩ := I
  have L0 := C.1
  have vp := LI_vp hx hj hL
  obtain ⟨v, S', ok', wc, wr⟩ := w_below ok (x1 := ((h_x h).2 (Int32.toNatClampNeg ((nI (6 * j)) + (1 : Int32)))))
  refine (b_L_law_527 (d := 68) _ _ _ L0).2 ?_
  refine ⟨vp 1 (by decide), ?_⟩
  refine wc 4 h _ C (fun h1 g1 C1 => ?_)
  have L1 := C1.1
  have R1 := R.C ok g1.1 L1
  have hx1 : h_x h1 = h_x h := g1.1.2.1
  show ex_ 69 0 536 [some (v_x 20), some (v_r (some 0)), some (v_r (some 93)), some (v_i (nI (6 * j)))] [v_i v] h1 Q
  refine (b_L_law_536 (d := 68) _ _ _ _ L1).2 ?_
  rw [hx1]
  refine ⟨vp 1 (by decide), ?_⟩
  refine wr 4 h1 _ R1 (fun h2 g2 R2 => ?_)
  show ex_ 69 0 545 [some (v_x 20), some (v_r (some 0)), some (v_r (some 93)), some (v_i (nI (6 * j)))] [v_i v, v_i v] h2 Q
  refine (b_L_law_545 (d := 69) _ _ _ _ _ _ _).2 ?_
  rw [if_pos rfl]
  refine (b_L_law_1675 (d := 69) _ _ _ _ _).2 ?_
  exact K h2 (LI_st hx hn hs ok' g1 C1 g2 R2)
theorem lc_give {Q : Option am_V → am_H → Prop} {h : am_H} {L : Nat} {xs : Nat → Int32} {j : Nat} (I : LI L xs j h) (hj : 6 * j + 6 ≤ L) (hL : L ≤ 3072) (K : ∀ h', LI L xs (j + 1) h' → ex_ 69 0 18 [some (v_x 20), some (v_r (some 0)), some (v_r (some 93)), some (v_i (nI (6 * j) + (6 : Int32)))] [] h' Q) : ex_ 69 0 550 [some (v_x 20), some (v_r (some 0)), some (v_r (some 93)), some (v_i (nI (6 * j)))] [] h Q := by
  obtain ⟨S, ok, C, R, hx, hn, hs⟩ := I
  have L0 := C.1
  have vp := LI_vp hx hj hL
  obtain ⟨v, S', ok', wc, wr⟩ := w_give ok (x1 := ((h_x h).2 (Int32.toNatClampNeg ((nI (6 * j)) + (1 : Int32))))) (x2 := ((h_x h).2 (Int32.toNatClampNeg ((nI (6 * j)) + (2 : Int32)))))
  refine (b_L_law_550 (d := 68) _ _ _ L0).2 ?_
  refine ⟨vp 1 (by decide), vp 2 (by decide), ?_⟩
  refine wc 4 h _ C (fun h1 g1 C1 => ?_)
  have L1 := C1.1
  have R1 := R.C ok g1.1 L1
  have hx1 : h_x h1 = h_x h := g1.1.2.1
  show ex_ 69 0 564 [some (v_x 20), some (v_r (some 0)), some (v_r (some 93)), some (v_i (nI (6 * j)))] [v_i v] h1 Q
  refine (b_L_law_564 (d := 68) _ _ _ _ L1).2 ?_
  rw [hx1]
  refine ⟨vp 1 (by decide), vp 2 (by decide), ?_⟩
  refine wr 4 h1 _ R1 (fun h2 g2 R2 => ?_)
  show ex_ 69 0 578 [some (v_x 20), some (v_r (some 0)), some (v_r (some 93)), some (v_i (nI (6 * j)))] [v_i v, v_i v] h2 Q
  refine (b_L_law_578 (d := 69) _ _ _ _ _ _ _).2 ?_
  rw [if_pos rfl]
  refine (b_L_law_1675 (d := 69) _ _ _ _ _).2 ?_
  exact K h2 (LI_st hx hn hs ok' g1 C1 g2 R2)
theorem lc_take {Q : Option am_V → am_H → Prop} {h : am_H} {L : Nat} {xs : Nat → Int32} {j : Nat} (I : LI L xs j h) (hj : 6 * j + 6 ≤ L) (hL : L ≤ 3072) (K : ∀ h', LI L xs (j + 1) h' → ex_ 69 0 18 [some (v_x 20), some (v_r (some 0)), some (v_r (some 93)), some (v_i (nI (6 * j) + (6 : Int32)))] [] h' Q) : ex_ 69 0 583 [some (v_x 20), some (v_r (some 0)), some (v_r (some 93)), some (v_i (nI (6 * j)))] [] h Q := by
  obtain ⟨S, ok, C, R, hx, hn, hs⟩ := I
  have L0 := C.1
  have vp := LI_vp hx hj hL
  obtain ⟨v, S', ok', wc, wr⟩ := w_take ok (x1 := ((h_x h).2 (Int32.toNatClampNeg ((nI (6 * j)) + (1 : Int32))))) (x2 := ((h_x h).2 (Int32.toNatClampNeg ((nI (6 * j)) + (2 : Int32)))))
  refine (b_L_law_583 (d := 68) _ _ _ L0).2 ?_
  refine ⟨vp 1 (by decide), vp 2 (by decide), ?_⟩
  refine wc 4 h _ C (fun h1 g1 C1 => ?_)
  have L1 := C1.1
  have R1 := R.C ok g1.1 L1
  have hx1 : h_x h1 = h_x h := g1.1.2.1
  show ex_ 69 0 597 [some (v_x 20), some (v_r (some 0)), some (v_r (some 93)), some (v_i (nI (6 * j)))] [v_i v] h1 Q
  refine (b_L_law_597 (d := 68) _ _ _ _ L1).2 ?_
  rw [hx1]
  refine ⟨vp 1 (by decide), vp 2 (by decide), ?_⟩
  refine wr 4 h1 _ R1 (fun h2 g2 R2 => ?_)
  show ex_ 69 0 611 [some (v_x 20), some (v_r (some 0)), some (v_r (some 93)), some (v_i (nI (6 * j)))] [v_i v, v_i v] h2 Q
  refine (b_L_law_611 (d := 69) _ _ _ _ _ _ _).2 ?_
  rw [if_pos rfl]
  refine (b_L_law_1675 (d := 69) _ _ _ _ _).2 ?_
  exact K h2 (LI_st hx hn hs ok' g1 C1 g2 R2)
theorem lc_swap {Q : Option am_V → am_H → Prop} {h : am_H} {L : Nat} {xs : Nat → Int32} {j : Nat} (I : LI L xs j h) (hj : 6 * j + 6 ≤ L) (hL : L ≤ 3072) (K : ∀ h', LI L xs (j + 1) h' → ex_ 69 0 18 [some (v_x 20), some (v_r (some 0)), some (v_r (some 93)), some (v_i (nI (6 * j) + (6 : Int32)))] [] h' Q) : ex_ 69 0 616 [some (v_x 20), some (v_r (some 0)), some (v_r (some 93)), some (v_i (nI (6 * j)))] [] h Q := by
  obtain ⟨S, ok, C, R, hx, hn, hs⟩ := I
  have L0 := C.1
  have vp := LI_vp hx hj hL
  obtain ⟨v, S', ok', wc, wr⟩ := w_swap ok (x1 := ((h_x h).2 (Int32.toNatClampNeg ((nI (6 * j)) + (1 : Int32))))) (x2 := ((h_x h).2 (Int32.toNatClampNeg ((nI (6 * j)) + (2 : Int32)))))
  refine (b_L_law_616 (d := 68) _ _ _ L0).2 ?_
  refine ⟨vp 1 (by decide), vp 2 (by decide), ?_⟩
  refine wc 4 h _ C (fun h1 g1 C1 => ?_)
  have L1 := C1.1
  have R1 := R.C ok g1.1 L1
  have hx1 : h_x h1 = h_x h := g1.1.2.1
  show ex_ 69 0 630 [some (v_x 20), some (v_r (some 0)), some (v_r (some 93)), some (v_i (nI (6 * j)))] [v_i v] h1 Q
  refine (b_L_law_630 (d := 68) _ _ _ _ L1).2 ?_
  rw [hx1]
  refine ⟨vp 1 (by decide), vp 2 (by decide), ?_⟩
  refine wr 4 h1 _ R1 (fun h2 g2 R2 => ?_)
  show ex_ 69 0 644 [some (v_x 20), some (v_r (some 0)), some (v_r (some 93)), some (v_i (nI (6 * j)))] [v_i v, v_i v] h2 Q
  refine (b_L_law_644 (d := 69) _ _ _ _ _ _ _).2 ?_
  rw [if_pos rfl]
  refine (b_L_law_1675 (d := 69) _ _ _ _ _).2 ?_
  exact K h2 (LI_st hx hn hs ok' g1 C1 g2 R2)
theorem lc_define {Q : Option am_V → am_H → Prop} {h : am_H} {L : Nat} {xs : Nat → Int32} {j : Nat} (I : LI L xs j h) (hj : 6 * j + 6 ≤ L) (hL : L ≤ 3072) (K : ∀ h', LI L xs (j + 1) h' → ex_ 69 0 18 [some (v_x 20), some (v_r (some 0)), some (v_r (some 93)), some (v_i (nI (6 * j) + (6 : Int32)))] [] h' Q) : ex_ 69 0 649 [some (v_x 20), some (v_r (some 0)), some (v_r (some 93)), some (v_i (nI (6 * j)))] [] h Q := by
  obtain ⟨S, ok, C, R, hx, hn, hs⟩ := I
  have L0 := C.1
  have vp := LI_vp hx hj hL
  obtain ⟨v, S', ok', wc, wr⟩ := w_define ok (x1 := ((h_x h).2 (Int32.toNatClampNeg ((nI (6 * j)) + (1 : Int32))))) (x2 := ((h_x h).2 (Int32.toNatClampNeg ((nI (6 * j)) + (2 : Int32))))) (x3 := ((h_x h).2 (Int32.toNatClampNeg ((nI (6 * j)) + (3 : Int32)))))
  refine (b_L_law_649 (d := 68) _ _ _ L0).2 ?_
  refine ⟨vp 1 (by decide), vp 2 (by decide), vp 3 (by decide), ?_⟩
  refine wc 4 h _ C (fun h1 g1 C1 => ?_)
  have L1 := C1.1
  have R1 := R.C ok g1.1 L1
  have hx1 : h_x h1 = h_x h := g1.1.2.1
  show ex_ 69 0 668 [some (v_x 20), some (v_r (some 0)), some (v_r (some 93)), some (v_i (nI (6 * j)))] [v_i v] h1 Q
  refine (b_L_law_668 (d := 68) _ _ _ _ L1).2 ?_
  rw [hx1]
  refine ⟨vp 1 (by decide), vp 2 (by decide), vp 3 (by decide), ?_⟩
  refine wr 4 h1 _ R1 (fun h2 g2 R2 => ?_)
  show ex_ 69 0 687 [some (v_x 20), some (v_r (some 0)), some (v_r (some 93)), some (v_i (nI (6 * j)))] [v_i v, v_i v] h2 Q
  refine (b_L_law_687 (d := 69) _ _ _ _ _ _ _).2 ?_
  rw [if_pos rfl]
  refine (b_L_law_1675 (d := 69) _ _ _ _ _).2 ?_
  exact K h2 (LI_st hx hn hs ok' g1 C1 g2 R2)
theorem lc_mood {Q : Option am_V → am_H → Prop} {h : am_H} {L : Nat} {xs : Nat → Int32} {j : Nat} (I : LI L xs j h) (hj : 6 * j + 6 ≤ L) (hL : L ≤ 3072) (K : ∀ h', LI L xs (j + 1) h' → ex_ 69 0 18 [some (v_x 20), some (v_r (some 0)), some (v_r (some 93)), some (v_i (nI (6 * j) + (6 : Int32)))] [] h' Q) : ex_ 69 0 692 [some (v_x 20), some (v_r (some 0)), some (v_r (some 93)), some (v_i (nI (6 * j)))] [] h Q := by
  obtain ⟨S, ok, C, R, hx, hn, hs⟩ := I
  have L0 := C.1
  have vp := LI_vp hx hj hL
  obtain ⟨v, S', ok', wc, wr⟩ := w_mood ok (x1 := ((h_x h).2 (Int32.toNatClampNeg ((nI (6 * j)) + (1 : Int32)))))
  refine (b_L_law_692 (d := 68) _ _ _ L0).2 ?_
  refine ⟨vp 1 (by decide), ?_⟩
  refine wc 4 h _ C (fun h1 g1 C1 => ?_)
  have L1 := C1.1
  have R1 := R.C ok g1.1 L1
  have hx1 : h_x h1 = h_x h := g1.1.2.1
  show ex_ 69 0 701 [some (v_x 20), some (v_r (some 0)), some (v_r (some 93)), some (v_i (nI (6 * j)))] [v_i v] h1 Q
  refine (b_L_law_701 (d := 68) _ _ _ _ L1).2 ?_
  rw [hx1]
  refine ⟨vp 1 (by decide), ?_⟩
  refine wr 4 h1 _ R1 (fun h2 g2 R2 => ?_)
  show ex_ 69 0 710 [some (v_x 20), some (v_r (some 0)), some (v_r (some 93)), some (v_i (nI (6 * j)))] [v_i v, v_i v] h2 Q
  refine (b_L_law_710 (d := 69) _ _ _ _ _ _ _).2 ?_
  rw [if_pos rfl]
  refine (b_L_law_1675 (d := 69) _ _ _ _ _).2 ?_
  exact K h2 (LI_st hx hn hs ok' g1 C1 g2 R2)
theorem lc_undo {Q : Option am_V → am_H → Prop} {h : am_H} {L : Nat} {xs : Nat → Int32} {j : Nat} (I : LI L xs j h) (hj : 6 * j + 6 ≤ L) (hL : L ≤ 3072) (K : ∀ h', LI L xs (j + 1) h' → ex_ 69 0 18 [some (v_x 20), some (v_r (some 0)), some (v_r (some 93)), some (v_i (nI (6 * j) + (6 : Int32)))] [] h' Q) : ex_ 69 0 715 [some (v_x 20), some (v_r (some 0)), some (v_r (some 93)), some (v_i (nI (6 * j)))] [] h Q := by
  obtain ⟨S, ok, C, R, hx, hn, hs⟩ := I
  have L0 := C.1
  have vp := LI_vp hx hj hL
  obtain ⟨v, S', ok', wc, wr⟩ := w_undo ok (x1 := ((h_x h).2 (Int32.toNatClampNeg ((nI (6 * j)) + (1 : Int32)))))
  refine (b_L_law_715 (d := 68) _ _ _ L0).2 ?_
  refine ⟨vp 1 (by decide), ?_⟩
  refine wc 4 h _ C (fun h1 g1 C1 => ?_)
  have L1 := C1.1
  have R1 := R.C ok g1.1 L1
  have hx1 : h_x h1 = h_x h := g1.1.2.1
  show ex_ 69 0 724 [some (v_x 20), some (v_r (some 0)), some (v_r (some 93)), some (v_i (nI (6 * j)))] [v_i v] h1 Q
  refine (b_L_law_724 (d := 68) _ _ _ _ L1).2 ?_
  rw [hx1]
  refine ⟨vp 1 (by decide), ?_⟩
  refine wr 4 h1 _ R1 (fun h2 g2 R2 => ?_)
  show ex_ 69 0 733 [some (v_x 20), some (v_r (some 0)), some (v_r (some 93)), some (v_i (nI (6 * j)))] [v_i v, v_i v] h2 Q
  refine (b_L_law_733 (d := 69) _ _ _ _ _ _ _).2 ?_
  rw [if_pos rfl]
  refine (b_L_law_1675 (d := 69) _ _ _ _ _).2 ?_
  exact K h2 (LI_st hx hn hs ok' g1 C1 g2 R2)
theorem lc_judge {Q : Option am_V → am_H → Prop} {h : am_H} {L : Nat} {xs : Nat → Int32} {j : Nat} (I : LI L xs j h) (hj : 6 * j + 6 ≤ L) (hL : L ≤ 3072) (K : ∀ h', LI L xs (j + 1) h' → ex_ 69 0 18 [some (v_x 20), some (v_r (some 0)), some (v_r (some 93)), some (v_i (nI (6 * j) + (6 : Int32)))] [] h' Q) : ex_ 69 0 738 [some (v_x 20), some (v_r (some 0)), some (v_r (some 93)), some (v_i (nI (6 * j)))] [] h Q := by
  obtain ⟨S, ok, C, R, hx, hn, hs⟩ := I
  have L0 := C.1
  have vp := LI_vp hx hj hL
  obtain ⟨v, S', ok', wc, wr⟩ := w_judge ok (x1 := ((h_x h).2 (Int32.toNatClampNeg ((nI (6 * j)) + (1 : Int32))))) (x2 := ((h_x h).2 (Int32.toNatClampNeg ((nI (6 * j)) + (2 : Int32)))))
  refine (b_L_law_738 (d := 68) _ _ _ L0).2 ?_
  refine ⟨vp 1 (by decide), vp 2 (by decide), ?_⟩
  refine wc 4 h _ C (fun h1 g1 C1 => ?_)
  have L1 := C1.1
  have R1 := R.C ok g1.1 L1
  have hx1 : h_x h1 = h_x h := g1.1.2.1
  show ex_ 69 0 752 [some (v_x 20), some (v_r (some 0)), some (v_r (some 93)), some (v_i (nI (6 * j)))] [v_i v] h1 Q
  refine (b_L_law_752 (d := 68) _ _ _ _ L1).2 ?_
  rw [hx1]
  refine ⟨vp 1 (by decide), vp 2 (by decide), ?_⟩
  refine wr 4 h1 _ R1 (fun h2 g2 R2 => ?_)
  show ex_ 69 0 766 [some (v_x 20), some (v_r (some 0)), some (v_r (some 93)), some (v_i (nI (6 * j)))] [v_i v, v_i v] h2 Q
  refine (b_L_law_766 (d := 69) _ _ _ _ _ _ _).2 ?_
  rw [if_pos rfl]
  refine (b_L_law_1675 (d := 69) _ _ _ _ _).2 ?_
  exact K h2 (LI_st hx hn hs ok' g1 C1 g2 R2)
theorem lc_perform {Q : Option am_V → am_H → Prop} {h : am_H} {L : Nat} {xs : Nat → Int32} {j : Nat} (I : LI L xs j h) (hj : 6 * j + 6 ≤ L) (hL : L ≤ 3072) (K : ∀ h', LI L xs (j + 1) h' → ex_ 69 0 18 [some (v_x 20), some (v_r (some 0)), some (v_r (some 93)), some (v_i (nI (6 * j) + (6 : Int32)))] [] h' Q) : ex_ 69 0 771 [some (v_x 20), some (v_r (some 0)), some (v_r (some 93)), some (v_i (nI (6 * j)))] [] h Q := by
  obtain ⟨S, ok, C, R, hx, hn, hs⟩ := I
  have L0 := C.1
  have vp := LI_vp hx hj hL
  obtain ⟨v, S', ok', wc, wr⟩ := w_perform ok (x1 := ((h_x h).2 (Int32.toNatClampNeg ((nI (6 * j)) + (1 : Int32)))))
  refine (b_L_law_771 (d := 68) _ _ _ L0).2 ?_
  refine ⟨vp 1 (by decide), ?_⟩
  refine wc 4 h _ C (fun h1 g1 C1 => ?_)
  have L1 := C1.1
  have R1 := R.C ok g1.1 L1
  have hx1 : h_x h1 = h_x h := g1.1.2.1
  show ex_ 69 0 780 [some (v_x 20), some (v_r (some 0)), some (v_r (some 93)), some (v_i (nI (6 * j)))] [v_i v] h1 Q
  refine (b_L_law_780 (d := 68) _ _ _ _ L1).2 ?_
  rw [hx1]
  refine ⟨vp 1 (by decide), ?_⟩
  refine wr 4 h1 _ R1 (fun h2 g2 R2 => ?_)
  show ex_ 69 0 789 [some (v_x 20), some (v_r (some 0)), some (v_r (some 93)), some (v_i (nI (6 * j)))] [v_i v, v_i v] h2 Q
  refine (b_L_law_789 (d := 69) _ _ _ _ _ _ _).2 ?_
  rw [if_pos rfl]
  refine (b_L_law_1675 (d := 69) _ _ _ _ _).2 ?_
  exact K h2 (LI_st hx hn hs ok' g1 C1 g2 R2)
theorem lc_day {Q : Option am_V → am_H → Prop} {h : am_H} {L : Nat} {xs : Nat → Int32} {j : Nat} (I : LI L xs j h) (hj : 6 * j + 6 ≤ L) (hL : L ≤ 3072) (K : ∀ h', LI L xs (j + 1) h' → ex_ 69 0 18 [some (v_x 20), some (v_r (some 0)), some (v_r (some 93)), some (v_i (nI (6 * j) + (6 : Int32)))] [] h' Q) : ex_ 69 0 794 [some (v_x 20), some (v_r (some 0)), some (v_r (some 93)), some (v_i (nI (6 * j)))] [] h Q := by
  obtain ⟨S, ok, C, R, hx, hn, hs⟩ := I
  have L0 := C.1
  have vp := LI_vp hx hj hL
  obtain ⟨v, S', ok', wc, wr⟩ := w_day ok (x1 := ((h_x h).2 (Int32.toNatClampNeg ((nI (6 * j)) + (1 : Int32))))) (x2 := ((h_x h).2 (Int32.toNatClampNeg ((nI (6 * j)) + (2 : Int32)))))
  refine (b_L_law_794 (d := 68) _ _ _ L0).2 ?_
  refine ⟨vp 1 (by decide), vp 2 (by decide), ?_⟩
  refine wc 4 h _ C (fun h1 g1 C1 => ?_)
  have L1 := C1.1
  have R1 := R.C ok g1.1 L1
  have hx1 : h_x h1 = h_x h := g1.1.2.1
  show ex_ 69 0 808 [some (v_x 20), some (v_r (some 0)), some (v_r (some 93)), some (v_i (nI (6 * j)))] [v_i v] h1 Q
  refine (b_L_law_808 (d := 68) _ _ _ _ L1).2 ?_
  rw [hx1]
  refine ⟨vp 1 (by decide), vp 2 (by decide), ?_⟩
  refine wr 4 h1 _ R1 (fun h2 g2 R2 => ?_)
  show ex_ 69 0 822 [some (v_x 20), some (v_r (some 0)), some (v_r (some 93)), some (v_i (nI (6 * j)))] [v_i v, v_i v] h2 Q
  refine (b_L_law_822 (d := 69) _ _ _ _ _ _ _).2 ?_
  rw [if_pos rfl]
  refine (b_L_law_1675 (d := 69) _ _ _ _ _).2 ?_
  exact K h2 (LI_st hx hn hs ok' g1 C1 g2 R2)
theorem lc_demands {Q : Option am_V → am_H → Prop} {h : am_H} {L : Nat} {xs : Nat → Int32} {j : Nat} (I : LI L xs j h) (hj : 6 * j + 6 ≤ L) (hL : L ≤ 3072) (K : ∀ h', LI L xs (j + 1) h' → ex_ 69 0 18 [some (v_x 20), some (v_r (some 0)), some (v_r (some 93)), some (v_i (nI (6 * j) + (6 : Int32)))] [] h' Q) : ex_ 69 0 827 [some (v_x 20), some (v_r (some 0)), some (v_r (some 93)), some (v_i (nI (6 * j)))] [] h Q := by
  obtain ⟨S, ok, C, R, hx, hn, hs⟩ := I
  have L0 := C.1
  have vp := LI_vp hx hj hL
  obtain ⟨v, S', ok', wc, wr⟩ := w_demands ok (x1 := ((h_x h).2 (Int32.toNatClampNeg ((nI (6 * j)) + (1 : Int32)))))
  refine (b_L_law_827 (d := 68) _ _ _ L0).2 ?_
  refine ⟨vp 1 (by decide), ?_⟩
  refine wc 4 h _ C (fun h1 g1 C1 => ?_)
  have L1 := C1.1
  have R1 := R.C ok g1.1 L1
  have hx1 : h_x h1 = h_x h := g1.1.2.1
  show ex_ 69 0 836 [some (v_x 20), some (v_r (some 0)), some (v_r (some 93)), some (v_i (nI (6 * j)))] [v_i v] h1 Q
  refine (b_L_law_836 (d := 68) _ _ _ _ L1).2 ?_
  rw [hx1]
  refine ⟨vp 1 (by decide), ?_⟩
  refine wr 4 h1 _ R1 (fun h2 g2 R2 => ?_)
  show ex_ 69 0 845 [some (v_x 20), some (v_r (some 0)), some (v_r (some 93)), some (v_i (nI (6 * j)))] [v_i v, v_i v] h2 Q
  refine (b_L_law_845 (d := 69) _ _ _ _ _ _ _).2 ?_
  rw [if_pos rfl]
  refine (b_L_law_1675 (d := 69) _ _ _ _ _).2 ?_
  exact K h2 (LI_st hx hn hs ok' g1 C1 g2 R2)
theorem lc_demand {Q : Option am_V → am_H → Prop} {h : am_H} {L : Nat} {xs : Nat → Int32} {j : Nat} (I : LI L xs j h) (hj : 6 * j + 6 ≤ L) (hL : L ≤ 3072) (K : ∀ h', LI L xs (j + 1) h' → ex_ 69 0 18 [some (v_x 20), some (v_r (some 0)), some (v_r (some 93)), some (v_i (nI (6 * j) + (6 : Int32)))] [] h' Q) : ex_ 69 0 850 [some (v_x 20), some (v_r (some 0)), some (v_r (some 93)), some (v_i (nI (6 * j)))] [] h Q := by
  obtain ⟨S, ok, C, R, hx, hn, hs⟩ := I
  have L0 := C.1
  have vp := LI_vp hx hj hL
  obtain ⟨v, S', ok', wc, wr⟩ := w_demand ok (x1 := ((h_x h).2 (Int32.toNatClampNeg ((nI (6 * j)) + (1 : Int32))))) (x2 := ((h_x h).2 (Int32.toNatClampNeg ((nI (6 * j)) + (2 : Int32)))))
  refine (b_L_law_850 (d := 68) _ _ _ L0).2 ?_
  refine ⟨vp 1 (by decide), vp 2 (by decide), ?_⟩
  refine wc 4 h _ C (fun h1 g1 C1 => ?_)
  have L1 := C1.1
  have R1 := R.C ok g1.1 L1
  have hx1 : h_x h1 = h_x h := g1.1.2.1
  show ex_ 69 0 864 [some (v_x 20), some (v_r (some 0)), some (v_r (some 93)), some (v_i (nI (6 * j)))] [v_i v] h1 Q
  refine (b_L_law_864 (d := 68) _ _ _ _ L1).2 ?_
  rw [hx1]
  refine ⟨vp 1 (by decide), vp 2 (by decide), ?_⟩
  refine wr 4 h1 _ R1 (fun h2 g2 R2 => ?_)
  show ex_ 69 0 878 [some (v_x 20), some (v_r (some 0)), some (v_r (some 93)), some (v_i (nI (6 * j)))] [v_i v, v_i v] h2 Q
  refine (b_L_law_878 (d := 69) _ _ _ _ _ _ _).2 ?_
  rw [if_pos rfl]
  refine (b_L_law_1675 (d := 69) _ _ _ _ _).2 ?_
  exact K h2 (LI_st hx hn hs ok' g1 C1 g2 R2)
theorem lc_ring {Q : Option am_V → am_H → Prop} {h : am_H} {L : Nat} {xs : Nat → Int32} {j : Nat} (I : LI L xs j h) (hj : 6 * j + 6 ≤ L) (hL : L ≤ 3072) (K : ∀ h', LI L xs (j + 1) h' → ex_ 69 0 18 [some (v_x 20), some (v_r (some 0)), some (v_r (some 93)), some (v_i (nI (6 * j) + (6 : Int32)))] [] h' Q) : ex_ 69 0 883 [some (v_x 20), some (v_r (some 0)), some (v_r (some 93)), some (v_i (nI (6 * j)))] [] h Q := by
  obtain ⟨S, ok, C, R, hx, hn, hs⟩ := I
  have L0 := C.1
  have vp := LI_vp hx hj hL
  obtain ⟨v, S', ok', wc, wr⟩ := w_ring ok (x1 := ((h_x h).2 (Int32.toNatClampNeg ((nI (6 * j)) + (1 : Int32))))) (x2 := ((h_x h).2 (Int32.toNatClampNeg ((nI (6 * j)) + (2 : Int32)))))
  refine (b_L_law_883 (d := 68) _ _ _ L0).2 ?_
  refine ⟨vp 1 (by decide), vp 2 (by decide), ?_⟩
  refine wc 4 h _ C (fun h1 g1 C1 => ?_)
  have L1 := C1.1
  have R1 := R.C ok g1.1 L1
  have hx1 : h_x h1 = h_x h := g1.1.2.1
  show ex_ 69 0 897 [some (v_x 20), some (v_r (some 0)), some (v_r (some 93)), some (v_i (nI (6 * j)))] [v_i v] h1 Q
  refine (b_L_law_897 (d := 68) _ _ _ _ L1).2 ?_
  rw [hx1]
  refine ⟨vp 1 (by decide), vp 2 (by decide), ?_⟩
  refine wr 4 h1 _ R1 (fun h2 g2 R2 => ?_)
  show ex_ 69 0 911 [some (v_x 20), some (v_r (some 0)), some (v_r (some 93)), some (v_i (nI (6 * j)))] [v_i v, v_i v] h2 Q
  refine (b_L_law_911 (d := 69) _ _ _ _ _ _ _).2 ?_
  rw [if_pos rfl]
  refine (b_L_law_1675 (d := 69) _ _ _ _ _).2 ?_
  exact K h2 (LI_st hx hn hs ok' g1 C1 g2 R2)
theorem lc_ways {Q : Option am_V → am_H → Prop} {h : am_H} {L : Nat} {xs : Nat → Int32} {j : Nat} (I : LI L xs j h) (hj : 6 * j + 6 ≤ L) (hL : L ≤ 3072) (K : ∀ h', LI L xs (j + 1) h' → ex_ 69 0 18 [some (v_x 20), some (v_r (some 0)), some (v_r (some 93)), some (v_i (nI (6 * j) + (6 : Int32)))] [] h' Q) : ex_ 69 0 916 [some (v_x 20), some (v_r (some 0)), some (v_r (some 93)), some (v_i (nI (6 * j)))] [] h Q := by
  obtain ⟨S, ok, C, R, hx, hn, hs⟩ := I
  have L0 := C.1
  have vp := LI_vp hx hj hL
  obtain ⟨v, S', ok', wc, wr⟩ := w_ways ok (x1 := ((h_x h).2 (Int32.toNatClampNeg ((nI (6 * j)) + (1 : Int32)))))
  refine (b_L_law_916 (d := 68) _ _ _ L0).2 ?_
  refine ⟨vp 1 (by decide), ?_⟩
  refine wc 4 h _ C (fun h1 g1 C1 => ?_)
  have L1 := C1.1
  have R1 := R.C ok g1.1 L1
  have hx1 : h_x h1 = h_x h := g1.1.2.1
  show ex_ 69 0 925 [some (v_x 20), some (v_r (some 0)), some (v_r (some 93)), some (v_i (nI (6 * j)))] [v_i v] h1 Q
  refine (b_L_law_925 (d := 68) _ _ _ _ L1).2 ?_
  rw [hx1]
  refine ⟨vp 1 (by decide), ?_⟩
  refine wr 4 h1 _ R1 (fun h2 g2 R2 => ?_)
  show ex_ 69 0 934 [some (v_x 20), some (v_r (some 0)), some (v_r (some 93)), some (v_i (nI (6 * j)))] [v_i v, v_i v] h2 Q
  refine (b_L_law_934 (d := 69) _ _ _ _ _ _ _).2 ?_
  rw [if_pos rfl]
  refine (b_L_law_1675 (d := 69) _ _ _ _ _).2 ?_
  exact K h2 (LI_st hx hn hs ok' g1 C1 g2 R2)
theorem lc_rank {Q : Option am_V → am_H → Prop} {h : am_H} {L : Nat} {xs : Nat → Int32} {j : Nat} (I : LI L xs j h) (hj : 6 * j + 6 ≤ L) (hL : L ≤ 3072) (K : ∀ h', LI L xs (j + 1) h' → ex_ 69 0 18 [some (v_x 20), some (v_r (some 0)), some (v_r (some 93)), some (v_i (nI (6 * j) + (6 : Int32)))] [] h' Q) : ex_ 69 0 939 [some (v_x 20), some (v_r (some 0)), some (v_r (some 93)), some (v_i (nI (6 * j)))] [] h Q := by
  obtain ⟨S, ok, C, R, hx, hn, hs⟩ := I
  have L0 := C.1
  have vp := LI_vp hx hj hL
  obtain ⟨v, S', ok', wc, wr⟩ := w_rank ok (x1 := ((h_x h).2 (Int32.toNatClampNeg ((nI (6 * j)) + (1 : Int32)))))
  refine (b_L_law_939 (d := 68) _ _ _ L0).2 ?_
  refine ⟨vp 1 (by decide), ?_⟩
  refine wc 4 h _ C (fun h1 g1 C1 => ?_)
  have L1 := C1.1
  have R1 := R.C ok g1.1 L1
  have hx1 : h_x h1 = h_x h := g1.1.2.1
  show ex_ 69 0 948 [some (v_x 20), some (v_r (some 0)), some (v_r (some 93)), some (v_i (nI (6 * j)))] [v_i v] h1 Q
  refine (b_L_law_948 (d := 68) _ _ _ _ L1).2 ?_
  rw [hx1]
  refine ⟨vp 1 (by decide), ?_⟩
  refine wr 4 h1 _ R1 (fun h2 g2 R2 => ?_)
  show ex_ 69 0 957 [some (v_x 20), some (v_r (some 0)), some (v_r (some 93)), some (v_i (nI (6 * j)))] [v_i v, v_i v] h2 Q
  refine (b_L_law_957 (d := 69) _ _ _ _ _ _ _).2 ?_
  rw [if_pos rfl]
  refine (b_L_law_1675 (d := 69) _ _ _ _ _).2 ?_
  exact K h2 (LI_st hx hn hs ok' g1 C1 g2 R2)
theorem lc_old {Q : Option am_V → am_H → Prop} {h : am_H} {L : Nat} {xs : Nat → Int32} {j : Nat} (I : LI L xs j h) (hj : 6 * j + 6 ≤ L) (hL : L ≤ 3072) (K : ∀ h', LI L xs (j + 1) h' → ex_ 69 0 18 [some (v_x 20), some (v_r (some 0)), some (v_r (some 93)), some (v_i (nI (6 * j) + (6 : Int32)))] [] h' Q) : ex_ 69 0 962 [some (v_x 20), some (v_r (some 0)), some (v_r (some 93)), some (v_i (nI (6 * j)))] [] h Q := by
  obtain ⟨S, ok, C, R, hx, hn, hs⟩ := I
  have L0 := C.1
  have vp := LI_vp hx hj hL
  obtain ⟨v, S', ok', wc, wr⟩ := w_old ok (x1 := ((h_x h).2 (Int32.toNatClampNeg ((nI (6 * j)) + (1 : Int32))))) (x2 := ((h_x h).2 (Int32.toNatClampNeg ((nI (6 * j)) + (2 : Int32))))) (x3 := ((h_x h).2 (Int32.toNatClampNeg ((nI (6 * j)) + (3 : Int32)))))
  refine (b_L_law_962 (d := 68) _ _ _ L0).2 ?_
  refine ⟨vp 1 (by decide), vp 2 (by decide), vp 3 (by decide), ?_⟩
  refine wc 4 h _ C (fun h1 g1 C1 => ?_)
  have L1 := C1.1
  have R1 := R.C ok g1.1 L1
  have hx1 : h_x h1 = h_x h := g1.1.2.1
  show ex_ 69 0 981 [some (v_x 20), some (v_r (some 0)), some (v_r (some 93)), some (v_i (nI (6 * j)))] [v_i v] h1 Q
  refine (b_L_law_981 (d := 68) _ _ _ _ L1).2 ?_
  rw [hx1]
  refine ⟨vp 1 (by decide), vp 2 (by decide), vp 3 (by decide), ?_⟩
  refine wr 4 h1 _ R1 (fun h2 g2 R2 => ?_)
  show ex_ 69 0 1000 [some (v_x 20), some (v_r (some 0)), some (v_r (some 93)), some (v_i (nI (6 * j)))] [v_i v, v_i v] h2 Q
  refine (b_L_law_1000 (d := 69) _ _ _ _ _ _ _).2 ?_
  rw [if_pos rfl]
  refine (b_L_law_1675 (d := 69) _ _ _ _ _).2 ?_
  exact K h2 (LI_st hx hn hs ok' g1 C1 g2 R2)
theorem lc_breaks {Q : Option am_V → am_H → Prop} {h : am_H} {L : Nat} {xs : Nat → Int32} {j : Nat} (I : LI L xs j h) (hj : 6 * j + 6 ≤ L) (hL : L ≤ 3072) (K : ∀ h', LI L xs (j + 1) h' → ex_ 69 0 18 [some (v_x 20), some (v_r (some 0)), some (v_r (some 93)), some (v_i (nI (6 * j) + (6 : Int32)))] [] h' Q) : ex_ 69 0 1005 [some (v_x 20), some (v_r (some 0)), some (v_r (some 93)), some (v_i (nI (6 * j)))] [] h Q := by
  obtain ⟨S, ok, C, R, hx, hn, hs⟩ := I
  have L0 := C.1
  have vp := LI_vp hx hj hL
  obtain ⟨v, S', ok', wc, wr⟩ := w_breaks ok (x1 := ((h_x h).2 (Int32.toNatClampNeg ((nI (6 * j)) + (1 : Int32))))) (x2 := ((h_x h).2 (Int32.toNatClampNeg ((nI (6 * j)) + (2 : Int32)))))
  refine (b_L_law_1005 (d := 68) _ _ _ L0).2 ?_
  refine ⟨vp 1 (by decide), vp 2 (by decide), ?_⟩
  refine wc 4 h _ C (fun h1 g1 C1 => ?_)
  have L1 := C1.1
  have R1 := R.C ok g1.1 L1
  have hx1 : h_x h1 = h_x h := g1.1.2.1
  show ex_ 69 0 1019 [some (v_x 20), some (v_r (some 0)), some (v_r (some 93)), some (v_i (nI (6 * j)))] [v_i v] h1 Q
  refine (b_L_law_1019 (d := 68) _ _ _ _ L1).2 ?_
  rw [hx1]
  refine ⟨vp 1 (by decide), vp 2 (by decide), ?_⟩
  refine wr 4 h1 _ R1 (fun h2 g2 R2 => ?_)
  show ex_ 69 0 1033 [some (v_x 20), some (v_r (some 0)), some (v_r (some 93)), some (v_i (nI (6 * j)))] [v_i v, v_i v] h2 Q
  refine (b_L_law_1033 (d := 69) _ _ _ _ _ _ _).2 ?_
  rw [if_pos rfl]
  refine (b_L_law_1675 (d := 69) _ _ _ _ _).2 ?_
  exact K h2 (LI_st hx hn hs ok' g1 C1 g2 R2)
theorem lc_same {Q : Option am_V → am_H → Prop} {h : am_H} {L : Nat} {xs : Nat → Int32} {j : Nat} (I : LI L xs j h) (hj : 6 * j + 6 ≤ L) (hL : L ≤ 3072) (K : ∀ h', LI L xs (j + 1) h' → ex_ 69 0 18 [some (v_x 20), some (v_r (some 0)), some (v_r (some 93)), some (v_i (nI (6 * j) + (6 : Int32)))] [] h' Q) : ex_ 69 0 1038 [some (v_x 20), some (v_r (some 0)), some (v_r (some 93)), some (v_i (nI (6 * j)))] [] h Q := by
  obtain ⟨S, ok, C, R, hx, hn, hs⟩ := I
  have L0 := C.1
  have vp := LI_vp hx hj hL
  obtain ⟨v, S', ok', wc, wr⟩ := w_same ok (x1 := ((h_x h).2 (Int32.toNatClampNeg ((nI (6 * j)) + (1 : Int32)))))
  refine (b_L_law_1038 (d := 68) _ _ _ L0).2 ?_
  refine ⟨vp 1 (by decide), ?_⟩
  refine wc 4 h _ C (fun h1 g1 C1 => ?_)
  have L1 := C1.1
  have R1 := R.C ok g1.1 L1
  have hx1 : h_x h1 = h_x h := g1.1.2.1
  show ex_ 69 0 1047 [some (v_x 20), some (v_r (some 0)), some (v_r (some 93)), some (v_i (nI (6 * j)))] [v_i v] h1 Q
  refine (b_L_law_1047 (d := 68) _ _ _ _ L1).2 ?_
  rw [hx1]
  refine ⟨vp 1 (by decide), ?_⟩
  refine wr 4 h1 _ R1 (fun h2 g2 R2 => ?_)
  show ex_ 69 0 1056 [some (v_x 20), some (v_r (some 0)), some (v_r (some 93)), some (v_i (nI (6 * j)))] [v_i v, v_i v] h2 Q
  refine (b_L_law_1056 (d := 69) _ _ _ _ _ _ _).2 ?_
  rw [if_pos rfl]
  refine (b_L_law_1675 (d := 69) _ _ _ _ _).2 ?_
  exact K h2 (LI_st hx hn hs ok' g1 C1 g2 R2)
theorem lc_call {Q : Option am_V → am_H → Prop} {h : am_H} {L : Nat} {xs : Nat → Int32} {j : Nat} (I : LI L xs j h) (hj : 6 * j + 6 ≤ L) (hL : L ≤ 3072) (K : ∀ h', LI L xs (j + 1) h' → ex_ 69 0 18 [some (v_x 20), some (v_r (some 0)), some (v_r (some 93)), some (v_i (nI (6 * j) + (6 : Int32)))] [] h' Q) : ex_ 69 0 1061 [some (v_x 20), some (v_r (some 0)), some (v_r (some 93)), some (v_i (nI (6 * j)))] [] h Q := by
  obtain ⟨S, ok, C, R, hx, hn, hs⟩ := I
  have L0 := C.1
  have vp := LI_vp hx hj hL
  obtain ⟨v, S', ok', wc, wr⟩ := w_call ok (x1 := ((h_x h).2 (Int32.toNatClampNeg ((nI (6 * j)) + (1 : Int32))))) (x2 := ((h_x h).2 (Int32.toNatClampNeg ((nI (6 * j)) + (2 : Int32)))))
  refine (b_L_law_1061 (d := 68) _ _ _ L0).2 ?_
  refine ⟨vp 1 (by decide), vp 2 (by decide), ?_⟩
  refine wc 4 h _ C (fun h1 g1 C1 => ?_)
  have L1 := C1.1
  have R1 := R.C ok g1.1 L1
  have hx1 : h_x h1 = h_x h := g1.1.2.1
  show ex_ 69 0 1075 [some (v_x 20), some (v_r (some 0)), some (v_r (some 93)), some (v_i (nI (6 * j)))] [v_i v] h1 Q
  refine (b_L_law_1075 (d := 68) _ _ _ _ L1).2 ?_
  rw [hx1]
  refine ⟨vp 1 (by decide), vp 2 (by decide), ?_⟩
  refine wr 4 h1 _ R1 (fun h2 g2 R2 => ?_)
  show ex_ 69 0 1089 [some (v_x 20), some (v_r (some 0)), some (v_r (some 93)), some (v_i (nI (6 * j)))] [v_i v, v_i v] h2 Q
  refine (b_L_law_1089 (d := 69) _ _ _ _ _ _ _).2 ?_
  rw [if_pos rfl]
  refine (b_L_law_1675 (d := 69) _ _ _ _ _).2 ?_
  exact K h2 (LI_st hx hn hs ok' g1 C1 g2 R2)
theorem lc_through {Q : Option am_V → am_H → Prop} {h : am_H} {L : Nat} {xs : Nat → Int32} {j : Nat} (I : LI L xs j h) (hj : 6 * j + 6 ≤ L) (hL : L ≤ 3072) (K : ∀ h', LI L xs (j + 1) h' → ex_ 69 0 18 [some (v_x 20), some (v_r (some 0)), some (v_r (some 93)), some (v_i (nI (6 * j) + (6 : Int32)))] [] h' Q) : ex_ 69 0 1094 [some (v_x 20), some (v_r (some 0)), some (v_r (some 93)), some (v_i (nI (6 * j)))] [] h Q := by
  obtain ⟨S, ok, C, R, hx, hn, hs⟩ := I
  have L0 := C.1
  have vp := LI_vp hx hj hL
  obtain ⟨v, S', ok', wc, wr⟩ := w_through ok (x1 := ((h_x h).2 (Int32.toNatClampNeg ((nI (6 * j)) + (1 : Int32))))) (x2 := ((h_x h).2 (Int32.toNatClampNeg ((nI (6 * j)) + (2 : Int32))))) (x3 := ((h_x h).2 (Int32.toNatClampNeg ((nI (6 * j)) + (3 : Int32)))))
  refine (b_L_law_1094 (d := 68) _ _ _ L0).2 ?_
  refine ⟨vp 1 (by decide), vp 2 (by decide), vp 3 (by decide), ?_⟩
  refine wc 4 h _ C (fun h1 g1 C1 => ?_)
  have L1 := C1.1
  have R1 := R.C ok g1.1 L1
  have hx1 : h_x h1 = h_x h := g1.1.2.1
  show ex_ 69 0 1113 [some (v_x 20), some (v_r (some 0)), some (v_r (some 93)), some (v_i (nI (6 * j)))] [v_i v] h1 Q
  refine (b_L_law_1113 (d := 68) _ _ _ _ L1).2 ?_
  rw [hx1]
  refine ⟨vp 1 (by decide), vp 2 (by decide), vp 3 (by decide), ?_⟩
  refine wr 4 h1 _ R1 (fun h2 g2 R2 => ?_)
  show ex_ 69 0 1132 [some (v_x 20), some (v_r (some 0)), some (v_r (some 93)), some (v_i (nI (6 * j)))] [v_i v, v_i v] h2 Q
  refine (b_L_law_1132 (d := 69) _ _ _ _ _ _ _).2 ?_
  rw [if_pos rfl]
  refine (b_L_law_1675 (d := 69) _ _ _ _ _).2 ?_
  exact K h2 (LI_st hx hn hs ok' g1 C1 g2 R2)
theorem lc_serves {Q : Option am_V → am_H → Prop} {h : am_H} {L : Nat} {xs : Nat → Int32} {j : Nat} (I : LI L xs j h) (hj : 6 * j + 6 ≤ L) (hL : L ≤ 3072) (K : ∀ h', LI L xs (j + 1) h' → ex_ 69 0 18 [some (v_x 20), some (v_r (some 0)), some (v_r (some 93)), some (v_i (nI (6 * j) + (6 : Int32)))] [] h' Q) : ex_ 69 0 1137 [some (v_x 20), some (v_r (some 0)), some (v_r (some 93)), some (v_i (nI (6 * j)))] [] h Q := by
  obtain ⟨S, ok, C, R, hx, hn, hs⟩ := I
  have L0 := C.1
  have vp := LI_vp hx hj hL
  obtain ⟨v, S', ok', wc, wr⟩ := w_serves ok (x1 := ((h_x h).2 (Int32.toNatClampNeg ((nI (6 * j)) + (1 : Int32))))) (x2 := ((h_x h).2 (Int32.toNatClampNeg ((nI (6 * j)) + (2 : Int32)))))
  refine (b_L_law_1137 (d := 68) _ _ _ L0).2 ?_
  refine ⟨vp 1 (by decide), vp 2 (by decide), ?_⟩
  refine wc 4 h _ C (fun h1 g1 C1 => ?_)
  have L1 := C1.1
  have R1 := R.C ok g1.1 L1
  have hx1 : h_x h1 = h_x h := g1.1.2.1
  show ex_ 69 0 1151 [some (v_x 20), some (v_r (some 0)), some (v_r (some 93)), some (v_i (nI (6 * j)))] [v_i v] h1 Q
  refine (b_L_law_1151 (d := 68) _ _ _ _ L1).2 ?_
  rw [hx1]
  refine ⟨vp 1 (by decide), vp 2 (by decide), ?_⟩
  refine wr 4 h1 _ R1 (fun h2 g2 R2 => ?_)
  show ex_ 69 0 1165 [some (v_x 20), some (v_r (some 0)), some (v_r (some 93)), some (v_i (nI (6 * j)))] [v_i v, v_i v] h2 Q
  refine (b_L_law_1165 (d := 69) _ _ _ _ _ _ _).2 ?_
  rw [if_pos rfl]
  refine (b_L_law_1675 (d := 69) _ _ _ _ _).2 ?_
  exact K h2 (LI_st hx hn hs ok' g1 C1 g2 R2)
theorem lc_dead {Q : Option am_V → am_H → Prop} {h : am_H} {L : Nat} {xs : Nat → Int32} {j : Nat} (I : LI L xs j h) (hj : 6 * j + 6 ≤ L) (hL : L ≤ 3072) (K : ∀ h', LI L xs (j + 1) h' → ex_ 69 0 18 [some (v_x 20), some (v_r (some 0)), some (v_r (some 93)), some (v_i (nI (6 * j) + (6 : Int32)))] [] h' Q) : ex_ 69 0 1170 [some (v_x 20), some (v_r (some 0)), some (v_r (some 93)), some (v_i (nI (6 * j)))] [] h Q := by
  obtain ⟨S, ok, C, R, hx, hn, hs⟩ := I
  have L0 := C.1
  have vp := LI_vp hx hj hL
  obtain ⟨v, S', ok', wc, wr⟩ := w_dead ok 
  refine (b_L_law_1170 (d := 68) _ _ _ _ L0).2 ?_
  refine wc 4 h _ C (fun h1 g1 C1 => ?_)
  have L1 := C1.1
  have R1 := R.C ok g1.1 L1
  have hx1 : h_x h1 = h_x h := g1.1.2.1
  show ex_ 69 0 1174 [some (v_x 20), some (v_r (some 0)), some (v_r (some 93)), some (v_i (nI (6 * j)))] [v_i v] h1 Q
  refine (b_L_law_1174 (d := 68) _ _ _ _ _ L1).2 ?_
  refine wr 4 h1 _ R1 (fun h2 g2 R2 => ?_)
  show ex_ 69 0 1178 [some (v_x 20), some (v_r (some 0)), some (v_r (some 93)), some (v_i (nI (6 * j)))] [v_i v, v_i v] h2 Q
  refine (b_L_law_1178 (d := 69) _ _ _ _ _ _ _).2 ?_
  rw [if_pos rfl]
  refine (b_L_law_1675 (d := 69) _ _ _ _ _).2 ?_
  exact K h2 (LI_st hx hn hs ok' g1 C1 g2 R2)
theorem lc_firstDead {Q : Option am_V → am_H → Prop} {h : am_H} {L : Nat} {xs : Nat → Int32} {j : Nat} (I : LI L xs j h) (hj : 6 * j + 6 ≤ L) (hL : L ≤ 3072) (K : ∀ h', LI L xs (j + 1) h' → ex_ 69 0 18 [some (v_x 20), some (v_r (some 0)), some (v_r (some 93)), some (v_i (nI (6 * j) + (6 : Int32)))] [] h' Q) : ex_ 69 0 1183 [some (v_x 20), some (v_r (some 0)), some (v_r (some 93)), some (v_i (nI (6 * j)))] [] h Q := by
  obtain ⟨S, ok, C, R, hx, hn, hs⟩ := I
  have L0 := C.1
  have vp := LI_vp hx hj hL
  obtain ⟨v, S', ok', wc, wr⟩ := w_firstDead ok 
  refine (b_L_law_1183 (d := 68) _ _ _ _ L0).2 ?_
  refine wc 4 h _ C (fun h1 g1 C1 => ?_)
  have L1 := C1.1
  have R1 := R.C ok g1.1 L1
  have hx1 : h_x h1 = h_x h := g1.1.2.1
  show ex_ 69 0 1187 [some (v_x 20), some (v_r (some 0)), some (v_r (some 93)), some (v_i (nI (6 * j)))] [v_i v] h1 Q
  refine (b_L_law_1187 (d := 68) _ _ _ _ _ L1).2 ?_
  refine wr 4 h1 _ R1 (fun h2 g2 R2 => ?_)
  show ex_ 69 0 1191 [some (v_x 20), some (v_r (some 0)), some (v_r (some 93)), some (v_i (nI (6 * j)))] [v_i v, v_i v] h2 Q
  refine (b_L_law_1191 (d := 69) _ _ _ _ _ _ _).2 ?_
  rw [if_pos rfl]
  refine (b_L_law_1675 (d := 69) _ _ _ _ _).2 ?_
  exact K h2 (LI_st hx hn hs ok' g1 C1 g2 R2)
theorem lc_common {Q : Option am_V → am_H → Prop} {h : am_H} {L : Nat} {xs : Nat → Int32} {j : Nat} (I : LI L xs j h) (hj : 6 * j + 6 ≤ L) (hL : L ≤ 3072) (K : ∀ h', LI L xs (j + 1) h' → ex_ 69 0 18 [some (v_x 20), some (v_r (some 0)), some (v_r (some 93)), some (v_i (nI (6 * j) + (6 : Int32)))] [] h' Q) : ex_ 69 0 1196 [some (v_x 20), some (v_r (some 0)), some (v_r (some 93)), some (v_i (nI (6 * j)))] [] h Q := by
  obtain ⟨S, ok, C, R, hx, hn, hs⟩ := I
  have L0 := C.1
  have vp := LI_vp hx hj hL
  obtain ⟨v, S', ok', wc, wr⟩ := w_common ok (x1 := ((h_x h).2 (Int32.toNatClampNeg ((nI (6 * j)) + (1 : Int32))))) (x2 := ((h_x h).2 (Int32.toNatClampNeg ((nI (6 * j)) + (2 : Int32)))))
  refine (b_L_law_1196 (d := 68) _ _ _ L0).2 ?_
  refine ⟨vp 1 (by decide), vp 2 (by decide), ?_⟩
  refine wc 4 h _ C (fun h1 g1 C1 => ?_)
  have L1 := C1.1
  have R1 := R.C ok g1.1 L1
  have hx1 : h_x h1 = h_x h := g1.1.2.1
  show ex_ 69 0 1210 [some (v_x 20), some (v_r (some 0)), some (v_r (some 93)), some (v_i (nI (6 * j)))] [v_i v] h1 Q
  refine (b_L_law_1210 (d := 68) _ _ _ _ L1).2 ?_
  rw [hx1]
  refine ⟨vp 1 (by decide), vp 2 (by decide), ?_⟩
  refine wr 4 h1 _ R1 (fun h2 g2 R2 => ?_)
  show ex_ 69 0 1224 [some (v_x 20), some (v_r (some 0)), some (v_r (some 93)), some (v_i (nI (6 * j)))] [v_i v, v_i v] h2 Q
  refine (b_L_law_1224 (d := 69) _ _ _ _ _ _ _).2 ?_
  rw [if_pos rfl]
  refine (b_L_law_1675 (d := 69) _ _ _ _ _).2 ?_
  exact K h2 (LI_st hx hn hs ok' g1 C1 g2 R2)
theorem lc_would {Q : Option am_V → am_H → Prop} {h : am_H} {L : Nat} {xs : Nat → Int32} {j : Nat} (I : LI L xs j h) (hj : 6 * j + 6 ≤ L) (hL : L ≤ 3072) (K : ∀ h', LI L xs (j + 1) h' → ex_ 69 0 18 [some (v_x 20), some (v_r (some 0)), some (v_r (some 93)), some (v_i (nI (6 * j) + (6 : Int32)))] [] h' Q) : ex_ 69 0 1229 [some (v_x 20), some (v_r (some 0)), some (v_r (some 93)), some (v_i (nI (6 * j)))] [] h Q := by
  obtain ⟨S, ok, C, R, hx, hn, hs⟩ := I
  have L0 := C.1
  have vp := LI_vp hx hj hL
  obtain ⟨v, S', ok', wc, wr⟩ := w_would ok (x1 := ((h_x h).2 (Int32.toNatClampNeg ((nI (6 * j)) + (1 : Int32)))))
  refine (b_L_law_1229 (d := 68) _ _ _ L0).2 ?_
  refine ⟨vp 1 (by decide), ?_⟩
  refine wc 4 h _ C (fun h1 g1 C1 => ?_)
  have L1 := C1.1
  have R1 := R.C ok g1.1 L1
  have hx1 : h_x h1 = h_x h := g1.1.2.1
  show ex_ 69 0 1238 [some (v_x 20), some (v_r (some 0)), some (v_r (some 93)), some (v_i (nI (6 * j)))] [v_i v] h1 Q
  refine (b_L_law_1238 (d := 68) _ _ _ _ L1).2 ?_
  rw [hx1]
  refine ⟨vp 1 (by decide), ?_⟩
  refine wr 4 h1 _ R1 (fun h2 g2 R2 => ?_)
  show ex_ 69 0 1247 [some (v_x 20), some (v_r (some 0)), some (v_r (some 93)), some (v_i (nI (6 * j)))] [v_i v, v_i v] h2 Q
  refine (b_L_law_1247 (d := 69) _ _ _ _ _ _ _).2 ?_
  rw [if_pos rfl]
  refine (b_L_law_1675 (d := 69) _ _ _ _ _).2 ?_
  exact K h2 (LI_st hx hn hs ok' g1 C1 g2 R2)
theorem lc_wouldOrder {Q : Option am_V → am_H → Prop} {h : am_H} {L : Nat} {xs : Nat → Int32} {j : Nat} (I : LI L xs j h) (hj : 6 * j + 6 ≤ L) (hL : L ≤ 3072) (K : ∀ h', LI L xs (j + 1) h' → ex_ 69 0 18 [some (v_x 20), some (v_r (some 0)), some (v_r (some 93)), some (v_i (nI (6 * j) + (6 : Int32)))] [] h' Q) : ex_ 69 0 1252 [some (v_x 20), some (v_r (some 0)), some (v_r (some 93)), some (v_i (nI (6 * j)))] [] h Q := by
  obtain ⟨S, ok, C, R, hx, hn, hs⟩ := I
  have L0 := C.1
  have vp := LI_vp hx hj hL
  obtain ⟨v, S', ok', wc, wr⟩ := w_wouldOrder ok (x1 := ((h_x h).2 (Int32.toNatClampNeg ((nI (6 * j)) + (1 : Int32))))) (x2 := ((h_x h).2 (Int32.toNatClampNeg ((nI (6 * j)) + (2 : Int32)))))
  refine (b_L_law_1252 (d := 68) _ _ _ L0).2 ?_
  refine ⟨vp 1 (by decide), vp 2 (by decide), ?_⟩
  refine wc 4 h _ C (fun h1 g1 C1 => ?_)
  have L1 := C1.1
  have R1 := R.C ok g1.1 L1
  have hx1 : h_x h1 = h_x h := g1.1.2.1
  show ex_ 69 0 1266 [some (v_x 20), some (v_r (some 0)), some (v_r (some 93)), some (v_i (nI (6 * j)))] [v_i v] h1 Q
  refine (b_L_law_1266 (d := 68) _ _ _ _ L1).2 ?_
  rw [hx1]
  refine ⟨vp 1 (by decide), vp 2 (by decide), ?_⟩
  refine wr 4 h1 _ R1 (fun h2 g2 R2 => ?_)
  show ex_ 69 0 1280 [some (v_x 20), some (v_r (some 0)), some (v_r (some 93)), some (v_i (nI (6 * j)))] [v_i v, v_i v] h2 Q
  refine (b_L_law_1280 (d := 69) _ _ _ _ _ _ _).2 ?_
  rw [if_pos rfl]
  refine (b_L_law_1675 (d := 69) _ _ _ _ _).2 ?_
  exact K h2 (LI_st hx hn hs ok' g1 C1 g2 R2)
theorem lc_wouldWays {Q : Option am_V → am_H → Prop} {h : am_H} {L : Nat} {xs : Nat → Int32} {j : Nat} (I : LI L xs j h) (hj : 6 * j + 6 ≤ L) (hL : L ≤ 3072) (K : ∀ h', LI L xs (j + 1) h' → ex_ 69 0 18 [some (v_x 20), some (v_r (some 0)), some (v_r (some 93)), some (v_i (nI (6 * j) + (6 : Int32)))] [] h' Q) : ex_ 69 0 1285 [some (v_x 20), some (v_r (some 0)), some (v_r (some 93)), some (v_i (nI (6 * j)))] [] h Q := by
  obtain ⟨S, ok, C, R, hx, hn, hs⟩ := I
  have L0 := C.1
  have vp := LI_vp hx hj hL
  obtain ⟨v, S', ok', wc, wr⟩ := w_wouldWays ok (x1 := ((h_x h).2 (Int32.toNatClampNeg ((nI (6 * j)) + (1 : Int32)))))
  refine (b_L_law_1285 (d := 68) _ _ _ L0).2 ?_
  refine ⟨vp 1 (by decide), ?_⟩
  refine wc 4 h _ C (fun h1 g1 C1 => ?_)
  have L1 := C1.1
  have R1 := R.C ok g1.1 L1
  have hx1 : h_x h1 = h_x h := g1.1.2.1
  show ex_ 69 0 1294 [some (v_x 20), some (v_r (some 0)), some (v_r (some 93)), some (v_i (nI (6 * j)))] [v_i v] h1 Q
  refine (b_L_law_1294 (d := 68) _ _ _ _ L1).2 ?_
  rw [hx1]
  refine ⟨vp 1 (by decide), ?_⟩
  refine wr 4 h1 _ R1 (fun h2 g2 R2 => ?_)
  show ex_ 69 0 1303 [some (v_x 20), some (v_r (some 0)), some (v_r (some 93)), some (v_i (nI (6 * j)))] [v_i v, v_i v] h2 Q
  refine (b_L_law_1303 (d := 69) _ _ _ _ _ _ _).2 ?_
  rw [if_pos rfl]
  refine (b_L_law_1675 (d := 69) _ _ _ _ _).2 ?_
  exact K h2 (LI_st hx hn hs ok' g1 C1 g2 R2)
theorem lc_repairs {Q : Option am_V → am_H → Prop} {h : am_H} {L : Nat} {xs : Nat → Int32} {j : Nat} (I : LI L xs j h) (hj : 6 * j + 6 ≤ L) (hL : L ≤ 3072) (K : ∀ h', LI L xs (j + 1) h' → ex_ 69 0 18 [some (v_x 20), some (v_r (some 0)), some (v_r (some 93)), some (v_i (nI (6 * j) + (6 : Int32)))] [] h' Q) : ex_ 69 0 1308 [some (v_x 20), some (v_r (some 0)), some (v_r (some 93)), some (v_i (nI (6 * j)))] [] h Q := by
  obtain ⟨S, ok, C, R, hx, hn, hs⟩ := I
  have L0 := C.1
  have vp := LI_vp hx hj hL
  obtain ⟨v, S', ok', wc, wr⟩ := w_repairs ok 
  refine (b_L_law_1308 (d := 68) _ _ _ _ L0).2 ?_
  refine wc 4 h _ C (fun h1 g1 C1 => ?_)
  have L1 := C1.1
  have R1 := R.C ok g1.1 L1
  have hx1 : h_x h1 = h_x h := g1.1.2.1
  show ex_ 69 0 1312 [some (v_x 20), some (v_r (some 0)), some (v_r (some 93)), some (v_i (nI (6 * j)))] [v_i v] h1 Q
  refine (b_L_law_1312 (d := 68) _ _ _ _ _ L1).2 ?_
  refine wr 4 h1 _ R1 (fun h2 g2 R2 => ?_)
  show ex_ 69 0 1316 [some (v_x 20), some (v_r (some 0)), some (v_r (some 93)), some (v_i (nI (6 * j)))] [v_i v, v_i v] h2 Q
  refine (b_L_law_1316 (d := 69) _ _ _ _ _ _ _).2 ?_
  rw [if_pos rfl]
  refine (b_L_law_1675 (d := 69) _ _ _ _ _).2 ?_
  exact K h2 (LI_st hx hn hs ok' g1 C1 g2 R2)
theorem lc_repair {Q : Option am_V → am_H → Prop} {h : am_H} {L : Nat} {xs : Nat → Int32} {j : Nat} (I : LI L xs j h) (hj : 6 * j + 6 ≤ L) (hL : L ≤ 3072) (K : ∀ h', LI L xs (j + 1) h' → ex_ 69 0 18 [some (v_x 20), some (v_r (some 0)), some (v_r (some 93)), some (v_i (nI (6 * j) + (6 : Int32)))] [] h' Q) : ex_ 69 0 1321 [some (v_x 20), some (v_r (some 0)), some (v_r (some 93)), some (v_i (nI (6 * j)))] [] h Q := by
  obtain ⟨S, ok, C, R, hx, hn, hs⟩ := I
  have L0 := C.1
  have vp := LI_vp hx hj hL
  obtain ⟨v, S', ok', wc, wr⟩ := w_repair ok (x1 := ((h_x h).2 (Int32.toNatClampNeg ((nI (6 * j)) + (1 : Int32)))))
  refine (b_L_law_1321 (d := 68) _ _ _ L0).2 ?_
  refine ⟨vp 1 (by decide), ?_⟩
  refine wc 4 h _ C (fun h1 g1 C1 => ?_)
  have L1 := C1.1
  have R1 := R.C ok g1.1 L1
  have hx1 : h_x h1 = h_x h := g1.1.2.1
  show ex_ 69 0 1330 [some (v_x 20), some (v_r (some 0)), some (v_r (some 93)), some (v_i (nI (6 * j)))] [v_i v] h1 Q
  refine (b_L_law_1330 (d := 68) _ _ _ _ L1).2 ?_
  rw [hx1]
  refine ⟨vp 1 (by decide), ?_⟩
  refine wr 4 h1 _ R1 (fun h2 g2 R2 => ?_)
  show ex_ 69 0 1339 [some (v_x 20), some (v_r (some 0)), some (v_r (some 93)), some (v_i (nI (6 * j)))] [v_i v, v_i v] h2 Q
  refine (b_L_law_1339 (d := 69) _ _ _ _ _ _ _).2 ?_
  rw [if_pos rfl]
  refine (b_L_law_1675 (d := 69) _ _ _ _ _).2 ?_
  exact K h2 (LI_st hx hn hs ok' g1 C1 g2 R2)
theorem lc_moods {Q : Option am_V → am_H → Prop} {h : am_H} {L : Nat} {xs : Nat → Int32} {j : Nat} (I : LI L xs j h) (hj : 6 * j + 6 ≤ L) (hL : L ≤ 3072) (K : ∀ h', LI L xs (j + 1) h' → ex_ 69 0 18 [some (v_x 20), some (v_r (some 0)), some (v_r (some 93)), some (v_i (nI (6 * j) + (6 : Int32)))] [] h' Q) : ex_ 69 0 1344 [some (v_x 20), some (v_r (some 0)), some (v_r (some 93)), some (v_i (nI (6 * j)))] [] h Q := by
  obtain ⟨S, ok, C, R, hx, hn, hs⟩ := I
  have L0 := C.1
  have vp := LI_vp hx hj hL
  obtain ⟨v, S', ok', wc, wr⟩ := w_moods ok (x1 := ((h_x h).2 (Int32.toNatClampNeg ((nI (6 * j)) + (1 : Int32)))))
  refine (b_L_law_1344 (d := 68) _ _ _ L0).2 ?_
  refine ⟨vp 1 (by decide), ?_⟩
  refine wc 4 h _ C (fun h1 g1 C1 => ?_)
  have L1 := C1.1
  have R1 := R.C ok g1.1 L1
  have hx1 : h_x h1 = h_x h := g1.1.2.1
  show ex_ 69 0 1353 [some (v_x 20), some (v_r (some 0)), some (v_r (some 93)), some (v_i (nI (6 * j)))] [v_i v] h1 Q
  refine (b_L_law_1353 (d := 68) _ _ _ _ L1).2 ?_
  rw [hx1]
  refine ⟨vp 1 (by decide), ?_⟩
  refine wr 4 h1 _ R1 (fun h2 g2 R2 => ?_)
  show ex_ 69 0 1362 [some (v_x 20), some (v_r (some 0)), some (v_r (some 93)), some (v_i (nI (6 * j)))] [v_i v, v_i v] h2 Q
  refine (b_L_law_1362 (d := 69) _ _ _ _ _ _ _).2 ?_
  rw [if_pos rfl]
  refine (b_L_law_1675 (d := 69) _ _ _ _ _).2 ?_
  exact K h2 (LI_st hx hn hs ok' g1 C1 g2 R2)
theorem lc_attempt {Q : Option am_V → am_H → Prop} {h : am_H} {L : Nat} {xs : Nat → Int32} {j : Nat} (I : LI L xs j h) (hj : 6 * j + 6 ≤ L) (hL : L ≤ 3072) (K : ∀ h', LI L xs (j + 1) h' → ex_ 69 0 18 [some (v_x 20), some (v_r (some 0)), some (v_r (some 93)), some (v_i (nI (6 * j) + (6 : Int32)))] [] h' Q) : ex_ 69 0 1367 [some (v_x 20), some (v_r (some 0)), some (v_r (some 93)), some (v_i (nI (6 * j)))] [] h Q := by
  obtain ⟨S, ok, C, R, hx, hn, hs⟩ := I
  have L0 := C.1
  have vp := LI_vp hx hj hL
  obtain ⟨v, S', ok', wc, wr⟩ := w_attempt ok (x1 := ((h_x h).2 (Int32.toNatClampNeg ((nI (6 * j)) + (1 : Int32)))))
  refine (b_L_law_1367 (d := 68) _ _ _ L0).2 ?_
  refine ⟨vp 1 (by decide), ?_⟩
  refine wc 4 h _ C (fun h1 g1 C1 => ?_)
  have L1 := C1.1
  have R1 := R.C ok g1.1 L1
  have hx1 : h_x h1 = h_x h := g1.1.2.1
  show ex_ 69 0 1376 [some (v_x 20), some (v_r (some 0)), some (v_r (some 93)), some (v_i (nI (6 * j)))] [v_i v] h1 Q
  refine (b_L_law_1376 (d := 68) _ _ _ _ L1).2 ?_
  rw [hx1]
  refine ⟨vp 1 (by decide), ?_⟩
  refine wr 4 h1 _ R1 (fun h2 g2 R2 => ?_)
  show ex_ 69 0 1385 [some (v_x 20), some (v_r (some 0)), some (v_r (some 93)), some (v_i (nI (6 * j)))] [v_i v, v_i v] h2 Q
  refine (b_L_law_1385 (d := 69) _ _ _ _ _ _ _).2 ?_
  rw [if_pos rfl]
  refine (b_L_law_1675 (d := 69) _ _ _ _ _).2 ?_
  exact K h2 (LI_st hx hn hs ok' g1 C1 g2 R2)
theorem lc_chance {Q : Option am_V → am_H → Prop} {h : am_H} {L : Nat} {xs : Nat → Int32} {j : Nat} (I : LI L xs j h) (hj : 6 * j + 6 ≤ L) (hL : L ≤ 3072) (K : ∀ h', LI L xs (j + 1) h' → ex_ 69 0 18 [some (v_x 20), some (v_r (some 0)), some (v_r (some 93)), some (v_i (nI (6 * j) + (6 : Int32)))] [] h' Q) : ex_ 69 0 1390 [some (v_x 20), some (v_r (some 0)), some (v_r (some 93)), some (v_i (nI (6 * j)))] [] h Q := by
  obtain ⟨S, ok, C, R, hx, hn, hs⟩ := I
  have L0 := C.1
  have vp := LI_vp hx hj hL
  obtain ⟨v, S', ok', wc, wr⟩ := w_chance ok (x1 := ((h_x h).2 (Int32.toNatClampNeg ((nI (6 * j)) + (1 : Int32))))) (x2 := ((h_x h).2 (Int32.toNatClampNeg ((nI (6 * j)) + (2 : Int32)))))
  refine (b_L_law_1390 (d := 68) _ _ _ L0).2 ?_
  refine ⟨vp 1 (by decide), vp 2 (by decide), ?_⟩
  refine wc 4 h _ C (fun h1 g1 C1 => ?_)
  have L1 := C1.1
  have R1 := R.C ok g1.1 L1
  have hx1 : h_x h1 = h_x h := g1.1.2.1
  show ex_ 69 0 1404 [some (v_x 20), some (v_r (some 0)), some (v_r (some 93)), some (v_i (nI (6 * j)))] [v_i v] h1 Q
  refine (b_L_law_1404 (d := 68) _ _ _ _ L1).2 ?_
  rw [hx1]
  refine ⟨vp 1 (by decide), vp 2 (by decide), ?_⟩
  refine wr 4 h1 _ R1 (fun h2 g2 R2 => ?_)
  show ex_ 69 0 1418 [some (v_x 20), some (v_r (some 0)), some (v_r (some 93)), some (v_i (nI (6 * j)))] [v_i v, v_i v] h2 Q
  refine (b_L_law_1418 (d := 69) _ _ _ _ _ _ _).2 ?_
  rw [if_pos rfl]
  refine (b_L_law_1675 (d := 69) _ _ _ _ _).2 ?_
  exact K h2 (LI_st hx hn hs ok' g1 C1 g2 R2)
theorem lc_mean {Q : Option am_V → am_H → Prop} {h : am_H} {L : Nat} {xs : Nat → Int32} {j : Nat} (I : LI L xs j h) (hj : 6 * j + 6 ≤ L) (hL : L ≤ 3072) (K : ∀ h', LI L xs (j + 1) h' → ex_ 69 0 18 [some (v_x 20), some (v_r (some 0)), some (v_r (some 93)), some (v_i (nI (6 * j) + (6 : Int32)))] [] h' Q) : ex_ 69 0 1423 [some (v_x 20), some (v_r (some 0)), some (v_r (some 93)), some (v_i (nI (6 * j)))] [] h Q := by
  obtain ⟨S, ok, C, R, hx, hn, hs⟩ := I
  have L0 := C.1
  have vp := LI_vp hx hj hL
  obtain ⟨v, S', ok', wc, wr⟩ := w_mean ok (x1 := ((h_x h).2 (Int32.toNatClampNeg ((nI (6 * j)) + (1 : Int32))))) (x2 := ((h_x h).2 (Int32.toNatClampNeg ((nI (6 * j)) + (2 : Int32)))))
  refine (b_L_law_1423 (d := 68) _ _ _ L0).2 ?_
  refine ⟨vp 1 (by decide), vp 2 (by decide), ?_⟩
  refine wc 4 h _ C (fun h1 g1 C1 => ?_)
  have L1 := C1.1
  have R1 := R.C ok g1.1 L1
  have hx1 : h_x h1 = h_x h := g1.1.2.1
  show ex_ 69 0 1437 [some (v_x 20), some (v_r (some 0)), some (v_r (some 93)), some (v_i (nI (6 * j)))] [v_i v] h1 Q
  refine (b_L_law_1437 (d := 68) _ _ _ _ L1).2 ?_
  rw [hx1]
  refine ⟨vp 1 (by decide), vp 2 (by decide), ?_⟩
  refine wr 4 h1 _ R1 (fun h2 g2 R2 => ?_)
  show ex_ 69 0 1451 [some (v_x 20), some (v_r (some 0)), some (v_r (some 93)), some (v_i (nI (6 * j)))] [v_i v, v_i v] h2 Q
  refine (b_L_law_1451 (d := 69) _ _ _ _ _ _ _).2 ?_
  rw [if_pos rfl]
  refine (b_L_law_1675 (d := 69) _ _ _ _ _).2 ?_
  exact K h2 (LI_st hx hn hs ok' g1 C1 g2 R2)
theorem lc_numbers {Q : Option am_V → am_H → Prop} {h : am_H} {L : Nat} {xs : Nat → Int32} {j : Nat} (I : LI L xs j h) (hj : 6 * j + 6 ≤ L) (hL : L ≤ 3072) (K : ∀ h', LI L xs (j + 1) h' → ex_ 69 0 18 [some (v_x 20), some (v_r (some 0)), some (v_r (some 93)), some (v_i (nI (6 * j) + (6 : Int32)))] [] h' Q) : ex_ 69 0 1456 [some (v_x 20), some (v_r (some 0)), some (v_r (some 93)), some (v_i (nI (6 * j)))] [] h Q := by
  obtain ⟨S, ok, C, R, hx, hn, hs⟩ := I
  have L0 := C.1
  have vp := LI_vp hx hj hL
  obtain ⟨v, S', ok', wc, wr⟩ := w_numbers ok (x1 := ((h_x h).2 (Int32.toNatClampNeg ((nI (6 * j)) + (1 : Int32))))) (x2 := ((h_x h).2 (Int32.toNatClampNeg ((nI (6 * j)) + (2 : Int32))))) (x3 := ((h_x h).2 (Int32.toNatClampNeg ((nI (6 * j)) + (3 : Int32)))))
  refine (b_L_law_1456 (d := 68) _ _ _ L0).2 ?_
  refine ⟨vp 1 (by decide), vp 2 (by decide), vp 3 (by decide), ?_⟩
  refine wc 4 h _ C (fun h1 g1 C1 => ?_)
  have L1 := C1.1
  have R1 := R.C ok g1.1 L1
  have hx1 : h_x h1 = h_x h := g1.1.2.1
  show ex_ 69 0 1475 [some (v_x 20), some (v_r (some 0)), some (v_r (some 93)), some (v_i (nI (6 * j)))] [v_i v] h1 Q
  refine (b_L_law_1475 (d := 68) _ _ _ _ L1).2 ?_
  rw [hx1]
  refine ⟨vp 1 (by decide), vp 2 (by decide), vp 3 (by decide), ?_⟩
  refine wr 4 h1 _ R1 (fun h2 g2 R2 => ?_)
  show ex_ 69 0 1494 [some (v_x 20), some (v_r (some 0)), some (v_r (some 93)), some (v_i (nI (6 * j)))] [v_i v, v_i v] h2 Q
  refine (b_L_law_1494 (d := 69) _ _ _ _ _ _ _).2 ?_
  rw [if_pos rfl]
  refine (b_L_law_1675 (d := 69) _ _ _ _ _).2 ?_
  exact K h2 (LI_st hx hn hs ok' g1 C1 g2 R2)
theorem lc_write {Q : Option am_V → am_H → Prop} {h : am_H} {L : Nat} {xs : Nat → Int32} {j : Nat} (I : LI L xs j h) (hj : 6 * j + 6 ≤ L) (hL : L ≤ 3072) (K : ∀ h', LI L xs (j + 1) h' → ex_ 69 0 18 [some (v_x 20), some (v_r (some 0)), some (v_r (some 93)), some (v_i (nI (6 * j) + (6 : Int32)))] [] h' Q) : ex_ 69 0 1499 [some (v_x 20), some (v_r (some 0)), some (v_r (some 93)), some (v_i (nI (6 * j)))] [] h Q := by
  obtain ⟨S, ok, C, R, hx, hn, hs⟩ := I
  have L0 := C.1
  have vp := LI_vp hx hj hL
  obtain ⟨v, S', ok', wc, wr⟩ := w_write ok (x1 := ((h_x h).2 (Int32.toNatClampNeg ((nI (6 * j)) + (1 : Int32))))) (x2 := ((h_x h).2 (Int32.toNatClampNeg ((nI (6 * j)) + (2 : Int32))))) (y := (((Int32.toInt64 ((h_x h).2 (Int32.toNatClampNeg ((nI (6 * j)) + (3 : Int32))))) <<< (((32 : Int32)).toInt64 &&& 63)) ||| ((Int32.toInt64 ((h_x h).2 (Int32.toNatClampNeg ((nI (6 * j)) + (4 : Int32))))) &&& (4294967295 : Int64))))
  refine (b_L_law_1499 (d := 68) _ _ _ L0).2 ?_
  refine ⟨vp 1 (by decide), vp 2 (by decide), vp 3 (by decide), vp 4 (by decide), ?_⟩
  refine wc 4 h _ C (fun h1 g1 C1 => ?_)
  have L1 := C1.1
  have R1 := R.C ok g1.1 L1
  have hx1 : h_x h1 = h_x h := g1.1.2.1
  show ex_ 69 0 1533 [some (v_x 20), some (v_r (some 0)), some (v_r (some 93)), some (v_i (nI (6 * j)))] [v_l v] h1 Q
  refine (b_L_law_1533 (d := 68) _ _ _ _ L1).2 ?_
  rw [hx1]
  refine ⟨vp 1 (by decide), vp 2 (by decide), vp 3 (by decide), vp 4 (by decide), ?_⟩
  refine wr 4 h1 _ R1 (fun h2 g2 R2 => ?_)
  show ex_ 69 0 1567 [some (v_x 20), some (v_r (some 0)), some (v_r (some 93)), some (v_i (nI (6 * j)))] [v_l v, v_l v] h2 Q
  refine (b_L_law_1567 (d := 69) _ _ _ _ _ _ _).2 ?_
  rw [if_pos (show lg_cmp v v = 0 by rw [show (0 : Int32) = nI 0 from rfl, lc_eq])]
  refine (b_L_law_1675 (d := 69) _ _ _ _ _).2 ?_
  exact K h2 (LI_st hx hn hs ok' g1 C1 g2 R2)
theorem lc_lists {Q : Option am_V → am_H → Prop} {h : am_H} {L : Nat} {xs : Nat → Int32} {j : Nat} (I : LI L xs j h) (hj : 6 * j + 6 ≤ L) (hL : L ≤ 3072) (K : ∀ h', LI L xs (j + 1) h' → ex_ 69 0 18 [some (v_x 20), some (v_r (some 0)), some (v_r (some 93)), some (v_i (nI (6 * j) + (6 : Int32)))] [] h' Q) : ex_ 69 0 1573 [some (v_x 20), some (v_r (some 0)), some (v_r (some 93)), some (v_i (nI (6 * j)))] [] h Q := by
  obtain ⟨S, ok, C, R, hx, hn, hs⟩ := I
  have L0 := C.1
  have vp := LI_vp hx hj hL
  obtain ⟨v, S', ok', wc, wr⟩ := w_lists ok (x1 := ((h_x h).2 (Int32.toNatClampNeg ((nI (6 * j)) + (1 : Int32))))) (x2 := ((h_x h).2 (Int32.toNatClampNeg ((nI (6 * j)) + (2 : Int32)))))
  refine (b_L_law_1573 (d := 68) _ _ _ L0).2 ?_
  refine ⟨vp 1 (by decide), vp 2 (by decide), ?_⟩
  refine wc 4 h _ C (fun h1 g1 C1 => ?_)
  have L1 := C1.1
  have R1 := R.C ok g1.1 L1
  have hx1 : h_x h1 = h_x h := g1.1.2.1
  show ex_ 69 0 1587 [some (v_x 20), some (v_r (some 0)), some (v_r (some 93)), some (v_i (nI (6 * j)))] [v_i v] h1 Q
  refine (b_L_law_1587 (d := 68) _ _ _ _ L1).2 ?_
  rw [hx1]
  refine ⟨vp 1 (by decide), vp 2 (by decide), ?_⟩
  refine wr 4 h1 _ R1 (fun h2 g2 R2 => ?_)
  show ex_ 69 0 1601 [some (v_x 20), some (v_r (some 0)), some (v_r (some 93)), some (v_i (nI (6 * j)))] [v_i v, v_i v] h2 Q
  refine (b_L_law_1601 (d := 69) _ _ _ _ _ _ _).2 ?_
  rw [if_pos rfl]
  refine (b_L_law_1675 (d := 69) _ _ _ _ _).2 ?_
  exact K h2 (LI_st hx hn hs ok' g1 C1 g2 R2)
theorem lc_image {Q : Option am_V → am_H → Prop} {h : am_H} {L : Nat} {xs : Nat → Int32} {j : Nat} (I : LI L xs j h) (hj : 6 * j + 6 ≤ L) (hL : L ≤ 3072) (K : ∀ h', LI L xs (j + 1) h' → ex_ 69 0 18 [some (v_x 20), some (v_r (some 0)), some (v_r (some 93)), some (v_i (nI (6 * j) + (6 : Int32)))] [] h' Q) : ex_ 69 0 1606 [some (v_x 20), some (v_r (some 0)), some (v_r (some 93)), some (v_i (nI (6 * j)))] [] h Q := by
  obtain ⟨S, ok, C, R, hx, hn, hs⟩ := I
  have L0 := C.1
  have vp := LI_vp hx hj hL
  obtain ⟨v, S', ok', wc, wr⟩ := w_image ok (x1 := ((h_x h).2 (Int32.toNatClampNeg ((nI (6 * j)) + (1 : Int32)))))
  refine (b_L_law_1606 (d := 68) _ _ _ L0).2 ?_
  refine ⟨vp 1 (by decide), ?_⟩
  refine wc 4 h _ C (fun h1 g1 C1 => ?_)
  have L1 := C1.1
  have R1 := R.C ok g1.1 L1
  have hx1 : h_x h1 = h_x h := g1.1.2.1
  show ex_ 69 0 1615 [some (v_x 20), some (v_r (some 0)), some (v_r (some 93)), some (v_i (nI (6 * j)))] [v_i v] h1 Q
  refine (b_L_law_1615 (d := 68) _ _ _ _ L1).2 ?_
  rw [hx1]
  refine ⟨vp 1 (by decide), ?_⟩
  refine wr 4 h1 _ R1 (fun h2 g2 R2 => ?_)
  show ex_ 69 0 1624 [some (v_x 20), some (v_r (some 0)), some (v_r (some 93)), some (v_i (nI (6 * j)))] [v_i v, v_i v] h2 Q
  refine (b_L_law_1624 (d := 69) _ _ _ _ _ _ _).2 ?_
  rw [if_pos rfl]
  refine (b_L_law_1675 (d := 69) _ _ _ _ _).2 ?_
  exact K h2 (LI_st hx hn hs ok' g1 C1 g2 R2)
theorem lc_restore {Q : Option am_V → am_H → Prop} {h : am_H} {L : Nat} {xs : Nat → Int32} {j : Nat} (I : LI L xs j h) (hj : 6 * j + 6 ≤ L) (hL : L ≤ 3072) (K : ∀ h', LI L xs (j + 1) h' → ex_ 69 0 18 [some (v_x 20), some (v_r (some 0)), some (v_r (some 93)), some (v_i (nI (6 * j) + (6 : Int32)))] [] h' Q) : ex_ 69 0 1629 [some (v_x 20), some (v_r (some 0)), some (v_r (some 93)), some (v_i (nI (6 * j)))] [] h Q := by
  obtain ⟨S, ok, C, R, hx, hn, hs⟩ := I
  have L0 := C.1
  have vp := LI_vp hx hj hL
  obtain ⟨v, S', ok', wc, wr⟩ := w_restore ok (x1 := ((h_x h).2 (Int32.toNatClampNeg ((nI (6 * j)) + (1 : Int32)))))
  refine (b_L_law_1629 (d := 68) _ _ _ L0).2 ?_
  refine ⟨vp 1 (by decide), ?_⟩
  refine wc 4 h _ C (fun h1 g1 C1 => ?_)
  have L1 := C1.1
  have R1 := R.C ok g1.1 L1
  have hx1 : h_x h1 = h_x h := g1.1.2.1
  show ex_ 69 0 1638 [some (v_x 20), some (v_r (some 0)), some (v_r (some 93)), some (v_i (nI (6 * j)))] [v_i v] h1 Q
  refine (b_L_law_1638 (d := 68) _ _ _ _ L1).2 ?_
  rw [hx1]
  refine ⟨vp 1 (by decide), ?_⟩
  refine wr 4 h1 _ R1 (fun h2 g2 R2 => ?_)
  show ex_ 69 0 1647 [some (v_x 20), some (v_r (some 0)), some (v_r (some 93)), some (v_i (nI (6 * j)))] [v_i v, v_i v] h2 Q
  refine (b_L_law_1647 (d := 69) _ _ _ _ _ _ _).2 ?_
  rw [if_pos rfl]
  refine (b_L_law_1675 (d := 69) _ _ _ _ _).2 ?_
  exact K h2 (LI_st hx hn hs ok' g1 C1 g2 R2)
theorem lc_count {Q : Option am_V → am_H → Prop} {h : am_H} {L : Nat} {xs : Nat → Int32} {j : Nat} (I : LI L xs j h) (hj : 6 * j + 6 ≤ L) (hL : L ≤ 3072) (K : ∀ h', LI L xs (j + 1) h' → ex_ 69 0 18 [some (v_x 20), some (v_r (some 0)), some (v_r (some 93)), some (v_i (nI (6 * j) + (6 : Int32)))] [] h' Q) : ex_ 69 0 1652 [some (v_x 20), some (v_r (some 0)), some (v_r (some 93)), some (v_i (nI (6 * j)))] [] h Q := by
  obtain ⟨S, ok, C, R, hx, hn, hs⟩ := I
  have L0 := C.1
  have vp := LI_vp hx hj hL
  obtain ⟨v, S', ok', wc, wr⟩ := w_count ok (x1 := ((h_x h).2 (Int32.toNatClampNeg ((nI (6 * j)) + (1 : Int32)))))
  refine (b_L_law_1652 (d := 68) _ _ _ L0).2 ?_
  refine ⟨vp 1 (by decide), ?_⟩
  refine wc 4 h _ C (fun h1 g1 C1 => ?_)
  have L1 := C1.1
  have R1 := R.C ok g1.1 L1
  have hx1 : h_x h1 = h_x h := g1.1.2.1
  show ex_ 69 0 1661 [some (v_x 20), some (v_r (some 0)), some (v_r (some 93)), some (v_i (nI (6 * j)))] [v_i v] h1 Q
  refine (b_L_law_1661 (d := 68) _ _ _ _ L1).2 ?_
  rw [hx1]
  refine ⟨vp 1 (by decide), ?_⟩
  refine wr 4 h1 _ R1 (fun h2 g2 R2 => ?_)
  show ex_ 69 0 1670 [some (v_x 20), some (v_r (some 0)), some (v_r (some 93)), some (v_i (nI (6 * j)))] [v_i v, v_i v] h2 Q
  refine (b_L_law_1670 (d := 69) _ _ _ _ _ _ _).2 ?_
  rw [if_pos rfl]
  refine (b_L_law_1675 (d := 69) _ _ _ _ _).2 ?_
  exact K h2 (LI_st hx hn hs ok' g1 C1 g2 R2)
theorem law_step {Q : Option am_V → am_H → Prop} {h : am_H} {L : Nat} {xs : Nat → Int32} {j : Nat} (I : LI L xs j h) (hj : 6 * j + 6 ≤ L) (hL : L ≤ 3072) (K : ∀ h', LI L xs (j + 1) h' → ex_ 69 0 18 [some (v_x 20), some (v_r (some 0)), some (v_r (some 93)), some (v_i (nI (6 * j) + (6 : Int32)))] [] h' Q) : ex_ 69 0 27 [some (v_x 20), some (v_r (some 0)), some (v_r (some 93)), some (v_i (nI (6 * j)))] [] h Q := by
  have hx : h_x h = (L, xs) := by obtain ⟨S, ok, C, R, hx, hn, hs⟩ := I; exact hx
  refine (b_L_law_27 (d := 69) _ _ _ _).2 ⟨LI_v0 hx hj hL, ?_⟩
  refine it_ (fun _ => lc_feed I hj hL K) (fun _ => ?_)
  refine it_ (fun _ => lc_house I hj hL K) (fun _ => ?_)
  refine it_ (fun _ => lc_fault I hj hL K) (fun _ => ?_)
  refine it_ (fun _ => lc_parent I hj hL K) (fun _ => ?_)
  refine it_ (fun _ => lc_defines I hj hL K) (fun _ => ?_)
  refine it_ (fun _ => lc_state I hj hL K) (fun _ => ?_)
  refine it_ (fun _ => lc_order I hj hL K) (fun _ => ?_)
  refine it_ (fun _ => lc_place I hj hL K) (fun _ => ?_)
  refine it_ (fun _ => lc_above I hj hL K) (fun _ => ?_)
  refine it_ (fun _ => lc_below I hj hL K) (fun _ => ?_)
  refine it_ (fun _ => lc_give I hj hL K) (fun _ => ?_)
  refine it_ (fun _ => lc_take I hj hL K) (fun _ => ?_)
  refine it_ (fun _ => lc_swap I hj hL K) (fun _ => ?_)
  refine it_ (fun _ => lc_define I hj hL K) (fun _ => ?_)
  refine it_ (fun _ => lc_mood I hj hL K) (fun _ => ?_)
  refine it_ (fun _ => lc_undo I hj hL K) (fun _ => ?_)
  refine it_ (fun _ => lc_judge I hj hL K) (fun _ => ?_)
  refine it_ (fun _ => lc_perform I hj hL K) (fun _ => ?_)
  refine it_ (fun _ => lc_day I hj hL K) (fun _ => ?_)
  refine it_ (fun _ => lc_demands I hj hL K) (fun _ => ?_)
  refine it_ (fun _ => lc_demand I hj hL K) (fun _ => ?_)
  refine it_ (fun _ => lc_ring I hj hL K) (fun _ => ?_)
  refine it_ (fun _ => lc_ways I hj hL K) (fun _ => ?_)
  refine it_ (fun _ => lc_rank I hj hL K) (fun _ => ?_)
  refine it_ (fun _ => lc_old I hj hL K) (fun _ => ?_)
  refine it_ (fun _ => lc_breaks I hj hL K) (fun _ => ?_)
  refine it_ (fun _ => lc_same I hj hL K) (fun _ => ?_)
  refine it_ (fun _ => lc_call I hj hL K) (fun _ => ?_)
  refine it_ (fun _ => lc_through I hj hL K) (fun _ => ?_)
  refine it_ (fun _ => lc_serves I hj hL K) (fun _ => ?_)
  refine it_ (fun _ => lc_dead I hj hL K) (fun _ => ?_)
  refine it_ (fun _ => lc_firstDead I hj hL K) (fun _ => ?_)
  refine it_ (fun _ => lc_common I hj hL K) (fun _ => ?_)
  refine it_ (fun _ => lc_would I hj hL K) (fun _ => ?_)
  refine it_ (fun _ => lc_wouldOrder I hj hL K) (fun _ => ?_)
  refine it_ (fun _ => lc_wouldWays I hj hL K) (fun _ => ?_)
  refine it_ (fun _ => lc_repairs I hj hL K) (fun _ => ?_)
  refine it_ (fun _ => lc_repair I hj hL K) (fun _ => ?_)
  refine it_ (fun _ => lc_moods I hj hL K) (fun _ => ?_)
  refine it_ (fun _ => lc_attempt I hj hL K) (fun _ => ?_)
  refine it_ (fun _ => lc_chance I hj hL K) (fun _ => ?_)
  refine it_ (fun _ => lc_mean I hj hL K) (fun _ => ?_)
  refine it_ (fun _ => lc_numbers I hj hL K) (fun _ => ?_)
  refine it_ (fun _ => lc_write I hj hL K) (fun _ => ?_)
  refine it_ (fun _ => lc_lists I hj hL K) (fun _ => ?_)
  refine it_ (fun _ => lc_image I hj hL K) (fun _ => ?_)
  refine it_ (fun _ => lc_restore I hj hL K) (fun _ => ?_)
  refine it_ (fun _ => lc_count I hj hL K) (fun _ => ?_)
  refine (b_L_law_1675 (d := 69) _ _ _ _ _).2 ?_
  exact K h (LI_up I)
/-- what is left to say of the law: a run of the small machine -/
def am_law (L : Nat) (xs : Nat → Int32) : Prop := ∃ d, d ≤ 800 ∧ ex_ d 0 0 [some (v_x 20), none, none, none] [] (h_0 L xs) (fun r h' => r = some (v_i 1) ∧ h_n h' ≤ 600000 ∧ h_s h' ≤ 7302250)
theorem wx_i {h : am_H} {x : Nat × (Nat → Int32)} {a k : Nat} : h_i (wx h x) a k = h_i h a k := rfl
theorem wx_r {h : am_H} {x : Nat × (Nat → Int32)} {a k : Nat} : h_r (wx h x) a k = h_r h a k := rfl
theorem wx_n {h : am_H} {x : Nat × (Nat → Int32)} : h_n (wx h x) = h_n h := rfl
theorem wx_s {h : am_H} {x : Nat × (Nat → Int32)} : h_s (wx h x) = h_s h := rfl
theorem wx_x {h : am_H} {x : Nat × (Nat → Int32)} : h_x (wx h x) = x := rfl
theorem law_ok {L : Nat} {xs : Nat → Int32} (hL : L ≤ 3072) : am_law L xs := by
  refine ⟨69, by decide, ?_⟩
  refine st_run (d := 65) (fun h1 fr z0 => ?_)
  rw [iZ_e] at fr
  have L1 := fr.lay (lay_wx hz_lay)
  have ei : ∀ a k, ¬ a = 94 → h_i h1 a k = h_i hz_ a k := fun a k ha => (fr.i (fun z => ha z.1)).trans wx_i
  have er : ∀ a k, h_r h1 a k = h_r hz_ a k := fun a k => by rw [fr.r, wx_r]
  have I0 : LI L xs 0 h1 := ⟨S_0, ok_0, st_C L1 ei er, st_R L1 ei z0, fr.x.trans wx_x, by
    have e : h_n h1 = h_n hz_ := fr.n.trans wx_n
    have := hz_n.1
    omega, by
    have e0 : h_s h1 = h_s (wx hz_ (L, xs)) := congrArg Prod.snd fr.1
    have e : h_s h1 = h_s hz_ := e0.trans wx_s
    have := hz_n.2
    omega⟩
  refine lp_wf (d := 69) (k := 0) (pc := 18) (fun j : Nat => L + 1 - 6 * j) (fun j => [some (v_x 20), some (v_r (some 0)), some (v_r (some 93)), some (v_i (nI (6 * j)))]) (fun j h => LI L xs j h ∧ 6 * j ≤ L) ?_ (s := 0) ⟨I0, Nat.zero_le _⟩
  rintro j h ⟨I, hj⟩ nx
  have I2 := I
  obtain ⟨S, ok, C, R, hx, hn, hs⟩ := I2
  refine (b_L_law_18 (d := 69) _ _ _ _).2 ?_
  rw [hx]
  show if nI L - (6 : Int32) < nI (6 * j) then _ else _
  by_cases z : 6 * j + 6 ≤ L
  · have e : ¬ nI L - (6 : Int32) < nI (6 * j) := by
      rw [show (6 : Int32) = nI 6 from rfl, i_sub (by omega)]
      intro w
      have := (nI_ltI (by omega) (by omega)).1 w
      omega
    rw [if_neg e]
    refine law_step I z hL (fun h2 I2 => ?_)
    have e6 : nI (6 * j) + (6 : Int32) = nI (6 * (j + 1)) := by
      rw [show (6 : Int32) = nI 6 from rfl, nI_add]
      congr 1
    rw [e6]
    exact nx (j + 1) h2 (by omega) ⟨I2, by omega⟩
  · have e : nI L - (6 : Int32) < nI (6 * j) := by
      by_cases y : L < 6
      · have j0 : j = 0 := by omega
        rw [j0]
        have : ∀ l, l < 6 → nI l - (6 : Int32) < nI (6 * 0) := by decide
        exact this L y
      · rw [show (6 : Int32) = nI 6 from rfl, i_sub (by omega)]
        exact nI_lt (by omega) (by omega)
    rw [if_pos e]
    refine (b_L_law_1681 (d := 69) _ _ _ _ _).2 ?_
    exact ⟨rfl, by omega, by omega⟩
