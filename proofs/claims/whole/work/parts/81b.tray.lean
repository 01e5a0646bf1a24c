/-! ===== numbers, write, lists ===== -/
theorem c_fillL {d : Nat} {Q : Option am_V → am_H → Prop} {h : am_H} {o n : Nat} (A : y_arr h o 23 n) (hn : n < 100000) {v : Int64} {l2 l3 l4 : Option am_V} (k : ∀ h', gj h h' N0 (fun a _ => a = o) N0 → (∀ j, j < n → h_j h' o j = v) → Q none h') : ex_ d 143 0 [some (v_r (some o)), some (v_l v), l2, l3, l4] [] h Q := by
  simp (disch := first | assumption | omega | (simp only [ya_pi, ya_pj, ya_pa, ya_pr, yo_pi, yo_pj, yo_pa, yf_pi, yf_pj, yf_pa, yh_pi, yh_pj, yh_pa, yt_pi, yt_pj, yt_pa, la_pi, la_pj, la_pa]; assumption)) only [b_J7_fill_d0a16_0, b_J7_fill_d0a16_22, b_J7_fill_d0a16_12, i_lit, i_m1, i_31, il_t, il_f, iq_t, iq_f, it_t, it_f, im_e, im_l, im_g, im_g2, nI_add, pk_mul, i_sub, i_div, sdm, i_dec, i_cl, iv_t, bI_or2, bI_t0, bI_one, not_true_eq_false, not_false_eq_true, ↓reduceIte, am_tl, am_tn, am_t0, am_n0, and_true, true_and, List.cons_append, List.nil_append, List.append_nil]
  refine lp_up n (fun i (_ : Unit) => [some (v_r (some o)), some (v_l v), l2, some (v_i (nI i)), some (v_i (nI n))]) (fun i _ h' => gj h h' N0 (fun a _ => a = o) N0 ∧ ∀ j, j < i → h_j h' o j = v) ?_ ?_ (Nat.zero_le _) ⟨gj.rf, fun j hj => absurd hj (Nat.not_lt_zero _)⟩ (s := ())
  · rintro i - h1 hi ⟨g1, e1⟩ nx
    have A1 : y_arr h1 o 23 n := g1.c A
    rw [b_J7_fill_d0a16_6 _ _ _ _ _ _]
    simp (disch := first | assumption | omega | (simp only [ya_pi, ya_pj, ya_pa, ya_pr, yo_pi, yo_pj, yo_pa, yf_pi, yf_pj, yf_pa, yh_pi, yh_pj, yh_pa, yt_pi, yt_pj, yt_pa, la_pi, la_pj, la_pa]; assumption)) only [b_J7_fill_d0a16_0, b_J7_fill_d0a16_22, b_J7_fill_d0a16_12, i_lit, i_m1, i_31, il_t, il_f, iq_t, iq_f, it_t, it_f, im_e, im_l, im_g, im_g2, nI_add, pk_mul, i_sub, i_div, sdm, i_dec, i_cl, iv_t, bI_or2, bI_t0, bI_one, not_true_eq_false, not_false_eq_true, ↓reduceIte, am_tl, am_tn, am_t0, am_n0, and_true, true_and, List.cons_append, List.nil_append, List.append_nil]
    refine nx () _ ⟨g1.tr (gj_pj rfl), fun j hj => ?_⟩
    by_cases z : j = i
    · rw [z, hj_s]
    · rw [hj_o (fun w => z w.2)]
      exact e1 j (by omega)
  · rintro - h1 ⟨g1, e1⟩
    rw [b_J7_fill_d0a16_6 _ _ _ _ _ _]
    simp (disch := first | assumption | omega | (simp only [ya_pi, ya_pj, ya_pa, ya_pr, yo_pi, yo_pj, yo_pa, yf_pi, yf_pj, yf_pa, yh_pi, yh_pj, yh_pa, yt_pi, yt_pj, yt_pa, la_pi, la_pj, la_pa]; assumption)) only [b_J7_fill_d0a16_0, b_J7_fill_d0a16_22, b_J7_fill_d0a16_12, i_lit, i_m1, i_31, il_t, il_f, iq_t, iq_f, it_t, it_f, im_e, im_l, im_g, im_g2, nI_add, pk_mul, i_sub, i_div, sdm, i_dec, i_cl, iv_t, bI_or2, bI_t0, bI_one, not_true_eq_false, not_false_eq_true, ↓reduceIte, am_tl, am_tn, am_t0, am_n0, and_true, true_and, List.cons_append, List.nil_append, List.append_nil]
    exact k h1 g1 e1
def tP (t a k : Nat) : Prop := a = 85 + 2 * t
def tJ (t a k : Nat) : Prop := a = 86 + 2 * t
theorem la_n {h : am_H} (L : Lay h) {a : Nat} (ha : a < 118) : a < h_n h := Nat.lt_of_lt_of_le ha L.1
theorem N0_ref : ∀ q ∈ y_ref, ¬ N0 q.1 q.2.1 := fun _ _ z => z
theorem ty.fr {h h' : am_H} {P J R : Nat → Nat → Prop} (L : Lay h) {t : Nat} (ht : t < 4) {v : Int32 × List Int64} (T : ty h t v) (g : gj h h' P J R) (hp : ∀ k, ¬ P (85 + 2 * t) k) (hj : ∀ k, ¬ J (86 + 2 * t) k) : ty h' t v := ⟨by rw [g.i (la_n L (by omega)) (hp _)]; exact T.1, by rw [g.i (la_n L (by omega)) (hp _)]; exact T.2.1, T.2.2.1, fun k hk => by rw [g.j (la_n L (by omega)) (hj _)]; exact T.2.2.2 k hk⟩
theorem rty.fr {h h' : am_H} {P J R : Nat → Nat → Prop} (L : Lay h) {t : Nat} (ht : t < 4) {s : Int32} {v : List Int64} (T : rty h t s v) (g : gj h h' P J R) (h1 : ¬ P 115 t) (h2 : ¬ P 116 t) (hj : ∀ k, k < 40 → ¬ J 117 (40 * t + k)) : rty h' t s v := ⟨by rw [g.i (la_n L (by omega)) h1]; exact T.1, by rw [g.i (la_n L (by omega)) h2]; exact T.2.1, T.2.2.1, fun k hk => by rw [g.j (la_n L (by omega)) (hj k (Nat.lt_of_lt_of_le hk T.2.2.1))]; exact T.2.2.2 k hk⟩
theorem gdJ_rep {n k : Nat} : (List.replicate n (0 : Int64)).getD k 0 = 0 := by
  rw [List.getD_eq_getElem?_getD, List.getElem?_replicate]
  split <;> rfl
theorem gdJ_set {l : List Int64} {i k : Nat} {v : Int64} (hi : i < l.length) : (l.set i v).getD k 0 = if k = i then v else l.getD k 0 := by
  rw [List.getD_eq_getElem?_getD, List.getElem?_set]
  by_cases z : i = k
  · rw [if_pos z, if_pos (by omega), if_pos z.symm]; rfl
  · rw [if_neg z, if_neg (fun w => z w.symm), List.getD_eq_getElem?_getD]
theorem c_begin {d : Nat} {Q : Option am_V → am_H → Prop} {h : am_H} {t n : Nat} {s : Int32} (L0 : Lay h) (ht : t < 4) (hn : n ≤ 40) (k : ∀ h', gj h h' (tP t) (tJ t) N0 → ty h' t (s, List.replicate n 0) → Q none h') : ex_ (d + 1) 144 0 [some (v_r (some (85 + 2 * t))), some (v_i s), some (v_i (nI n))] [] h Q := by
  have Y := tr_y L0 ht
  have Y1 : y_Tray (p_i (p_i h (85 + 2 * t) 0 s) (85 + 2 * t) 1 (nI n)) (85 + 2 * t) := tr_y (h := p_i (p_i h (85 + 2 * t) 0 s) (85 + 2 * t) 1 (nI n)) L0 ht
  simp (disch := first | assumption | omega | (simp only [ya_pi, ya_pj, ya_pa, ya_pr, yo_pi, yo_pj, yo_pa, yf_pi, yf_pj, yf_pa, yh_pi, yh_pj, yh_pa, yt_pi, yt_pj, yt_pa, la_pi, la_pj, la_pa]; assumption)) only [b_X9_begin_0, b_X9_begin_18, i_lit, i_m1, i_31, il_t, il_f, iq_t, iq_f, it_t, it_f, im_e, im_l, im_g, im_g2, nI_add, pk_mul, i_sub, i_div, sdm, i_dec, i_cl, iv_t, bI_or2, bI_t0, bI_one, not_true_eq_false, not_false_eq_true, ↓reduceIte, am_tl, am_tn, am_t0, am_n0, and_true, true_and, List.cons_append, List.nil_append, List.append_nil]
  refine c_fillL (n := 40) (Y1.1 1 rfl) (by omega) (fun h1 g1 e1 => ?_)
  simp (disch := first | assumption | omega | (simp only [ya_pi, ya_pj, ya_pa, ya_pr, yo_pi, yo_pj, yo_pa, yf_pi, yf_pj, yf_pa, yh_pi, yh_pj, yh_pa, yt_pi, yt_pj, yt_pa, la_pi, la_pj, la_pa]; assumption)) only [b_X9_begin_0, b_X9_begin_18, i_lit, i_m1, i_31, il_t, il_f, iq_t, iq_f, it_t, it_f, im_e, im_l, im_g, im_g2, nI_add, pk_mul, i_sub, i_div, sdm, i_dec, i_cl, iv_t, bI_or2, bI_t0, bI_one, not_true_eq_false, not_false_eq_true, ↓reduceIte, am_tl, am_tn, am_t0, am_n0, and_true, true_and, List.cons_append, List.nil_append, List.append_nil]
  have L1 : Lay (p_i (p_i h (85 + 2 * t) 0 s) (85 + 2 * t) 1 (nI n)) := L0
  have g0 : gj h (p_i (p_i h (85 + 2 * t) 0 s) (85 + 2 * t) 1 (nI n)) (tP t) (tJ t) N0 := (gj_pi (P := tP t) (J := tJ t) (R := N0) rfl).tr (gj_pi rfl)
  refine k h1 (g0.tr (g1.le (fun a k z => z.elim) (fun a k z => by unfold tJ; omega) (fun a k z => z))) ⟨?_, ?_, by rw [List.length_replicate]; exact hn, fun j hj => ?_⟩
  · rw [g1.i (la_n L1 (by omega)) (fun z => z), hi_k (by omega), hi_s]
  · rw [g1.i (la_n L1 (by omega)) (fun z => z), hi_s, List.length_replicate]
  · rw [List.length_replicate] at hj
    rw [gdJ_rep, show 86 + 2 * t = 85 + 2 * t + 1 from by omega]
    exact e1 j (by omega)
def cutL (s : Int32) (x : Int64) : Int64 := if s = nI 0 then Int32.toInt64 (Int8.toInt32 (Int32.toInt8 (Int64.toInt32 x))) else if s = nI 1 then Int32.toInt64 (Int16.toInt32 (Int32.toInt16 (Int64.toInt32 x))) else if s = nI 2 then Int32.toInt64 (Int64.toInt32 x) else x
theorem c_cut {d : Nat} {Q : Option am_V → am_H → Prop} {h : am_H} {t : Nat} {s : Int32} {x : Int64} (L0 : Lay h) (ht : t < 4) (e : h_i h (85 + 2 * t) 0 = s) {l2 : Option am_V} : ex_ d 146 0 [some (v_r (some (85 + 2 * t))), some (v_l x), l2] [] h Q ↔ Q (some (v_l (cutL s x))) h := by
  have Y := tr_y L0 ht
  unfold cutL
  by_cases z0 : s = nI 0
  · simp (disch := first | assumption | omega | (simp only [ya_pi, ya_pj, ya_pa, ya_pr, yo_pi, yo_pj, yo_pa, yf_pi, yf_pj, yf_pa, yh_pi, yh_pj, yh_pa, yt_pi, yt_pj, yt_pa, la_pi, la_pj, la_pa]; assumption)) only [b_X9_cut_0, b_X9_cut_46, b_X9_cut_32, b_X9_cut_37, b_X9_cut_42, i_lit, i_m1, i_31, il_t, il_f, iq_t, iq_f, it_t, it_f, im_e, im_l, im_g, im_g2, nI_add, pk_mul, i_sub, i_div, sdm, i_dec, i_cl, iv_t, bI_or2, bI_t0, bI_one, not_true_eq_false, not_false_eq_true, ↓reduceIte, am_tl, am_tn, am_t0, am_n0, and_true, true_and, List.cons_append, List.nil_append, List.append_nil, e, z0]
  · by_cases z1 : s = nI 1
    · simp (disch := first | assumption | omega | (simp only [ya_pi, ya_pj, ya_pa, ya_pr, yo_pi, yo_pj, yo_pa, yf_pi, yf_pj, yf_pa, yh_pi, yh_pj, yh_pa, yt_pi, yt_pj, yt_pa, la_pi, la_pj, la_pa]; assumption)) only [b_X9_cut_0, b_X9_cut_46, b_X9_cut_32, b_X9_cut_37, b_X9_cut_42, i_lit, i_m1, i_31, il_t, il_f, iq_t, iq_f, it_t, it_f, im_e, im_l, im_g, im_g2, nI_add, pk_mul, i_sub, i_div, sdm, i_dec, i_cl, iv_t, bI_or2, bI_t0, bI_one, not_true_eq_false, not_false_eq_true, ↓reduceIte, am_tl, am_tn, am_t0, am_n0, and_true, true_and, List.cons_append, List.nil_append, List.append_nil, e, z1]
    · by_cases z2 : s = nI 2
      · simp (disch := first | assumption | omega | (simp only [ya_pi, ya_pj, ya_pa, ya_pr, yo_pi, yo_pj, yo_pa, yf_pi, yf_pj, yf_pa, yh_pi, yh_pj, yh_pa, yt_pi, yt_pj, yt_pa, la_pi, la_pj, la_pa]; assumption)) only [b_X9_cut_0, b_X9_cut_46, b_X9_cut_32, b_X9_cut_37, b_X9_cut_42, i_lit, i_m1, i_31, il_t, il_f, iq_t, iq_f, it_t, it_f, im_e, im_l, im_g, im_g2, nI_add, pk_mul, i_sub, i_div, sdm, i_dec, i_cl, iv_t, bI_or2, bI_t0, bI_one, not_true_eq_false, not_false_eq_true, ↓reduceIte, am_tl, am_tn, am_t0, am_n0, and_true, true_and, List.cons_append, List.nil_append, List.append_nil, e, z2]
      · simp (disch := first | assumption | omega | (simp only [ya_pi, ya_pj, ya_pa, ya_pr, yo_pi, yo_pj, yo_pa, yf_pi, yf_pj, yf_pa, yh_pi, yh_pj, yh_pa, yt_pi, yt_pj, yt_pa, la_pi, la_pj, la_pa]; assumption)) only [b_X9_cut_0, b_X9_cut_46, b_X9_cut_32, b_X9_cut_37, b_X9_cut_42, i_lit, i_m1, i_31, il_t, il_f, iq_t, iq_f, it_t, it_f, im_e, im_l, im_g, im_g2, nI_add, pk_mul, i_sub, i_div, sdm, i_dec, i_cl, iv_t, bI_or2, bI_t0, bI_one, not_true_eq_false, not_false_eq_true, ↓reduceIte, am_tl, am_tn, am_t0, am_n0, and_true, true_and, List.cons_append, List.nil_append, List.append_nil, e, z0, z1, z2]
theorem c_rCut {d : Nat} {Q : Option am_V → am_H → Prop} {h : am_H} {s : Int32} {x : Int64} {l1 : Option am_V} : ex_ d 368 0 [some (v_l x), l1, some (v_i s)] [] h Q ↔ Q (some (v_l (cutL s x))) h := by
  unfold cutL
  by_cases z0 : s = nI 0
  · simp (disch := first | assumption | omega | (simp only [ya_pi, ya_pj, ya_pa, ya_pr, yo_pi, yo_pj, yo_pa, yf_pi, yf_pj, yf_pa, yh_pi, yh_pj, yh_pa, yt_pi, yt_pj, yt_pa, la_pi, la_pj, la_pa]; assumption)) only [b_X12_cut_0, b_X12_cut_11, b_X12_cut_4, b_X12_cut_23, b_X12_cut_16, b_X12_cut_34, b_X12_cut_28, i_lit, i_m1, i_31, il_t, il_f, iq_t, iq_f, it_t, it_f, im_e, im_l, im_g, im_g2, nI_add, pk_mul, i_sub, i_div, sdm, i_dec, i_cl, iv_t, bI_or2, bI_t0, bI_one, not_true_eq_false, not_false_eq_true, ↓reduceIte, am_tl, am_tn, am_t0, am_n0, and_true, true_and, List.cons_append, List.nil_append, List.append_nil, z0]
  · by_cases z1 : s = nI 1
    · simp (disch := first | assumption | omega | (simp only [ya_pi, ya_pj, ya_pa, ya_pr, yo_pi, yo_pj, yo_pa, yf_pi, yf_pj, yf_pa, yh_pi, yh_pj, yh_pa, yt_pi, yt_pj, yt_pa, la_pi, la_pj, la_pa]; assumption)) only [b_X12_cut_0, b_X12_cut_11, b_X12_cut_4, b_X12_cut_23, b_X12_cut_16, b_X12_cut_34, b_X12_cut_28, i_lit, i_m1, i_31, il_t, il_f, iq_t, iq_f, it_t, it_f, im_e, im_l, im_g, im_g2, nI_add, pk_mul, i_sub, i_div, sdm, i_dec, i_cl, iv_t, bI_or2, bI_t0, bI_one, not_true_eq_false, not_false_eq_true, ↓reduceIte, am_tl, am_tn, am_t0, am_n0, and_true, true_and, List.cons_append, List.nil_append, List.append_nil, z1]
    · by_cases z2 : s = nI 2
      · simp (disch := first | assumption | omega | (simp only [ya_pi, ya_pj, ya_pa, ya_pr, yo_pi, yo_pj, yo_pa, yf_pi, yf_pj, yf_pa, yh_pi, yh_pj, yh_pa, yt_pi, yt_pj, yt_pa, la_pi, la_pj, la_pa]; assumption)) only [b_X12_cut_0, b_X12_cut_11, b_X12_cut_4, b_X12_cut_23, b_X12_cut_16, b_X12_cut_34, b_X12_cut_28, i_lit, i_m1, i_31, il_t, il_f, iq_t, iq_f, it_t, it_f, im_e, im_l, im_g, im_g2, nI_add, pk_mul, i_sub, i_div, sdm, i_dec, i_cl, iv_t, bI_or2, bI_t0, bI_one, not_true_eq_false, not_false_eq_true, ↓reduceIte, am_tl, am_tn, am_t0, am_n0, and_true, true_and, List.cons_append, List.nil_append, List.append_nil, z2]
      · simp (disch := first | assumption | omega | (simp only [ya_pi, ya_pj, ya_pa, ya_pr, yo_pi, yo_pj, yo_pa, yf_pi, yf_pj, yf_pa, yh_pi, yh_pj, yh_pa, yt_pi, yt_pj, yt_pa, la_pi, la_pj, la_pa]; assumption)) only [b_X12_cut_0, b_X12_cut_11, b_X12_cut_4, b_X12_cut_23, b_X12_cut_16, b_X12_cut_34, b_X12_cut_28, i_lit, i_m1, i_31, il_t, il_f, iq_t, iq_f, it_t, it_f, im_e, im_l, im_g, im_g2, nI_add, pk_mul, i_sub, i_div, sdm, i_dec, i_cl, iv_t, bI_or2, bI_t0, bI_one, not_true_eq_false, not_false_eq_true, ↓reduceIte, am_tl, am_tn, am_t0, am_n0, and_true, true_and, List.cons_append, List.nil_append, List.append_nil, z0, z1, z2]
theorem c_put {d : Nat} {Q : Option am_V → am_H → Prop} {h : am_H} {t i : Nat} {s : Int32} {x : Int64} (L0 : Lay h) (ht : t < 4) (e : h_i h (85 + 2 * t) 0 = s) (hi : i < 40) {l3 : Option am_V} : ex_ (d + 1) 147 0 [some (v_r (some (85 + 2 * t))), some (v_i (nI i)), some (v_l x), l3] [] h Q ↔ Q none (p_j h (86 + 2 * t) i (cutL s x)) := by
  have Y := tr_y L0 ht
  have A : y_arr h (85 + 2 * t + 1) 23 40 := Y.1 1 rfl
  simp (disch := first | assumption | omega | (simp only [ya_pi, ya_pj, ya_pa, ya_pr, yo_pi, yo_pj, yo_pa, yf_pi, yf_pj, yf_pa, yh_pi, yh_pj, yh_pa, yt_pi, yt_pj, yt_pa, la_pi, la_pj, la_pa]; assumption)) only [b_X9_put_0, b_X9_put_21, b_X9_put_4, b_X9_put_10, b_X9_put_20, i_lit, i_m1, i_31, il_t, il_f, iq_t, iq_f, it_t, it_f, im_e, im_l, im_g, im_g2, nI_add, pk_mul, i_sub, i_div, sdm, i_dec, i_cl, iv_t, bI_or2, bI_t0, bI_one, not_true_eq_false, not_false_eq_true, ↓reduceIte, am_tl, am_tn, am_t0, am_n0, and_true, true_and, List.cons_append, List.nil_append, List.append_nil, c_cut L0 ht e, show 86 + 2 * t = 85 + 2 * t + 1 from by omega]
theorem ty_set {h : am_H} {t i : Nat} {v : Int32 × List Int64} {x : Int64} (T : ty h t v) (hi : i < v.2.length) : ty (p_j h (86 + 2 * t) i x) t (v.1, v.2.set i x) := ⟨T.1, by dsimp only; rw [List.length_set]; exact T.2.1, by dsimp only; rw [List.length_set]; exact T.2.2.1, fun k hk => by
  dsimp only at hk ⊢
  rw [List.length_set] at hk
  rw [gdJ_set hi, h_j_pj]
  by_cases z : k = i
  · rw [if_pos ⟨rfl, z⟩, if_pos z]
  · rw [if_neg (fun w => z w.2), if_neg z]
    exact T.2.2.2 k hk⟩
theorem rty_set {h : am_H} {t i : Nat} {s : Int32} {v : List Int64} {x : Int64} (T : rty h t s v) (hi : i < v.length) : rty (p_j h 117 (40 * t + i) x) t s (v.set i x) := ⟨T.1, by rw [List.length_set]; exact T.2.1, by rw [List.length_set]; exact T.2.2.1, fun k hk => by
  rw [List.length_set] at hk
  rw [gdJ_set hi, h_j_pj]
  by_cases z : k = i
  · rw [if_pos ⟨rfl, by omega⟩, if_pos z]
  · rw [if_neg (fun w => z (by omega)), if_neg z]
    exact T.2.2.2 k hk⟩
def up_t (tr : tr_S) (t : Nat) (v : Int32 × List Int64) : tr_S := fun k => if k = t then v else tr k
def tyA (h : am_H) (tr : tr_S) : Prop := ∀ t, t < 4 → ty h t (tr t)
def rtA (h : am_H) (tr : tr_S) : Prop := ∀ t, t < 4 → rty h t (tr t).1 (tr t).2
theorem tyA.up {h h' : am_H} (L : Lay h) {tr : tr_S} (T : tyA h tr) {t : Nat} {v : Int32 × List Int64} (g : gj h h' (tP t) (tJ t) N0) (T1 : ty h' t v) : tyA h' (up_t tr t v) := by
  intro k hk
  unfold up_t
  by_cases z : k = t
  · rw [if_pos z, z]; exact T1
  · rw [if_neg z]
    exact (T k hk).fr L hk g (fun j => by unfold tP; omega) (fun j => by unfold tJ; omega)
def rP4 (t a k : Nat) : Prop := (a = 115 ∧ k = t) ∨ (a = 116 ∧ k = t) ∨ rS a k
def rJ4 (t a k : Nat) : Prop := a = 117 ∧ 40 * t ≤ k ∧ k < 40 * t + 40
theorem rtA.up {h h' : am_H} (L : Lay h) {tr : tr_S} (T : rtA h tr) {t : Nat} {v : Int32 × List Int64} (g : gj h h' (rP4 t) (rJ4 t) N0) (T1 : rty h' t v.1 v.2) : rtA h' (up_t tr t v) := by
  intro k hk
  unfold up_t
  by_cases z : k = t
  · rw [if_pos z, z]; exact T1
  · rw [if_neg z]
    exact (T k hk).fr L hk g (by unfold rP4 rS; omega) (by unfold rP4 rS; omega) (fun j hj => by unfold rJ4; omega)
def t_num (tr : tr_S) (x s n : Int32) : Int32 × tr_S := if tr_ok x ∧ tr_ok s then (if n < 0 ∨ nI 40 < n then (-3, tr) else (nI 0, up_t tr x.toNatClampNeg (s, List.replicate n.toNatClampNeg 0))) else (-2, tr)
def t_write (tr : tr_S) (x i : Int32) (v : Int64) : Int64 × tr_S := if tC tr x = nI 0 then (if ¬ i < 0 ∧ i < nI (tr x.toNatClampNeg).2.length then (cutL (tr x.toNatClampNeg).1 v, up_t tr x.toNatClampNeg ((tr x.toNatClampNeg).1, (tr x.toNatClampNeg).2.set i.toNatClampNeg (cutL (tr x.toNatClampNeg).1 v))) else (-7, tr)) else ((tC tr x).toInt64, tr)
theorem c_numbers {d : Nat} {Q : Option am_V → am_H → Prop} {h : am_H} {tr : tr_S} {x s n : Int32} (L0 : Lay h) (T : tyA h tr) (k : ∀ h', (∃ t, t < 4 ∧ gj h h' (tP t) (tJ t) N0) → tyA h' (t_num tr x s n).2 → Q (some (v_i (t_num tr x s n).1)) h') : ex_ (d + 2) 223 0 [some (v_r (some 0)), some (v_i x), some (v_i s), some (v_i n)] [] h Q := by
  unfold t_num at k
  rcases tr_cs x with ⟨t, ht, rfl⟩ | hx
  · have Y := tr_y L0 ht
    have er := tr_ref L0 ht
    rcases tr_cs s with ⟨u, hu, rfl⟩ | hs
    · rw [if_pos ⟨tr_y4 ht, tr_y4 hu⟩, nI_clamp (by omega)] at k
      by_cases z : n < 0
      · rw [if_pos (Or.inl z)] at k
        have z' : n < nI 0 := z
        simp (disch := first | assumption | omega | (simp only [ya_pi, ya_pj, ya_pa, ya_pr, yo_pi, yo_pj, yo_pa, yf_pi, yf_pj, yf_pa, yh_pi, yh_pj, yh_pa, yt_pi, yt_pj, yt_pa, la_pi, la_pj, la_pa]; assumption)) only [b_X11_numbers_0, b_X11_numbers_4, b_X11_numbers_16, b_X11_numbers_7, b_X11_numbers_11, b_X11_numbers_19, b_X11_numbers_29, b_X11_numbers_23, b_X11_numbers_32, b_X11_numbers_40, b_X11_numbers_43, i_lit, i_m1, i_31, il_t, il_f, iq_t, iq_f, it_t, it_f, im_e, im_l, im_g, im_g2, nI_add, pk_mul, i_sub, i_div, sdm, i_dec, i_cl, iv_t, bI_or2, bI_t0, bI_one, not_true_eq_false, not_false_eq_true, ↓reduceIte, am_tl, am_tn, am_t0, am_n0, and_true, true_and, List.cons_append, List.nil_append, List.append_nil, c_isTray_y ht, z']
        exact k h ⟨t, ht, gj.rf⟩ T
      · obtain ⟨n, hn, rfl⟩ := nI_of z
        by_cases y : n ≤ 40
        · rw [if_neg (fun w => w.elim z (fun w => by have := (nI_ltI (by omega) hn).1 w; omega)), nI_clamp hn] at k
          simp (disch := first | assumption | omega | (simp only [ya_pi, ya_pj, ya_pa, ya_pr, yo_pi, yo_pj, yo_pa, yf_pi, yf_pj, yf_pa, yh_pi, yh_pj, yh_pa, yt_pi, yt_pj, yt_pa, la_pi, la_pj, la_pa]; assumption)) only [b_X11_numbers_0, b_X11_numbers_4, b_X11_numbers_16, b_X11_numbers_7, b_X11_numbers_11, b_X11_numbers_19, b_X11_numbers_29, b_X11_numbers_23, b_X11_numbers_32, b_X11_numbers_40, b_X11_numbers_43, i_lit, i_m1, i_31, il_t, il_f, iq_t, iq_f, it_t, it_f, im_e, im_l, im_g, im_g2, nI_add, pk_mul, i_sub, i_div, sdm, i_dec, i_cl, iv_t, bI_or2, bI_t0, bI_one, not_true_eq_false, not_false_eq_true, ↓reduceIte, am_tl, am_tn, am_t0, am_n0, and_true, true_and, List.cons_append, List.nil_append, List.append_nil, c_isTray_y ht, er]
          refine c_begin L0 ht y (fun h1 g1 T1 => ?_)
          simp (disch := first | assumption | omega | (simp only [ya_pi, ya_pj, ya_pa, ya_pr, yo_pi, yo_pj, yo_pa, yf_pi, yf_pj, yf_pa, yh_pi, yh_pj, yh_pa, yt_pi, yt_pj, yt_pa, la_pi, la_pj, la_pa]; assumption)) only [b_X11_numbers_0, b_X11_numbers_4, b_X11_numbers_16, b_X11_numbers_7, b_X11_numbers_11, b_X11_numbers_19, b_X11_numbers_29, b_X11_numbers_23, b_X11_numbers_32, b_X11_numbers_40, b_X11_numbers_43, i_lit, i_m1, i_31, il_t, il_f, iq_t, iq_f, it_t, it_f, im_e, im_l, im_g, im_g2, nI_add, pk_mul, i_sub, i_div, sdm, i_dec, i_cl, iv_t, bI_or2, bI_t0, bI_one, not_true_eq_false, not_false_eq_true, ↓reduceIte, am_tl, am_tn, am_t0, am_n0, and_true, true_and, List.cons_append, List.nil_append, List.append_nil]
          exact k h1 ⟨t, ht, g1⟩ (T.up L0 g1 T1)
        · rw [if_pos (Or.inr (nI_lt (by omega) hn))] at k
          simp (disch := first | assumption | omega | (simp only [ya_pi, ya_pj, ya_pa, ya_pr, yo_pi, yo_pj, yo_pa, yf_pi, yf_pj, yf_pa, yh_pi, yh_pj, yh_pa, yt_pi, yt_pj, yt_pa, la_pi, la_pj, la_pa]; assumption)) only [b_X11_numbers_0, b_X11_numbers_4, b_X11_numbers_16, b_X11_numbers_7, b_X11_numbers_11, b_X11_numbers_19, b_X11_numbers_29, b_X11_numbers_23, b_X11_numbers_32, b_X11_numbers_40, b_X11_numbers_43, i_lit, i_m1, i_31, il_t, il_f, iq_t, iq_f, it_t, it_f, im_e, im_l, im_g, im_g2, nI_add, pk_mul, i_sub, i_div, sdm, i_dec, i_cl, iv_t, bI_or2, bI_t0, bI_one, not_true_eq_false, not_false_eq_true, ↓reduceIte, am_tl, am_tn, am_t0, am_n0, and_true, true_and, List.cons_append, List.nil_append, List.append_nil, c_isTray_y ht]
          exact k h ⟨t, ht, gj.rf⟩ T
    · rw [if_neg (fun z => hs z.2)] at k
      by_cases z : s < nI 0
      · simp (disch := first | assumption | omega | (simp only [ya_pi, ya_pj, ya_pa, ya_pr, yo_pi, yo_pj, yo_pa, yf_pi, yf_pj, yf_pa, yh_pi, yh_pj, yh_pa, yt_pi, yt_pj, yt_pa, la_pi, la_pj, la_pa]; assumption)) only [b_X11_numbers_0, b_X11_numbers_4, b_X11_numbers_16, b_X11_numbers_7, b_X11_numbers_11, b_X11_numbers_19, b_X11_numbers_29, b_X11_numbers_23, b_X11_numbers_32, b_X11_numbers_40, b_X11_numbers_43, i_lit, i_m1, i_31, il_t, il_f, iq_t, iq_f, it_t, it_f, im_e, im_l, im_g, im_g2, nI_add, pk_mul, i_sub, i_div, sdm, i_dec, i_cl, iv_t, bI_or2, bI_t0, bI_one, not_true_eq_false, not_false_eq_true, ↓reduceIte, am_tl, am_tn, am_t0, am_n0, and_true, true_and, List.cons_append, List.nil_append, List.append_nil, c_isTray_y ht, z]
        exact k h ⟨t, ht, gj.rf⟩ T
      · have z4 : ¬ s < nI 4 := fun w => hs ⟨z, w⟩
        simp (disch := first | assumption | omega | (simp only [ya_pi, ya_pj, ya_pa, ya_pr, yo_pi, yo_pj, yo_pa, yf_pi, yf_pj, yf_pa, yh_pi, yh_pj, yh_pa, yt_pi, yt_pj, yt_pa, la_pi, la_pj, la_pa]; assumption)) only [b_X11_numbers_0, b_X11_numbers_4, b_X11_numbers_16, b_X11_numbers_7, b_X11_numbers_11, b_X11_numbers_19, b_X11_numbers_29, b_X11_numbers_23, b_X11_numbers_32, b_X11_numbers_40, b_X11_numbers_43, i_lit, i_m1, i_31, il_t, il_f, iq_t, iq_f, it_t, it_f, im_e, im_l, im_g, im_g2, nI_add, pk_mul, i_sub, i_div, sdm, i_dec, i_cl, iv_t, bI_or2, bI_t0, bI_one, not_true_eq_false, not_false_eq_true, ↓reduceIte, am_tl, am_tn, am_t0, am_n0, and_true, true_and, List.cons_append, List.nil_append, List.append_nil, c_isTray_y ht, z, z4]
        exact k h ⟨t, ht, gj.rf⟩ T
  · rw [if_neg (fun z => hx z.1)] at k
    simp (disch := first | assumption | omega | (simp only [ya_pi, ya_pj, ya_pa, ya_pr, yo_pi, yo_pj, yo_pa, yf_pi, yf_pj, yf_pa, yh_pi, yh_pj, yh_pa, yt_pi, yt_pj, yt_pa, la_pi, la_pj, la_pa]; assumption)) only [b_X11_numbers_0, b_X11_numbers_4, b_X11_numbers_16, b_X11_numbers_7, b_X11_numbers_11, b_X11_numbers_19, b_X11_numbers_29, b_X11_numbers_23, b_X11_numbers_32, b_X11_numbers_40, b_X11_numbers_43, i_lit, i_m1, i_31, il_t, il_f, iq_t, iq_f, it_t, it_f, im_e, im_l, im_g, im_g2, nI_add, pk_mul, i_sub, i_div, sdm, i_dec, i_cl, iv_t, bI_or2, bI_t0, bI_one, not_true_eq_false, not_false_eq_true, ↓reduceIte, am_tl, am_tn, am_t0, am_n0, and_true, true_and, List.cons_append, List.nil_append, List.append_nil, c_isTray_n hx]
    exact k h ⟨0, by omega, gj.rf⟩ T
theorem nI0_6 : ¬ (-6 : Int32) = nI 0 := by decide
theorem nI0_2 : ¬ (-2 : Int32) = nI 0 := by decide
theorem c_write {d : Nat} {Q : Option am_V → am_H → Prop} {h : am_H} {tr : tr_S} {x i : Int32} {v : Int64} (L0 : Lay h) (T : tyA h tr) {l4 l5 : Option am_V} (k : ∀ h', (∃ t, t < 4 ∧ gj h h' (tP t) (tJ t) N0) → tyA h' (t_write tr x i v).2 → Q (some (v_l (t_write tr x i v).1)) h') : ex_ (d + 2) 224 0 [some (v_r (some 0)), some (v_i x), some (v_i i), some (v_l v), l4, l5] [] h Q := by
  unfold t_write at k
  rcases tr_cs x with ⟨t, ht, rfl⟩ | hx
  · have Y := tr_y L0 ht
    have er := tr_ref L0 ht
    by_cases hm : (tr t).1 = mI
    · rw [tC_m ht hm, if_neg nI0_6] at k
      simp (disch := first | assumption | omega | (simp only [ya_pi, ya_pj, ya_pa, ya_pr, yo_pi, yo_pj, yo_pa, yf_pi, yf_pj, yf_pa, yh_pi, yh_pj, yh_pa, yt_pi, yt_pj, yt_pa, la_pi, la_pj, la_pa]; assumption)) only [b_X11_write_0, b_X11_write_5, b_X11_write_16, b_X11_write_12, b_X11_write_33, b_X11_write_20, b_X11_write_27, b_X11_write_37, b_X11_write_45, b_X11_write_48, b_X11_write_55, b_X11_write_58, i_lit, i_m1, i_31, il_t, il_f, iq_t, iq_f, it_t, it_f, im_e, im_l, im_g, im_g2, nI_add, pk_mul, i_sub, i_div, sdm, i_dec, i_cl, iv_t, bI_or2, bI_t0, bI_one, not_true_eq_false, not_false_eq_true, ↓reduceIte, am_tl, am_tn, am_t0, am_n0, and_true, true_and, List.cons_append, List.nil_append, List.append_nil, c_trayCode L0 T, tC_m ht hm, nI0_6]
      exact k h ⟨0, by omega, gj.rf⟩ T
    · rw [tC_y ht hm, if_pos rfl, nI_clamp (by omega)] at k
      have T1 := T t ht
      have e1 := T1.2.1
      have l40 := T1.2.2.1
      by_cases z : i < 0
      · rw [if_neg (fun w => w.1 z)] at k
        have z' : i < nI 0 := z
        simp (disch := first | assumption | omega | (simp only [ya_pi, ya_pj, ya_pa, ya_pr, yo_pi, yo_pj, yo_pa, yf_pi, yf_pj, yf_pa, yh_pi, yh_pj, yh_pa, yt_pi, yt_pj, yt_pa, la_pi, la_pj, la_pa]; assumption)) only [b_X11_write_0, b_X11_write_5, b_X11_write_16, b_X11_write_12, b_X11_write_33, b_X11_write_20, b_X11_write_27, b_X11_write_37, b_X11_write_45, b_X11_write_48, b_X11_write_55, b_X11_write_58, i_lit, i_m1, i_31, il_t, il_f, iq_t, iq_f, it_t, it_f, im_e, im_l, im_g, im_g2, nI_add, pk_mul, i_sub, i_div, sdm, i_dec, i_cl, iv_t, bI_or2, bI_t0, bI_one, not_true_eq_false, not_false_eq_true, ↓reduceIte, am_tl, am_tn, am_t0, am_n0, and_true, true_and, List.cons_append, List.nil_append, List.append_nil, c_trayCode L0 T, tC_y ht hm, z']
        exact k h ⟨0, by omega, gj.rf⟩ T
      · obtain ⟨i, hi, rfl⟩ := nI_of z
        by_cases y : i < (tr t).2.length
        · rw [if_pos ⟨z, nI_lt y (by omega)⟩, nI_clamp (by omega)] at k
          have g1 : gj h (p_j h (86 + 2 * t) i (cutL (tr t).1 v)) (tP t) (tJ t) N0 := gj_pj rfl
          have T2 := ty_set (x := cutL (tr t).1 v) T1 y
          have Y2 := tr_y (h := p_j h (86 + 2 * t) i (cutL (tr t).1 v)) L0 ht
          have L2 : Lay (p_j h (86 + 2 * t) i (cutL (tr t).1 v)) := L0
          have ca := fun {d} {Q} => c_tAt (d := d) (Q := Q) (k := i) L2 ht T2 (by dsimp only; rw [List.length_set]; exact y)
          dsimp only at ca
          rw [gdJ_set y, if_pos rfl] at ca
          simp (disch := first | assumption | omega | (simp only [ya_pi, ya_pj, ya_pa, ya_pr, yo_pi, yo_pj, yo_pa, yf_pi, yf_pj, yf_pa, yh_pi, yh_pj, yh_pa, yt_pi, yt_pj, yt_pa, la_pi, la_pj, la_pa]; assumption)) only [b_X11_write_0, b_X11_write_5, b_X11_write_16, b_X11_write_12, b_X11_write_33, b_X11_write_20, b_X11_write_27, b_X11_write_37, b_X11_write_45, b_X11_write_48, b_X11_write_55, b_X11_write_58, i_lit, i_m1, i_31, il_t, il_f, iq_t, iq_f, it_t, it_f, im_e, im_l, im_g, im_g2, nI_add, pk_mul, i_sub, i_div, sdm, i_dec, i_cl, iv_t, bI_or2, bI_t0, bI_one, not_true_eq_false, not_false_eq_true, ↓reduceIte, am_tl, am_tn, am_t0, am_n0, and_true, true_and, List.cons_append, List.nil_append, List.append_nil, c_trayCode L0 T, tC_y ht hm, er, e1, c_put L0 ht T1.1 (show i < 40 by omega), hr_pj, ca]
          exact k _ ⟨t, ht, g1⟩ (T.up L0 g1 T2)
        · rw [if_neg (fun w => y ((nI_ltI hi (by omega)).1 w.2))] at k
          simp (disch := first | assumption | omega | (simp only [ya_pi, ya_pj, ya_pa, ya_pr, yo_pi, yo_pj, yo_pa, yf_pi, yf_pj, yf_pa, yh_pi, yh_pj, yh_pa, yt_pi, yt_pj, yt_pa, la_pi, la_pj, la_pa]; assumption)) only [b_X11_write_0, b_X11_write_5, b_X11_write_16, b_X11_write_12, b_X11_write_33, b_X11_write_20, b_X11_write_27, b_X11_write_37, b_X11_write_45, b_X11_write_48, b_X11_write_55, b_X11_write_58, i_lit, i_m1, i_31, il_t, il_f, iq_t, iq_f, it_t, it_f, im_e, im_l, im_g, im_g2, nI_add, pk_mul, i_sub, i_div, sdm, i_dec, i_cl, iv_t, bI_or2, bI_t0, bI_one, not_true_eq_false, not_false_eq_true, ↓reduceIte, am_tl, am_tn, am_t0, am_n0, and_true, true_and, List.cons_append, List.nil_append, List.append_nil, c_trayCode L0 T, tC_y ht hm, er, e1]
          exact k h ⟨0, by omega, gj.rf⟩ T
  · rw [tC_n hx, if_neg nI0_2] at k
    simp (disch := first | assumption | omega | (simp only [ya_pi, ya_pj, ya_pa, ya_pr, yo_pi, yo_pj, yo_pa, yf_pi, yf_pj, yf_pa, yh_pi, yh_pj, yh_pa, yt_pi, yt_pj, yt_pa, la_pi, la_pj, la_pa]; assumption)) only [b_X11_write_0, b_X11_write_5, b_X11_write_16, b_X11_write_12, b_X11_write_33, b_X11_write_20, b_X11_write_27, b_X11_write_37, b_X11_write_45, b_X11_write_48, b_X11_write_55, b_X11_write_58, i_lit, i_m1, i_31, il_t, il_f, iq_t, iq_f, it_t, it_f, im_e, im_l, im_g, im_g2, nI_add, pk_mul, i_sub, i_div, sdm, i_dec, i_cl, iv_t, bI_or2, bI_t0, bI_one, not_true_eq_false, not_false_eq_true, ↓reduceIte, am_tl, am_tn, am_t0, am_n0, and_true, true_and, List.cons_append, List.nil_append, List.append_nil, c_trayCode L0 T, tC_n hx, nI0_2]
    exact k h ⟨0, by omega, gj.rf⟩ T
