/-! ===== the reference reads laws: both, truths ===== -/
theorem c_rBoth {e n : Nat} {tx : List Nat} {ts : List (Nat × Nat)} {sy : Bool} (G : gT ts) (hn : n ≤ 6) (he : 6 ≤ e) (CE : rRd 252 [some (v_r (some 93)), some (v_i (nI (6 - n))), none] e (pU ts sy (lo ts sy n)) tx ts sy) : rRd 247 [some (v_r (some 93)), some (v_i (nI (6 - n)))] (e + 1) (pH ts sy (lo ts sy n)) tx ts sy := by
  obtain ⟨d, rfl⟩ : ∃ d, e = d + 6 := ⟨e - 6, by omega⟩
  have k34 : kT 15 = 216 := by decide
  refine r_rows (q := qA) (f := pU ts sy (lo ts sy n)) G (fun _ => [some (v_r (some 93)), some (v_i (nI (6 - n)))]) _ (fun _ => rfl) (fun j hj => g_pU G (g_lo G n) hj) (fun j hj z => gR_pos (g_pU G (g_lo G n) hj) (by omega) z) (fun t c h => ?_) CE ?_ ?_ ?_ ?_
  · unfold qA at h
    split at h
    · omega
    · cases h
  · intro l h Q a j X k
    have L := X.1
    rw [b_X12_readBoth_5 _ _ L]
    simp (disch := first | assumption | omega | (simp only [ya_pi, ya_pj, ya_pa, ya_pr, yo_pi, yo_pj, yo_pa, yf_pi, yf_pj, yf_pa, yh_pi, yh_pj, yh_pa, yt_pi, yt_pj, yt_pa, la_pi, la_pj, la_pa]; assumption)) only [b_X12_readBoth_11, b_X12_readBoth_29, i_lit, i_m1, i_31, il_t, il_f, iq_t, iq_f, it_t, it_f, im_e, im_l, im_g, im_g2, nI_add, pk_mul, i_sub, i_div, sdm, i_dec, i_cl, iv_t, bI_or2, bI_t0, bI_one, not_true_eq_false, not_false_eq_true, ↓reduceIte, am_tl, am_tn, am_t0, am_n0, and_true, true_and, List.cons_append, List.nil_append, List.append_nil, c_eatsX X]
    exact k
  · intro l h Q i cs S w k
    have L := S.1.1
    unfold qA at w
    have a1 : ¬ tK ts i = 216 := fun a => by rw [if_pos a] at w; cases w
    have n := fun Q => c_eats_n (d := d + 5) (Q := Q) (k := 15) S.1 S.2.2.2 (by decide) (by decide) (by rw [k34]; exact a1)
    rw [b_X12_readBoth_5 _ _ L]
    simp (disch := first | assumption | omega | (simp only [ya_pi, ya_pj, ya_pa, ya_pr, yo_pi, yo_pj, yo_pa, yf_pi, yf_pj, yf_pa, yh_pi, yh_pj, yh_pa, yt_pi, yt_pj, yt_pa, la_pi, la_pj, la_pa]; assumption)) only [b_X12_readBoth_11, b_X12_readBoth_29, i_lit, i_m1, i_31, il_t, il_f, iq_t, iq_f, it_t, it_f, im_e, im_l, im_g, im_g2, nI_add, pk_mul, i_sub, i_div, sdm, i_dec, i_cl, iv_t, bI_or2, bI_t0, bI_one, not_true_eq_false, not_false_eq_true, ↓reduceIte, am_tl, am_tn, am_t0, am_n0, and_true, true_and, List.cons_append, List.nil_append, List.append_nil, n]
    exact k
  · intro l h Q i cs c S w X
    have L := S.1.1
    unfold qA at w
    by_cases a1 : tK ts i = 216
    · rw [if_pos a1] at w
      cases w
      rw [b_X12_readBoth_5 _ _ L]
      refine c_eats_y (d := d) (k := 15) S.1 S.2.2.2 (by decide) (by decide) (by rw [k34]; exact a1) (fun h1 fr1 R1 => ?_)
      have L1 := R1.1
      simp (disch := first | assumption | omega | (simp only [ya_pi, ya_pj, ya_pa, ya_pr, yo_pi, yo_pj, yo_pa, yf_pi, yf_pj, yf_pa, yh_pi, yh_pj, yh_pa, yt_pi, yt_pj, yt_pa, la_pi, la_pj, la_pa]; assumption)) only [b_X12_readBoth_11, b_X12_readBoth_14, i_lit, i_m1, i_31, il_t, il_f, iq_t, iq_f, it_t, it_f, im_e, im_l, im_g, im_g2, nI_add, pk_mul, i_sub, i_div, sdm, i_dec, i_cl, iv_t, bI_or2, bI_t0, bI_one, not_true_eq_false, not_false_eq_true, ↓reduceIte, am_tl, am_tn, am_t0, am_n0, and_true, true_and, List.cons_append, List.nil_append, List.append_nil]
      refine (X h1 fr1 R1).mono ?_
      rintro r h2 ⟨rfl, L2, Y⟩
      simp (disch := first | assumption | omega | (simp only [ya_pi, ya_pj, ya_pa, ya_pr, yo_pi, yo_pj, yo_pa, yf_pi, yf_pj, yf_pa, yh_pi, yh_pj, yh_pa, yt_pi, yt_pj, yt_pa, la_pi, la_pj, la_pa]; assumption)) only [b_X12_readBoth_19, i_lit, i_m1, i_31, il_t, il_f, iq_t, iq_f, it_t, it_f, im_e, im_l, im_g, im_g2, nI_add, pk_mul, i_sub, i_div, sdm, i_dec, i_cl, iv_t, bI_or2, bI_t0, bI_one, not_true_eq_false, not_false_eq_true, ↓reduceIte, am_tl, am_tn, am_t0, am_n0, and_true, true_and, List.cons_append, List.nil_append, List.append_nil]
      refine Y.mono ?_
      rintro r h3 ⟨rfl, L3, Z⟩
      simp (disch := first | assumption | omega | (simp only [ya_pi, ya_pj, ya_pa, ya_pr, yo_pi, yo_pj, yo_pa, yf_pi, yf_pj, yf_pa, yh_pi, yh_pj, yh_pa, yt_pi, yt_pj, yt_pa, la_pi, la_pj, la_pa]; assumption)) only [b_X12_readBoth_26, i_lit, i_m1, i_31, il_t, il_f, iq_t, iq_f, it_t, it_f, im_e, im_l, im_g, im_g2, nI_add, pk_mul, i_sub, i_div, sdm, i_dec, i_cl, iv_t, bI_or2, bI_t0, bI_one, not_true_eq_false, not_false_eq_true, ↓reduceIte, am_tl, am_tn, am_t0, am_n0, and_true, true_and, List.cons_append, List.nil_append, List.append_nil]
      exact Z none
    · rw [if_neg a1] at w; cases w
  · intro h Q L X
    simp (disch := first | assumption | omega | (simp only [ya_pi, ya_pj, ya_pa, ya_pr, yo_pi, yo_pj, yo_pa, yf_pi, yf_pj, yf_pa, yh_pi, yh_pj, yh_pa, yt_pi, yt_pj, yt_pa, la_pi, la_pj, la_pa]; assumption)) only [b_X12_readBoth_0, i_lit, i_m1, i_31, il_t, il_f, iq_t, iq_f, it_t, it_f, im_e, im_l, im_g, im_g2, nI_add, pk_mul, i_sub, i_div, sdm, i_dec, i_cl, iv_t, bI_or2, bI_t0, bI_one, not_true_eq_false, not_false_eq_true, ↓reduceIte, am_tl, am_tn, am_t0, am_n0, and_true, true_and, List.cons_append, List.nil_append, List.append_nil]
    refine X.mono ?_
    rintro r h2 ⟨rfl, Y⟩
    exact Y
theorem c_rTruth {e n : Nat} {tx : List Nat} {ts : List (Nat × Nat)} {sy : Bool} (G : gT ts) (hn : n ≤ 6) (he : 6 ≤ e) (CE : rRd 247 [some (v_r (some 93)), some (v_i (nI (6 - n)))] e (pH ts sy (lo ts sy n)) tx ts sy) : rRd 251 [some (v_r (some 93)), some (v_i (nI (6 - n)))] (e + 1) (pTr ts sy (lo ts sy n)) tx ts sy := by
  obtain ⟨d, rfl⟩ : ∃ d, e = d + 6 := ⟨e - 6, by omega⟩
  have k34 : kT 16 = 215 := by decide
  refine r_rows (q := qO) (f := pH ts sy (lo ts sy n)) G (fun _ => [some (v_r (some 93)), some (v_i (nI (6 - n)))]) _ (fun _ => rfl) (fun j hj => g_pH G (g_lo G n) hj) (fun j hj z => gR_pos (g_pH G (g_lo G n) hj) (by omega) z) (fun t c h => ?_) CE ?_ ?_ ?_ ?_
  · unfold qO at h
    split at h
    · omega
    · cases h
  · intro l h Q a j X k
    have L := X.1
    rw [b_X12_readTruth_5 _ _ L]
    simp (disch := first | assumption | omega | (simp only [ya_pi, ya_pj, ya_pa, ya_pr, yo_pi, yo_pj, yo_pa, yf_pi, yf_pj, yf_pa, yh_pi, yh_pj, yh_pa, yt_pi, yt_pj, yt_pa, la_pi, la_pj, la_pa]; assumption)) only [b_X12_readTruth_11, b_X12_readTruth_29, i_lit, i_m1, i_31, il_t, il_f, iq_t, iq_f, it_t, it_f, im_e, im_l, im_g, im_g2, nI_add, pk_mul, i_sub, i_div, sdm, i_dec, i_cl, iv_t, bI_or2, bI_t0, bI_one, not_true_eq_false, not_false_eq_true, ↓reduceIte, am_tl, am_tn, am_t0, am_n0, and_true, true_and, List.cons_append, List.nil_append, List.append_nil, c_eatsX X]
    exact k
  · intro l h Q i cs S w k
    have L := S.1.1
    unfold qO at w
    have a1 : ¬ tK ts i = 215 := fun a => by rw [if_pos a] at w; cases w
    have n := fun Q => c_eats_n (d := d + 5) (Q := Q) (k := 16) S.1 S.2.2.2 (by decide) (by decide) (by rw [k34]; exact a1)
    rw [b_X12_readTruth_5 _ _ L]
    simp (disch := first | assumption | omega | (simp only [ya_pi, ya_pj, ya_pa, ya_pr, yo_pi, yo_pj, yo_pa, yf_pi, yf_pj, yf_pa, yh_pi, yh_pj, yh_pa, yt_pi, yt_pj, yt_pa, la_pi, la_pj, la_pa]; assumption)) only [b_X12_readTruth_11, b_X12_readTruth_29, i_lit, i_m1, i_31, il_t, il_f, iq_t, iq_f, it_t, it_f, im_e, im_l, im_g, im_g2, nI_add, pk_mul, i_sub, i_div, sdm, i_dec, i_cl, iv_t, bI_or2, bI_t0, bI_one, not_true_eq_false, not_false_eq_true, ↓reduceIte, am_tl, am_tn, am_t0, am_n0, and_true, true_and, List.cons_append, List.nil_append, List.append_nil, n]
    exact k
  · intro l h Q i cs c S w X
    have L := S.1.1
    unfold qO at w
    by_cases a1 : tK ts i = 215
    · rw [if_pos a1] at w
      cases w
      rw [b_X12_readTruth_5 _ _ L]
      refine c_eats_y (d := d) (k := 16) S.1 S.2.2.2 (by decide) (by decide) (by rw [k34]; exact a1) (fun h1 fr1 R1 => ?_)
      have L1 := R1.1
      simp (disch := first | assumption | omega | (simp only [ya_pi, ya_pj, ya_pa, ya_pr, yo_pi, yo_pj, yo_pa, yf_pi, yf_pj, yf_pa, yh_pi, yh_pj, yh_pa, yt_pi, yt_pj, yt_pa, la_pi, la_pj, la_pa]; assumption)) only [b_X12_readTruth_11, b_X12_readTruth_14, i_lit, i_m1, i_31, il_t, il_f, iq_t, iq_f, it_t, it_f, im_e, im_l, im_g, im_g2, nI_add, pk_mul, i_sub, i_div, sdm, i_dec, i_cl, iv_t, bI_or2, bI_t0, bI_one, not_true_eq_false, not_false_eq_true, ↓reduceIte, am_tl, am_tn, am_t0, am_n0, and_true, true_and, List.cons_append, List.nil_append, List.append_nil]
      refine (X h1 fr1 R1).mono ?_
      rintro r h2 ⟨rfl, L2, Y⟩
      simp (disch := first | assumption | omega | (simp only [ya_pi, ya_pj, ya_pa, ya_pr, yo_pi, yo_pj, yo_pa, yf_pi, yf_pj, yf_pa, yh_pi, yh_pj, yh_pa, yt_pi, yt_pj, yt_pa, la_pi, la_pj, la_pa]; assumption)) only [b_X12_readTruth_19, i_lit, i_m1, i_31, il_t, il_f, iq_t, iq_f, it_t, it_f, im_e, im_l, im_g, im_g2, nI_add, pk_mul, i_sub, i_div, sdm, i_dec, i_cl, iv_t, bI_or2, bI_t0, bI_one, not_true_eq_false, not_false_eq_true, ↓reduceIte, am_tl, am_tn, am_t0, am_n0, and_true, true_and, List.cons_append, List.nil_append, List.append_nil]
      refine Y.mono ?_
      rintro r h3 ⟨rfl, L3, Z⟩
      simp (disch := first | assumption | omega | (simp only [ya_pi, ya_pj, ya_pa, ya_pr, yo_pi, yo_pj, yo_pa, yf_pi, yf_pj, yf_pa, yh_pi, yh_pj, yh_pa, yt_pi, yt_pj, yt_pa, la_pi, la_pj, la_pa]; assumption)) only [b_X12_readTruth_26, i_lit, i_m1, i_31, il_t, il_f, iq_t, iq_f, it_t, it_f, im_e, im_l, im_g, im_g2, nI_add, pk_mul, i_sub, i_div, sdm, i_dec, i_cl, iv_t, bI_or2, bI_t0, bI_one, not_true_eq_false, not_false_eq_true, ↓reduceIte, am_tl, am_tn, am_t0, am_n0, and_true, true_and, List.cons_append, List.nil_append, List.append_nil]
      exact Z none
    · rw [if_neg a1] at w; cases w
  · intro h Q L X
    simp (disch := first | assumption | omega | (simp only [ya_pi, ya_pj, ya_pa, ya_pr, yo_pi, yo_pj, yo_pa, yf_pi, yf_pj, yf_pa, yh_pi, yh_pj, yh_pa, yt_pi, yt_pj, yt_pa, la_pi, la_pj, la_pa]; assumption)) only [b_X12_readTruth_0, i_lit, i_m1, i_31, il_t, il_f, iq_t, iq_f, it_t, it_f, im_e, im_l, im_g, im_g2, nI_add, pk_mul, i_sub, i_div, sdm, i_dec, i_cl, iv_t, bI_or2, bI_t0, bI_one, not_true_eq_false, not_false_eq_true, ↓reduceIte, am_tl, am_tn, am_t0, am_n0, and_true, true_and, List.cons_append, List.nil_append, List.append_nil]
    refine X.mono ?_
    rintro r h2 ⟨rfl, Y⟩
    exact Y
