/-! ===== the reference reads laws: sums ===== -/
theorem c_rSum {e n : Nat} {tx : List Nat} {ts : List (Nat × Nat)} {sy : Bool} (G : gT ts) (hn : n ≤ 6) (he : 6 ≤ e) (CE : rRd 250 [some (v_r (some 93)), some (v_i (nI (6 - n)))] e (pM ts sy (lo ts sy n)) tx ts sy) : rRd 249 [some (v_r (some 93)), some (v_i (nI (6 - n))), none] (e + 1) (pS ts sy (lo ts sy n)) tx ts sy := by
  obtain ⟨d, rfl⟩ : ∃ d, e = d + 6 := ⟨e - 6, by omega⟩
  have k32 : kT 32 = 43 ∧ kT 33 = 45 := by decide
  refine r_rows (q := qS) (f := pM ts sy (lo ts sy n)) G (fun l => [some (v_r (some 93)), some (v_i (nI (6 - n))), l]) _ (fun _ => rfl) (fun j hj => g_pM G (g_lo G n) hj) (fun j hj z => gR_pos (g_pM G (g_lo G n) hj) (by omega) z) (fun t c h => ?_) CE ?_ ?_ ?_ ?_
  · unfold qS at h
    split at h
    · omega
    · split at h
      · omega
      · cases h
  · intro l h Q a j X k
    have L := X.1
    rw [b_X12_readSum_5 _ _ _ L]
    simp (disch := first | assumption | omega | (simp only [ya_pi, ya_pj, ya_pa, ya_pr, yo_pi, yo_pj, yo_pa, yf_pi, yf_pj, yf_pa, yh_pi, yh_pj, yh_pa, yt_pi, yt_pj, yt_pa, la_pi, la_pj, la_pa]; assumption)) only [b_X12_readSum_11, b_X12_readSum_14, b_X12_readSum_20, b_X12_readSum_59, i_lit, i_m1, i_31, il_t, il_f, iq_t, iq_f, it_t, it_f, im_e, im_l, im_g, im_g2, nI_add, pk_mul, i_sub, i_div, sdm, i_dec, i_cl, iv_t, bI_or2, bI_t0, bI_one, not_true_eq_false, not_false_eq_true, ↓reduceIte, am_tl, am_tn, am_t0, am_n0, and_true, true_and, List.cons_append, List.nil_append, List.append_nil, c_isX X]
    exact k
  · intro l h Q i cs S w k
    have L := S.1.1
    unfold qS at w
    have a1 : ¬ tK ts i = 43 := fun a => by rw [if_pos a] at w; cases w
    have a2 : ¬ tK ts i = 45 := fun a => by rw [if_neg a1, if_pos a] at w; cases w
    have b1 : ¬ rk (tK ts i) = 32 := fun u => a1 (by rw [← k32.1]; exact (rk_k (by decide) (by decide)).1 u)
    have b2 : ¬ rk (tK ts i) = 33 := fun u => a2 (by rw [← k32.2]; exact (rk_k (by decide) (by decide)).1 u)
    have i1 := fun k (hk : k < 100) Q => c_is (d := d + 6) (Q := Q) (k := k) S.1 S.2.2.2 hk
    have i32 := i1 32 (by decide)
    have i33 := i1 33 (by decide)
    rw [if_neg b1] at i32
    rw [if_neg b2] at i33
    rw [b_X12_readSum_5 _ _ _ L]
    simp (disch := first | assumption | omega | (simp only [ya_pi, ya_pj, ya_pa, ya_pr, yo_pi, yo_pj, yo_pa, yf_pi, yf_pj, yf_pa, yh_pi, yh_pj, yh_pa, yt_pi, yt_pj, yt_pa, la_pi, la_pj, la_pa]; assumption)) only [b_X12_readSum_11, b_X12_readSum_14, b_X12_readSum_20, b_X12_readSum_59, i_lit, i_m1, i_31, il_t, il_f, iq_t, iq_f, it_t, it_f, im_e, im_l, im_g, im_g2, nI_add, pk_mul, i_sub, i_div, sdm, i_dec, i_cl, iv_t, bI_or2, bI_t0, bI_one, not_true_eq_false, not_false_eq_true, ↓reduceIte, am_tl, am_tn, am_t0, am_n0, and_true, true_and, List.cons_append, List.nil_append, List.append_nil, i32, i33]
    exact k
  · intro l h Q i cs c S w X
    have L := S.1.1
    have e9 := S.1.2.2.2.1
    unfold qS at w
    have i1 := fun k (hk : k < 100) Q => c_is (d := d + 6) (Q := Q) (k := k) S.1 S.2.2.2 hk
    have i32 := i1 32 (by decide)
    have i33 := i1 33 (by decide)
    by_cases a1 : tK ts i = 43
    · rw [if_pos a1] at w
      cases w
      have b1 : rk (tK ts i) = 32 := (rk_k (by decide) (by decide)).2 (by rw [k32.1]; exact a1)
      rw [if_pos b1] at i32
      rw [b1] at e9
      rw [b_X12_readSum_5 _ _ _ L]
      simp (disch := first | assumption | omega | (simp only [ya_pi, ya_pj, ya_pa, ya_pr, yo_pi, yo_pj, yo_pa, yf_pi, yf_pj, yf_pa, yh_pi, yh_pj, yh_pa, yt_pi, yt_pj, yt_pa, la_pi, la_pj, la_pa]; assumption)) only [b_X12_readSum_11, b_X12_readSum_23, b_X12_readSum_32, i_lit, i_m1, i_31, il_t, il_f, iq_t, iq_f, it_t, it_f, im_e, im_l, im_g, im_g2, nI_add, pk_mul, i_sub, i_div, sdm, i_dec, i_cl, iv_t, bI_or2, bI_t0, bI_one, not_true_eq_false, not_false_eq_true, ↓reduceIte, am_tl, am_tn, am_t0, am_n0, and_true, true_and, List.cons_append, List.nil_append, List.append_nil, i32, e9]
      refine S.1.next (by omega) (by omega) (fun h1 fr1 R1 => ?_)
      have L1 := R1.1
      simp (disch := first | assumption | omega | (simp only [ya_pi, ya_pj, ya_pa, ya_pr, yo_pi, yo_pj, yo_pa, yf_pi, yf_pj, yf_pa, yh_pi, yh_pj, yh_pa, yt_pi, yt_pj, yt_pa, la_pi, la_pj, la_pa]; assumption)) only [b_X12_readSum_46, i_lit, i_m1, i_31, il_t, il_f, iq_t, iq_f, it_t, it_f, im_e, im_l, im_g, im_g2, nI_add, pk_mul, i_sub, i_div, sdm, i_dec, i_cl, iv_t, bI_or2, bI_t0, bI_one, not_true_eq_false, not_false_eq_true, ↓reduceIte, am_tl, am_tn, am_t0, am_n0, and_true, true_and, List.cons_append, List.nil_append, List.append_nil]
      refine (X h1 fr1 R1).mono ?_
      rintro r h2 ⟨rfl, L2, Y⟩
      simp (disch := first | assumption | omega | (simp only [ya_pi, ya_pj, ya_pa, ya_pr, yo_pi, yo_pj, yo_pa, yf_pi, yf_pj, yf_pa, yh_pi, yh_pj, yh_pa, yt_pi, yt_pj, yt_pa, la_pi, la_pj, la_pa]; assumption)) only [b_X12_readSum_51, i_lit, i_m1, i_31, il_t, il_f, iq_t, iq_f, it_t, it_f, im_e, im_l, im_g, im_g2, nI_add, pk_mul, i_sub, i_div, sdm, i_dec, i_cl, iv_t, bI_or2, bI_t0, bI_one, not_true_eq_false, not_false_eq_true, ↓reduceIte, am_tl, am_tn, am_t0, am_n0, and_true, true_and, List.cons_append, List.nil_append, List.append_nil]
      refine Y.mono ?_
      rintro r h3 ⟨rfl, L3, Z⟩
      simp (disch := first | assumption | omega | (simp only [ya_pi, ya_pj, ya_pa, ya_pr, yo_pi, yo_pj, yo_pa, yf_pi, yf_pj, yf_pa, yh_pi, yh_pj, yh_pa, yt_pi, yt_pj, yt_pa, la_pi, la_pj, la_pa]; assumption)) only [b_X12_readSum_56, i_lit, i_m1, i_31, il_t, il_f, iq_t, iq_f, it_t, it_f, im_e, im_l, im_g, im_g2, nI_add, pk_mul, i_sub, i_div, sdm, i_dec, i_cl, iv_t, bI_or2, bI_t0, bI_one, not_true_eq_false, not_false_eq_true, ↓reduceIte, am_tl, am_tn, am_t0, am_n0, and_true, true_and, List.cons_append, List.nil_append, List.append_nil]
      exact Z _
    · rw [if_neg a1] at w
      by_cases a2 : tK ts i = 45
      · rw [if_pos a2] at w
        cases w
        have b2 : rk (tK ts i) = 33 := (rk_k (by decide) (by decide)).2 (by rw [k32.2]; exact a2)
        rw [b2] at i32 i33 e9
        rw [if_neg (by decide)] at i32
        rw [if_pos rfl] at i33
        rw [b_X12_readSum_5 _ _ _ L]
        simp (disch := first | assumption | omega | (simp only [ya_pi, ya_pj, ya_pa, ya_pr, yo_pi, yo_pj, yo_pa, yf_pi, yf_pj, yf_pa, yh_pi, yh_pj, yh_pa, yt_pi, yt_pj, yt_pa, la_pi, la_pj, la_pa]; assumption)) only [b_X12_readSum_11, b_X12_readSum_14, b_X12_readSum_20, b_X12_readSum_23, b_X12_readSum_38, i_lit, i_m1, i_31, il_t, il_f, iq_t, iq_f, it_t, it_f, im_e, im_l, im_g, im_g2, nI_add, pk_mul, i_sub, i_div, sdm, i_dec, i_cl, iv_t, bI_or2, bI_t0, bI_one, not_true_eq_false, not_false_eq_true, ↓reduceIte, am_tl, am_tn, am_t0, am_n0, and_true, true_and, List.cons_append, List.nil_append, List.append_nil, i32, i33, e9]
        refine S.1.next (by omega) (by omega) (fun h1 fr1 R1 => ?_)
        have L1 := R1.1
        simp (disch := first | assumption | omega | (simp only [ya_pi, ya_pj, ya_pa, ya_pr, yo_pi, yo_pj, yo_pa, yf_pi, yf_pj, yf_pa, yh_pi, yh_pj, yh_pa, yt_pi, yt_pj, yt_pa, la_pi, la_pj, la_pa]; assumption)) only [b_X12_readSum_46, i_lit, i_m1, i_31, il_t, il_f, iq_t, iq_f, it_t, it_f, im_e, im_l, im_g, im_g2, nI_add, pk_mul, i_sub, i_div, sdm, i_dec, i_cl, iv_t, bI_or2, bI_t0, bI_one, not_true_eq_false, not_false_eq_true, ↓reduceIte, am_tl, am_tn, am_t0, am_n0, and_true, true_and, List.cons_append, List.nil_append, List.append_nil]
        refine (X h1 fr1 R1).mono ?_
        rintro r h2 ⟨rfl, L2, Y⟩
        simp (disch := first | assumption | omega | (simp only [ya_pi, ya_pj, ya_pa, ya_pr, yo_pi, yo_pj, yo_pa, yf_pi, yf_pj, yf_pa, yh_pi, yh_pj, yh_pa, yt_pi, yt_pj, yt_pa, la_pi, la_pj, la_pa]; assumption)) only [b_X12_readSum_51, i_lit, i_m1, i_31, il_t, il_f, iq_t, iq_f, it_t, it_f, im_e, im_l, im_g, im_g2, nI_add, pk_mul, i_sub, i_div, sdm, i_dec, i_cl, iv_t, bI_or2, bI_t0, bI_one, not_true_eq_false, not_false_eq_true, ↓reduceIte, am_tl, am_tn, am_t0, am_n0, and_true, true_and, List.cons_append, List.nil_append, List.append_nil]
        refine Y.mono ?_
        rintro r h3 ⟨rfl, L3, Z⟩
        simp (disch := first | assumption | omega | (simp only [ya_pi, ya_pj, ya_pa, ya_pr, yo_pi, yo_pj, yo_pa, yf_pi, yf_pj, yf_pa, yh_pi, yh_pj, yh_pa, yt_pi, yt_pj, yt_pa, la_pi, la_pj, la_pa]; assumption)) only [b_X12_readSum_56, i_lit, i_m1, i_31, il_t, il_f, iq_t, iq_f, it_t, it_f, im_e, im_l, im_g, im_g2, nI_add, pk_mul, i_sub, i_div, sdm, i_dec, i_cl, iv_t, bI_or2, bI_t0, bI_one, not_true_eq_false, not_false_eq_true, ↓reduceIte, am_tl, am_tn, am_t0, am_n0, and_true, true_and, List.cons_append, List.nil_append, List.append_nil]
        exact Z _
      · rw [if_neg a2] at w; cases w
  · intro h Q L X
    simp (disch := first | assumption | omega | (simp only [ya_pi, ya_pj, ya_pa, ya_pr, yo_pi, yo_pj, yo_pa, yf_pi, yf_pj, yf_pa, yh_pi, yh_pj, yh_pa, yt_pi, yt_pj, yt_pa, la_pi, la_pj, la_pa]; assumption)) only [b_X12_readSum_0, i_lit, i_m1, i_31, il_t, il_f, iq_t, iq_f, it_t, it_f, im_e, im_l, im_g, im_g2, nI_add, pk_mul, i_sub, i_div, sdm, i_dec, i_cl, iv_t, bI_or2, bI_t0, bI_one, not_true_eq_false, not_false_eq_true, ↓reduceIte, am_tl, am_tn, am_t0, am_n0, and_true, true_and, List.cons_append, List.nil_append, List.append_nil]
    refine X.mono ?_
    rintro r h2 ⟨rfl, Y⟩
    exact Y
