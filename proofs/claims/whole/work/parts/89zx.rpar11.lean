/-! ===== the reference reads laws: units, levels ===== -/
theorem c_rUnit {e n : Nat} {tx : List Nat} {ts : List (Nat × Nat)} {sy : Bool} (G : gT ts) (hn : n ≤ 6) (CE : rRd 249 [some (v_r (some 93)), some (v_i (nI (6 - n))), none] (e + 7) (pS ts sy (lo ts sy n)) tx ts sy) (C : ∀ m, n = m + 1 → rLv tx ts sy m (e + 7)) : rRd 252 [some (v_r (some 93)), some (v_i (nI (6 - n))), none] (e + 8) (pU ts sy (lo ts sy n)) tx ts sy := by
  intro Q h i cs S hc K
  have hi := S.1.2.2.2.2.2.1
  have L := S.1.1
  have G3 := G.2.2.1
  have w0 := S.2.2.2
  have isk := fun k (hk : k < 100) Q => c_is (d := e + 7) (Q := Q) (k := k) S.1 w0 hk
  have n1 : ¬ nI 1 = 0 := by decide
  have n0 : nI 0 = 0 := rfl
  have n00 : ¬ ¬ nI 0 = 0 := fun u => u rfl
  have kk : kT 17 = 217 ∧ kT 37 = 91 ∧ kT 38 = 93 ∧ kT 39 = 61 ∧ kT 40 = 60 ∧ kT 41 = 62 := by decide
  have r17 := rk_k (t := tK ts i) (k := 17) (by decide) (by decide)
  have r37 := rk_k (t := tK ts i) (k := 37) (by decide) (by decide)
  rw [kk.1] at r17
  rw [kk.2.1] at r37
  unfold pU at K
  rw [b_X12_readUnit_0 _ _ _ L, show (17 : Int32) = nI 17 from rfl, isk 17 (by decide)]
  show ex_ (e + 8) 252 6 [some (v_r (some 93)), some (v_i (nI (6 - n))), none] [v_i (nI (if rk (tK ts i) = 17 then 1 else 0))] h Q
  by_cases y : tK ts i = 217
  · rw [if_pos y] at K
    have i1 := G.1 i (by omega)
    rw [if_pos (r17.2 y), b_X12_readUnit_6 _ _ _ _ _, if_neg n1, b_X12_readUnit_9 _ _ _ L]
    cases n with
    | zero =>
      rw [c_goes_n S.1 w0]
      show ex_ (e + 8) 252 14 [some (v_r (some 93)), some (v_i (nI (6 - 0))), none] [v_i (nI 0)] _ Q
      rw [b_X12_readUnit_14 _ _ _ _ _, if_neg n00, b_X12_readUnit_17 _ _ _ _]
      exact K.no (by decide) (by decide) S.1
    | succ m =>
      have K : rOK tx ts sy cs (pB ((gN ts sy m).2.2 (i + 1)) (pO 3006)) h Q := K
      have dp : nI (6 - (m + 1)) + 1 = nI (6 - m) := by
        rw [show (1 : Int32) = nI 1 from rfl, nI_add]
        congr 1
        omega
      refine c_goes_y (d := e + 1) S.1 w0 (by omega) (by omega) (by omega) (fun h1 fr1 R1 => ?_)
      have S1 := S.nx fr1 R1
      have L1 := R1.1
      show ex_ (e + 8) 252 14 [some (v_r (some 93)), some (v_i (nI (6 - (m + 1)))), none] [v_i (nI 1)] h1 Q
      rw [b_X12_readUnit_14 _ _ _ _ _, if_pos n1, b_X12_readUnit_18 _ _ _ L1, dp]
      refine (C m rfl).2.2 _ _ _ _ S1 (by omega) ⟨fun z2 h2 fr2 S2 => ?_, fun z2 h2 fr2 X2 => ?_⟩
      · have K2 := K.go z2 ((nx_fr fr1).tr fr2)
        have L2 := S2.1.1
        have f1 := ((gN_g (sy := sy) G m) _ i1).2.2.1 z2
        show ex_ (e + 8) 252 25 [some (v_r (some 93)), some (v_i (nI (6 - (m + 1)))), none] [] h2 Q
        rw [b_X12_readUnit_25 _ _ _ L2]
        refine c_codes (c := 3006) S2 (by rw [List.length_append]; omega) (fun h3 fr3 S3 => ?_)
        show ex_ (e + 8) 252 32 [some (v_r (some 93)), some (v_i (nI (6 - (m + 1)))), none] [] h3 Q
        rw [b_X12_readUnit_32 _ _ _ _]
        exact K2.1 rfl h3 fr3 S3
      · have L2 := X2.1
        show ex_ (e + 8) 252 25 [some (v_r (some 93)), some (v_i (nI (6 - (m + 1)))), none] [] h2 Q
        simp (disch := first | assumption | omega | (simp only [ya_pi, ya_pj, ya_pa, ya_pr, yo_pi, yo_pj, yo_pa, yf_pi, yf_pj, yf_pa, yh_pi, yh_pj, yh_pa, yt_pi, yt_pj, yt_pa, la_pi, la_pj, la_pa]; assumption)) only [b_X12_readUnit_25, b_X12_readUnit_32, i_lit, i_m1, i_31, il_t, il_f, iq_t, iq_f, it_t, it_f, im_e, im_l, im_g, im_g2, nI_add, pk_mul, i_sub, i_div, sdm, i_dec, i_cl, iv_t, bI_or2, bI_t0, bI_one, not_true_eq_false, not_false_eq_true, ↓reduceIte, am_tl, am_tn, am_t0, am_n0, and_true, true_and, List.cons_append, List.nil_append, List.append_nil, c_codesX X2]
        exact K.stop z2 ((nx_fr fr1).tr fr2) X2
  · rw [if_neg y] at K
    rw [if_neg (fun u => y (r17.1 u)), b_X12_readUnit_6 _ _ _ _ _, if_pos n0, b_X12_readUnit_33 _ _ _ L, show (37 : Int32) = nI 37 from rfl, isk 37 (by decide)]
    show ex_ (e + 8) 252 39 [some (v_r (some 93)), some (v_i (nI (6 - n))), none] [v_i (nI (if rk (tK ts i) = 37 then 1 else 0))] h Q
    by_cases x : tK ts i = 91
    · rw [if_pos x] at K
      have i1 := G.1 i (by omega)
      rw [if_pos (r37.2 x), b_X12_readUnit_39 _ _ _ _ _, if_neg n1, b_X12_readUnit_42 _ _ _ L]
      cases n with
      | zero =>
        rw [c_goes_n S.1 w0]
        show ex_ (e + 8) 252 47 [some (v_r (some 93)), some (v_i (nI (6 - 0))), none] [v_i (nI 0)] _ Q
        rw [b_X12_readUnit_47 _ _ _ _ _, if_neg n00, b_X12_readUnit_50 _ _ _ _]
        exact K.no (by decide) (by decide) S.1
      | succ m =>
        have K : rOK tx ts sy cs (pB ((gN ts sy m).2.1 (i + 1)) (pE ts 93)) h Q := K
        have dp : nI (6 - (m + 1)) + 1 = nI (6 - m) := by
          rw [show (1 : Int32) = nI 1 from rfl, nI_add]
          congr 1
          omega
        refine c_goes_y (d := e + 1) S.1 w0 (by omega) (by omega) (by omega) (fun h1 fr1 R1 => ?_)
        have S1 := S.nx fr1 R1
        have L1 := R1.1
        show ex_ (e + 8) 252 47 [some (v_r (some 93)), some (v_i (nI (6 - (m + 1)))), none] [v_i (nI 1)] h1 Q
        rw [b_X12_readUnit_47 _ _ _ _ _, if_pos n1, b_X12_readUnit_51 _ _ _ L1, dp]
        refine (C m rfl).2.1 _ _ _ _ S1 (by omega) ⟨fun z2 h2 fr2 S2 => ?_, fun z2 h2 fr2 X2 => ?_⟩
        · have K2 := K.go z2 ((nx_fr fr1).tr fr2)
          have L2 := S2.1.1
          clear K
          generalize ((gN ts sy m).2.1 (i + 1)).2.1 = j2 at S2 K2
          generalize cs ++ ((gN ts sy m).2.1 (i + 1)).2.2 = c2 at S2 K2
          show ex_ (e + 8) 252 58 [some (v_r (some 93)), some (v_i (nI (6 - (m + 1)))), none] [] h2 Q
          rw [b_X12_readUnit_58 _ _ _ L2]
          by_cases y2 : tK ts j2 = 93
          · refine c_eats_y (d := e + 1) (k := 38) S2.1 S2.2.2.2 (by decide) (by decide) (by rw [kk.2.2.1]; exact y2) (fun h3 fr3 R3 => ?_)
            show ex_ (e + 8) 252 64 [some (v_r (some 93)), some (v_i (nI (6 - (m + 1)))), none] [v_i (nI 1)] h3 Q
            rw [b_X12_readUnit_64 _ _ _ _ _, if_pos n1, b_X12_readUnit_72 _ _ _ _]
            rw [pE_y y2] at K2
            refine K2.1 rfl h3 (nx_fr fr3) ?_
            have e7 : c2 ++ ((0, j2 + 1, []) : pR_).2.2 = c2 := List.append_nil c2
            rw [e7]
            exact S2.nx fr3 R3
          · have n := fun Q => c_eats_n (d := e + 6) (Q := Q) (k := 38) S2.1 S2.2.2.2 (by decide) (by decide) (by rw [kk.2.2.1]; exact y2)
            have fl := fun Q => c_fails (d := e + 7) (Q := Q) (k := 2) S2.1 S2.2.2.2 (by decide)
            rw [pE_n y2] at K2
            have X := K2.no (by decide) (by decide) S2.1
            simp (disch := first | assumption | omega | (simp only [ya_pi, ya_pj, ya_pa, ya_pr, yo_pi, yo_pj, yo_pa, yf_pi, yf_pj, yf_pa, yh_pi, yh_pj, yh_pa, yt_pi, yt_pj, yt_pa, la_pi, la_pj, la_pa]; assumption)) only [b_X12_readUnit_64, b_X12_readUnit_67, b_X12_readUnit_72, i_lit, i_m1, i_31, il_t, il_f, iq_t, iq_f, it_t, it_f, im_e, im_l, im_g, im_g2, nI_add, pk_mul, i_sub, i_div, sdm, i_dec, i_cl, iv_t, bI_or2, bI_t0, bI_one, not_true_eq_false, not_false_eq_true, ↓reduceIte, am_tl, am_tn, am_t0, am_n0, and_true, true_and, List.cons_append, List.nil_append, List.append_nil, n, fl]
            exact X
        · have L2 := X2.1
          show ex_ (e + 8) 252 58 [some (v_r (some 93)), some (v_i (nI (6 - (m + 1)))), none] [] h2 Q
          simp (disch := first | assumption | omega | (simp only [ya_pi, ya_pj, ya_pa, ya_pr, yo_pi, yo_pj, yo_pa, yf_pi, yf_pj, yf_pa, yh_pi, yh_pj, yh_pa, yt_pi, yt_pj, yt_pa, la_pi, la_pj, la_pa]; assumption)) only [b_X12_readUnit_58, b_X12_readUnit_64, b_X12_readUnit_67, b_X12_readUnit_72, i_lit, i_m1, i_31, il_t, il_f, iq_t, iq_f, it_t, it_f, im_e, im_l, im_g, im_g2, nI_add, pk_mul, i_sub, i_div, sdm, i_dec, i_cl, iv_t, bI_or2, bI_t0, bI_one, not_true_eq_false, not_false_eq_true, ↓reduceIte, am_tl, am_tn, am_t0, am_n0, and_true, true_and, List.cons_append, List.nil_append, List.append_nil, c_eatsX X2, c_failsX X2]
          exact K.stop z2 ((nx_fr fr1).tr fr2) X2
    · rw [if_neg x] at K
      rw [if_neg (fun u => x (r37.1 u)), b_X12_readUnit_39 _ _ _ _ _, if_pos n0, b_X12_readUnit_73 _ _ _ L]
      refine CE _ _ _ _ S hc ⟨fun z2 h2 fr2 S2 => ?_, fun z2 h2 fr2 X2 => ?_⟩
      rotate_left
      · have L2 := X2.1
        have sx := fun Q => c_rSumX (d := e + 4) (Q := Q) (m := 6 - n) X2
        show ex_ (e + 8) 252 78 [some (v_r (some 93)), some (v_i (nI (6 - n))), none] [] h2 Q
        simp (disch := first | assumption | omega | (simp only [ya_pi, ya_pj, ya_pa, ya_pr, yo_pi, yo_pj, yo_pa, yf_pi, yf_pj, yf_pa, yh_pi, yh_pj, yh_pa, yt_pi, yt_pj, yt_pa, la_pi, la_pj, la_pa]; assumption)) only [b_X12_readUnit_78, b_X12_readUnit_84, b_X12_readUnit_93, b_X12_readUnit_99, b_X12_readUnit_108, b_X12_readUnit_118, b_X12_readUnit_121, b_X12_readUnit_127, b_X12_readUnit_130, b_X12_readUnit_136, b_X12_readUnit_146, b_X12_readUnit_151, b_X12_readUnit_156, b_X12_readUnit_161, i_lit, i_m1, i_31, il_t, il_f, iq_t, iq_f, it_t, it_f, im_e, im_l, im_g, im_g2, nI_add, pk_mul, i_sub, i_div, sdm, i_dec, i_cl, iv_t, bI_or2, bI_t0, bI_one, not_true_eq_false, not_false_eq_true, ↓reduceIte, am_tl, am_tn, am_t0, am_n0, and_true, true_and, List.cons_append, List.nil_append, List.append_nil, c_isX X2, sx, c_failsX X2, c_codesX X2]
        exact K.stop z2 fr2 X2
      have K2 := K.go z2 fr2
      have L2 := S2.1.1
      have hc2 := len_a hc ((g_pS (sy := sy) G (g_lo G n) hi).1 z2).1
      have v0 := S2.2.2.2
      clear K
      generalize (pS ts sy (lo ts sy n) i).2.1 = j2 at S2 K2 hc2
      generalize cs ++ (pS ts sy (lo ts sy n) i).2.2 = c2 at S2 K2 hc2
      have hj2 := S2.1.2.2.2.2.2.1
      show ex_ (e + 8) 252 78 [some (v_r (some 93)), some (v_i (nI (6 - n))), none] [] h2 Q
      have go : ∀ c, tK ts j2 = 61 ∨ tK ts j2 = 60 ∨ tK ts j2 = 62 → rOK tx ts sy c2 (pB (pS ts sy (lo ts sy n) (j2 + 1)) (pO c)) h2 Q → ex_ (e + 8) 252 139 [some (v_r (some 93)), some (v_i (nI (6 - n))), some (v_i (nI c))] [] h2 Q := by
        intro c ht K3
        have i3 := G.1 j2 (by omega)
        rw [b_X12_readUnit_139 _ _ _ L2]
        refine S2.1.next (d := e + 2) (by omega) (by omega) (fun h3 fr3 R3 => ?_)
        have S3 := S2.nx fr3 R3
        have L3 := R3.1
        show ex_ (e + 8) 252 143 [some (v_r (some 93)), some (v_i (nI (6 - n))), some (v_i (nI c))] [] h3 Q
        rw [b_X12_readUnit_143 _ _ _ L3]
        refine CE _ _ _ _ S3 (by omega) ⟨fun z4 h4 fr4 S4 => ?_, fun z4 h4 fr4 X4 => ?_⟩
        · have K4 := K3.go z4 ((nx_fr fr3).tr fr4)
          have L4 := S4.1.1
          have f4 := (g_pS (sy := sy) G (g_lo G n) i3).1 z4
          show ex_ (e + 8) 252 156 [some (v_r (some 93)), some (v_i (nI (6 - n))), some (v_i (nI c))] [] h4 Q
          rw [b_X12_readUnit_156 _ _ _ L4]
          refine c_codes (c := c) S4 (by rw [List.length_append]; omega) (fun h5 fr5 S5 => ?_)
          show ex_ (e + 8) 252 161 [some (v_r (some 93)), some (v_i (nI (6 - n))), some (v_i (nI c))] [] h5 Q
          rw [b_X12_readUnit_161 _ _ _ _]
          exact K4.1 rfl h5 fr5 S5
        · have L4 := X4.1
          show ex_ (e + 8) 252 156 [some (v_r (some 93)), some (v_i (nI (6 - n))), some (v_i (nI c))] [] h4 Q
          rw [b_X12_readUnit_156 _ _ _ L4, c_codesX X4]
          show ex_ (e + 8) 252 161 [some (v_r (some 93)), some (v_i (nI (6 - n))), some (v_i (nI c))] [] h4 Q
          rw [b_X12_readUnit_161 _ _ _ _]
          exact K3.stop z4 ((nx_fr fr3).tr fr4) X4
      have is2 := fun k (hk : k < 100) Q => c_is (d := e + 7) (Q := Q) (k := k) S2.1 v0 hk
      have i39 := is2 39 (by decide)
      have i40 := is2 40 (by decide)
      have i41 := is2 41 (by decide)
      have r39 := rk_k (t := tK ts j2) (k := 39) (by decide) (by decide)
      have r40 := rk_k (t := tK ts j2) (k := 40) (by decide) (by decide)
      have r41 := rk_k (t := tK ts j2) (k := 41) (by decide) (by decide)
      rw [kk.2.2.2.1] at r39
      rw [kk.2.2.2.2.1] at r40
      rw [kk.2.2.2.2.2] at r41
      have K2 : rOK tx ts sy c2 (pK ts sy (lo ts sy n) j2) h2 Q := K2
      unfold pK qC at K2
      by_cases a1 : tK ts j2 = 61
      · rw [if_pos a1] at K2
        rw [if_pos (r39.2 a1)] at i39
        have g := go 3003 (Or.inl a1) K2
        simp (disch := first | assumption | omega | (simp only [ya_pi, ya_pj, ya_pa, ya_pr, yo_pi, yo_pj, yo_pa, yf_pi, yf_pj, yf_pa, yh_pi, yh_pj, yh_pa, yt_pi, yt_pj, yt_pa, la_pi, la_pj, la_pa]; assumption)) only [b_X12_readUnit_78, b_X12_readUnit_84, b_X12_readUnit_87, b_X12_readUnit_118, i_lit, i_m1, i_31, il_t, il_f, iq_t, iq_f, it_t, it_f, im_e, im_l, im_g, im_g2, nI_add, pk_mul, i_sub, i_div, sdm, i_dec, i_cl, iv_t, bI_or2, bI_t0, bI_one, not_true_eq_false, not_false_eq_true, ↓reduceIte, am_tl, am_tn, am_t0, am_n0, and_true, true_and, List.cons_append, List.nil_append, List.append_nil, i39]
        exact g
      · rw [if_neg a1] at K2
        rw [if_neg (fun u => a1 (r39.1 u))] at i39
        by_cases a2 : tK ts j2 = 60
        · rw [if_pos a2] at K2
          rw [if_pos (r40.2 a2)] at i40
          have g := go 3004 (Or.inr (Or.inl a2)) K2
          simp (disch := first | assumption | omega | (simp only [ya_pi, ya_pj, ya_pa, ya_pr, yo_pi, yo_pj, yo_pa, yf_pi, yf_pj, yf_pa, yh_pi, yh_pj, yh_pa, yt_pi, yt_pj, yt_pa, la_pi, la_pj, la_pa]; assumption)) only [b_X12_readUnit_78, b_X12_readUnit_84, b_X12_readUnit_93, b_X12_readUnit_99, b_X12_readUnit_102, b_X12_readUnit_118, b_X12_readUnit_121, b_X12_readUnit_127, i_lit, i_m1, i_31, il_t, il_f, iq_t, iq_f, it_t, it_f, im_e, im_l, im_g, im_g2, nI_add, pk_mul, i_sub, i_div, sdm, i_dec, i_cl, iv_t, bI_or2, bI_t0, bI_one, not_true_eq_false, not_false_eq_true, ↓reduceIte, am_tl, am_tn, am_t0, am_n0, and_true, true_and, List.cons_append, List.nil_append, List.append_nil, i39, i40]
          exact g
        · rw [if_neg a2] at K2
          rw [if_neg (fun u => a2 (r40.1 u))] at i40
          by_cases a3 : tK ts j2 = 62
          · rw [if_pos a3] at K2
            rw [if_pos (r41.2 a3)] at i41
            have g := go 3005 (Or.inr (Or.inr a3)) K2
            simp (disch := first | assumption | omega | (simp only [ya_pi, ya_pj, ya_pa, ya_pr, yo_pi, yo_pj, yo_pa, yf_pi, yf_pj, yf_pa, yh_pi, yh_pj, yh_pa, yt_pi, yt_pj, yt_pa, la_pi, la_pj, la_pa]; assumption)) only [b_X12_readUnit_78, b_X12_readUnit_84, b_X12_readUnit_93, b_X12_readUnit_99, b_X12_readUnit_108, b_X12_readUnit_118, b_X12_readUnit_121, b_X12_readUnit_127, b_X12_readUnit_130, b_X12_readUnit_136, i_lit, i_m1, i_31, il_t, il_f, iq_t, iq_f, it_t, it_f, im_e, im_l, im_g, im_g2, nI_add, pk_mul, i_sub, i_div, sdm, i_dec, i_cl, iv_t, bI_or2, bI_t0, bI_one, not_true_eq_false, not_false_eq_true, ↓reduceIte, am_tl, am_tn, am_t0, am_n0, and_true, true_and, List.cons_append, List.nil_append, List.append_nil, i39, i40, i41]
            exact g
          · rw [if_neg a3] at K2
            rw [if_neg (fun u => a3 (r41.1 u))] at i41
            have Y := rfR_X (k := 2) S2.1 (by decide) (by decide)
            have LY := Y.1
            have fl := fun Q => c_fails (d := e + 7) (Q := Q) (k := 2) S2.1 v0 (by decide)
            have sx := fun Q => c_rSumX (d := e + 4) (Q := Q) (m := 6 - n) Y
            have K3 := rOK.no K2 (by decide) (by decide) S2.1
            simp (disch := first | assumption | omega | (simp only [ya_pi, ya_pj, ya_pa, ya_pr, yo_pi, yo_pj, yo_pa, yf_pi, yf_pj, yf_pa, yh_pi, yh_pj, yh_pa, yt_pi, yt_pj, yt_pa, la_pi, la_pj, la_pa]; assumption)) only [b_X12_readUnit_78, b_X12_readUnit_84, b_X12_readUnit_93, b_X12_readUnit_99, b_X12_readUnit_108, b_X12_readUnit_118, b_X12_readUnit_121, b_X12_readUnit_127, b_X12_readUnit_130, b_X12_readUnit_136, b_X12_readUnit_146, b_X12_readUnit_151, b_X12_readUnit_156, b_X12_readUnit_161, i_lit, i_m1, i_31, il_t, il_f, iq_t, iq_f, it_t, it_f, im_e, im_l, im_g, im_g2, nI_add, pk_mul, i_sub, i_div, sdm, i_dec, i_cl, iv_t, bI_or2, bI_t0, bI_one, not_true_eq_false, not_false_eq_true, ↓reduceIte, am_tl, am_tn, am_t0, am_n0, and_true, true_and, List.cons_append, List.nil_append, List.append_nil, i39, i40, i41, fl, sx, c_codesX Y]
            exact K3
theorem r_level {tx : List Nat} {ts : List (Nat × Nat)} {sy : Bool} (G : gT ts) : ∀ n, n ≤ 6 → rLv tx ts sy n (7 * n + 14) := by
  intro n
  induction n with
  | zero =>
    intro hn
    have a := c_rAtom (e := 0) (n := 0) (tx := tx) (sy := sy) G hn (fun m hm => by omega)
    have s := c_rSum G hn (by omega) (c_rTerm G hn (by omega) a)
    have u := c_rUnit (e := 4) G hn s (fun m hm => by omega)
    have t := c_rTruth G hn (by omega) (c_rBoth G hn (by omega) u)
    exact ⟨s.deep (by omega), t.deep (by omega), u.deep (by omega)⟩
  | succ n ih =>
    intro hn
    have C := ih (by omega)
    have a := c_rAtom (e := 7 * n + 7) (n := n + 1) (tx := tx) (sy := sy) G hn (fun m hm => by cases hm; exact C)
    have s := c_rSum G hn (by omega) (c_rTerm G hn (by omega) a)
    have u := c_rUnit (e := 7 * n + 11) G hn (s.deep (by omega)) (fun m hm => by cases hm; exact ⟨C.1.deep (by omega), C.2.1.deep (by omega), C.2.2.deep (by omega)⟩)
    have t := c_rTruth G hn (by omega) (c_rBoth G hn (by omega) u)
    exact ⟨s.deep (by omega), t.deep (by omega), u.deep (by omega)⟩
