theorem c_rPerform {d : Nat} {Q : Option am_V → am_H → Prop} {h : am_H} {S : St} {x : Int32} {l2 l3 : Option am_V} (ok : St_ok S) (C : rI h S) (k : ∀ h', am_fr h h' rX → rI h' (t_perform S x).2 → Q (some (v_i (t_perform S x).1)) h') : ex_ (d + 5) 306 0 [some (v_r (some 93)), some (v_i x), l2, l3] [] h Q := by
  have L := C.1
  obtain ⟨C0, fr0⟩ := C.p0 ok
  have gd : fa_gd (s_f S) := ok.1.1.1
  have L0 := C0.1
  have T0 := C0.2.2.2.2.1
  unfold t_perform at k
  rcases tr_cs x with ⟨t, ht, rfl⟩ | hx
  · by_cases hm : (s_t S t).1 = mI
    · rw [tC_m ht hm, if_neg nI0_6] at k
      simp (disch := first | assumption | omega | (simp only [ya_pi, ya_pj, ya_pa, ya_pr, yo_pi, yo_pj, yo_pa, yf_pi, yf_pj, yf_pa, yh_pi, yh_pj, yh_pa, yt_pi, yt_pj, yt_pa, la_pi, la_pj, la_pa]; assumption)) only [b_X12_perform_0, b_X12_perform_10, b_X12_perform_17, b_X12_perform_15, b_X12_perform_21, b_X12_perform_26, b_X12_perform_35, b_X12_perform_31, i_lit, i_m1, i_31, il_t, il_f, iq_t, iq_f, it_t, it_f, im_e, im_l, im_g, im_g2, nI_add, pk_mul, i_sub, i_div, sdm, i_dec, i_cl, iv_t, bI_or2, bI_t0, bI_one, not_true_eq_false, not_false_eq_true, ↓reduceIte, am_tl, am_tn, am_t0, am_n0, and_true, true_and, List.cons_append, List.nil_append, List.append_nil, c_noTray L0 T0, tC_m ht hm, nI0_6]
      exact k _ fr0 C0
    · rw [tC_y ht hm, if_pos rfl, nI_clamp (by omega)] at k
      simp (disch := first | assumption | omega | (simp only [ya_pi, ya_pj, ya_pa, ya_pr, yo_pi, yo_pj, yo_pa, yf_pi, yf_pj, yf_pa, yh_pi, yh_pj, yh_pa, yt_pi, yt_pj, yt_pa, la_pi, la_pj, la_pa]; assumption)) only [b_X12_perform_0, b_X12_perform_10, b_X12_perform_17, b_X12_perform_15, b_X12_perform_21, b_X12_perform_26, b_X12_perform_35, b_X12_perform_31, i_lit, i_m1, i_31, il_t, il_f, iq_t, iq_f, it_t, it_f, im_e, im_l, im_g, im_g2, nI_add, pk_mul, i_sub, i_div, sdm, i_dec, i_cl, iv_t, bI_or2, bI_t0, bI_one, not_true_eq_false, not_false_eq_true, ↓reduceIte, am_tl, am_tn, am_t0, am_n0, and_true, true_and, List.cons_append, List.nil_append, List.append_nil, c_noTray L0 T0, tC_y ht hm]
      refine c_rStores ok C0 (fun h1 fr1 C1 B1 => ?_)
      have L1 := C1.1
      have T1 := C1.2.2.2.2.1 t ht
      have l40 := T1.2.2.1
      have le := d_run_le (f := s_f S) (vs := (s_t S t).2)
      have gdr := gd_run (vs := (s_t S t).2) gd
      simp (disch := first | assumption | omega | (simp only [ya_pi, ya_pj, ya_pa, ya_pr, yo_pi, yo_pj, yo_pa, yf_pi, yf_pj, yf_pa, yh_pi, yh_pj, yh_pa, yt_pi, yt_pj, yt_pa, la_pi, la_pj, la_pa]; assumption)) only [b_X12_perform_0, b_X12_perform_10, b_X12_perform_17, b_X12_perform_15, b_X12_perform_21, b_X12_perform_26, b_X12_perform_35, b_X12_perform_31, i_lit, i_m1, i_31, il_t, il_f, iq_t, iq_f, it_t, it_f, im_e, im_l, im_g, im_g2, nI_add, pk_mul, i_sub, i_div, sdm, i_dec, i_cl, iv_t, bI_or2, bI_t0, bI_one, not_true_eq_false, not_false_eq_true, ↓reduceIte, am_tl, am_tn, am_t0, am_n0, and_true, true_and, List.cons_append, List.nil_append, List.append_nil]
      refine c_tells gd C1.rfa ht T1 (fun h2 fr2 F2 e25 => ?_)
      have L2 := F2.1
      have B2 : fb h2 105 0 (s_f S) := fr2.fb (fa_len gd) B1 (fun k _ _ => by unfold rT rF; omega)
      have R2 := fr2.rpa L1 (okp ok) C1.2.2.1 (fun k h1 h2 => by unfold rT rF; omega)
      have fr12 := (fr0.tr (fr1.le (fun a k z => z.X))).tr (fr2.le (fun a k z => z.X))
      by_cases z : 0 < (d_run (s_f S) (s_t S t).2).1
      · rw [if_pos z] at k
        simp (disch := first | assumption | omega | (simp only [ya_pi, ya_pj, ya_pa, ya_pr, yo_pi, yo_pj, yo_pa, yf_pi, yf_pj, yf_pa, yh_pi, yh_pj, yh_pa, yt_pi, yt_pj, yt_pa, la_pi, la_pj, la_pa]; assumption)) only [b_X12_perform_0, b_X12_perform_10, b_X12_perform_17, b_X12_perform_15, b_X12_perform_21, b_X12_perform_26, b_X12_perform_35, b_X12_perform_31, i_lit, i_m1, i_31, il_t, il_f, iq_t, iq_f, it_t, it_f, im_e, im_l, im_g, im_g2, nI_add, pk_mul, i_sub, i_div, sdm, i_dec, i_cl, iv_t, bI_or2, bI_t0, bI_one, not_true_eq_false, not_false_eq_true, ↓reduceIte, am_tl, am_tn, am_t0, am_n0, and_true, true_and, List.cons_append, List.nil_append, List.append_nil]
        refine c_notes L2 gd.1 (okpf ok) R2 B2 (fun h3 fr3 R3 => ?_)
        simp (disch := first | assumption | omega | (simp only [ya_pi, ya_pj, ya_pa, ya_pr, yo_pi, yo_pj, yo_pa, yf_pi, yf_pj, yf_pa, yh_pi, yh_pj, yh_pa, yt_pi, yt_pj, yt_pa, la_pi, la_pj, la_pa]; assumption)) only [b_X12_perform_0, b_X12_perform_10, b_X12_perform_17, b_X12_perform_15, b_X12_perform_21, b_X12_perform_26, b_X12_perform_35, b_X12_perform_31, i_lit, i_m1, i_31, il_t, il_f, iq_t, iq_f, it_t, it_f, im_e, im_l, im_g, im_g2, nI_add, pk_mul, i_sub, i_div, sdm, i_dec, i_cl, iv_t, bI_or2, bI_t0, bI_one, not_true_eq_false, not_false_eq_true, ↓reduceIte, am_tl, am_tn, am_t0, am_n0, and_true, true_and, List.cons_append, List.nil_append, List.append_nil]
        have fr := fr12.tr (fr3.le (fun a k z => z.X))
        exact k h3 fr (C.facts ok fr (fr3.rfa gdr.1 F2 (fun k hk => by unfold rN; omega)) R3)
      · rw [if_neg z] at k
        simp (disch := first | assumption | omega | (simp only [ya_pi, ya_pj, ya_pa, ya_pr, yo_pi, yo_pj, yo_pa, yf_pi, yf_pj, yf_pa, yh_pi, yh_pj, yh_pa, yt_pi, yt_pj, yt_pa, la_pi, la_pj, la_pa]; assumption)) only [b_X12_perform_0, b_X12_perform_10, b_X12_perform_17, b_X12_perform_15, b_X12_perform_21, b_X12_perform_26, b_X12_perform_35, b_X12_perform_31, i_lit, i_m1, i_31, il_t, il_f, iq_t, iq_f, it_t, it_f, im_e, im_l, im_g, im_g2, nI_add, pk_mul, i_sub, i_div, sdm, i_dec, i_cl, iv_t, bI_or2, bI_t0, bI_one, not_true_eq_false, not_false_eq_true, ↓reduceIte, am_tl, am_tn, am_t0, am_n0, and_true, true_and, List.cons_append, List.nil_append, List.append_nil]
        have r0 : (d_run (s_f S) (s_t S t).2).2.2 = s_f S := by
          cases hv : (s_t S t).2 with
          | nil => rfl
          | cons v vs =>
            rw [hv] at z
            rw [d_run] at z ⊢
            by_cases y : (d_do (s_f S) v).1 = nI 0
            · rw [if_pos y] at z
              exact absurd (Nat.succ_pos _) z
            · rw [if_neg y]
        rw [r0] at F2
        exact k h2 fr12 (C.facts ok fr12 F2 R2)
  · rw [tC_n hx, if_neg nI0_2] at k
    simp (disch := first | assumption | omega | (simp only [ya_pi, ya_pj, ya_pa, ya_pr, yo_pi, yo_pj, yo_pa, yf_pi, yf_pj, yf_pa, yh_pi, yh_pj, yh_pa, yt_pi, yt_pj, yt_pa, la_pi, la_pj, la_pa]; assumption)) only [b_X12_perform_0, b_X12_perform_10, b_X12_perform_17, b_X12_perform_15, b_X12_perform_21, b_X12_perform_26, b_X12_perform_35, b_X12_perform_31, i_lit, i_m1, i_31, il_t, il_f, iq_t, iq_f, it_t, it_f, im_e, im_l, im_g, im_g2, nI_add, pk_mul, i_sub, i_div, sdm, i_dec, i_cl, iv_t, bI_or2, bI_t0, bI_one, not_true_eq_false, not_false_eq_true, ↓reduceIte, am_tl, am_tn, am_t0, am_n0, and_true, true_and, List.cons_append, List.nil_append, List.append_nil, c_noTray L0 T0, tC_n hx, nI0_2]
    exact k _ fr0 C0
theorem c_rJudge {d : Nat} {Q : Option am_V → am_H → Prop} {h : am_H} {S : St} {x w : Int32} {l3 l4 l5 l6 : Option am_V} (ok : St_ok S) (C : rI h S) (k : ∀ h', am_fr h h' rX → rI h' S → Q (some (v_i (t_judge S x w))) h') : ex_ (d + 5) 305 0 [some (v_r (some 93)), some (v_i x), some (v_i w), l3, l4, l5, l6] [] h Q := by
  have L := C.1
  obtain ⟨C0, fr0⟩ := C.p0 ok
  have gd : fa_gd (s_f S) := ok.1.1.1
  have L0 := C0.1
  have T0 := C0.2.2.2.2.1
  unfold t_judge at k
  rcases tr_cs w with ⟨u, hu, rfl⟩ | hw
  · rw [if_pos (tr_y4 hu)] at k
    rcases tr_cs x with ⟨t, ht, rfl⟩ | hx
    · by_cases hm : (s_t S t).1 = mI
      · rw [tC_m ht hm, if_neg nI0_6] at k
        simp (disch := first | assumption | omega | (simp only [ya_pi, ya_pj, ya_pa, ya_pr, yo_pi, yo_pj, yo_pa, yf_pi, yf_pj, yf_pa, yh_pi, yh_pj, yh_pa, yt_pi, yt_pj, yt_pa, la_pi, la_pj, la_pa]; assumption)) only [b_X12_judge_0, b_X12_judge_14, b_X12_judge_20, b_X12_judge_17, b_X12_judge_25, b_X12_judge_32, b_X12_judge_30, b_X12_judge_36, b_X12_judge_41, b_X12_judge_47, b_X12_judge_52, b_X12_judge_58, b_X12_judge_64, b_X12_judge_84, b_X12_judge_68, b_X12_judge_96, b_X12_judge_89, b_X12_judge_79, b_X12_judge_75, b_X12_judge_106, b_X12_judge_101, i_lit, i_m1, i_31, il_t, il_f, iq_t, iq_f, it_t, it_f, im_e, im_l, im_g, im_g2, nI_add, pk_mul, i_sub, i_div, sdm, i_dec, i_cl, iv_t, bI_or2, bI_t0, bI_one, not_true_eq_false, not_false_eq_true, ↓reduceIte, am_tl, am_tn, am_t0, am_n0, and_true, true_and, List.cons_append, List.nil_append, List.append_nil, nI_l, l_lit, c_within_y, c_noTray L0 T0, tC_m ht hm, nI0_6]
        exact k _ fr0 C0
      · rw [tC_y ht hm, if_pos rfl, nI_clamp (by omega)] at k
        simp (disch := first | assumption | omega | (simp only [ya_pi, ya_pj, ya_pa, ya_pr, yo_pi, yo_pj, yo_pa, yf_pi, yf_pj, yf_pa, yh_pi, yh_pj, yh_pa, yt_pi, yt_pj, yt_pa, la_pi, la_pj, la_pa]; assumption)) only [b_X12_judge_0, b_X12_judge_14, b_X12_judge_20, b_X12_judge_17, b_X12_judge_25, b_X12_judge_32, b_X12_judge_30, b_X12_judge_36, b_X12_judge_41, b_X12_judge_47, b_X12_judge_52, b_X12_judge_58, b_X12_judge_64, b_X12_judge_84, b_X12_judge_68, b_X12_judge_96, b_X12_judge_89, b_X12_judge_79, b_X12_judge_75, b_X12_judge_106, b_X12_judge_101, i_lit, i_m1, i_31, il_t, il_f, iq_t, iq_f, it_t, it_f, im_e, im_l, im_g, im_g2, nI_add, pk_mul, i_sub, i_div, sdm, i_dec, i_cl, iv_t, bI_or2, bI_t0, bI_one, not_true_eq_false, not_false_eq_true, ↓reduceIte, am_tl, am_tn, am_t0, am_n0, and_true, true_and, List.cons_append, List.nil_append, List.append_nil, nI_l, l_lit, c_within_y, c_noTray L0 T0, tC_y ht hm]
        refine c_rStores ok C0 (fun h1 fr1 C1 B1 => ?_)
        have L1 := C1.1
        have T1 := C1.2.2.2.2.1 t ht
        have l40 := T1.2.2.1
        have le := d_run_le (f := s_f S) (vs := (s_t S t).2)
        have gdr := gd_run (vs := (s_t S t).2) gd
        have fnr := fn_run (vs := (s_t S t).2) (f := s_f S)
        simp (disch := first | assumption | omega | (simp only [ya_pi, ya_pj, ya_pa, ya_pr, yo_pi, yo_pj, yo_pa, yf_pi, yf_pj, yf_pa, yh_pi, yh_pj, yh_pa, yt_pi, yt_pj, yt_pa, la_pi, la_pj, la_pa]; assumption)) only [b_X12_judge_0, b_X12_judge_14, b_X12_judge_20, b_X12_judge_17, b_X12_judge_25, b_X12_judge_32, b_X12_judge_30, b_X12_judge_36, b_X12_judge_41, b_X12_judge_47, b_X12_judge_52, b_X12_judge_58, b_X12_judge_64, b_X12_judge_84, b_X12_judge_68, b_X12_judge_96, b_X12_judge_89, b_X12_judge_79, b_X12_judge_75, b_X12_judge_106, b_X12_judge_101, i_lit, i_m1, i_31, il_t, il_f, iq_t, iq_f, it_t, it_f, im_e, im_l, im_g, im_g2, nI_add, pk_mul, i_sub, i_div, sdm, i_dec, i_cl, iv_t, bI_or2, bI_t0, bI_one, not_true_eq_false, not_false_eq_true, ↓reduceIte, am_tl, am_tn, am_t0, am_n0, and_true, true_and, List.cons_append, List.nil_append, List.append_nil]
        refine c_tells gd C1.rfa ht T1 (fun h2 fr2 F2 e25 => ?_)
        have L2 := F2.1
        have B2 : fb h2 105 0 (s_f S) := fr2.fb (fa_len gd) B1 (fun k _ _ => by unfold rT rF; omega)
        have R2 := fr2.rpa L1 (okp ok) C1.2.2.1 (fun k h1 h2 => by unfold rT rF; omega)
        simp (disch := first | assumption | omega | (simp only [ya_pi, ya_pj, ya_pa, ya_pr, yo_pi, yo_pj, yo_pa, yf_pi, yf_pj, yf_pa, yh_pi, yh_pj, yh_pa, yt_pi, yt_pj, yt_pa, la_pi, la_pj, la_pa]; assumption)) only [b_X12_judge_0, b_X12_judge_14, b_X12_judge_20, b_X12_judge_17, b_X12_judge_25, b_X12_judge_32, b_X12_judge_30, b_X12_judge_36, b_X12_judge_41, b_X12_judge_47, b_X12_judge_52, b_X12_judge_58, b_X12_judge_64, b_X12_judge_84, b_X12_judge_68, b_X12_judge_96, b_X12_judge_89, b_X12_judge_79, b_X12_judge_75, b_X12_judge_106, b_X12_judge_101, i_lit, i_m1, i_31, il_t, il_f, iq_t, iq_f, it_t, it_f, im_e, im_l, im_g, im_g2, nI_add, pk_mul, i_sub, i_div, sdm, i_dec, i_cl, iv_t, bI_or2, bI_t0, bI_one, not_true_eq_false, not_false_eq_true, ↓reduceIte, am_tl, am_tn, am_t0, am_n0, and_true, true_and, List.cons_append, List.nil_append, List.append_nil]
        refine c_laysOrders gdr.1 F2 (fun h3 fr3 (A3 : ra h3 (fT (d_run (s_f S) (s_t S t).2).2.2) (f_n (d_run (s_f S) (s_t S t).2).2.2)) => ?_)
        have L3 := A3.1
        have F3 := fr3.rfa gdr.1 F2 (fun k hk => by unfold rA; omega)
        have B3 : fb h3 105 0 (s_f S) := fr3.fb (fa_len gd) B2 (fun k _ _ => by unfold rA; omega)
        have R3 := fr3.rpa L2 (okp ok) R2 (fun k h1 h2 => by unfold rA; omega)
        have e25' : h_i h3 93 25 = (d_run (s_f S) (s_t S t).2).2.1 := by rw [fr3.i (by unfold rA; omega)]; exact e25
        simp (disch := first | assumption | omega | (simp only [ya_pi, ya_pj, ya_pa, ya_pr, yo_pi, yo_pj, yo_pa, yf_pi, yf_pj, yf_pa, yh_pi, yh_pj, yh_pa, yt_pi, yt_pj, yt_pa, la_pi, la_pj, la_pa]; assumption)) only [b_X12_judge_0, b_X12_judge_14, b_X12_judge_20, b_X12_judge_17, b_X12_judge_25, b_X12_judge_32, b_X12_judge_30, b_X12_judge_36, b_X12_judge_41, b_X12_judge_47, b_X12_judge_52, b_X12_judge_58, b_X12_judge_64, b_X12_judge_84, b_X12_judge_68, b_X12_judge_96, b_X12_judge_89, b_X12_judge_79, b_X12_judge_75, b_X12_judge_106, b_X12_judge_101, i_lit, i_m1, i_31, il_t, il_f, iq_t, iq_f, it_t, it_f, im_e, im_l, im_g, im_g2, nI_add, pk_mul, i_sub, i_div, sdm, i_dec, i_cl, iv_t, bI_or2, bI_t0, bI_one, not_true_eq_false, not_false_eq_true, ↓reduceIte, am_tl, am_tn, am_t0, am_n0, and_true, true_and, List.cons_append, List.nil_append, List.append_nil, c_statesOf A3 F3.2.1 gdr.1.1 (show 0 < 10 by omega) (fT_ok gdr.1), c_rLinks gdr.1 F3]
        refine c_isAgain gd.1 L3 (by rw [← fnr]; exact F3.2.1) B3 (fun h4 fr4 F4 => ?_)
        have L4 := F4.1
        have R4 := fr4.rpa L3 (okp ok) R3 (fun k h1 h2 => by unfold rF; omega)
        have e25'' : h_i h4 93 25 = (d_run (s_f S) (s_t S t).2).2.1 := by rw [fr4.i (by unfold rF; omega)]; exact e25'
        have fr := (((fr0.tr (fr1.le (fun a k z => z.X))).tr (fr2.le (fun a k z => z.X))).tr (fr3.le (fun a k z => z.S.X))).tr (fr4.le (fun a k z => z.X))
        have fin := k h4 fr (C.facts ok fr F4 R4)
        rw [fnr]
        rcases (show u = 0 ∨ u = 1 ∨ u = 2 ∨ u = 3 by omega) with rfl | rfl | rfl | rfl
        · rw [if_pos rfl] at fin
          by_cases z : (d_run (s_f S) (s_t S t).2).2.1 = nI 0
          · rw [if_pos z] at fin
            simp (disch := first | assumption | omega | (simp only [ya_pi, ya_pj, ya_pa, ya_pr, yo_pi, yo_pj, yo_pa, yf_pi, yf_pj, yf_pa, yh_pi, yh_pj, yh_pa, yt_pi, yt_pj, yt_pa, la_pi, la_pj, la_pa]; assumption)) only [b_X12_judge_0, b_X12_judge_14, b_X12_judge_20, b_X12_judge_17, b_X12_judge_25, b_X12_judge_32, b_X12_judge_30, b_X12_judge_36, b_X12_judge_41, b_X12_judge_47, b_X12_judge_52, b_X12_judge_58, b_X12_judge_64, b_X12_judge_84, b_X12_judge_68, b_X12_judge_96, b_X12_judge_89, b_X12_judge_79, b_X12_judge_75, b_X12_judge_106, b_X12_judge_101, i_lit, i_m1, i_31, il_t, il_f, iq_t, iq_f, it_t, it_f, im_e, im_l, im_g, im_g2, nI_add, pk_mul, i_sub, i_div, sdm, i_dec, i_cl, iv_t, bI_or2, bI_t0, bI_one, not_true_eq_false, not_false_eq_true, ↓reduceIte, am_tl, am_tn, am_t0, am_n0, and_true, true_and, List.cons_append, List.nil_append, List.append_nil, e25'', z]
            exact fin
          · rw [if_neg z] at fin
            simp (disch := first | assumption | omega | (simp only [ya_pi, ya_pj, ya_pa, ya_pr, yo_pi, yo_pj, yo_pa, yf_pi, yf_pj, yf_pa, yh_pi, yh_pj, yh_pa, yt_pi, yt_pj, yt_pa, la_pi, la_pj, la_pa]; assumption)) only [b_X12_judge_0, b_X12_judge_14, b_X12_judge_20, b_X12_judge_17, b_X12_judge_25, b_X12_judge_32, b_X12_judge_30, b_X12_judge_36, b_X12_judge_41, b_X12_judge_47, b_X12_judge_52, b_X12_judge_58, b_X12_judge_64, b_X12_judge_84, b_X12_judge_68, b_X12_judge_96, b_X12_judge_89, b_X12_judge_79, b_X12_judge_75, b_X12_judge_106, b_X12_judge_101, i_lit, i_m1, i_31, il_t, il_f, iq_t, iq_f, it_t, it_f, im_e, im_l, im_g, im_g2, nI_add, pk_mul, i_sub, i_div, sdm, i_dec, i_cl, iv_t, bI_or2, bI_t0, bI_one, not_true_eq_false, not_false_eq_true, ↓reduceIte, am_tl, am_tn, am_t0, am_n0, and_true, true_and, List.cons_append, List.nil_append, List.append_nil, e25'', z]
            exact fin
        · rw [if_neg (by decide), if_pos rfl] at fin
          simp (disch := first | assumption | omega | (simp only [ya_pi, ya_pj, ya_pa, ya_pr, yo_pi, yo_pj, yo_pa, yf_pi, yf_pj, yf_pa, yh_pi, yh_pj, yh_pa, yt_pi, yt_pj, yt_pa, la_pi, la_pj, la_pa]; assumption)) only [b_X12_judge_0, b_X12_judge_14, b_X12_judge_20, b_X12_judge_17, b_X12_judge_25, b_X12_judge_32, b_X12_judge_30, b_X12_judge_36, b_X12_judge_41, b_X12_judge_47, b_X12_judge_52, b_X12_judge_58, b_X12_judge_64, b_X12_judge_84, b_X12_judge_68, b_X12_judge_96, b_X12_judge_89, b_X12_judge_79, b_X12_judge_75, b_X12_judge_106, b_X12_judge_101, i_lit, i_m1, i_31, il_t, il_f, iq_t, iq_f, it_t, it_f, im_e, im_l, im_g, im_g2, nI_add, pk_mul, i_sub, i_div, sdm, i_dec, i_cl, iv_t, bI_or2, bI_t0, bI_one, not_true_eq_false, not_false_eq_true, ↓reduceIte, am_tl, am_tn, am_t0, am_n0, and_true, true_and, List.cons_append, List.nil_append, List.append_nil, e25'']
          exact fin
        · rw [if_neg (by decide), if_neg (by decide), if_pos rfl] at fin
          simp (disch := first | assumption | omega | (simp only [ya_pi, ya_pj, ya_pa, ya_pr, yo_pi, yo_pj, yo_pa, yf_pi, yf_pj, yf_pa, yh_pi, yh_pj, yh_pa, yt_pi, yt_pj, yt_pa, la_pi, la_pj, la_pa]; assumption)) only [b_X12_judge_0, b_X12_judge_14, b_X12_judge_20, b_X12_judge_17, b_X12_judge_25, b_X12_judge_32, b_X12_judge_30, b_X12_judge_36, b_X12_judge_41, b_X12_judge_47, b_X12_judge_52, b_X12_judge_58, b_X12_judge_64, b_X12_judge_84, b_X12_judge_68, b_X12_judge_96, b_X12_judge_89, b_X12_judge_79, b_X12_judge_75, b_X12_judge_106, b_X12_judge_101, i_lit, i_m1, i_31, il_t, il_f, iq_t, iq_f, it_t, it_f, im_e, im_l, im_g, im_g2, nI_add, pk_mul, i_sub, i_div, sdm, i_dec, i_cl, iv_t, bI_or2, bI_t0, bI_one, not_true_eq_false, not_false_eq_true, ↓reduceIte, am_tl, am_tn, am_t0, am_n0, and_true, true_and, List.cons_append, List.nil_append, List.append_nil, e25'']
          exact fin
        · rw [if_neg (by decide), if_neg (by decide), if_neg (by decide)] at fin
          simp (disch := first | assumption | omega | (simp only [ya_pi, ya_pj, ya_pa, ya_pr, yo_pi, yo_pj, yo_pa, yf_pi, yf_pj, yf_pa, yh_pi, yh_pj, yh_pa, yt_pi, yt_pj, yt_pa, la_pi, la_pj, la_pa]; assumption)) only [b_X12_judge_0, b_X12_judge_14, b_X12_judge_20, b_X12_judge_17, b_X12_judge_25, b_X12_judge_32, b_X12_judge_30, b_X12_judge_36, b_X12_judge_41, b_X12_judge_47, b_X12_judge_52, b_X12_judge_58, b_X12_judge_64, b_X12_judge_84, b_X12_judge_68, b_X12_judge_96, b_X12_judge_89, b_X12_judge_79, b_X12_judge_75, b_X12_judge_106, b_X12_judge_101, i_lit, i_m1, i_31, il_t, il_f, iq_t, iq_f, it_t, it_f, im_e, im_l, im_g, im_g2, nI_add, pk_mul, i_sub, i_div, sdm, i_dec, i_cl, iv_t, bI_or2, bI_t0, bI_one, not_true_eq_false, not_false_eq_true, ↓reduceIte, am_tl, am_tn, am_t0, am_n0, and_true, true_and, List.cons_append, List.nil_append, List.append_nil, e25'']
          exact fin
    · rw [tC_n hx, if_neg nI0_2] at k
      simp (disch := first | assumption | omega | (simp only [ya_pi, ya_pj, ya_pa, ya_pr, yo_pi, yo_pj, yo_pa, yf_pi, yf_pj, yf_pa, yh_pi, yh_pj, yh_pa, yt_pi, yt_pj, yt_pa, la_pi, la_pj, la_pa]; assumption)) only [b_X12_judge_0, b_X12_judge_14, b_X12_judge_20, b_X12_judge_17, b_X12_judge_25, b_X12_judge_32, b_X12_judge_30, b_X12_judge_36, b_X12_judge_41, b_X12_judge_47, b_X12_judge_52, b_X12_judge_58, b_X12_judge_64, b_X12_judge_84, b_X12_judge_68, b_X12_judge_96, b_X12_judge_89, b_X12_judge_79, b_X12_judge_75, b_X12_judge_106, b_X12_judge_101, i_lit, i_m1, i_31, il_t, il_f, iq_t, iq_f, it_t, it_f, im_e, im_l, im_g, im_g2, nI_add, pk_mul, i_sub, i_div, sdm, i_dec, i_cl, iv_t, bI_or2, bI_t0, bI_one, not_true_eq_false, not_false_eq_true, ↓reduceIte, am_tl, am_tn, am_t0, am_n0, and_true, true_and, List.cons_append, List.nil_append, List.append_nil, nI_l, l_lit, c_within_y, c_noTray L0 T0, tC_n hx, nI0_2]
      exact k _ fr0 C0
  · rw [if_neg hw] at k
    have z' : w.toInt64 < lN 0 ∨ lN 3 < w.toInt64 := by
      rw [w3]
      exact fun z => hw (lh_4.1 z)
    simp (disch := first | assumption | omega | (simp only [ya_pi, ya_pj, ya_pa, ya_pr, yo_pi, yo_pj, yo_pa, yf_pi, yf_pj, yf_pa, yh_pi, yh_pj, yh_pa, yt_pi, yt_pj, yt_pa, la_pi, la_pj, la_pa]; assumption)) only [b_X12_judge_0, b_X12_judge_14, b_X12_judge_20, b_X12_judge_17, b_X12_judge_25, b_X12_judge_32, b_X12_judge_30, b_X12_judge_36, b_X12_judge_41, b_X12_judge_47, b_X12_judge_52, b_X12_judge_58, b_X12_judge_64, b_X12_judge_84, b_X12_judge_68, b_X12_judge_96, b_X12_judge_89, b_X12_judge_79, b_X12_judge_75, b_X12_judge_106, b_X12_judge_101, i_lit, i_m1, i_31, il_t, il_f, iq_t, iq_f, it_t, it_f, im_e, im_l, im_g, im_g2, nI_add, pk_mul, i_sub, i_div, sdm, i_dec, i_cl, iv_t, bI_or2, bI_t0, bI_one, not_true_eq_false, not_false_eq_true, ↓reduceIte, am_tl, am_tn, am_t0, am_n0, and_true, true_and, List.cons_append, List.nil_append, List.append_nil, l_lit, c_within_n z']
    exact k _ fr0 C0
theorem c_draw {d : Nat} {Q : Option am_V → am_H → Prop} {h : am_H} {x : Int32} (L : Lay h) (e : h_i h 93 26 = x) {b : Nat} (hb : 0 < b) (hb2 : b < 1000) : ex_ d 307 0 [some (v_r (some 93)), some (v_i (nI b))] [] h Q ↔ Q (some (v_i (nI (u16 (nx x) % b)))) (p_i h 93 26 (nx x)) := by
  have e1 : nI 1103515245 * x + nI 12345 = nx x := rfl
  have l1 := u16_lt (nx x)
  rw [b_X12_draw_0 _ _ L]
  simp only [e, hi_s, i_lit, e1, u16_e, i_div (a := u16 (nx x)) (d := b) (by omega) hb (by omega), i_rem (a := u16 (nx x)) (d := b) (by omega) hb (by omega), iq_f (a := b) (b := 0) (by omega) (by omega) (by omega), not_false_eq_true, true_and]
theorem c_drawn {d : Nat} {Q : Option am_V → am_H → Prop} {h : am_H} {x : Int32} (L : Lay h) (e : h_i h 93 26 = x) {l1 : Option am_V} (k : ∀ h', am_fr h h' (fun a k => a = 93 ∧ k = 26) → h_i h' 93 26 = nx (nx x) → Q (some (v_i (nI (dv x)))) h') : ex_ (d + 1) 308 0 [some (v_r (some 93)), l1] [] h Q := by
  have e' : h_i (p_i h 93 26 (nx x)) 93 26 = nx x := hi_s
  have L1 : Lay (p_i h 93 26 (nx x)) := L
  have D6 := fun {d} {Q} => c_draw (d := d) (Q := Q) L e (b := 6) (by omega) (by omega)
  have D10 := fun {d} {Q} => c_draw (d := d) (Q := Q) L1 e' (b := 10) (by omega) (by omega)
  have D100 := fun {d} {Q} => c_draw (d := d) (Q := Q) L1 e' (b := 100) (by omega) (by omega)
  have D300 := fun {d} {Q} => c_draw (d := d) (Q := Q) L1 e' (b := 300) (by omega) (by omega)
  have l2 := u16_lt (nx (nx x))
  have l3 : u16 (nx x) % 6 < 6 := Nat.mod_lt _ (by omega)
  have fin : ∀ v, v = dv x → Q (some (v_i (nI v))) (p_i (p_i h 93 26 (nx x)) 93 26 (nx (nx x))) := fun v hv => by
    rw [hv]
    exact k _ ((am_fr_pi (by omega)).pi (by omega)) hi_s
  unfold dv ddn at fin
  rcases (show u16 (nx x) % 6 = 0 ∨ u16 (nx x) % 6 = 1 ∨ u16 (nx x) % 6 = 2 ∨ u16 (nx x) % 6 = 3 ∨ u16 (nx x) % 6 = 4 ∨ u16 (nx x) % 6 = 5 by omega) with z | z | z | z | z | z
  all_goals
    simp (disch := first | assumption | omega | (simp only [ya_pi, ya_pj, ya_pa, ya_pr, yo_pi, yo_pj, yo_pa, yf_pi, yf_pj, yf_pa, yh_pi, yh_pj, yh_pa, yt_pi, yt_pj, yt_pa, la_pi, la_pj, la_pa]; assumption)) only [b_X12_drawn_0, b_X12_drawn_6, b_X12_drawn_21, b_X12_drawn_11, b_X12_drawn_38, b_X12_drawn_26, b_X12_drawn_19, b_X12_drawn_48, b_X12_drawn_43, b_X12_drawn_36, b_X12_drawn_59, b_X12_drawn_53, b_X12_drawn_68, i_lit, i_m1, i_31, il_t, il_f, iq_t, iq_f, it_t, it_f, im_e, im_l, im_g, im_g2, nI_add, pk_mul, i_sub, i_div, sdm, i_dec, i_cl, iv_t, bI_or2, bI_t0, bI_one, not_true_eq_false, not_false_eq_true, ↓reduceIte, am_tl, am_tn, am_t0, am_n0, and_true, true_and, List.cons_append, List.nil_append, List.append_nil, D6, D10, D100, D300, z]
    exact fin _ (by rw [z]; rfl)
theorem c_rDay {d : Nat} {Q : Option am_V → am_H → Prop} {h : am_H} {S : St} {x n : Int32} {l3 l4 l5 : Option am_V} (ok : St_ok S) (C : rI h S) (k : ∀ h', am_fr h h' rX → rI h' (t_day S x n).2 → Q (some (v_i (t_day S x n).1)) h') : ex_ (d + 5) 309 0 [some (v_r (some 93)), some (v_i x), some (v_i n), l3, l4, l5] [] h Q := by
  have L := C.1
  obtain ⟨C0, fr0⟩ := C.p0 ok
  have gd : fa_gd (s_f S) := ok.1.1.1
  have L0 := C0.1
  unfold t_day at k
  by_cases z : n < nI 1
  · rw [if_neg (fun w => w.1 z)] at k
    have w : n.toInt64 < lN 1 ∨ lN 40 < n.toInt64 := Or.inl (by rw [← nI_l (n := 1) (by omega), lg64]; exact z)
    simp (disch := first | assumption | omega | (simp only [ya_pi, ya_pj, ya_pa, ya_pr, yo_pi, yo_pj, yo_pa, yf_pi, yf_pj, yf_pa, yh_pi, yh_pj, yh_pa, yt_pi, yt_pj, yt_pa, la_pi, la_pj, la_pa]; assumption)) only [b_X12_day_0, b_X12_day_14, b_X12_day_20, b_X12_day_17, b_X12_day_24, b_X12_day_74, b_X12_day_40, b_X12_day_82, b_X12_day_78, b_X12_day_44, b_X12_day_53, b_X12_day_59, b_X12_day_56, b_X12_day_65, i_lit, i_m1, i_31, il_t, il_f, iq_t, iq_f, it_t, it_f, im_e, im_l, im_g, im_g2, nI_add, pk_mul, i_sub, i_div, sdm, i_dec, i_cl, iv_t, bI_or2, bI_t0, bI_one, not_true_eq_false, not_false_eq_true, ↓reduceIte, am_tl, am_tn, am_t0, am_n0, and_true, true_and, List.cons_append, List.nil_append, List.append_nil, l_lit, c_within_n w]
    exact k _ fr0 C0
  · obtain ⟨n, h1, hn, rfl⟩ := lt_1 z
    by_cases y : n ≤ 40
    · rw [if_pos ⟨z, nI_le y (by omega)⟩, nI_clamp hn] at k
      simp (disch := first | assumption | omega | (simp only [ya_pi, ya_pj, ya_pa, ya_pr, yo_pi, yo_pj, yo_pa, yf_pi, yf_pj, yf_pa, yh_pi, yh_pj, yh_pa, yt_pi, yt_pj, yt_pa, la_pi, la_pj, la_pa]; assumption)) only [b_X12_day_0, b_X12_day_14, b_X12_day_20, b_X12_day_17, b_X12_day_24, b_X12_day_74, b_X12_day_40, b_X12_day_82, b_X12_day_78, b_X12_day_44, b_X12_day_53, b_X12_day_59, b_X12_day_56, b_X12_day_65, i_lit, i_m1, i_31, il_t, il_f, iq_t, iq_f, it_t, it_f, im_e, im_l, im_g, im_g2, nI_add, pk_mul, i_sub, i_div, sdm, i_dec, i_cl, iv_t, bI_or2, bI_t0, bI_one, not_true_eq_false, not_false_eq_true, ↓reduceIte, am_tl, am_tn, am_t0, am_n0, and_true, true_and, List.cons_append, List.nil_append, List.append_nil, nI_l, l_lit, c_within_y]
      refine c_rStores ok C0 (fun h1 fr1 C1 B1 => ?_)
      have L1 := C1.1
      simp (disch := first | assumption | omega | (simp only [ya_pi, ya_pj, ya_pa, ya_pr, yo_pi, yo_pj, yo_pa, yf_pi, yf_pj, yf_pa, yh_pi, yh_pj, yh_pa, yt_pi, yt_pj, yt_pa, la_pi, la_pj, la_pa]; assumption)) only [b_X12_day_0, b_X12_day_14, b_X12_day_20, b_X12_day_17, b_X12_day_24, b_X12_day_74, b_X12_day_40, b_X12_day_82, b_X12_day_78, b_X12_day_44, b_X12_day_53, b_X12_day_59, b_X12_day_56, b_X12_day_65, i_lit, i_m1, i_31, il_t, il_f, iq_t, iq_f, it_t, it_f, im_e, im_l, im_g, im_g2, nI_add, pk_mul, i_sub, i_div, sdm, i_dec, i_cl, iv_t, bI_or2, bI_t0, bI_one, not_true_eq_false, not_false_eq_true, ↓reduceIte, am_tl, am_tn, am_t0, am_n0, and_true, true_and, List.cons_append, List.nil_append, List.append_nil]
      have R1 := C1.2.2.1
      have F1 := C1.rfa
      have fr01 := fr0.tr (fr1.le (fun a k (z : rS a k) => z.X))
      refine lp_up n (fun i (s : fa_S × Int32 × Nat × Option am_V) => [some (v_r (some 93)), some (v_i x), some (v_i (nI n)), some (v_i (nI s.2.2.1)), some (v_i (nI i)), s.2.2.2]) (fun i s h' => am_fr h1 h' (fun a k => rF a k ∨ (a = 93 ∧ (k = 26 ∨ k = 25))) ∧ fa_gd s.1 ∧ rfa h' s.1 ∧ h_i h' 93 26 = s.2.1 ∧ s.2.2.1 ≤ i ∧ f_n s.1 = f_n (s_f S) ∧ (s.2.2.1 = 0 → s.1 = s_f S) ∧ dy n (s_f S) x = (s.2.2.1 + (dy (n - i) s.1 s.2.1).1, (dy (n - i) s.1 s.2.1).2)) ?_ ?_ (Nat.zero_le _) ⟨am_fr_pi (by omega), gd, p0_rfa gd.1 F1, hi_s, Nat.le_refl _, rfl, fun _ => rfl, by rw [Nat.sub_zero, Nat.zero_add]⟩ (s := (s_f S, x, 0, l5))
      · rintro i ⟨g, x1, m, lx⟩ h2 hi ⟨fr2, gdg, G, e26, hm, fng, m0, eq⟩ nxt
        dsimp only at gdg G e26 hm fng m0 eq ⊢
        have L2 := G.1
        have lv : dv x1 < 1300 := dd_lt
        rw [show n - i = (n - (i + 1)) + 1 from by omega, dy] at eq
        rw [b_X12_day_34 _ _ _ _ _ _ _]
        simp (disch := first | assumption | omega | (simp only [ya_pi, ya_pj, ya_pa, ya_pr, yo_pi, yo_pj, yo_pa, yf_pi, yf_pj, yf_pa, yh_pi, yh_pj, yh_pa, yt_pi, yt_pj, yt_pa, la_pi, la_pj, la_pa]; assumption)) only [b_X12_day_0, b_X12_day_14, b_X12_day_20, b_X12_day_17, b_X12_day_24, b_X12_day_74, b_X12_day_40, b_X12_day_82, b_X12_day_78, b_X12_day_44, b_X12_day_53, b_X12_day_59, b_X12_day_56, b_X12_day_65, i_lit, i_m1, i_31, il_t, il_f, iq_t, iq_f, it_t, it_f, im_e, im_l, im_g, im_g2, nI_add, pk_mul, i_sub, i_div, sdm, i_dec, i_cl, iv_t, bI_or2, bI_t0, bI_one, not_true_eq_false, not_false_eq_true, ↓reduceIte, am_tl, am_tn, am_t0, am_n0, and_true, true_and, List.cons_append, List.nil_append, List.append_nil]
        refine c_drawn L2 e26 (fun h3 fr3 e3 => ?_)
        have G3 : rfa h3 g := fr3.rfa gdg.1 G (fun k hk => by omega)
        have L3 := G3.1
        by_cases w : (d_do g (lN (dv x1))).1 = nI 0
        · rw [if_pos w] at eq
          obtain ⟨v, v1, v2, ev, en⟩ := d_do_v w
          have evd : dv x1 = v := (pk_lEQ (by omega) (by omega)).1 ev
          rw [evd] at w eq en
          have w' := w
          rw [en] at w
          simp (disch := first | assumption | omega | (simp only [ya_pi, ya_pj, ya_pa, ya_pr, yo_pi, yo_pj, yo_pa, yf_pi, yf_pj, yf_pa, yh_pi, yh_pj, yh_pa, yt_pi, yt_pj, yt_pa, la_pi, la_pj, la_pa]; assumption)) only [b_X12_day_0, b_X12_day_14, b_X12_day_20, b_X12_day_17, b_X12_day_24, b_X12_day_74, b_X12_day_40, b_X12_day_82, b_X12_day_78, b_X12_day_44, b_X12_day_53, b_X12_day_59, b_X12_day_56, b_X12_day_65, i_lit, i_m1, i_31, il_t, il_f, iq_t, iq_f, it_t, it_f, im_e, im_l, im_g, im_g2, nI_add, pk_mul, i_sub, i_div, sdm, i_dec, i_cl, iv_t, bI_or2, bI_t0, bI_one, not_true_eq_false, not_false_eq_true, ↓reduceIte, am_tl, am_tn, am_t0, am_n0, and_true, true_and, List.cons_append, List.nil_append, List.append_nil, nI_l, evd, c_whyNot gdg G3, w']
          refine c_does gdg G3 v1 v2 w (fun h4 fr4 G4 => ?_)
          simp (disch := first | assumption | omega | (simp only [ya_pi, ya_pj, ya_pa, ya_pr, yo_pi, yo_pj, yo_pa, yf_pi, yf_pj, yf_pa, yh_pi, yh_pj, yh_pa, yt_pi, yt_pj, yt_pa, la_pi, la_pj, la_pa]; assumption)) only [b_X12_day_0, b_X12_day_14, b_X12_day_20, b_X12_day_17, b_X12_day_24, b_X12_day_74, b_X12_day_40, b_X12_day_82, b_X12_day_78, b_X12_day_44, b_X12_day_53, b_X12_day_59, b_X12_day_56, b_X12_day_65, i_lit, i_m1, i_31, il_t, il_f, iq_t, iq_f, it_t, it_f, im_e, im_l, im_g, im_g2, nI_add, pk_mul, i_sub, i_div, sdm, i_dec, i_cl, iv_t, bI_or2, bI_t0, bI_one, not_true_eq_false, not_false_eq_true, ↓reduceIte, am_tl, am_tn, am_t0, am_n0, and_true, true_and, List.cons_append, List.nil_append, List.append_nil]
          refine nxt ((d_doN g v).2, nx (nx x1), m + 1, _) h4 ⟨(fr2.tr (fr3.le (fun a k z => by omega))).tr (fr4.le (fun a k z => Or.inl z)), gd_doN gdg, G4, ?_, by dsimp only; omega, ?_, fun z => absurd z (Nat.succ_ne_zero m), ?_⟩
          · rw [fr4.i (by unfold rF; omega)]; exact e3
          · dsimp only
            rw [← fng, ← fn_do (f := g) (v := lN v), en]
          · rw [eq, en]
            dsimp only
            congr 1
            omega
        · rw [if_neg w] at eq
          simp (disch := first | assumption | omega | (simp only [ya_pi, ya_pj, ya_pa, ya_pr, yo_pi, yo_pj, yo_pa, yf_pi, yf_pj, yf_pa, yh_pi, yh_pj, yh_pa, yt_pi, yt_pj, yt_pa, la_pi, la_pj, la_pa]; assumption)) only [b_X12_day_0, b_X12_day_14, b_X12_day_20, b_X12_day_17, b_X12_day_24, b_X12_day_74, b_X12_day_40, b_X12_day_82, b_X12_day_78, b_X12_day_44, b_X12_day_53, b_X12_day_59, b_X12_day_56, b_X12_day_65, i_lit, i_m1, i_31, il_t, il_f, iq_t, iq_f, it_t, it_f, im_e, im_l, im_g, im_g2, nI_add, pk_mul, i_sub, i_div, sdm, i_dec, i_cl, iv_t, bI_or2, bI_t0, bI_one, not_true_eq_false, not_false_eq_true, ↓reduceIte, am_tl, am_tn, am_t0, am_n0, and_true, true_and, List.cons_append, List.nil_append, List.append_nil, nI_l, c_whyNot gdg G3, w]
          exact nxt (g, nx (nx x1), m, _) h3 ⟨fr2.tr (fr3.le (fun a k z => by omega)), gdg, G3, e3, by dsimp only; omega, fng, m0, eq⟩
      · rintro ⟨g, x1, m, lx⟩ h2 ⟨fr2, gdg, G, e26, hm, fng, m0, eq⟩
        dsimp only at gdg G e26 hm fng m0 eq ⊢
        have L2 := G.1
        rw [Nat.sub_self, dy] at eq
        rw [eq] at k
        dsimp only at k
        rw [Nat.add_zero] at k
        have fr12 := fr01.tr (fr2.le (fun a k z => by unfold rX rS; unfold rF at z; omega))
        have R2 := fr2.rpa L1 (okp ok) R1 (fun k h1 h2 => by unfold rF; omega)
        have B2 : fb h2 105 0 (s_f S) := fr2.fb (fa_len gd) B1 (fun k _ _ => by unfold rF; omega)
        rw [b_X12_day_34 _ _ _ _ _ _ _]
        by_cases w : 0 < m
        · rw [if_pos w] at k
          simp (disch := first | assumption | omega | (simp only [ya_pi, ya_pj, ya_pa, ya_pr, yo_pi, yo_pj, yo_pa, yf_pi, yf_pj, yf_pa, yh_pi, yh_pj, yh_pa, yt_pi, yt_pj, yt_pa, la_pi, la_pj, la_pa]; assumption)) only [b_X12_day_0, b_X12_day_14, b_X12_day_20, b_X12_day_17, b_X12_day_24, b_X12_day_74, b_X12_day_40, b_X12_day_82, b_X12_day_78, b_X12_day_44, b_X12_day_53, b_X12_day_59, b_X12_day_56, b_X12_day_65, i_lit, i_m1, i_31, il_t, il_f, iq_t, iq_f, it_t, it_f, im_e, im_l, im_g, im_g2, nI_add, pk_mul, i_sub, i_div, sdm, i_dec, i_cl, iv_t, bI_or2, bI_t0, bI_one, not_true_eq_false, not_false_eq_true, ↓reduceIte, am_tl, am_tn, am_t0, am_n0, and_true, true_and, List.cons_append, List.nil_append, List.append_nil]
          refine c_notes L2 gd.1 (okpf ok) R2 B2 (fun h3 fr3 R3 => ?_)
          simp (disch := first | assumption | omega | (simp only [ya_pi, ya_pj, ya_pa, ya_pr, yo_pi, yo_pj, yo_pa, yf_pi, yf_pj, yf_pa, yh_pi, yh_pj, yh_pa, yt_pi, yt_pj, yt_pa, la_pi, la_pj, la_pa]; assumption)) only [b_X12_day_0, b_X12_day_14, b_X12_day_20, b_X12_day_17, b_X12_day_24, b_X12_day_74, b_X12_day_40, b_X12_day_82, b_X12_day_78, b_X12_day_44, b_X12_day_53, b_X12_day_59, b_X12_day_56, b_X12_day_65, i_lit, i_m1, i_31, il_t, il_f, iq_t, iq_f, it_t, it_f, im_e, im_l, im_g, im_g2, nI_add, pk_mul, i_sub, i_div, sdm, i_dec, i_cl, iv_t, bI_or2, bI_t0, bI_one, not_true_eq_false, not_false_eq_true, ↓reduceIte, am_tl, am_tn, am_t0, am_n0, and_true, true_and, List.cons_append, List.nil_append, List.append_nil]
          have fr := fr12.tr (fr3.le (fun a k z => z.X))
          exact k h3 fr (C.facts ok fr (fr3.rfa gdg.1 G (fun k hk => by unfold rN; omega)) R3)
        · rw [if_neg w] at k
          rw [m0 (by omega)] at G
          simp (disch := first | assumption | omega | (simp only [ya_pi, ya_pj, ya_pa, ya_pr, yo_pi, yo_pj, yo_pa, yf_pi, yf_pj, yf_pa, yh_pi, yh_pj, yh_pa, yt_pi, yt_pj, yt_pa, la_pi, la_pj, la_pa]; assumption)) only [b_X12_day_0, b_X12_day_14, b_X12_day_20, b_X12_day_17, b_X12_day_24, b_X12_day_74, b_X12_day_40, b_X12_day_82, b_X12_day_78, b_X12_day_44, b_X12_day_53, b_X12_day_59, b_X12_day_56, b_X12_day_65, i_lit, i_m1, i_31, il_t, il_f, iq_t, iq_f, it_t, it_f, im_e, im_l, im_g, im_g2, nI_add, pk_mul, i_sub, i_div, sdm, i_dec, i_cl, iv_t, bI_or2, bI_t0, bI_one, not_true_eq_false, not_false_eq_true, ↓reduceIte, am_tl, am_tn, am_t0, am_n0, and_true, true_and, List.cons_append, List.nil_append, List.append_nil]
          exact k h2 fr12 (C.facts ok fr12 G R2)
    · rw [if_neg (fun w => y ((nI_leI hn (by omega)).1 w.2))] at k
      have w : (lN n) < lN 1 ∨ lN 40 < (lN n) := Or.inr ((pk_lLT (by omega) (by omega)).2 (by omega))
      simp (disch := first | assumption | omega | (simp only [ya_pi, ya_pj, ya_pa, ya_pr, yo_pi, yo_pj, yo_pa, yf_pi, yf_pj, yf_pa, yh_pi, yh_pj, yh_pa, yt_pi, yt_pj, yt_pa, la_pi, la_pj, la_pa]; assumption)) only [b_X12_day_0, b_X12_day_14, b_X12_day_20, b_X12_day_17, b_X12_day_24, b_X12_day_74, b_X12_day_40, b_X12_day_82, b_X12_day_78, b_X12_day_44, b_X12_day_53, b_X12_day_59, b_X12_day_56, b_X12_day_65, i_lit, i_m1, i_31, il_t, il_f, iq_t, iq_f, it_t, it_f, im_e, im_l, im_g, im_g2, nI_add, pk_mul, i_sub, i_div, sdm, i_dec, i_cl, iv_t, bI_or2, bI_t0, bI_one, not_true_eq_false, not_false_eq_true, ↓reduceIte, am_tl, am_tn, am_t0, am_n0, and_true, true_and, List.cons_append, List.nil_append, List.append_nil, nI_l, l_lit, c_within_n w]
      exact k _ fr0 C0
