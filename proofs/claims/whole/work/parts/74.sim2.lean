/-! ===== simple questions: the reference ===== -/
theorem c_rParent {d : Nat} {Q : Option am_V → am_H → Prop} {h : am_H} {f : fa_S} (ok : fa_ok f) (F : rfa h f) {c i : Int32} (k : ∀ h', am_fr h h' rS → Q (some (v_i (a_parent f c i))) h') : ex_ (d + 2) 275 0 [some (v_r (some 93)), some (v_i c), some (v_i i)] [] h Q := by
  have L0 := F.1
  have hn := ok.1
  have F0 : rfa (p_i h 93 0 (nI 0)) f := p0_rfa ok F
  have fr0 : am_fr h (p_i h 93 0 (nI 0)) rS := am_fr_pi (by unfold rS; omega)
  unfold a_parent at k
  rcases fa_cs hn c with ⟨a, ha, rfl⟩ | hc
  · have hh : fa_has (f_n f) (nI a) := (fa_has_iff hn).2 ⟨a, ha, rfl⟩
    have a10 : a < 10 := by omega
    have e0 := r_cnt F0 a10
    have h4 := (ok.2 a).1
    rw [if_pos hh, nI_clamp (by omega)] at k
    by_cases hi : i < 0
    · rw [if_pos hi] at k
      simp (disch := first | assumption | omega | (simp only [ya_pi, ya_pj, ya_pa, ya_pr, yo_pi, yo_pj, yo_pa, yf_pi, yf_pj, yf_pa, yh_pi, yh_pj, yh_pa, yt_pi, yt_pj, yt_pa, la_pi, la_pj, la_pa]; assumption)) only [b_X12_parent_0, b_X12_parent_11, b_X12_parent_17, b_X12_parent_14, b_X12_parent_24, b_X12_parent_21, b_X12_parent_46, b_X12_parent_37, b_X12_parent_43, i_lit, i_m1, i_31, il_t, il_f, iq_t, iq_f, it_t, it_f, im_e, im_l, im_g, im_g2, nI_add, pk_mul, i_sub, i_div, sdm, i_dec, i_cl, iv_t, bI_or2, bI_t0, bI_one, not_true_eq_false, not_false_eq_true, ↓reduceIte, am_tl, am_tn, am_t0, am_n0, and_true, true_and, List.cons_append, List.nil_append, List.append_nil, or_true, true_or, or_false, false_or, eq_self, ior0, iand0, im_e2, oI, nI_l, c_isClass_y ok F0 ha, ge0 hi]
      exact k _ fr0
    · obtain ⟨i, hi2, rfl⟩ := nI_of hi
      rw [if_neg hi, nI_clamp hi2] at k
      by_cases z : i < (f_p f a).length
      · rw [gI z] at k
        simp (disch := first | assumption | omega | (simp only [ya_pi, ya_pj, ya_pa, ya_pr, yo_pi, yo_pj, yo_pa, yf_pi, yf_pj, yf_pa, yh_pi, yh_pj, yh_pa, yt_pi, yt_pj, yt_pa, la_pi, la_pj, la_pa]; assumption)) only [b_X12_parent_0, b_X12_parent_11, b_X12_parent_17, b_X12_parent_14, b_X12_parent_24, b_X12_parent_21, b_X12_parent_46, b_X12_parent_37, b_X12_parent_43, i_lit, i_m1, i_31, il_t, il_f, iq_t, iq_f, it_t, it_f, im_e, im_l, im_g, im_g2, nI_add, pk_mul, i_sub, i_div, sdm, i_dec, i_cl, iv_t, bI_or2, bI_t0, bI_one, not_true_eq_false, not_false_eq_true, ↓reduceIte, am_tl, am_tn, am_t0, am_n0, and_true, true_and, List.cons_append, List.nil_append, List.append_nil, or_true, true_or, or_false, false_or, eq_self, ior0, iand0, im_e2, oI, nI_l, c_isClass_y ok F0 ha, e0, c_rParentAt F0 a10 z h4]
        exact k _ fr0
      · rw [gI_n (by omega)] at k
        simp (disch := first | assumption | omega | (simp only [ya_pi, ya_pj, ya_pa, ya_pr, yo_pi, yo_pj, yo_pa, yf_pi, yf_pj, yf_pa, yh_pi, yh_pj, yh_pa, yt_pi, yt_pj, yt_pa, la_pi, la_pj, la_pa]; assumption)) only [b_X12_parent_0, b_X12_parent_11, b_X12_parent_17, b_X12_parent_14, b_X12_parent_24, b_X12_parent_21, b_X12_parent_46, b_X12_parent_37, b_X12_parent_43, i_lit, i_m1, i_31, il_t, il_f, iq_t, iq_f, it_t, it_f, im_e, im_l, im_g, im_g2, nI_add, pk_mul, i_sub, i_div, sdm, i_dec, i_cl, iv_t, bI_or2, bI_t0, bI_one, not_true_eq_false, not_false_eq_true, ↓reduceIte, am_tl, am_tn, am_t0, am_n0, and_true, true_and, List.cons_append, List.nil_append, List.append_nil, or_true, true_or, or_false, false_or, eq_self, ior0, iand0, im_e2, oI, nI_l, c_isClass_y ok F0 ha, e0]
        exact k _ fr0
  · rw [if_neg hc] at k
    simp (disch := first | assumption | omega | (simp only [ya_pi, ya_pj, ya_pa, ya_pr, yo_pi, yo_pj, yo_pa, yf_pi, yf_pj, yf_pa, yh_pi, yh_pj, yh_pa, yt_pi, yt_pj, yt_pa, la_pi, la_pj, la_pa]; assumption)) only [b_X12_parent_0, b_X12_parent_11, b_X12_parent_17, b_X12_parent_14, b_X12_parent_24, b_X12_parent_21, b_X12_parent_46, b_X12_parent_37, b_X12_parent_43, i_lit, i_m1, i_31, il_t, il_f, iq_t, iq_f, it_t, it_f, im_e, im_l, im_g, im_g2, nI_add, pk_mul, i_sub, i_div, sdm, i_dec, i_cl, iv_t, bI_or2, bI_t0, bI_one, not_true_eq_false, not_false_eq_true, ↓reduceIte, am_tl, am_tn, am_t0, am_n0, and_true, true_and, List.cons_append, List.nil_append, List.append_nil, or_true, true_or, or_false, false_or, eq_self, ior0, iand0, im_e2, oI, c_isClass_32 ok F0 hc]
    exact k _ fr0
theorem c_rDefines {d : Nat} {Q : Option am_V → am_H → Prop} {h : am_H} {f : fa_S} (ok : fa_ok f) (F : rfa h f) {c m : Int32} (k : ∀ h', am_fr h h' rS → Q (some (v_i (a_defines f c m))) h') : ex_ (d + 2) 276 0 [some (v_r (some 93)), some (v_i c), some (v_i m)] [] h Q := by
  have L0 := F.1
  have hn := ok.1
  have F0 : rfa (p_i h 93 0 (nI 0)) f := p0_rfa ok F
  have fr0 : am_fr h (p_i h 93 0 (nI 0)) rS := am_fr_pi (by unfold rS; omega)
  unfold a_defines at k
  rcases fa_cs hn c with ⟨a, ha, rfl⟩ | hc
  · have hh : fa_has (f_n f) (nI a) := (fa_has_iff hn).2 ⟨a, ha, rfl⟩
    have a10 : a < 10 := by omega
    rcases me_cs m with ⟨j, hj, rfl⟩ | hm
    · rw [if_pos ⟨hh, nI_pos (by omega), nI_lt hj (by omega)⟩, nI_clamp (by omega), nI_clamp (by omega)] at k
      have e0 := r_def F0 a10 hj
      simp (disch := first | assumption | omega | (simp only [ya_pi, ya_pj, ya_pa, ya_pr, yo_pi, yo_pj, yo_pa, yf_pi, yf_pj, yf_pa, yh_pi, yh_pj, yh_pa, yt_pi, yt_pj, yt_pa, la_pi, la_pj, la_pa]; assumption)) only [b_X12_defines_0, b_X12_defines_11, b_X12_defines_39, b_X12_defines_14, b_X12_defines_19, b_X12_defines_22, i_lit, i_m1, i_31, il_t, il_f, iq_t, iq_f, it_t, it_f, im_e, im_l, im_g, im_g2, nI_add, pk_mul, i_sub, i_div, sdm, i_dec, i_cl, iv_t, bI_or2, bI_t0, bI_one, not_true_eq_false, not_false_eq_true, ↓reduceIte, am_tl, am_tn, am_t0, am_n0, and_true, true_and, List.cons_append, List.nil_append, List.append_nil, or_true, true_or, or_false, false_or, eq_self, ior0, iand0, im_e2, oI, nI_l, c_isClass_y ok F0 ha, c_rMethod_y hj, e0]
      exact k _ fr0
    · rw [if_neg (fun z => hm z.2)] at k
      simp (disch := first | assumption | omega | (simp only [ya_pi, ya_pj, ya_pa, ya_pr, yo_pi, yo_pj, yo_pa, yf_pi, yf_pj, yf_pa, yh_pi, yh_pj, yh_pa, yt_pi, yt_pj, yt_pa, la_pi, la_pj, la_pa]; assumption)) only [b_X12_defines_0, b_X12_defines_11, b_X12_defines_39, b_X12_defines_14, b_X12_defines_19, b_X12_defines_22, i_lit, i_m1, i_31, il_t, il_f, iq_t, iq_f, it_t, it_f, im_e, im_l, im_g, im_g2, nI_add, pk_mul, i_sub, i_div, sdm, i_dec, i_cl, iv_t, bI_or2, bI_t0, bI_one, not_true_eq_false, not_false_eq_true, ↓reduceIte, am_tl, am_tn, am_t0, am_n0, and_true, true_and, List.cons_append, List.nil_append, List.append_nil, or_true, true_or, or_false, false_or, eq_self, ior0, iand0, im_e2, oI, nI_l, c_isClass_y ok F0 ha, c_rMethod_n (lh_8 hm)]
      exact k _ fr0
  · rw [if_neg (fun z => hc z.1)] at k
    simp (disch := first | assumption | omega | (simp only [ya_pi, ya_pj, ya_pa, ya_pr, yo_pi, yo_pj, yo_pa, yf_pi, yf_pj, yf_pa, yh_pi, yh_pj, yh_pa, yt_pi, yt_pj, yt_pa, la_pi, la_pj, la_pa]; assumption)) only [b_X12_defines_0, b_X12_defines_11, b_X12_defines_39, b_X12_defines_14, b_X12_defines_19, b_X12_defines_22, i_lit, i_m1, i_31, il_t, il_f, iq_t, iq_f, it_t, it_f, im_e, im_l, im_g, im_g2, nI_add, pk_mul, i_sub, i_div, sdm, i_dec, i_cl, iv_t, bI_or2, bI_t0, bI_one, not_true_eq_false, not_false_eq_true, ↓reduceIte, am_tl, am_tn, am_t0, am_n0, and_true, true_and, List.cons_append, List.nil_append, List.append_nil, or_true, true_or, or_false, false_or, eq_self, ior0, iand0, im_e2, oI, c_isClass_32 ok F0 hc]
    exact k _ fr0
theorem c_rState {d : Nat} {Q : Option am_V → am_H → Prop} {h : am_H} {f : fa_S} (ok : fa_ok f) (F : rfa h f) {c : Int32} (k : ∀ h', am_fr h h' rS → Q (some (v_i (a_state f c))) h') : ex_ (d + 4) 277 0 [some (v_r (some 93)), some (v_i c)] [] h Q := by
  have L0 := F.1
  have hn := ok.1
  have F0 : rfa (p_i h 93 0 (nI 0)) f := p0_rfa ok F
  have fr0 : am_fr h (p_i h 93 0 (nI 0)) rS := am_fr_pi (by unfold rS; omega)
  unfold a_state at k
  rcases fa_cs hn c with ⟨a, ha, rfl⟩ | hc
  · have hh : fa_has (f_n f) (nI a) := (fa_has_iff hn).2 ⟨a, ha, rfl⟩
    rw [if_pos hh, nI_clamp (by omega)] at k
    simp (disch := first | assumption | omega | (simp only [ya_pi, ya_pj, ya_pa, ya_pr, yo_pi, yo_pj, yo_pa, yf_pi, yf_pj, yf_pa, yh_pi, yh_pj, yh_pa, yt_pi, yt_pj, yt_pa, la_pi, la_pj, la_pa]; assumption)) only [b_X12_state_0, b_X12_state_11, b_X12_state_17, b_X12_state_14, b_X12_state_21, i_lit, i_m1, i_31, il_t, il_f, iq_t, iq_f, it_t, it_f, im_e, im_l, im_g, im_g2, nI_add, pk_mul, i_sub, i_div, sdm, i_dec, i_cl, iv_t, bI_or2, bI_t0, bI_one, not_true_eq_false, not_false_eq_true, ↓reduceIte, am_tl, am_tn, am_t0, am_n0, and_true, true_and, List.cons_append, List.nil_append, List.append_nil, or_true, true_or, or_false, false_or, eq_self, ior0, iand0, im_e2, oI, nI_l, c_isClass_y ok F0 ha]
    refine c_laysOrders ok F0 (fun h1 fr1 (A1 : ra h1 (fT f) (f_n f)) => ?_)
    have L1 := A1.1
    have e1 := (A1.2 a ha).1
    simp (disch := first | assumption | omega | (simp only [ya_pi, ya_pj, ya_pa, ya_pr, yo_pi, yo_pj, yo_pa, yf_pi, yf_pj, yf_pa, yh_pi, yh_pj, yh_pa, yt_pi, yt_pj, yt_pa, la_pi, la_pj, la_pa]; assumption)) only [b_X12_state_0, b_X12_state_11, b_X12_state_17, b_X12_state_14, b_X12_state_21, i_lit, i_m1, i_31, il_t, il_f, iq_t, iq_f, it_t, it_f, im_e, im_l, im_g, im_g2, nI_add, pk_mul, i_sub, i_div, sdm, i_dec, i_cl, iv_t, bI_or2, bI_t0, bI_one, not_true_eq_false, not_false_eq_true, ↓reduceIte, am_tl, am_tn, am_t0, am_n0, and_true, true_and, List.cons_append, List.nil_append, List.append_nil, or_true, true_or, or_false, false_or, eq_self, ior0, iand0, im_e2, oI, e1]
    exact k h1 (fr0.tr (fr1.le (fun a k z => z.S)))
  · rw [if_neg hc] at k
    simp (disch := first | assumption | omega | (simp only [ya_pi, ya_pj, ya_pa, ya_pr, yo_pi, yo_pj, yo_pa, yf_pi, yf_pj, yf_pa, yh_pi, yh_pj, yh_pa, yt_pi, yt_pj, yt_pa, la_pi, la_pj, la_pa]; assumption)) only [b_X12_state_0, b_X12_state_11, b_X12_state_17, b_X12_state_14, b_X12_state_21, i_lit, i_m1, i_31, il_t, il_f, iq_t, iq_f, it_t, it_f, im_e, im_l, im_g, im_g2, nI_add, pk_mul, i_sub, i_div, sdm, i_dec, i_cl, iv_t, bI_or2, bI_t0, bI_one, not_true_eq_false, not_false_eq_true, ↓reduceIte, am_tl, am_tn, am_t0, am_n0, and_true, true_and, List.cons_append, List.nil_append, List.append_nil, or_true, true_or, or_false, false_or, eq_self, ior0, iand0, im_e2, oI, c_isClass_32 ok F0 hc]
    exact k _ fr0
theorem c_rOrder {d : Nat} {Q : Option am_V → am_H → Prop} {h : am_H} {f : fa_S} (ok : fa_ok f) (F : rfa h f) {c i : Int32} (k : ∀ h', am_fr h h' rS → Q (some (v_i (a_order f c i))) h') : ex_ (d + 4) 278 0 [some (v_r (some 93)), some (v_i c), some (v_i i)] [] h Q := by
  have L0 := F.1
  have hn := ok.1
  have F0 : rfa (p_i h 93 0 (nI 0)) f := p0_rfa ok F
  have fr0 : am_fr h (p_i h 93 0 (nI 0)) rS := am_fr_pi (by unfold rS; omega)
  unfold a_order at k
  rcases fa_cs hn c with ⟨a, ha, rfl⟩ | hc
  · have hh : fa_has (f_n f) (nI a) := (fa_has_iff hn).2 ⟨a, ha, rfl⟩
    have ho := fT_ok ok a ha
    rw [if_pos hh, nI_clamp (by omega)] at k
    by_cases hi : i < 0
    · rw [if_pos hi] at k
      simp (disch := first | assumption | omega | (simp only [ya_pi, ya_pj, ya_pa, ya_pr, yo_pi, yo_pj, yo_pa, yf_pi, yf_pj, yf_pa, yh_pi, yh_pj, yh_pa, yt_pi, yt_pj, yt_pa, la_pi, la_pj, la_pa]; assumption)) only [b_X12_order_0, b_X12_order_11, b_X12_order_17, b_X12_order_14, b_X12_order_24, b_X12_order_21, b_X12_order_28, b_X12_order_52, b_X12_order_38, i_lit, i_m1, i_31, il_t, il_f, iq_t, iq_f, it_t, it_f, im_e, im_l, im_g, im_g2, nI_add, pk_mul, i_sub, i_div, sdm, i_dec, i_cl, iv_t, bI_or2, bI_t0, bI_one, not_true_eq_false, not_false_eq_true, ↓reduceIte, am_tl, am_tn, am_t0, am_n0, and_true, true_and, List.cons_append, List.nil_append, List.append_nil, or_true, true_or, or_false, false_or, eq_self, ior0, iand0, im_e2, oI, nI_l, c_isClass_y ok F0 ha, ge0 hi]
      exact k _ fr0
    · obtain ⟨i, hi2, rfl⟩ := nI_of hi
      rw [if_neg hi, nI_clamp hi2] at k
      simp (disch := first | assumption | omega | (simp only [ya_pi, ya_pj, ya_pa, ya_pr, yo_pi, yo_pj, yo_pa, yf_pi, yf_pj, yf_pa, yh_pi, yh_pj, yh_pa, yt_pi, yt_pj, yt_pa, la_pi, la_pj, la_pa]; assumption)) only [b_X12_order_0, b_X12_order_11, b_X12_order_17, b_X12_order_14, b_X12_order_24, b_X12_order_21, b_X12_order_28, b_X12_order_52, b_X12_order_38, i_lit, i_m1, i_31, il_t, il_f, iq_t, iq_f, it_t, it_f, im_e, im_l, im_g, im_g2, nI_add, pk_mul, i_sub, i_div, sdm, i_dec, i_cl, iv_t, bI_or2, bI_t0, bI_one, not_true_eq_false, not_false_eq_true, ↓reduceIte, am_tl, am_tn, am_t0, am_n0, and_true, true_and, List.cons_append, List.nil_append, List.append_nil, or_true, true_or, or_false, false_or, eq_self, ior0, iand0, im_e2, oI, nI_l, c_isClass_y ok F0 ha]
      refine c_laysOrders ok F0 (fun h1 fr1 (A1 : ra h1 (fT f) (f_n f)) => ?_)
      have L1 := A1.1
      obtain ⟨-, e98, r99⟩ := A1.2 a ha
      by_cases z : i < (fT f a).2.length
      · rw [gI z] at k
        have e99 := r99 i z
        simp (disch := first | assumption | omega | (simp only [ya_pi, ya_pj, ya_pa, ya_pr, yo_pi, yo_pj, yo_pa, yf_pi, yf_pj, yf_pa, yh_pi, yh_pj, yh_pa, yt_pi, yt_pj, yt_pa, la_pi, la_pj, la_pa]; assumption)) only [b_X12_order_0, b_X12_order_11, b_X12_order_17, b_X12_order_14, b_X12_order_24, b_X12_order_21, b_X12_order_28, b_X12_order_52, b_X12_order_38, i_lit, i_m1, i_31, il_t, il_f, iq_t, iq_f, it_t, it_f, im_e, im_l, im_g, im_g2, nI_add, pk_mul, i_sub, i_div, sdm, i_dec, i_cl, iv_t, bI_or2, bI_t0, bI_one, not_true_eq_false, not_false_eq_true, ↓reduceIte, am_tl, am_tn, am_t0, am_n0, and_true, true_and, List.cons_append, List.nil_append, List.append_nil, or_true, true_or, or_false, false_or, eq_self, ior0, iand0, im_e2, oI, e98, e99]
        exact k h1 (fr0.tr (fr1.le (fun a k z => z.S)))
      · rw [gI_n (by omega)] at k
        simp (disch := first | assumption | omega | (simp only [ya_pi, ya_pj, ya_pa, ya_pr, yo_pi, yo_pj, yo_pa, yf_pi, yf_pj, yf_pa, yh_pi, yh_pj, yh_pa, yt_pi, yt_pj, yt_pa, la_pi, la_pj, la_pa]; assumption)) only [b_X12_order_0, b_X12_order_11, b_X12_order_17, b_X12_order_14, b_X12_order_24, b_X12_order_21, b_X12_order_28, b_X12_order_52, b_X12_order_38, i_lit, i_m1, i_31, il_t, il_f, iq_t, iq_f, it_t, it_f, im_e, im_l, im_g, im_g2, nI_add, pk_mul, i_sub, i_div, sdm, i_dec, i_cl, iv_t, bI_or2, bI_t0, bI_one, not_true_eq_false, not_false_eq_true, ↓reduceIte, am_tl, am_tn, am_t0, am_n0, and_true, true_and, List.cons_append, List.nil_append, List.append_nil, or_true, true_or, or_false, false_or, eq_self, ior0, iand0, im_e2, oI, e98]
        exact k h1 (fr0.tr (fr1.le (fun a k z => z.S)))
  · rw [if_neg hc] at k
    simp (disch := first | assumption | omega | (simp only [ya_pi, ya_pj, ya_pa, ya_pr, yo_pi, yo_pj, yo_pa, yf_pi, yf_pj, yf_pa, yh_pi, yh_pj, yh_pa, yt_pi, yt_pj, yt_pa, la_pi, la_pj, la_pa]; assumption)) only [b_X12_order_0, b_X12_order_11, b_X12_order_17, b_X12_order_14, b_X12_order_24, b_X12_order_21, b_X12_order_28, b_X12_order_52, b_X12_order_38, i_lit, i_m1, i_31, il_t, il_f, iq_t, iq_f, it_t, it_f, im_e, im_l, im_g, im_g2, nI_add, pk_mul, i_sub, i_div, sdm, i_dec, i_cl, iv_t, bI_or2, bI_t0, bI_one, not_true_eq_false, not_false_eq_true, ↓reduceIte, am_tl, am_tn, am_t0, am_n0, and_true, true_and, List.cons_append, List.nil_append, List.append_nil, or_true, true_or, or_false, false_or, eq_self, ior0, iand0, im_e2, oI, c_isClass_32 ok F0 hc]
    exact k _ fr0
theorem c_rPlace {d : Nat} {Q : Option am_V → am_H → Prop} {h : am_H} {f : fa_S} (ok : fa_ok f) (F : rfa h f) {c e : Int32} (k : ∀ h', am_fr h h' rS → Q (some (v_i (a_place f c e))) h') : ex_ (d + 4) 279 0 [some (v_r (some 93)), some (v_i c), some (v_i e)] [] h Q := by
  have L0 := F.1
  have hn := ok.1
  have F0 : rfa (p_i h 93 0 (nI 0)) f := p0_rfa ok F
  have fr0 : am_fr h (p_i h 93 0 (nI 0)) rS := am_fr_pi (by unfold rS; omega)
  unfold a_place at k
  rcases fa_cs hn c with ⟨a, ha, rfl⟩ | hc
  · have hh : fa_has (f_n f) (nI a) := (fa_has_iff hn).2 ⟨a, ha, rfl⟩
    have ho := fT_ok ok a ha
    rcases fa_cs hn e with ⟨b, hb, rfl⟩ | he
    · rw [if_pos ⟨hh, (fa_has_iff hn).2 ⟨b, hb, rfl⟩⟩, nI_clamp (by omega), nI_clamp (by omega)] at k
      simp (disch := first | assumption | omega | (simp only [ya_pi, ya_pj, ya_pa, ya_pr, yo_pi, yo_pj, yo_pa, yf_pi, yf_pj, yf_pa, yh_pi, yh_pj, yh_pa, yt_pi, yt_pj, yt_pa, la_pi, la_pj, la_pa]; assumption)) only [b_X12_place_0, b_X12_place_11, b_X12_place_23, b_X12_place_14, b_X12_place_20, b_X12_place_26, b_X12_place_30, b_X12_place_36, i_lit, i_m1, i_31, il_t, il_f, iq_t, iq_f, it_t, it_f, im_e, im_l, im_g, im_g2, nI_add, pk_mul, i_sub, i_div, sdm, i_dec, i_cl, iv_t, bI_or2, bI_t0, bI_one, not_true_eq_false, not_false_eq_true, ↓reduceIte, am_tl, am_tn, am_t0, am_n0, and_true, true_and, List.cons_append, List.nil_append, List.append_nil, or_true, true_or, or_false, false_or, eq_self, ior0, iand0, im_e2, oI, nI_l, c_isClass_y ok F0 ha, c_isClass_y ok F0 hb]
      refine c_laysOrders ok F0 (fun h1 fr1 (A1 : ra h1 (fT f) (f_n f)) => ?_)
      have L1 := A1.1
      simp (disch := first | assumption | omega | (simp only [ya_pi, ya_pj, ya_pa, ya_pr, yo_pi, yo_pj, yo_pa, yf_pi, yf_pj, yf_pa, yh_pi, yh_pj, yh_pa, yt_pi, yt_pj, yt_pa, la_pi, la_pj, la_pa]; assumption)) only [b_X12_place_0, b_X12_place_11, b_X12_place_23, b_X12_place_14, b_X12_place_20, b_X12_place_26, b_X12_place_30, b_X12_place_36, i_lit, i_m1, i_31, il_t, il_f, iq_t, iq_f, it_t, it_f, im_e, im_l, im_g, im_g2, nI_add, pk_mul, i_sub, i_div, sdm, i_dec, i_cl, iv_t, bI_or2, bI_t0, bI_one, not_true_eq_false, not_false_eq_true, ↓reduceIte, am_tl, am_tn, am_t0, am_n0, and_true, true_and, List.cons_append, List.nil_append, List.append_nil, c_placeIn L1 (A1.2 a ha) (show a < 11 by omega) (show (fT f a).2.length ≤ 11 by omega) (fun x hx => Nat.lt_trans (ho.2.2.2.1 x hx) (by omega)) (show b < 2147483648 by omega)]
      exact k h1 (fr0.tr (fr1.le (fun a k z => z.S)))
    · rw [if_neg (fun z => he z.2)] at k
      simp (disch := first | assumption | omega | (simp only [ya_pi, ya_pj, ya_pa, ya_pr, yo_pi, yo_pj, yo_pa, yf_pi, yf_pj, yf_pa, yh_pi, yh_pj, yh_pa, yt_pi, yt_pj, yt_pa, la_pi, la_pj, la_pa]; assumption)) only [b_X12_place_0, b_X12_place_11, b_X12_place_23, b_X12_place_14, b_X12_place_20, b_X12_place_26, b_X12_place_30, b_X12_place_36, i_lit, i_m1, i_31, il_t, il_f, iq_t, iq_f, it_t, it_f, im_e, im_l, im_g, im_g2, nI_add, pk_mul, i_sub, i_div, sdm, i_dec, i_cl, iv_t, bI_or2, bI_t0, bI_one, not_true_eq_false, not_false_eq_true, ↓reduceIte, am_tl, am_tn, am_t0, am_n0, and_true, true_and, List.cons_append, List.nil_append, List.append_nil, or_true, true_or, or_false, false_or, eq_self, ior0, iand0, im_e2, oI, nI_l, c_isClass_y ok F0 ha, c_isClass_32 ok F0 he]
      exact k _ fr0
  · rw [if_neg (fun z => hc z.1)] at k
    simp (disch := first | assumption | omega | (simp only [ya_pi, ya_pj, ya_pa, ya_pr, yo_pi, yo_pj, yo_pa, yf_pi, yf_pj, yf_pa, yh_pi, yh_pj, yh_pa, yt_pi, yt_pj, yt_pa, la_pi, la_pj, la_pa]; assumption)) only [b_X12_place_0, b_X12_place_11, b_X12_place_23, b_X12_place_14, b_X12_place_20, b_X12_place_26, b_X12_place_30, b_X12_place_36, i_lit, i_m1, i_31, il_t, il_f, iq_t, iq_f, it_t, it_f, im_e, im_l, im_g, im_g2, nI_add, pk_mul, i_sub, i_div, sdm, i_dec, i_cl, iv_t, bI_or2, bI_t0, bI_one, not_true_eq_false, not_false_eq_true, ↓reduceIte, am_tl, am_tn, am_t0, am_n0, and_true, true_and, List.cons_append, List.nil_append, List.append_nil, or_true, true_or, or_false, false_or, eq_self, ior0, iand0, im_e2, oI, c_isClass_32 ok F0 hc]
    exact k _ fr0
theorem c_rAbove {d : Nat} {Q : Option am_V → am_H → Prop} {h : am_H} {f : fa_S} (ok : fa_ok f) (F : rfa h f) {c : Int32} (k : ∀ h', am_fr h h' rS → Q (some (v_i (a_above f c))) h') : ex_ (d + 11) 281 0 [some (v_r (some 93)), some (v_i c)] [] h Q := by
  have L0 := F.1
  have hn := ok.1
  have F0 : rfa (p_i h 93 0 (nI 0)) f := p0_rfa ok F
  have fr0 : am_fr h (p_i h 93 0 (nI 0)) rS := am_fr_pi (by unfold rS; omega)
  unfold a_above at k
  rcases fa_cs hn c with ⟨a, ha, rfl⟩ | hc
  · have hh : fa_has (f_n f) (nI a) := (fa_has_iff hn).2 ⟨a, ha, rfl⟩
    rw [if_pos hh, nI_clamp (by omega)] at k
    simp (disch := first | assumption | omega | (simp only [ya_pi, ya_pj, ya_pa, ya_pr, yo_pi, yo_pj, yo_pa, yf_pi, yf_pj, yf_pa, yh_pi, yh_pj, yh_pa, yt_pi, yt_pj, yt_pa, la_pi, la_pj, la_pa]; assumption)) only [b_X12_above_0, b_X12_above_11, b_X12_above_22, b_X12_above_14, b_X12_above_19, i_lit, i_m1, i_31, il_t, il_f, iq_t, iq_f, it_t, it_f, im_e, im_l, im_g, im_g2, nI_add, pk_mul, i_sub, i_div, sdm, i_dec, i_cl, iv_t, bI_or2, bI_t0, bI_one, not_true_eq_false, not_false_eq_true, ↓reduceIte, am_tl, am_tn, am_t0, am_n0, and_true, true_and, List.cons_append, List.nil_append, List.append_nil, or_true, true_or, or_false, false_or, eq_self, ior0, iand0, im_e2, oI, nI_l, c_isClass_y ok F0 ha, c_above ok F0 (show a < 10 by omega)]
    exact k _ fr0
  · rw [if_neg hc] at k
    simp (disch := first | assumption | omega | (simp only [ya_pi, ya_pj, ya_pa, ya_pr, yo_pi, yo_pj, yo_pa, yf_pi, yf_pj, yf_pa, yh_pi, yh_pj, yh_pa, yt_pi, yt_pj, yt_pa, la_pi, la_pj, la_pa]; assumption)) only [b_X12_above_0, b_X12_above_11, b_X12_above_22, b_X12_above_14, b_X12_above_19, i_lit, i_m1, i_31, il_t, il_f, iq_t, iq_f, it_t, it_f, im_e, im_l, im_g, im_g2, nI_add, pk_mul, i_sub, i_div, sdm, i_dec, i_cl, iv_t, bI_or2, bI_t0, bI_one, not_true_eq_false, not_false_eq_true, ↓reduceIte, am_tl, am_tn, am_t0, am_n0, and_true, true_and, List.cons_append, List.nil_append, List.append_nil, or_true, true_or, or_false, false_or, eq_self, ior0, iand0, im_e2, oI, c_isClass_32 ok F0 hc]
    exact k _ fr0
theorem c_rBelow {d : Nat} {Q : Option am_V → am_H → Prop} {h : am_H} {f : fa_S} (ok : fa_ok f) (F : rfa h f) {c : Int32} {l2 l3 : Option am_V} (k : ∀ h', am_fr h h' rS → Q (some (v_i (a_below f c))) h') : ex_ (d + 11) 282 0 [some (v_r (some 93)), some (v_i c), l2, l3] [] h Q := by
  have L0 := F.1
  have hn := ok.1
  have F0 : rfa (p_i h 93 0 (nI 0)) f := p0_rfa ok F
  have fr0 : am_fr h (p_i h 93 0 (nI 0)) rS := am_fr_pi (by unfold rS; omega)
  unfold a_below at k
  rcases fa_cs hn c with ⟨a, ha, rfl⟩ | hc
  · have hh : fa_has (f_n f) (nI a) := (fa_has_iff hn).2 ⟨a, ha, rfl⟩
    have a16 : a < 16 := by omega
    have en := F0.2.1
    have L1 := F0.1
    rw [if_pos hh, nI_clamp (by omega)] at k
    simp (disch := first | assumption | omega | (simp only [ya_pi, ya_pj, ya_pa, ya_pr, yo_pi, yo_pj, yo_pa, yf_pi, yf_pj, yf_pa, yh_pi, yh_pj, yh_pa, yt_pi, yt_pj, yt_pa, la_pi, la_pj, la_pa]; assumption)) only [b_X12_below_0, b_X12_below_11, b_X12_below_17, b_X12_below_14, b_X12_below_60, b_X12_below_31, b_X12_below_37, b_X12_below_42, b_X12_below_51, b_X12_below_45, i_lit, i_m1, i_31, il_t, il_f, iq_t, iq_f, it_t, it_f, im_e, im_l, im_g, im_g2, nI_add, pk_mul, i_sub, i_div, sdm, i_dec, i_cl, iv_t, bI_or2, bI_t0, bI_one, not_true_eq_false, not_false_eq_true, ↓reduceIte, am_tl, am_tn, am_t0, am_n0, and_true, true_and, List.cons_append, List.nil_append, List.append_nil, or_true, true_or, or_false, false_or, eq_self, ior0, iand0, im_e2, oI, nI_l, c_isClass_y ok F0 ha]
    have fin := k _ fr0
    generalize p_i h 93 0 (nI 0) = h1 at F0 en L1 fin
    have st := lp_up (d := d + 11) (k := 282) (pc := 21) (Q := Q) (f_n f) (fun i (_ : Unit) => [some (v_r (some 93)), some (v_i (nI a)), some (v_i (nI (bs (bl (fun k => up (f_p f) k a) i)))), some (v_i (nI i))]) (fun i _ h' => h' = h1) ?_ ?_ (Nat.zero_le _) (s := ()) (h := h1) rfl
    · rw [bl_0] at st
      exact st
    · rintro i - h' hi rfl nx
      have nxt := nx () h' rfl
      rw [b_X12_below_21 _ _ _ _ L1]
      cases z : up (f_p f) i a with
      | true =>
        rw [bl_y (p := fun k => up (f_p f) k a) z] at nxt
        simp (disch := first | assumption | omega | (simp only [ya_pi, ya_pj, ya_pa, ya_pr, yo_pi, yo_pj, yo_pa, yf_pi, yf_pj, yf_pa, yh_pi, yh_pj, yh_pa, yt_pi, yt_pj, yt_pa, la_pi, la_pj, la_pa]; assumption)) only [b_X12_below_0, b_X12_below_11, b_X12_below_17, b_X12_below_14, b_X12_below_60, b_X12_below_31, b_X12_below_37, b_X12_below_42, b_X12_below_51, b_X12_below_45, i_lit, i_m1, i_31, il_t, il_f, iq_t, iq_f, it_t, it_f, im_e, im_l, im_g, im_g2, nI_add, pk_mul, i_sub, i_div, sdm, i_dec, i_cl, iv_t, bI_or2, bI_t0, bI_one, not_true_eq_false, not_false_eq_true, ↓reduceIte, am_tl, am_tn, am_t0, am_n0, and_true, true_and, List.cons_append, List.nil_append, List.append_nil, or_true, true_or, or_false, false_or, eq_self, ior0, iand0, im_e2, oI, en, c_above ok F0 (show i < 10 by omega), c_isInI a16, i_31, z]
        exact nxt
      | false =>
        rw [bl_n (p := fun k => up (f_p f) k a) z] at nxt
        simp (disch := first | assumption | omega | (simp only [ya_pi, ya_pj, ya_pa, ya_pr, yo_pi, yo_pj, yo_pa, yf_pi, yf_pj, yf_pa, yh_pi, yh_pj, yh_pa, yt_pi, yt_pj, yt_pa, la_pi, la_pj, la_pa]; assumption)) only [b_X12_below_0, b_X12_below_11, b_X12_below_17, b_X12_below_14, b_X12_below_60, b_X12_below_31, b_X12_below_37, b_X12_below_42, b_X12_below_51, b_X12_below_45, i_lit, i_m1, i_31, il_t, il_f, iq_t, iq_f, it_t, it_f, im_e, im_l, im_g, im_g2, nI_add, pk_mul, i_sub, i_div, sdm, i_dec, i_cl, iv_t, bI_or2, bI_t0, bI_one, not_true_eq_false, not_false_eq_true, ↓reduceIte, am_tl, am_tn, am_t0, am_n0, and_true, true_and, List.cons_append, List.nil_append, List.append_nil, or_true, true_or, or_false, false_or, eq_self, ior0, iand0, im_e2, oI, en, c_above ok F0 (show i < 10 by omega), c_isInI a16, i_31, z, Bool.false_eq_true]
        exact nxt
    · rintro - h' rfl
      rw [b_X12_below_21 _ _ _ _ L1]
      simp (disch := first | assumption | omega | (simp only [ya_pi, ya_pj, ya_pa, ya_pr, yo_pi, yo_pj, yo_pa, yf_pi, yf_pj, yf_pa, yh_pi, yh_pj, yh_pa, yt_pi, yt_pj, yt_pa, la_pi, la_pj, la_pa]; assumption)) only [b_X12_below_0, b_X12_below_11, b_X12_below_17, b_X12_below_14, b_X12_below_60, b_X12_below_31, b_X12_below_37, b_X12_below_42, b_X12_below_51, b_X12_below_45, i_lit, i_m1, i_31, il_t, il_f, iq_t, iq_f, it_t, it_f, im_e, im_l, im_g, im_g2, nI_add, pk_mul, i_sub, i_div, sdm, i_dec, i_cl, iv_t, bI_or2, bI_t0, bI_one, not_true_eq_false, not_false_eq_true, ↓reduceIte, am_tl, am_tn, am_t0, am_n0, and_true, true_and, List.cons_append, List.nil_append, List.append_nil, or_true, true_or, or_false, false_or, eq_self, ior0, iand0, im_e2, oI, en]
      exact fin
  · rw [if_neg hc] at k
    simp (disch := first | assumption | omega | (simp only [ya_pi, ya_pj, ya_pa, ya_pr, yo_pi, yo_pj, yo_pa, yf_pi, yf_pj, yf_pa, yh_pi, yh_pj, yh_pa, yt_pi, yt_pj, yt_pa, la_pi, la_pj, la_pa]; assumption)) only [b_X12_below_0, b_X12_below_11, b_X12_below_17, b_X12_below_14, b_X12_below_60, b_X12_below_31, b_X12_below_37, b_X12_below_42, b_X12_below_51, b_X12_below_45, i_lit, i_m1, i_31, il_t, il_f, iq_t, iq_f, it_t, it_f, im_e, im_l, im_g, im_g2, nI_add, pk_mul, i_sub, i_div, sdm, i_dec, i_cl, iv_t, bI_or2, bI_t0, bI_one, not_true_eq_false, not_false_eq_true, ↓reduceIte, am_tl, am_tn, am_t0, am_n0, and_true, true_and, List.cons_append, List.nil_append, List.append_nil, or_true, true_or, or_false, false_or, eq_self, ior0, iand0, im_e2, oI, c_isClass_32 ok F0 hc]
    exact k _ fr0
theorem c_rCommon {d : Nat} {Q : Option am_V → am_H → Prop} {h : am_H} {f : fa_S} (ok : fa_ok f) (F : rfa h f) {a b : Int32} {l3 : Option am_V} (k : ∀ h', am_fr h h' rS → Q (some (v_i (a_common f a b))) h') : ex_ (d + 4) 343 0 [some (v_r (some 93)), some (v_i a), some (v_i b), l3] [] h Q := by
  have L0 := F.1
  have hn := ok.1
  have F0 : rfa (p_i h 93 0 (nI 0)) f := p0_rfa ok F
  have fr0 : am_fr h (p_i h 93 0 (nI 0)) rS := am_fr_pi (by unfold rS; omega)
  unfold a_common at k
  rcases fa_cs hn a with ⟨a, ha, rfl⟩ | hc
  · have hh : fa_has (f_n f) (nI a) := (fa_has_iff hn).2 ⟨a, ha, rfl⟩
    have oa := fT_ok ok a ha
    have a11 : a < 11 := by omega
    rcases fa_cs hn b with ⟨b, hb, rfl⟩ | he
    · have ob := fT_ok ok b hb
      have b11 : b < 11 := by omega
      rw [if_pos ⟨hh, (fa_has_iff hn).2 ⟨b, hb, rfl⟩⟩, nI_clamp (by omega), nI_clamp (by omega)] at k
      simp (disch := first | assumption | omega | (simp only [ya_pi, ya_pj, ya_pa, ya_pr, yo_pi, yo_pj, yo_pa, yf_pi, yf_pj, yf_pa, yh_pi, yh_pj, yh_pa, yt_pi, yt_pj, yt_pa, la_pi, la_pj, la_pa]; assumption)) only [b_X12_common_0, b_X12_common_11, b_X12_common_23, b_X12_common_14, b_X12_common_20, b_X12_common_26, b_X12_common_30, b_X12_common_48, b_X12_common_39, b_X12_common_51, b_X12_common_101, b_X12_common_63, b_X12_common_79, b_X12_common_95, b_X12_common_83, i_lit, i_m1, i_31, il_t, il_f, iq_t, iq_f, it_t, it_f, im_e, im_l, im_g, im_g2, nI_add, pk_mul, i_sub, i_div, sdm, i_dec, i_cl, iv_t, bI_or2, bI_t0, bI_one, not_true_eq_false, not_false_eq_true, ↓reduceIte, am_tl, am_tn, am_t0, am_n0, and_true, true_and, List.cons_append, List.nil_append, List.append_nil, or_true, true_or, or_false, false_or, eq_self, ior0, iand0, im_e2, oI, nI_l, c_isClass_y ok F0 ha, c_isClass_y ok F0 hb]
      refine c_laysOrders ok F0 (fun h1 fr1 (A1 : ra h1 (fT f) (f_n f)) => ?_)
      have L1 := A1.1
      have fr1' := fr0.tr (fr1.le (fun a k (z : rA a k) => z.S))
      obtain ⟨ea, e98, r99⟩ := A1.2 a ha
      have eb := (A1.2 b hb).1
      have oa1 := oa.1
      have ob1 := ob.1
      by_cases sa : (fT f a).1 = 0
      · by_cases sb : (fT f b).1 = 0
        · rw [if_pos ⟨sa, sb⟩] at k
          simp (disch := first | assumption | omega | (simp only [ya_pi, ya_pj, ya_pa, ya_pr, yo_pi, yo_pj, yo_pa, yf_pi, yf_pj, yf_pa, yh_pi, yh_pj, yh_pa, yt_pi, yt_pj, yt_pa, la_pi, la_pj, la_pa]; assumption)) only [b_X12_common_0, b_X12_common_11, b_X12_common_23, b_X12_common_14, b_X12_common_20, b_X12_common_26, b_X12_common_30, b_X12_common_48, b_X12_common_39, b_X12_common_51, b_X12_common_101, b_X12_common_63, b_X12_common_79, b_X12_common_95, b_X12_common_83, i_lit, i_m1, i_31, il_t, il_f, iq_t, iq_f, it_t, it_f, im_e, im_l, im_g, im_g2, nI_add, pk_mul, i_sub, i_div, sdm, i_dec, i_cl, iv_t, bI_or2, bI_t0, bI_one, not_true_eq_false, not_false_eq_true, ↓reduceIte, am_tl, am_tn, am_t0, am_n0, and_true, true_and, List.cons_append, List.nil_append, List.append_nil, or_true, true_or, or_false, false_or, eq_self, ior0, iand0, im_e2, oI, ea, eb]
          refine lp_up (fT f a).2.length (fun i (_ : Unit) => [some (v_r (some 93)), some (v_i (nI a)), some (v_i (nI b)), some (v_i (nI i))]) (fun i _ h' => h' = h1 ∧ fi (fun i => (pl (fT f b).2 ((fT f a).2.getD i 0)).isSome) (fT f a).2.length i = fi (fun i => (pl (fT f b).2 ((fT f a).2.getD i 0)).isSome) (fT f a).2.length 0) ?_ ?_ (Nat.zero_le _) ⟨rfl, rfl⟩ (s := ())
          · rintro i - h' hi ⟨rfl, e⟩ nx
            have xi := oa.2.2.2.1 _ (gd_mem hi)
            have e99 := r99 i hi
            have cp := fun {d} {Q} {l3} => c_placeIn (d := d) (Q := Q) (l3 := l3) L1 (A1.2 b hb) b11 (show (fT f b).2.length ≤ 11 by omega) (fun x hx => Nat.lt_trans (ob.2.2.2.1 x hx) (by omega)) (show (fT f a).2.getD i 0 < 2147483648 by omega)
            rw [b_X12_common_53 _ _ _ _ L1]
            cases z : pl (fT f b).2 ((fT f a).2.getD i 0) with
            | none =>
              rw [fi_no (by rw [z]; rfl)] at e
              rw [z] at cp
              simp (disch := first | assumption | omega | (simp only [ya_pi, ya_pj, ya_pa, ya_pr, yo_pi, yo_pj, yo_pa, yf_pi, yf_pj, yf_pa, yh_pi, yh_pj, yh_pa, yt_pi, yt_pj, yt_pa, la_pi, la_pj, la_pa]; assumption)) only [b_X12_common_0, b_X12_common_11, b_X12_common_23, b_X12_common_14, b_X12_common_20, b_X12_common_26, b_X12_common_30, b_X12_common_48, b_X12_common_39, b_X12_common_51, b_X12_common_101, b_X12_common_63, b_X12_common_79, b_X12_common_95, b_X12_common_83, i_lit, i_m1, i_31, il_t, il_f, iq_t, iq_f, it_t, it_f, im_e, im_l, im_g, im_g2, nI_add, pk_mul, i_sub, i_div, sdm, i_dec, i_cl, iv_t, bI_or2, bI_t0, bI_one, not_true_eq_false, not_false_eq_true, ↓reduceIte, am_tl, am_tn, am_t0, am_n0, and_true, true_and, List.cons_append, List.nil_append, List.append_nil, or_true, true_or, or_false, false_or, eq_self, ior0, iand0, im_e2, oI, e98, e99, cp]
              exact nx () h' ⟨rfl, e⟩
            | some j =>
              rw [fi_yes (p := fun i => (pl (fT f b).2 ((fT f a).2.getD i 0)).isSome) hi (by rw [z]; rfl)] at e
              have hj := (pl_some z).1
              rw [z] at cp
              simp (disch := first | assumption | omega | (simp only [ya_pi, ya_pj, ya_pa, ya_pr, yo_pi, yo_pj, yo_pa, yf_pi, yf_pj, yf_pa, yh_pi, yh_pj, yh_pa, yt_pi, yt_pj, yt_pa, la_pi, la_pj, la_pa]; assumption)) only [b_X12_common_0, b_X12_common_11, b_X12_common_23, b_X12_common_14, b_X12_common_20, b_X12_common_26, b_X12_common_30, b_X12_common_48, b_X12_common_39, b_X12_common_51, b_X12_common_101, b_X12_common_63, b_X12_common_79, b_X12_common_95, b_X12_common_83, i_lit, i_m1, i_31, il_t, il_f, iq_t, iq_f, it_t, it_f, im_e, im_l, im_g, im_g2, nI_add, pk_mul, i_sub, i_div, sdm, i_dec, i_cl, iv_t, bI_or2, bI_t0, bI_one, not_true_eq_false, not_false_eq_true, ↓reduceIte, am_tl, am_tn, am_t0, am_n0, and_true, true_and, List.cons_append, List.nil_append, List.append_nil, or_true, true_or, or_false, false_or, eq_self, ior0, iand0, im_e2, oI, e98, e99, cp]
              have := k h' fr1'
              rw [cmn, ← e] at this
              exact this
          · rintro - h' ⟨rfl, e⟩
            rw [fi_end (by omega)] at e
            rw [b_X12_common_53 _ _ _ _ L1]
            simp (disch := first | assumption | omega | (simp only [ya_pi, ya_pj, ya_pa, ya_pr, yo_pi, yo_pj, yo_pa, yf_pi, yf_pj, yf_pa, yh_pi, yh_pj, yh_pa, yt_pi, yt_pj, yt_pa, la_pi, la_pj, la_pa]; assumption)) only [b_X12_common_0, b_X12_common_11, b_X12_common_23, b_X12_common_14, b_X12_common_20, b_X12_common_26, b_X12_common_30, b_X12_common_48, b_X12_common_39, b_X12_common_51, b_X12_common_101, b_X12_common_63, b_X12_common_79, b_X12_common_95, b_X12_common_83, i_lit, i_m1, i_31, il_t, il_f, iq_t, iq_f, it_t, it_f, im_e, im_l, im_g, im_g2, nI_add, pk_mul, i_sub, i_div, sdm, i_dec, i_cl, iv_t, bI_or2, bI_t0, bI_one, not_true_eq_false, not_false_eq_true, ↓reduceIte, am_tl, am_tn, am_t0, am_n0, and_true, true_and, List.cons_append, List.nil_append, List.append_nil, or_true, true_or, or_false, false_or, eq_self, ior0, iand0, im_e2, oI, e98]
            have := k h' fr1'
            rw [cmn, ← e] at this
            exact this
        · rw [if_neg (fun z => sb z.2)] at k
          simp (disch := first | assumption | omega | (simp only [ya_pi, ya_pj, ya_pa, ya_pr, yo_pi, yo_pj, yo_pa, yf_pi, yf_pj, yf_pa, yh_pi, yh_pj, yh_pa, yt_pi, yt_pj, yt_pa, la_pi, la_pj, la_pa]; assumption)) only [b_X12_common_0, b_X12_common_11, b_X12_common_23, b_X12_common_14, b_X12_common_20, b_X12_common_26, b_X12_common_30, b_X12_common_48, b_X12_common_39, b_X12_common_51, b_X12_common_101, b_X12_common_63, b_X12_common_79, b_X12_common_95, b_X12_common_83, i_lit, i_m1, i_31, il_t, il_f, iq_t, iq_f, it_t, it_f, im_e, im_l, im_g, im_g2, nI_add, pk_mul, i_sub, i_div, sdm, i_dec, i_cl, iv_t, bI_or2, bI_t0, bI_one, not_true_eq_false, not_false_eq_true, ↓reduceIte, am_tl, am_tn, am_t0, am_n0, and_true, true_and, List.cons_append, List.nil_append, List.append_nil, or_true, true_or, or_false, false_or, eq_self, ior0, iand0, im_e2, oI, ea, eb]
          exact k h1 fr1'
      · rw [if_neg (fun z => sa z.1)] at k
        simp (disch := first | assumption | omega | (simp only [ya_pi, ya_pj, ya_pa, ya_pr, yo_pi, yo_pj, yo_pa, yf_pi, yf_pj, yf_pa, yh_pi, yh_pj, yh_pa, yt_pi, yt_pj, yt_pa, la_pi, la_pj, la_pa]; assumption)) only [b_X12_common_0, b_X12_common_11, b_X12_common_23, b_X12_common_14, b_X12_common_20, b_X12_common_26, b_X12_common_30, b_X12_common_48, b_X12_common_39, b_X12_common_51, b_X12_common_101, b_X12_common_63, b_X12_common_79, b_X12_common_95, b_X12_common_83, i_lit, i_m1, i_31, il_t, il_f, iq_t, iq_f, it_t, it_f, im_e, im_l, im_g, im_g2, nI_add, pk_mul, i_sub, i_div, sdm, i_dec, i_cl, iv_t, bI_or2, bI_t0, bI_one, not_true_eq_false, not_false_eq_true, ↓reduceIte, am_tl, am_tn, am_t0, am_n0, and_true, true_and, List.cons_append, List.nil_append, List.append_nil, or_true, true_or, or_false, false_or, eq_self, ior0, iand0, im_e2, oI, ea]
        exact k h1 fr1'
    · rw [if_neg (fun z => he z.2)] at k
      simp (disch := first | assumption | omega | (simp only [ya_pi, ya_pj, ya_pa, ya_pr, yo_pi, yo_pj, yo_pa, yf_pi, yf_pj, yf_pa, yh_pi, yh_pj, yh_pa, yt_pi, yt_pj, yt_pa, la_pi, la_pj, la_pa]; assumption)) only [b_X12_common_0, b_X12_common_11, b_X12_common_23, b_X12_common_14, b_X12_common_20, b_X12_common_26, b_X12_common_30, b_X12_common_48, b_X12_common_39, b_X12_common_51, b_X12_common_101, b_X12_common_63, b_X12_common_79, b_X12_common_95, b_X12_common_83, i_lit, i_m1, i_31, il_t, il_f, iq_t, iq_f, it_t, it_f, im_e, im_l, im_g, im_g2, nI_add, pk_mul, i_sub, i_div, sdm, i_dec, i_cl, iv_t, bI_or2, bI_t0, bI_one, not_true_eq_false, not_false_eq_true, ↓reduceIte, am_tl, am_tn, am_t0, am_n0, and_true, true_and, List.cons_append, List.nil_append, List.append_nil, or_true, true_or, or_false, false_or, eq_self, ior0, iand0, im_e2, oI, nI_l, c_isClass_y ok F0 ha, c_isClass_32 ok F0 he]
      exact k _ fr0
  · rw [if_neg (fun z => hc z.1)] at k
    simp (disch := first | assumption | omega | (simp only [ya_pi, ya_pj, ya_pa, ya_pr, yo_pi, yo_pj, yo_pa, yf_pi, yf_pj, yf_pa, yh_pi, yh_pj, yh_pa, yt_pi, yt_pj, yt_pa, la_pi, la_pj, la_pa]; assumption)) only [b_X12_common_0, b_X12_common_11, b_X12_common_23, b_X12_common_14, b_X12_common_20, b_X12_common_26, b_X12_common_30, b_X12_common_48, b_X12_common_39, b_X12_common_51, b_X12_common_101, b_X12_common_63, b_X12_common_79, b_X12_common_95, b_X12_common_83, i_lit, i_m1, i_31, il_t, il_f, iq_t, iq_f, it_t, it_f, im_e, im_l, im_g, im_g2, nI_add, pk_mul, i_sub, i_div, sdm, i_dec, i_cl, iv_t, bI_or2, bI_t0, bI_one, not_true_eq_false, not_false_eq_true, ↓reduceIte, am_tl, am_tn, am_t0, am_n0, and_true, true_and, List.cons_append, List.nil_append, List.append_nil, or_true, true_or, or_false, false_or, eq_self, ior0, iand0, im_e2, oI, c_isClass_32 ok F0 hc]
    exact k _ fr0
