theorem c_moods {d : Nat} {Q : Option am_V → am_H → Prop} {h : am_H} {S : St} {x : Int32} {l2 : Option am_V} (ok : St_ok S) (C : cI h S) (k : ∀ h', am_fr h h' cS → Q (some (v_i (if tdC (s_f S) (s_t S) x = nI 0 then nI (bs (bl (moP (s_f S) (s_H S).2.1 (s_H S).2.2.1 (s_t S x.toNatClampNeg).2) 10)) else tdC (s_f S) (s_t S) x))) h') : ex_ (d + 6) 217 0 [some (v_r (some 0)), some (v_i x), l2] [] h Q := by
  have L := C.1
  have gd : fa_gd (s_f S) := ok.1.1.1
  have T := C.2.2.2.1
  rcases tdC_cs (f := s_f S) (s_t S) x with z | ⟨z, t, ht, rfl, l1, l8, al⟩
  · rw [if_neg z] at k
    simp (disch := first | assumption | omega | (simp only [ya_pi, ya_pj, ya_pa, ya_pr, yo_pi, yo_pj, yo_pa, yf_pi, yf_pj, yf_pa, yh_pi, yh_pj, yh_pa, yt_pi, yt_pj, yt_pa, la_pi, la_pj, la_pa]; assumption)) only [b_X11_moods_0, b_X11_moods_5, b_X11_moods_14, b_X11_moods_10, b_X11_moods_24, i_lit, i_m1, i_31, il_t, il_f, iq_t, iq_f, it_t, it_f, im_e, im_l, im_g, im_g2, nI_add, pk_mul, i_sub, i_div, sdm, i_dec, i_cl, iv_t, bI_or2, bI_t0, bI_one, not_true_eq_false, not_false_eq_true, ↓reduceIte, am_tl, am_tn, am_t0, am_n0, and_true, true_and, List.cons_append, List.nil_append, List.append_nil, c_toldCode gd.1 C.cQ T, z]
    exact k h am_fr.rf
  · rw [if_pos z, nI_clamp (by omega)] at k
    have er := tr_ref L ht
    simp (disch := first | assumption | omega | (simp only [ya_pi, ya_pj, ya_pa, ya_pr, yo_pi, yo_pj, yo_pa, yf_pi, yf_pj, yf_pa, yh_pi, yh_pj, yh_pa, yt_pi, yt_pj, yt_pa, la_pi, la_pj, la_pa]; assumption)) only [b_X11_moods_0, b_X11_moods_5, b_X11_moods_14, b_X11_moods_10, b_X11_moods_24, i_lit, i_m1, i_31, il_t, il_f, iq_t, iq_f, it_t, it_f, im_e, im_l, im_g, im_g2, nI_add, pk_mul, i_sub, i_div, sdm, i_dec, i_cl, iv_t, bI_or2, bI_t0, bI_one, not_true_eq_false, not_false_eq_true, ↓reduceIte, am_tl, am_tn, am_t0, am_n0, and_true, true_and, List.cons_append, List.nil_append, List.append_nil, c_toldCode gd.1 C.cQ T, z, er]
    refine c_moodsOf ok C ht l8 al (fun h1 fr1 => ?_)
    simp (disch := first | assumption | omega | (simp only [ya_pi, ya_pj, ya_pa, ya_pr, yo_pi, yo_pj, yo_pa, yf_pi, yf_pj, yf_pa, yh_pi, yh_pj, yh_pa, yt_pi, yt_pj, yt_pa, la_pi, la_pj, la_pa]; assumption)) only [b_X11_moods_0, b_X11_moods_5, b_X11_moods_14, b_X11_moods_10, b_X11_moods_24, i_lit, i_m1, i_31, il_t, il_f, iq_t, iq_f, it_t, it_f, im_e, im_l, im_g, im_g2, nI_add, pk_mul, i_sub, i_div, sdm, i_dec, i_cl, iv_t, bI_or2, bI_t0, bI_one, not_true_eq_false, not_false_eq_true, ↓reduceIte, am_tl, am_tn, am_t0, am_n0, and_true, true_and, List.cons_append, List.nil_append, List.append_nil]
    exact k h1 fr1
/-! the reference -/
theorem c_noTold {d : Nat} {Q : Option am_V → am_H → Prop} {h : am_H} {f : fa_S} {tr : tr_S} {x : Int32} {l2 l3 l4 l5 : Option am_V} (ok : fa_ok f) (F : rfa h f) (T : rtA h tr) (k : ∀ h', am_fr h h' rA → (tdC f tr x = nI 0 → ra h' (fT f) (f_n f)) → Q (some (v_i (tdC f tr x))) h') : ex_ (d + 4) 357 0 [some (v_r (some 93)), some (v_i x), l2, l3, l4, l5] [] h Q := by
  have n10 := ok.1
  have L := F.1
  rcases tr_cs x with ⟨t, ht, rfl⟩ | hx
  · by_cases hm : (tr t).1 = mI
    · have e : tdC f tr (nI t) = -6 := by unfold tdC; rw [tC_m ht hm, if_neg nI0_6]
      rw [e] at k
      simp (disch := first | assumption | omega | (simp only [ya_pi, ya_pj, ya_pa, ya_pr, yo_pi, yo_pj, yo_pa, yf_pi, yf_pj, yf_pa, yh_pi, yh_pj, yh_pa, yt_pi, yt_pj, yt_pa, la_pi, la_pj, la_pa]; assumption)) only [b_X12_noTold_0, b_X12_noTold_5, b_X12_noTold_12, b_X12_noTold_10, b_X12_noTold_26, b_X12_noTold_32, b_X12_noTold_29, b_X12_noTold_36, b_X12_noTold_121, b_X12_noTold_48, b_X12_noTold_112, b_X12_noTold_68, b_X12_noTold_78, b_X12_noTold_81, b_X12_noTold_96, b_X12_noTold_109, b_X12_noTold_115, i_lit, i_m1, i_31, il_t, il_f, iq_t, iq_f, it_t, it_f, im_e, im_l, im_g, im_g2, nI_add, pk_mul, i_sub, i_div, sdm, i_dec, i_cl, iv_t, bI_or2, bI_t0, bI_one, not_true_eq_false, not_false_eq_true, ↓reduceIte, am_tl, am_tn, am_t0, am_n0, and_true, true_and, List.cons_append, List.nil_append, List.append_nil, c_noTray L T, tC_m ht hm, q60]
      exact k h am_fr.rf (fun z => absurd z nI0_6)
    · have T1 := T t ht
      have e1 := T1.2.1
      have l40 := T1.2.2.1
      by_cases z : (tr t).2.length < 1 ∨ 8 < (tr t).2.length
      · have e : tdC f tr (nI t) = -4 := by unfold tdC; rw [tC_y ht hm, if_pos rfl, nI_clamp (by omega), if_pos z]
        rw [e] at k
        have w : lN (tr t).2.length < lN 1 ∨ lN 8 < lN (tr t).2.length := by
          rcases z with z | z
          · exact Or.inl ((pk_lLT (by omega) (by omega)).2 z)
          · exact Or.inr ((pk_lLT (by omega) (by omega)).2 z)
        simp (disch := first | assumption | omega | (simp only [ya_pi, ya_pj, ya_pa, ya_pr, yo_pi, yo_pj, yo_pa, yf_pi, yf_pj, yf_pa, yh_pi, yh_pj, yh_pa, yt_pi, yt_pj, yt_pa, la_pi, la_pj, la_pa]; assumption)) only [b_X12_noTold_0, b_X12_noTold_5, b_X12_noTold_12, b_X12_noTold_10, b_X12_noTold_26, b_X12_noTold_32, b_X12_noTold_29, b_X12_noTold_36, b_X12_noTold_121, b_X12_noTold_48, b_X12_noTold_112, b_X12_noTold_68, b_X12_noTold_78, b_X12_noTold_81, b_X12_noTold_96, b_X12_noTold_109, b_X12_noTold_115, i_lit, i_m1, i_31, il_t, il_f, iq_t, iq_f, it_t, it_f, im_e, im_l, im_g, im_g2, nI_add, pk_mul, i_sub, i_div, sdm, i_dec, i_cl, iv_t, bI_or2, bI_t0, bI_one, not_true_eq_false, not_false_eq_true, ↓reduceIte, am_tl, am_tn, am_t0, am_n0, and_true, true_and, List.cons_append, List.nil_append, List.append_nil, c_noTray L T, tC_y ht hm, e1, nI_l, l_lit, c_within_n w]
        exact k h am_fr.rf (fun z => absurd z (by decide))
      · have e : tdC f tr (nI t) = if (tr t).2.all (tdB f) = true then nI 0 else -3 := by unfold tdC; rw [tC_y ht hm, if_pos rfl, nI_clamp (by omega), if_neg z]
        rw [e] at k
        have z1 : 1 ≤ (tr t).2.length := by omega
        have z8 : (tr t).2.length ≤ 8 := by omega
        simp (disch := first | assumption | omega | (simp only [ya_pi, ya_pj, ya_pa, ya_pr, yo_pi, yo_pj, yo_pa, yf_pi, yf_pj, yf_pa, yh_pi, yh_pj, yh_pa, yt_pi, yt_pj, yt_pa, la_pi, la_pj, la_pa]; assumption)) only [b_X12_noTold_0, b_X12_noTold_5, b_X12_noTold_12, b_X12_noTold_10, b_X12_noTold_26, b_X12_noTold_32, b_X12_noTold_29, b_X12_noTold_36, b_X12_noTold_121, b_X12_noTold_48, b_X12_noTold_112, b_X12_noTold_68, b_X12_noTold_78, b_X12_noTold_81, b_X12_noTold_96, b_X12_noTold_109, b_X12_noTold_115, i_lit, i_m1, i_31, il_t, il_f, iq_t, iq_f, it_t, it_f, im_e, im_l, im_g, im_g2, nI_add, pk_mul, i_sub, i_div, sdm, i_dec, i_cl, iv_t, bI_or2, bI_t0, bI_one, not_true_eq_false, not_false_eq_true, ↓reduceIte, am_tl, am_tn, am_t0, am_n0, and_true, true_and, List.cons_append, List.nil_append, List.append_nil, c_noTray L T, tC_y ht hm, e1, nI_l, l_lit, c_within_y]
        refine c_laysOrders ok F (fun h1 fr1 (A1 : ra h1 (fT f) (f_n f)) => ?_)
        have L1 := A1.1
        have F1 := fr1.rfa ok F (fun k hk => by unfold rA; omega)
        have T2 : rtA h1 tr := (fr1.g (J := N0) (R := N0)).rtA L T (fun a k h1 h2 => by unfold rA; omega) (fun k z => z)
        have e1' := (T2 t ht).2.1
        have e4 := (T2 t ht).2.2.2
        have k1 := k h1 fr1
        simp (disch := first | assumption | omega | (simp only [ya_pi, ya_pj, ya_pa, ya_pr, yo_pi, yo_pj, yo_pa, yf_pi, yf_pj, yf_pa, yh_pi, yh_pj, yh_pa, yt_pi, yt_pj, yt_pa, la_pi, la_pj, la_pa]; assumption)) only [b_X12_noTold_0, b_X12_noTold_5, b_X12_noTold_12, b_X12_noTold_10, b_X12_noTold_26, b_X12_noTold_32, b_X12_noTold_29, b_X12_noTold_36, b_X12_noTold_121, b_X12_noTold_48, b_X12_noTold_112, b_X12_noTold_68, b_X12_noTold_78, b_X12_noTold_81, b_X12_noTold_96, b_X12_noTold_109, b_X12_noTold_115, i_lit, i_m1, i_31, il_t, il_f, iq_t, iq_f, it_t, it_f, im_e, im_l, im_g, im_g2, nI_add, pk_mul, i_sub, i_div, sdm, i_dec, i_cl, iv_t, bI_or2, bI_t0, bI_one, not_true_eq_false, not_false_eq_true, ↓reduceIte, am_tl, am_tn, am_t0, am_n0, and_true, true_and, List.cons_append, List.nil_append, List.append_nil]
        generalize hvs : (tr t).2 = vs at l40 z z1 z8 e1' e4 k1
        refine lp_up vs.length (fun i (s : Option am_V × Option am_V) => [some (v_r (some 93)), some (v_i (nI t)), some (v_i (nI 0)), some (v_i (nI i)), s.1, s.2]) (fun i _ h' => h' = h1 ∧ vs.all (tdB f) = (vs.drop i).all (tdB f)) ?_ ?_ (Nat.zero_le _) ⟨rfl, by rw [List.drop_zero]⟩ (s := (l4, l5))
        · rintro i ⟨m4, m5⟩ h2 hi ⟨rfl, eq⟩ nxt
          dsimp only at nxt ⊢
          have e4i := e4 i hi
          rw [all_drop hi] at eq
          rw [b_X12_noTold_38 _ _ _ _ _ _ L1]
          generalize vs.getD i 0 = v at e4i eq
          cases w : tdB f v with
          | true =>
            rw [w, Bool.true_and] at eq
            obtain ⟨n, hn, rfl, n1, n2, n3⟩ := td_cs ok w
            have ea := (A1.2 _ n1).1
            have em : n % 10000000 / 100000 = n / 100000 % 100 := by omega
            simp (disch := first | assumption | omega | (simp only [ya_pi, ya_pj, ya_pa, ya_pr, yo_pi, yo_pj, yo_pa, yf_pi, yf_pj, yf_pa, yh_pi, yh_pj, yh_pa, yt_pi, yt_pj, yt_pa, la_pi, la_pj, la_pa]; assumption)) only [b_X12_noTold_0, b_X12_noTold_5, b_X12_noTold_12, b_X12_noTold_10, b_X12_noTold_26, b_X12_noTold_32, b_X12_noTold_29, b_X12_noTold_36, b_X12_noTold_121, b_X12_noTold_48, b_X12_noTold_112, b_X12_noTold_68, b_X12_noTold_78, b_X12_noTold_81, b_X12_noTold_96, b_X12_noTold_109, b_X12_noTold_115, i_lit, i_m1, i_31, il_t, il_f, iq_t, iq_f, it_t, it_f, im_e, im_l, im_g, im_g2, nI_add, pk_mul, i_sub, i_div, sdm, i_dec, i_cl, iv_t, bI_or2, bI_t0, bI_one, not_true_eq_false, not_false_eq_true, ↓reduceIte, am_tl, am_tn, am_t0, am_n0, and_true, true_and, List.cons_append, List.nil_append, List.append_nil, l_lit, lc_lt, lc_le, lc_gt, lc_ge, lc_eq, ll_t, ll_f, lt_t, lt_f, lq_t, lq_f, l_div, lN_add, lN_mul, lN_sub, lN_i, e1', e4i, c_isClass_y ok F1 n1, ea, n2, sdm, em, c_rMethod_y n3]
            exact nxt (_, _) h2 ⟨rfl, eq⟩
          | false =>
            rw [w, Bool.false_and] at eq
            have fin := k1 (fun y => by rw [eq] at y; exact absurd y (by decide))
            rw [eq, if_neg (by decide)] at fin
            by_cases y : v < lN 0
            · simp (disch := first | assumption | omega | (simp only [ya_pi, ya_pj, ya_pa, ya_pr, yo_pi, yo_pj, yo_pa, yf_pi, yf_pj, yf_pa, yh_pi, yh_pj, yh_pa, yt_pi, yt_pj, yt_pa, la_pi, la_pj, la_pa]; assumption)) only [b_X12_noTold_0, b_X12_noTold_5, b_X12_noTold_12, b_X12_noTold_10, b_X12_noTold_26, b_X12_noTold_32, b_X12_noTold_29, b_X12_noTold_36, b_X12_noTold_121, b_X12_noTold_48, b_X12_noTold_112, b_X12_noTold_68, b_X12_noTold_78, b_X12_noTold_81, b_X12_noTold_96, b_X12_noTold_109, b_X12_noTold_115, i_lit, i_m1, i_31, il_t, il_f, iq_t, iq_f, it_t, it_f, im_e, im_l, im_g, im_g2, nI_add, pk_mul, i_sub, i_div, sdm, i_dec, i_cl, iv_t, bI_or2, bI_t0, bI_one, not_true_eq_false, not_false_eq_true, ↓reduceIte, am_tl, am_tn, am_t0, am_n0, and_true, true_and, List.cons_append, List.nil_append, List.append_nil, l_lit, lc_lt, lc_le, lc_gt, lc_ge, lc_eq, ll_t, ll_f, lt_t, lt_f, lq_t, lq_f, l_div, lN_add, lN_mul, lN_sub, lN_i, e1', e4i, y]
              exact fin
            · obtain ⟨n, hn, rfl⟩ := pk_lOf y
              have b : tdB f (lN n) = (decide (n / 10000000 < f_n f) && (decide ((fT f (n / 10000000)).1 = 0) && decide (n / 100000 % 100 < 8))) := by
                unfold tdB
                rw [decide_eq_true y, Bool.true_and, tdn_l hn]
              rw [b] at w
              by_cases n1 : n / 10000000 < f_n f
              · have ea := (A1.2 _ n1).1
                have o2 := (fT_ok ok _ n1).1
                have em : n % 10000000 / 100000 = n / 100000 % 100 := by omega
                rw [decide_eq_true n1, Bool.true_and] at w
                by_cases n2 : (fT f (n / 10000000)).1 = 0
                · rw [decide_eq_true n2, Bool.true_and] at w
                  have n3 : ¬ n / 100000 % 100 < 8 := of_decide_eq_false w
                  simp (disch := first | assumption | omega | (simp only [ya_pi, ya_pj, ya_pa, ya_pr, yo_pi, yo_pj, yo_pa, yf_pi, yf_pj, yf_pa, yh_pi, yh_pj, yh_pa, yt_pi, yt_pj, yt_pa, la_pi, la_pj, la_pa]; assumption)) only [b_X12_noTold_0, b_X12_noTold_5, b_X12_noTold_12, b_X12_noTold_10, b_X12_noTold_26, b_X12_noTold_32, b_X12_noTold_29, b_X12_noTold_36, b_X12_noTold_121, b_X12_noTold_48, b_X12_noTold_112, b_X12_noTold_68, b_X12_noTold_78, b_X12_noTold_81, b_X12_noTold_96, b_X12_noTold_109, b_X12_noTold_115, i_lit, i_m1, i_31, il_t, il_f, iq_t, iq_f, it_t, it_f, im_e, im_l, im_g, im_g2, nI_add, pk_mul, i_sub, i_div, sdm, i_dec, i_cl, iv_t, bI_or2, bI_t0, bI_one, not_true_eq_false, not_false_eq_true, ↓reduceIte, am_tl, am_tn, am_t0, am_n0, and_true, true_and, List.cons_append, List.nil_append, List.append_nil, l_lit, lc_lt, lc_le, lc_gt, lc_ge, lc_eq, ll_t, ll_f, lt_t, lt_f, lq_t, lq_f, l_div, lN_add, lN_mul, lN_sub, lN_i, e1', e4i, y, c_isClass_y ok F1 n1, ea, n2, sdm, em, c_rMethod_n (lh_nk (show 8 ≤ n / 100000 % 100 by omega) (by omega) (by omega))]
                  exact fin
                · simp (disch := first | assumption | omega | (simp only [ya_pi, ya_pj, ya_pa, ya_pr, yo_pi, yo_pj, yo_pa, yf_pi, yf_pj, yf_pa, yh_pi, yh_pj, yh_pa, yt_pi, yt_pj, yt_pa, la_pi, la_pj, la_pa]; assumption)) only [b_X12_noTold_0, b_X12_noTold_5, b_X12_noTold_12, b_X12_noTold_10, b_X12_noTold_26, b_X12_noTold_32, b_X12_noTold_29, b_X12_noTold_36, b_X12_noTold_121, b_X12_noTold_48, b_X12_noTold_112, b_X12_noTold_68, b_X12_noTold_78, b_X12_noTold_81, b_X12_noTold_96, b_X12_noTold_109, b_X12_noTold_115, i_lit, i_m1, i_31, il_t, il_f, iq_t, iq_f, it_t, it_f, im_e, im_l, im_g, im_g2, nI_add, pk_mul, i_sub, i_div, sdm, i_dec, i_cl, iv_t, bI_or2, bI_t0, bI_one, not_true_eq_false, not_false_eq_true, ↓reduceIte, am_tl, am_tn, am_t0, am_n0, and_true, true_and, List.cons_append, List.nil_append, List.append_nil, l_lit, lc_lt, lc_le, lc_gt, lc_ge, lc_eq, ll_t, ll_f, lt_t, lt_f, lq_t, lq_f, l_div, lN_add, lN_mul, lN_sub, lN_i, e1', e4i, y, c_isClass_y ok F1 n1, ea]
                  exact fin
              · simp (disch := first | assumption | omega | (simp only [ya_pi, ya_pj, ya_pa, ya_pr, yo_pi, yo_pj, yo_pa, yf_pi, yf_pj, yf_pa, yh_pi, yh_pj, yh_pa, yt_pi, yt_pj, yt_pa, la_pi, la_pj, la_pa]; assumption)) only [b_X12_noTold_0, b_X12_noTold_5, b_X12_noTold_12, b_X12_noTold_10, b_X12_noTold_26, b_X12_noTold_32, b_X12_noTold_29, b_X12_noTold_36, b_X12_noTold_121, b_X12_noTold_48, b_X12_noTold_112, b_X12_noTold_68, b_X12_noTold_78, b_X12_noTold_81, b_X12_noTold_96, b_X12_noTold_109, b_X12_noTold_115, i_lit, i_m1, i_31, il_t, il_f, iq_t, iq_f, it_t, it_f, im_e, im_l, im_g, im_g2, nI_add, pk_mul, i_sub, i_div, sdm, i_dec, i_cl, iv_t, bI_or2, bI_t0, bI_one, not_true_eq_false, not_false_eq_true, ↓reduceIte, am_tl, am_tn, am_t0, am_n0, and_true, true_and, List.cons_append, List.nil_append, List.append_nil, l_lit, lc_lt, lc_le, lc_gt, lc_ge, lc_eq, ll_t, ll_f, lt_t, lt_f, lq_t, lq_f, l_div, lN_add, lN_mul, lN_sub, lN_i, e1', e4i, y, c_isClass_n ok F1 (lh_nk (show f_n f ≤ n / 10000000 by omega) (by omega) (by omega))]
                exact fin
        · rintro ⟨m4, m5⟩ h2 ⟨rfl, eq⟩
          dsimp only
          rw [List.drop_length, List.all_nil] at eq
          have fin := k1 (fun _ => A1)
          rw [eq, if_pos rfl] at fin
          rw [b_X12_noTold_38 _ _ _ _ _ _ L1]
          simp (disch := first | assumption | omega | (simp only [ya_pi, ya_pj, ya_pa, ya_pr, yo_pi, yo_pj, yo_pa, yf_pi, yf_pj, yf_pa, yh_pi, yh_pj, yh_pa, yt_pi, yt_pj, yt_pa, la_pi, la_pj, la_pa]; assumption)) only [b_X12_noTold_0, b_X12_noTold_5, b_X12_noTold_12, b_X12_noTold_10, b_X12_noTold_26, b_X12_noTold_32, b_X12_noTold_29, b_X12_noTold_36, b_X12_noTold_121, b_X12_noTold_48, b_X12_noTold_112, b_X12_noTold_68, b_X12_noTold_78, b_X12_noTold_81, b_X12_noTold_96, b_X12_noTold_109, b_X12_noTold_115, i_lit, i_m1, i_31, il_t, il_f, iq_t, iq_f, it_t, it_f, im_e, im_l, im_g, im_g2, nI_add, pk_mul, i_sub, i_div, sdm, i_dec, i_cl, iv_t, bI_or2, bI_t0, bI_one, not_true_eq_false, not_false_eq_true, ↓reduceIte, am_tl, am_tn, am_t0, am_n0, and_true, true_and, List.cons_append, List.nil_append, List.append_nil, e1']
          exact fin
  · have e : tdC f tr x = -2 := by unfold tdC; rw [tC_n hx, if_neg nI0_2]
    rw [e] at k
    simp (disch := first | assumption | omega | (simp only [ya_pi, ya_pj, ya_pa, ya_pr, yo_pi, yo_pj, yo_pa, yf_pi, yf_pj, yf_pa, yh_pi, yh_pj, yh_pa, yt_pi, yt_pj, yt_pa, la_pi, la_pj, la_pa]; assumption)) only [b_X12_noTold_0, b_X12_noTold_5, b_X12_noTold_12, b_X12_noTold_10, b_X12_noTold_26, b_X12_noTold_32, b_X12_noTold_29, b_X12_noTold_36, b_X12_noTold_121, b_X12_noTold_48, b_X12_noTold_112, b_X12_noTold_68, b_X12_noTold_78, b_X12_noTold_81, b_X12_noTold_96, b_X12_noTold_109, b_X12_noTold_115, i_lit, i_m1, i_31, il_t, il_f, iq_t, iq_f, it_t, it_f, im_e, im_l, im_g, im_g2, nI_add, pk_mul, i_sub, i_div, sdm, i_dec, i_cl, iv_t, bI_or2, bI_t0, bI_one, not_true_eq_false, not_false_eq_true, ↓reduceIte, am_tl, am_tn, am_t0, am_n0, and_true, true_and, List.cons_append, List.nil_append, List.append_nil, c_noTray L T, tC_n hx, q20]
    exact k h am_fr.rf (fun z => absurd z nI0_2)
theorem and01 {b : Nat} (h : b ≤ 1) : nI b &&& nI 1 = nI b := by
  rcases (show b = 0 ∨ b = 1 by omega) with rfl | rfl <;> decide
theorem c_rMoodsOf {d : Nat} {Q : Option am_V → am_H → Prop} {h : am_H} {S : St} {t : Nat} (ok : St_ok S) (C : rI h S) (A : ra h (fT (s_f S)) (f_n (s_f S))) (ht : t < 4) (l8 : (s_t S t).2.length ≤ 8) (al : (s_t S t).2.all (tdB (s_f S)) = true) {l2 l3 l4 l5 l6 : Option am_V} (k : ∀ h', am_fr h h' rV → Q (some (v_i (nI (bs (bl (moP (s_f S) (s_H S).2.1 (s_H S).2.2.1 (s_t S t).2) 10))))) h') : ex_ (d + 6) 358 0 [some (v_r (some 93)), some (v_i (nI t)), l2, l3, l4, l5, l6] [] h Q := by
  have G := ok.1.1
  have gd := G.1
  have n10 := gd.1.1
  simp (disch := first | assumption | omega | (simp only [ya_pi, ya_pj, ya_pa, ya_pr, yo_pi, yo_pj, yo_pa, yf_pi, yf_pj, yf_pa, yh_pi, yh_pj, yh_pa, yt_pi, yt_pj, yt_pa, la_pi, la_pj, la_pa]; assumption)) only [b_X12_moodsOf_0, i_lit, i_m1, i_31, il_t, il_f, iq_t, iq_f, it_t, it_f, im_e, im_l, im_g, im_g2, nI_add, pk_mul, i_sub, i_div, sdm, i_dec, i_cl, iv_t, bI_or2, bI_t0, bI_one, not_true_eq_false, not_false_eq_true, ↓reduceIte, am_tl, am_tn, am_t0, am_n0, and_true, true_and, List.cons_append, List.nil_append, List.append_nil]
  generalize hvs : (s_t S t).2 = vs at k l8 al
  generalize hP : moP (s_f S) (s_H S).2.1 (s_H S).2.2.1 vs = P at k
  have st := lp_up (d := d + 6) (k := 358) (pc := 4) (Q := Q) 10 (fun i (s : Option am_V × Option am_V × Option am_V) => [some (v_r (some 93)), some (v_i (nI t)), some (v_i (nI (bs (bl P i)))), some (v_i (nI i)), s.1, s.2.1, s.2.2]) (fun i _ h' => am_fr h h' rV) ?_ ?_ (Nat.zero_le _) am_fr.rf (s := (l4, l5, l6)) (h := h)
  · dsimp only at st
    rw [bl_0] at st
    exact st
  · rintro i ⟨m4, m5, m6⟩ h1 hi fr1 nxt
    dsimp only at nxt ⊢
    have i16 : i < 16 := by omega
    rw [b_X12_moodsOf_4 _ _ _ _ _ _ _ _]
    simp (disch := first | assumption | omega | (simp only [ya_pi, ya_pj, ya_pa, ya_pr, yo_pi, yo_pj, yo_pa, yf_pi, yf_pj, yf_pa, yh_pi, yh_pj, yh_pa, yt_pi, yt_pj, yt_pa, la_pi, la_pj, la_pa]; assumption)) only [b_X12_moodsOf_10, i_lit, i_m1, i_31, il_t, il_f, iq_t, iq_f, it_t, it_f, im_e, im_l, im_g, im_g2, nI_add, pk_mul, i_sub, i_div, sdm, i_dec, i_cl, iv_t, bI_or2, bI_t0, bI_one, not_true_eq_false, not_false_eq_true, ↓reduceIte, am_tl, am_tn, am_t0, am_n0, and_true, true_and, List.cons_append, List.nil_append, List.append_nil]
    refine lp_up vs.length (fun j (s : Nat × Option am_V) => [some (v_r (some 93)), some (v_i (nI t)), some (v_i (nI (bs (bl P i)))), some (v_i (nI i)), some (v_i (nI s.1)), some (v_i (nI j)), s.2]) (fun j s h' => am_fr h h' rV ∧ s.1 ≤ 1 ∧ s.1 = (if (vs.take j).all (mo1 (s_f S) (s_H S).2.1 (s_H S).2.2.1 i) = true then 1 else 0)) ?_ ?_ (Nat.zero_le _) ⟨fr1, Nat.le_refl _, rfl⟩ (s := (1, m6))
    · rintro j ⟨so, p6⟩ h2 hj ⟨fr2, so1, eso⟩ nx2
      dsimp only at so1 eso nx2 ⊢
      have C2 := C.q ok (fr2.le (fun a k z => z.S))
      have L2 := C2.1
      have A2 : ra h2 (fT (s_f S)) (f_n (s_f S)) := A.fr (fT_ok gd.1) fr2 (fun a k h1 h2 => by unfold rV; omega)
      have T2 := C2.2.2.2.2.1 t ht
      have e1 := T2.2.1
      have e4 := T2.2.2.2 j (by rw [hvs]; exact hj)
      rw [hvs] at e1 e4
      have tk : (vs.take (j + 1)).all (mo1 (s_f S) (s_H S).2.1 (s_H S).2.2.1 i) = ((vs.take j).all (mo1 (s_f S) (s_H S).2.1 (s_H S).2.2.1 i) && mo1 (s_f S) (s_H S).2.1 (s_H S).2.2.1 i (vs.getD j 0)) := by
        rw [List.take_succ_eq_append_getElem hj, List.all_append, List.getD_eq_getElem?_getD, List.getElem?_eq_getElem hj]
        simp
      have hv : tdB (s_f S) (vs.getD j 0) = true := by
        have := List.all_eq_true.1 al (vs.getD j 0)
        apply this
        rw [List.getD_eq_getElem?_getD, List.getElem?_eq_getElem hj]
        exact List.getElem_mem hj
      obtain ⟨n, hn, ev, n1, n2, n3⟩ := td_cs gd.1 hv
      rw [ev] at e4 tk
      have em : n % 10000000 / 100000 = n / 100000 % 100 := by omega
      rw [b_X12_moodsOf_16 _ _ _ _ _ _ _ L2]
      simp (disch := first | assumption | omega | (simp only [ya_pi, ya_pj, ya_pa, ya_pr, yo_pi, yo_pj, yo_pa, yf_pi, yf_pj, yf_pa, yh_pi, yh_pj, yh_pa, yt_pi, yt_pj, yt_pa, la_pi, la_pj, la_pa]; assumption)) only [b_X12_moodsOf_27, i_lit, i_m1, i_31, il_t, il_f, iq_t, iq_f, it_t, it_f, im_e, im_l, im_g, im_g2, nI_add, pk_mul, i_sub, i_div, sdm, i_dec, i_cl, iv_t, bI_or2, bI_t0, bI_one, not_true_eq_false, not_false_eq_true, ↓reduceIte, am_tl, am_tn, am_t0, am_n0, and_true, true_and, List.cons_append, List.nil_append, List.append_nil, e1, e4, lN_i, sdm, em]
      refine c_saysOf G C2.rH A2 n1 n3 (fun h3 fr3 => ?_)
      have fr3' := fr2.tr fr3
      have emo : mo1 (s_f S) (s_H S).2.1 (s_H S).2.2.1 i (lN n) = (an (s_f S) (s_H S).2.1 (s_H S).2.2.1 (n / 10000000) (n / 100000 % 100) (nI i) == (nI (n % 100000) - nI 50000)) := by
        unfold mo1 xpd
        rw [tdn_l (by omega)]
      have er : nI n - nI n / nI 100000 * nI 100000 = nI (n % 100000) := by
        rw [i_div (by omega) (by omega) (by omega), i_rem (by omega) (by omega) (by omega)]
      simp only [b_X12_moodsOf_65, i_lit, am_tl, am_t0, List.append_nil, List.cons_append, List.nil_append]
      simp only [er]
      by_cases y : an (s_f S) (s_H S).2.1 (s_H S).2.2.1 (n / 10000000) (n / 100000 % 100) (nI i) = nI (n % 100000) - nI 50000
      · rw [if_neg (fun w => w y)]
        rw [b_X12_moodsOf_78]
        simp only [i_lit, and01 so1, nI_add]
        refine nx2 (so, _) h3 ⟨fr3', so1, ?_⟩
        rw [tk, emo, y, beq_self_eq_true, Bool.and_true]
        exact eso
      · rw [if_pos y]
        rw [b_X12_moodsOf_82]
        simp only [i_lit, iand0, nI_add]
        refine nx2 (0, _) h3 ⟨fr3', Nat.zero_le _, ?_⟩
        rw [tk, emo, beq_eq_false_iff_ne.2 y, Bool.and_false, if_neg (by decide)]
    · rintro ⟨so, p6⟩ h2 ⟨fr2, so1, eso⟩
      dsimp only at so1 eso ⊢
      have C2 := C.q ok (fr2.le (fun a k z => z.S))
      have L2 := C2.1
      have T2 := C2.2.2.2.2.1 t ht
      have e1 := T2.2.1
      rw [hvs] at e1
      rw [List.take_length] at eso
      have eP : vs.all (mo1 (s_f S) (s_H S).2.1 (s_H S).2.2.1 i) = P i := by rw [← hP]; rfl
      rw [eP] at eso
      have nx1 := nxt (some (v_i (nI so)), some (v_i (nI vs.length)), p6) h2 fr2
      dsimp only at nx1
      rw [b_X12_moodsOf_16 _ _ _ _ _ _ _ L2]
      cases w : P i with
      | true =>
        rw [w, if_pos rfl] at eso
        subst eso
        rw [bl_y w] at nx1
        simp (disch := first | assumption | omega | (simp only [ya_pi, ya_pj, ya_pa, ya_pr, yo_pi, yo_pj, yo_pa, yf_pi, yf_pj, yf_pa, yh_pi, yh_pj, yh_pa, yt_pi, yt_pj, yt_pa, la_pi, la_pj, la_pa]; assumption)) only [b_X12_moodsOf_92, b_X12_moodsOf_98, i_lit, i_m1, i_31, il_t, il_f, iq_t, iq_f, it_t, it_f, im_e, im_l, im_g, im_g2, nI_add, pk_mul, i_sub, i_div, sdm, i_dec, i_cl, iv_t, bI_or2, bI_t0, bI_one, not_true_eq_false, not_false_eq_true, ↓reduceIte, am_tl, am_tn, am_t0, am_n0, and_true, true_and, List.cons_append, List.nil_append, List.append_nil, e1, i_31]
        exact nx1
      | false =>
        rw [w, if_neg (by decide)] at eso
        subst eso
        rw [bl_n w] at nx1
        simp (disch := first | assumption | omega | (simp only [ya_pi, ya_pj, ya_pa, ya_pr, yo_pi, yo_pj, yo_pa, yf_pi, yf_pj, yf_pa, yh_pi, yh_pj, yh_pa, yt_pi, yt_pj, yt_pa, la_pi, la_pj, la_pa]; assumption)) only [b_X12_moodsOf_92, b_X12_moodsOf_104, i_lit, i_m1, i_31, il_t, il_f, iq_t, iq_f, it_t, it_f, im_e, im_l, im_g, im_g2, nI_add, pk_mul, i_sub, i_div, sdm, i_dec, i_cl, iv_t, bI_or2, bI_t0, bI_one, not_true_eq_false, not_false_eq_true, ↓reduceIte, am_tl, am_tn, am_t0, am_n0, and_true, true_and, List.cons_append, List.nil_append, List.append_nil, e1, ior0]
        exact nx1
  · rintro ⟨m4, m5, m6⟩ h1 fr1
    dsimp only
    rw [b_X12_moodsOf_4 _ _ _ _ _ _ _ _]
    simp (disch := first | assumption | omega | (simp only [ya_pi, ya_pj, ya_pa, ya_pr, yo_pi, yo_pj, yo_pa, yf_pi, yf_pj, yf_pa, yh_pi, yh_pj, yh_pa, yt_pi, yt_pj, yt_pa, la_pi, la_pj, la_pa]; assumption)) only [b_X12_moodsOf_113, i_lit, i_m1, i_31, il_t, il_f, iq_t, iq_f, it_t, it_f, im_e, im_l, im_g, im_g2, nI_add, pk_mul, i_sub, i_div, sdm, i_dec, i_cl, iv_t, bI_or2, bI_t0, bI_one, not_true_eq_false, not_false_eq_true, ↓reduceIte, am_tl, am_tn, am_t0, am_n0, and_true, true_and, List.cons_append, List.nil_append, List.append_nil]
    exact k h1 fr1
theorem c_rMoods {d : Nat} {Q : Option am_V → am_H → Prop} {h : am_H} {S : St} {x : Int32} {l2 : Option am_V} (ok : St_ok S) (C : rI h S) (k : ∀ h', am_fr h h' rS → Q (some (v_i (if tdC (s_f S) (s_t S) x = nI 0 then nI (bs (bl (moP (s_f S) (s_H S).2.1 (s_H S).2.2.1 (s_t S x.toNatClampNeg).2) 10)) else tdC (s_f S) (s_t S) x))) h') : ex_ (d + 7) 359 0 [some (v_r (some 93)), some (v_i x), l2] [] h Q := by
  have L := C.1
  have gd : fa_gd (s_f S) := ok.1.1.1
  have fr0 : am_fr h (p_i h 93 0 (nI 0)) rS := am_fr_pi (by unfold rS; omega)
  have C0 := C.q ok fr0
  have L0 := C0.1
  simp (disch := first | assumption | omega | (simp only [ya_pi, ya_pj, ya_pa, ya_pr, yo_pi, yo_pj, yo_pa, yf_pi, yf_pj, yf_pa, yh_pi, yh_pj, yh_pa, yt_pi, yt_pj, yt_pa, la_pi, la_pj, la_pa]; assumption)) only [b_X12_moods_0, i_lit, i_m1, i_31, il_t, il_f, iq_t, iq_f, it_t, it_f, im_e, im_l, im_g, im_g2, nI_add, pk_mul, i_sub, i_div, sdm, i_dec, i_cl, iv_t, bI_or2, bI_t0, bI_one, not_true_eq_false, not_false_eq_true, ↓reduceIte, am_tl, am_tn, am_t0, am_n0, and_true, true_and, List.cons_append, List.nil_append, List.append_nil]
  refine c_noTold gd.1 C0.rfa C0.2.2.2.2.1 (fun h1 fr1 A1 => ?_)
  have fr01 := fr0.tr (fr1.le (fun a k (z : rA a k) => z.S))
  have C1 := C.q ok fr01
  have L1 := C1.1
  rcases tdC_cs (f := s_f S) (s_t S) x with z | ⟨z, t, ht, rfl, l1, l8, al⟩
  · rw [if_neg z] at k
    simp (disch := first | assumption | omega | (simp only [ya_pi, ya_pj, ya_pa, ya_pr, yo_pi, yo_pj, yo_pa, yf_pi, yf_pj, yf_pa, yh_pi, yh_pj, yh_pa, yt_pi, yt_pj, yt_pa, la_pi, la_pj, la_pa]; assumption)) only [b_X12_moods_0, b_X12_moods_10, b_X12_moods_19, b_X12_moods_15, b_X12_moods_24, i_lit, i_m1, i_31, il_t, il_f, iq_t, iq_f, it_t, it_f, im_e, im_l, im_g, im_g2, nI_add, pk_mul, i_sub, i_div, sdm, i_dec, i_cl, iv_t, bI_or2, bI_t0, bI_one, not_true_eq_false, not_false_eq_true, ↓reduceIte, am_tl, am_tn, am_t0, am_n0, and_true, true_and, List.cons_append, List.nil_append, List.append_nil, z]
    exact k h1 fr01
  · rw [if_pos z, nI_clamp (by omega)] at k
    simp (disch := first | assumption | omega | (simp only [ya_pi, ya_pj, ya_pa, ya_pr, yo_pi, yo_pj, yo_pa, yf_pi, yf_pj, yf_pa, yh_pi, yh_pj, yh_pa, yt_pi, yt_pj, yt_pa, la_pi, la_pj, la_pa]; assumption)) only [b_X12_moods_0, b_X12_moods_10, b_X12_moods_19, b_X12_moods_15, b_X12_moods_24, i_lit, i_m1, i_31, il_t, il_f, iq_t, iq_f, it_t, it_f, im_e, im_l, im_g, im_g2, nI_add, pk_mul, i_sub, i_div, sdm, i_dec, i_cl, iv_t, bI_or2, bI_t0, bI_one, not_true_eq_false, not_false_eq_true, ↓reduceIte, am_tl, am_tn, am_t0, am_n0, and_true, true_and, List.cons_append, List.nil_append, List.append_nil, z]
    refine c_rMoodsOf ok C1 (A1 z) ht l8 al (fun h2 fr2 => ?_)
    simp (disch := first | assumption | omega | (simp only [ya_pi, ya_pj, ya_pa, ya_pr, yo_pi, yo_pj, yo_pa, yf_pi, yf_pj, yf_pa, yh_pi, yh_pj, yh_pa, yt_pi, yt_pj, yt_pa, la_pi, la_pj, la_pa]; assumption)) only [b_X12_moods_0, b_X12_moods_10, b_X12_moods_19, b_X12_moods_15, b_X12_moods_24, i_lit, i_m1, i_31, il_t, il_f, iq_t, iq_f, it_t, it_f, im_e, im_l, im_g, im_g2, nI_add, pk_mul, i_sub, i_div, sdm, i_dec, i_cl, iv_t, bI_or2, bI_t0, bI_one, not_true_eq_false, not_false_eq_true, ↓reduceIte, am_tl, am_tn, am_t0, am_n0, and_true, true_and, List.cons_append, List.nil_append, List.append_nil]
    exact k h2 (fr01.tr (fr2.le (fun a k z => z.S)))
