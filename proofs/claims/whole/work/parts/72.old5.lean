theorem oI_z : (mI ≤ mI) = True := eq_true (by decide)
theorem c_rBreaks {d : Nat} {Q : Option am_V → am_H → Prop} {h : am_H} {f : fa_S} (ok : fa_ok f) (F : rfa h f) {c x : Int32} {l3 l4 : Option am_V} (k : ∀ h', am_fr h h' rS → Q (some (v_i (a_breaks f c x))) h') : ex_ (d + 12) 328 0 [some (v_r (some 93)), some (v_i c), some (v_i x), l3, l4] [] h Q := by
  have L0 := F.1
  have hn := ok.1
  have hp := fa_plt ok
  have F0 : rfa (p_i h 93 0 (nI 0)) f := p0_rfa ok F
  have fr0 : am_fr h (p_i h 93 0 (nI 0)) rS := am_fr_pi (by unfold rS; omega)
  unfold a_breaks at k
  rcases fa_cs hn c with ⟨a, ha, rfl⟩ | hc
  · have hh : fa_has (f_n f) (nI a) := (fa_has_iff hn).2 ⟨a, ha, rfl⟩
    by_cases hx : kok x
    · rw [if_pos ⟨hh, hx⟩] at k
      obtain ⟨kd, k1, k3, rfl⟩ := hx
      rw [nI_clamp (show a < 2147483648 by omega), nI_clamp (show kd < 2147483648 by omega)] at k
      simp (disch := first | assumption | omega | (simp only [ya_pi, ya_pj, ya_pa, ya_pr, yo_pi, yo_pj, yo_pa, yf_pi, yf_pj, yf_pa, yh_pi, yh_pj, yh_pa, yt_pi, yt_pj, yt_pa, la_pi, la_pj, la_pa]; assumption)) only [b_X12_breaks_0, b_X12_breaks_11, b_X12_breaks_21, b_X12_breaks_14, b_X12_breaks_18, b_X12_breaks_24, b_X12_breaks_29, b_X12_breaks_34, b_X12_breaks_32, b_X12_breaks_40, b_X12_breaks_109, b_X12_breaks_52, b_X12_breaks_72, b_X12_breaks_100, b_X12_breaks_75, b_X12_breaks_84, b_X12_breaks_93, b_X12_breaks_96, i_lit, i_m1, i_31, il_t, il_f, iq_t, iq_f, it_t, it_f, im_e, im_l, im_g, im_g2, nI_add, pk_mul, i_sub, i_div, sdm, i_dec, i_cl, iv_t, bI_or2, bI_t0, bI_one, not_true_eq_false, not_false_eq_true, ↓reduceIte, am_tl, am_tn, am_t0, am_n0, and_true, true_and, List.cons_append, List.nil_append, List.append_nil, or_true, true_or, or_false, false_or, eq_self, ior0, iand0, im_e2, oI, nI_l, c_isClass_y ok F0 ha, c_isKind_y k1 k3]
      refine c_noDemands_y ok F0 ha (fun z h1 fr1 => ?_) (fun z h1 fr1 A1 q1 => ?_)
      · rw [if_pos z] at k
        simp (disch := first | assumption | omega | (simp only [ya_pi, ya_pj, ya_pa, ya_pr, yo_pi, yo_pj, yo_pa, yf_pi, yf_pj, yf_pa, yh_pi, yh_pj, yh_pa, yt_pi, yt_pj, yt_pa, la_pi, la_pj, la_pa]; assumption)) only [b_X12_breaks_0, b_X12_breaks_11, b_X12_breaks_21, b_X12_breaks_14, b_X12_breaks_18, b_X12_breaks_24, b_X12_breaks_29, b_X12_breaks_34, b_X12_breaks_32, b_X12_breaks_40, b_X12_breaks_109, b_X12_breaks_52, b_X12_breaks_72, b_X12_breaks_100, b_X12_breaks_75, b_X12_breaks_84, b_X12_breaks_93, b_X12_breaks_96, i_lit, i_m1, i_31, il_t, il_f, iq_t, iq_f, it_t, it_f, im_e, im_l, im_g, im_g2, nI_add, pk_mul, i_sub, i_div, sdm, i_dec, i_cl, iv_t, bI_or2, bI_t0, bI_one, not_true_eq_false, not_false_eq_true, ↓reduceIte, am_tl, am_tn, am_t0, am_n0, and_true, true_and, List.cons_append, List.nil_append, List.append_nil, or_true, true_or, or_false, false_or, eq_self, ior0, iand0, im_e2, oI, qm0]
        exact k h1 (fr0.tr fr1)
      · rw [if_neg z] at k
        have F1 : rfa h1 f := fr1.rfa ok F0 (fun k _ => by unfold rS; omega)
        have L1 := F1.1
        simp (disch := first | assumption | omega | (simp only [ya_pi, ya_pj, ya_pa, ya_pr, yo_pi, yo_pj, yo_pa, yf_pi, yf_pj, yf_pa, yh_pi, yh_pj, yh_pa, yt_pi, yt_pj, yt_pa, la_pi, la_pj, la_pa]; assumption)) only [b_X12_breaks_0, b_X12_breaks_11, b_X12_breaks_21, b_X12_breaks_14, b_X12_breaks_18, b_X12_breaks_24, b_X12_breaks_29, b_X12_breaks_34, b_X12_breaks_32, b_X12_breaks_40, b_X12_breaks_109, b_X12_breaks_52, b_X12_breaks_72, b_X12_breaks_100, b_X12_breaks_75, b_X12_breaks_84, b_X12_breaks_93, b_X12_breaks_96, i_lit, i_m1, i_31, il_t, il_f, iq_t, iq_f, it_t, it_f, im_e, im_l, im_g, im_g2, nI_add, pk_mul, i_sub, i_div, sdm, i_dec, i_cl, iv_t, bI_or2, bI_t0, bI_one, not_true_eq_false, not_false_eq_true, ↓reduceIte, am_tl, am_tn, am_t0, am_n0, and_true, true_and, List.cons_append, List.nil_append, List.append_nil, or_true, true_or, or_false, false_or, eq_self, ior0, iand0, im_e2, oI]
        refine c_laysOld ok F1 ha ⟨k1, k3⟩ (fun h2 fr2 R2 => ?_)
        have L2 : Lay h2 := fr2.lay L1
        have q2 : dq h2 (fD f a) := fun x hx => by rw [fr2.i (by unfold r9; omega)]; exact q1 x hx
        have l10 := oS_len hp (kd := kd) (show a < 10 by omega)
        have xl := fun y hy => oS_lt hp (kd := kd) (c := a) (x := y) (show a < 10 by omega) hy
        have fin := k h2 ((fr0.tr fr1).tr (fr2.le (fun a k z => z.S)))
        rw [← bk_eq (oS_nd hp (show a < 10 by omega)) xl (fun u v hD => by
          have h1 := dm_up ok ha hD
          exact ⟨(oS_mem hp (show a < 10 by omega)).2 h1.1, (oS_mem hp (show a < 10 by omega)).2 h1.2⟩)] at fin
        have mem : ∀ u v, fD f a u v = true → u ∈ oS (f_p f) kd a ∧ v ∈ oS (f_p f) kd a := fun u v hD => by
          have h1 := dm_up ok ha hD
          exact ⟨(oS_mem hp (show a < 10 by omega)).2 h1.1, (oS_mem hp (show a < 10 by omega)).2 h1.2⟩
        clear k
        generalize oS (f_p f) kd a = l at l10 xl R2 fin mem
        simp (disch := first | assumption | omega | (simp only [ya_pi, ya_pj, ya_pa, ya_pr, yo_pi, yo_pj, yo_pa, yf_pi, yf_pj, yf_pa, yh_pi, yh_pj, yh_pa, yt_pi, yt_pj, yt_pa, la_pi, la_pj, la_pa]; assumption)) only [b_X12_breaks_0, b_X12_breaks_11, b_X12_breaks_21, b_X12_breaks_14, b_X12_breaks_18, b_X12_breaks_24, b_X12_breaks_29, b_X12_breaks_34, b_X12_breaks_32, b_X12_breaks_40, b_X12_breaks_109, b_X12_breaks_52, b_X12_breaks_72, b_X12_breaks_100, b_X12_breaks_75, b_X12_breaks_84, b_X12_breaks_93, b_X12_breaks_96, i_lit, i_m1, i_31, il_t, il_f, iq_t, iq_f, it_t, it_f, im_e, im_l, im_g, im_g2, nI_add, pk_mul, i_sub, i_div, sdm, i_dec, i_cl, iv_t, bI_or2, bI_t0, bI_one, not_true_eq_false, not_false_eq_true, ↓reduceIte, am_tl, am_tn, am_t0, am_n0, and_true, true_and, List.cons_append, List.nil_append, List.append_nil, or_true, true_or, or_false, false_or, eq_self, ior0, iand0, im_e2, oI]
        refine lp_up 100 (fun t (_ : Unit) => [some (v_r (some 93)), some (v_i (nI a)), some (v_i (nI kd)), some (v_i (nI (ct (bkP (fD f a) l) t))), some (v_i (nI t))]) (fun t _ h' => h' = h2) ?_ ?_ (Nat.zero_le _) rfl (s := ())
        · rintro t - h' ht rfl nx
          have nxt := nx () h' rfl
          have h1 : t / 10 < 10 := by omega
          have h2 : t % 10 < 16 := by omega
          have e6 := q2 _ h1
          rw [b_X12_breaks_45 _ _ _ _ _ _]
          cases z : fD f a (t / 10) (t % 10) with
          | false =>
            rw [ct_n (show bkP (fD f a) l t = false by unfold bkP; rw [z]; rfl)] at nxt
            simp (disch := first | assumption | omega | (simp only [ya_pi, ya_pj, ya_pa, ya_pr, yo_pi, yo_pj, yo_pa, yf_pi, yf_pj, yf_pa, yh_pi, yh_pj, yh_pa, yt_pi, yt_pj, yt_pa, la_pi, la_pj, la_pa]; assumption)) only [b_X12_breaks_0, b_X12_breaks_11, b_X12_breaks_21, b_X12_breaks_14, b_X12_breaks_18, b_X12_breaks_24, b_X12_breaks_29, b_X12_breaks_34, b_X12_breaks_32, b_X12_breaks_40, b_X12_breaks_109, b_X12_breaks_52, b_X12_breaks_72, b_X12_breaks_100, b_X12_breaks_75, b_X12_breaks_84, b_X12_breaks_93, b_X12_breaks_96, i_lit, i_m1, i_31, il_t, il_f, iq_t, iq_f, it_t, it_f, im_e, im_l, im_g, im_g2, nI_add, pk_mul, i_sub, i_div, sdm, i_dec, i_cl, iv_t, bI_or2, bI_t0, bI_one, not_true_eq_false, not_false_eq_true, ↓reduceIte, am_tl, am_tn, am_t0, am_n0, and_true, true_and, List.cons_append, List.nil_append, List.append_nil, or_true, true_or, or_false, false_or, eq_self, ior0, iand0, im_e2, oI, sdm, e6, c_isInI h2, z, Bool.false_eq_true, Nat.add_zero]
            exact nxt
          | true =>
            obtain ⟨m1, m2⟩ := mem _ _ z
            obtain ⟨i1, hi1, e1⟩ := gd_ex m1
            obtain ⟨i2, hi2, e2⟩ := gd_ex m2
            cases p1 : pl l (t / 10) with
            | none => exact absurd m1 (pl_none.1 p1)
            | some j1 =>
              cases p2 : pl l (t % 10) with
              | none => exact absurd m2 (pl_none.1 p2)
              | some j2 =>
                have g1 := (pl_some p1).1
                have g2 := (pl_some p2).1
                by_cases y : j2 < j1
                · rw [ct_y (show bkP (fD f a) l t = true by
                    unfold bkP
                    rw [z, p1, p2, Bool.true_and, decide_eq_true_eq]
                    exact nI_lt y (by omega))] at nxt
                  simp (disch := first | assumption | omega | (simp only [ya_pi, ya_pj, ya_pa, ya_pr, yo_pi, yo_pj, yo_pa, yf_pi, yf_pj, yf_pa, yh_pi, yh_pj, yh_pa, yt_pi, yt_pj, yt_pa, la_pi, la_pj, la_pa]; assumption)) only [b_X12_breaks_0, b_X12_breaks_11, b_X12_breaks_21, b_X12_breaks_14, b_X12_breaks_18, b_X12_breaks_24, b_X12_breaks_29, b_X12_breaks_34, b_X12_breaks_32, b_X12_breaks_40, b_X12_breaks_109, b_X12_breaks_52, b_X12_breaks_72, b_X12_breaks_100, b_X12_breaks_75, b_X12_breaks_84, b_X12_breaks_93, b_X12_breaks_96, i_lit, i_m1, i_31, il_t, il_f, iq_t, iq_f, it_t, it_f, im_e, im_l, im_g, im_g2, nI_add, pk_mul, i_sub, i_div, sdm, i_dec, i_cl, iv_t, bI_or2, bI_t0, bI_one, not_true_eq_false, not_false_eq_true, ↓reduceIte, am_tl, am_tn, am_t0, am_n0, and_true, true_and, List.cons_append, List.nil_append, List.append_nil, or_true, true_or, or_false, false_or, eq_self, ior0, iand0, im_e2, oI, sdm, e6, c_isInI h2, z, c_placeOld L2 R2 (show l.length ≤ 4096 by omega) xl (show t / 10 < 2147483648 by omega), c_placeOld L2 R2 (show l.length ≤ 4096 by omega) xl (show t % 10 < 2147483648 by omega), p1, p2]
                  exact nxt
                · rw [ct_n (show bkP (fD f a) l t = false by
                    unfold bkP
                    rw [z, p1, p2, Bool.true_and, decide_eq_false_iff_not]
                    exact nI_nlt (by omega) (by omega))] at nxt
                  simp (disch := first | assumption | omega | (simp only [ya_pi, ya_pj, ya_pa, ya_pr, yo_pi, yo_pj, yo_pa, yf_pi, yf_pj, yf_pa, yh_pi, yh_pj, yh_pa, yt_pi, yt_pj, yt_pa, la_pi, la_pj, la_pa]; assumption)) only [b_X12_breaks_0, b_X12_breaks_11, b_X12_breaks_21, b_X12_breaks_14, b_X12_breaks_18, b_X12_breaks_24, b_X12_breaks_29, b_X12_breaks_34, b_X12_breaks_32, b_X12_breaks_40, b_X12_breaks_109, b_X12_breaks_52, b_X12_breaks_72, b_X12_breaks_100, b_X12_breaks_75, b_X12_breaks_84, b_X12_breaks_93, b_X12_breaks_96, i_lit, i_m1, i_31, il_t, il_f, iq_t, iq_f, it_t, it_f, im_e, im_l, im_g, im_g2, nI_add, pk_mul, i_sub, i_div, sdm, i_dec, i_cl, iv_t, bI_or2, bI_t0, bI_one, not_true_eq_false, not_false_eq_true, ↓reduceIte, am_tl, am_tn, am_t0, am_n0, and_true, true_and, List.cons_append, List.nil_append, List.append_nil, or_true, true_or, or_false, false_or, eq_self, ior0, iand0, im_e2, oI, sdm, e6, c_isInI h2, z, c_placeOld L2 R2 (show l.length ≤ 4096 by omega) xl (show t / 10 < 2147483648 by omega), c_placeOld L2 R2 (show l.length ≤ 4096 by omega) xl (show t % 10 < 2147483648 by omega), p1, p2, Nat.add_zero]
                  exact nxt
        · rintro - h' rfl
          rw [b_X12_breaks_45 _ _ _ _ _ _]
          simp (disch := first | assumption | omega | (simp only [ya_pi, ya_pj, ya_pa, ya_pr, yo_pi, yo_pj, yo_pa, yf_pi, yf_pj, yf_pa, yh_pi, yh_pj, yh_pa, yt_pi, yt_pj, yt_pa, la_pi, la_pj, la_pa]; assumption)) only [b_X12_breaks_0, b_X12_breaks_11, b_X12_breaks_21, b_X12_breaks_14, b_X12_breaks_18, b_X12_breaks_24, b_X12_breaks_29, b_X12_breaks_34, b_X12_breaks_32, b_X12_breaks_40, b_X12_breaks_109, b_X12_breaks_52, b_X12_breaks_72, b_X12_breaks_100, b_X12_breaks_75, b_X12_breaks_84, b_X12_breaks_93, b_X12_breaks_96, i_lit, i_m1, i_31, il_t, il_f, iq_t, iq_f, it_t, it_f, im_e, im_l, im_g, im_g2, nI_add, pk_mul, i_sub, i_div, sdm, i_dec, i_cl, iv_t, bI_or2, bI_t0, bI_one, not_true_eq_false, not_false_eq_true, ↓reduceIte, am_tl, am_tn, am_t0, am_n0, and_true, true_and, List.cons_append, List.nil_append, List.append_nil, or_true, true_or, or_false, false_or, eq_self, ior0, iand0, im_e2, oI]
          exact fin
    · rw [if_neg (fun z => hx z.2)] at k
      simp (disch := first | assumption | omega | (simp only [ya_pi, ya_pj, ya_pa, ya_pr, yo_pi, yo_pj, yo_pa, yf_pi, yf_pj, yf_pa, yh_pi, yh_pj, yh_pa, yt_pi, yt_pj, yt_pa, la_pi, la_pj, la_pa]; assumption)) only [b_X12_breaks_0, b_X12_breaks_11, b_X12_breaks_21, b_X12_breaks_14, b_X12_breaks_18, b_X12_breaks_24, b_X12_breaks_29, b_X12_breaks_34, b_X12_breaks_32, b_X12_breaks_40, b_X12_breaks_109, b_X12_breaks_52, b_X12_breaks_72, b_X12_breaks_100, b_X12_breaks_75, b_X12_breaks_84, b_X12_breaks_93, b_X12_breaks_96, i_lit, i_m1, i_31, il_t, il_f, iq_t, iq_f, it_t, it_f, im_e, im_l, im_g, im_g2, nI_add, pk_mul, i_sub, i_div, sdm, i_dec, i_cl, iv_t, bI_or2, bI_t0, bI_one, not_true_eq_false, not_false_eq_true, ↓reduceIte, am_tl, am_tn, am_t0, am_n0, and_true, true_and, List.cons_append, List.nil_append, List.append_nil, or_true, true_or, or_false, false_or, eq_self, ior0, iand0, im_e2, oI, nI_l, c_isClass_y ok F0 ha, c_isKind_n hx]
      exact k _ fr0
  · rw [if_neg (fun z => hc z.1)] at k
    simp (disch := first | assumption | omega | (simp only [ya_pi, ya_pj, ya_pa, ya_pr, yo_pi, yo_pj, yo_pa, yf_pi, yf_pj, yf_pa, yh_pi, yh_pj, yh_pa, yt_pi, yt_pj, yt_pa, la_pi, la_pj, la_pa]; assumption)) only [b_X12_breaks_0, b_X12_breaks_11, b_X12_breaks_21, b_X12_breaks_14, b_X12_breaks_18, b_X12_breaks_24, b_X12_breaks_29, b_X12_breaks_34, b_X12_breaks_32, b_X12_breaks_40, b_X12_breaks_109, b_X12_breaks_52, b_X12_breaks_72, b_X12_breaks_100, b_X12_breaks_75, b_X12_breaks_84, b_X12_breaks_93, b_X12_breaks_96, i_lit, i_m1, i_31, il_t, il_f, iq_t, iq_f, it_t, it_f, im_e, im_l, im_g, im_g2, nI_add, pk_mul, i_sub, i_div, sdm, i_dec, i_cl, iv_t, bI_or2, bI_t0, bI_one, not_true_eq_false, not_false_eq_true, ↓reduceIte, am_tl, am_tn, am_t0, am_n0, and_true, true_and, List.cons_append, List.nil_append, List.append_nil, or_true, true_or, or_false, false_or, eq_self, ior0, iand0, im_e2, oI, c_isClass_32 ok F0 hc]
    exact k _ fr0
theorem gd_ext {l l' : List Nat} (hl : l.length = l'.length) (h : ∀ i, i < l.length → l.getD i 0 = l'.getD i 0) : l = l' := by
  apply List.ext_getElem hl
  intro i h1 h2
  have := h i h1
  rw [List.getD_eq_getElem?_getD, List.getElem?_eq_getElem h1, List.getD_eq_getElem?_getD, List.getElem?_eq_getElem h2] at this
  exact this
theorem c_isOldOrder {d : Nat} {Q : Option am_V → am_H → Prop} {h : am_H} {c : Nat} {l : List Nat} {v : Nat × List Nat} (L0 : Lay h) (O0 : y_Orders h 15) (hc : c < 10) (m : ol h c l) (r : or_row h 15 c v) (hl : l.length ≤ 10) (hv : v.2.length ≤ 10) (xl : ∀ x ∈ l, x < 10) (xv : ∀ x ∈ v.2, x < 10) {l2 l3 : Option am_V} : ex_ (d + 2) 199 0 [some (v_r (some 0)), some (v_i (nI c)), l2, l3] [] h Q ↔ Q (some (v_i (nI (if (l == v.2) = true then 1 else 0)))) h := by
  have c11 : c < 11 := by omega
  apply ex_iff
  by_cases hz : l.length = v.2.length
  · simp (disch := first | assumption | omega | (simp only [ya_pi, ya_pj, ya_pa, ya_pr, yo_pi, yo_pj, yo_pa, yf_pi, yf_pj, yf_pa, yh_pi, yh_pj, yh_pa, yt_pi, yt_pj, yt_pa, la_pi, la_pj, la_pa]; assumption)) only [b_X11_isOldOrder_0, b_X11_isOldOrder_8, b_X11_isOldOrder_18, b_X11_isOldOrder_23, b_X11_isOldOrder_21, b_X11_isOldOrder_59, b_X11_isOldOrder_30, b_X11_isOldOrder_39, b_X11_isOldOrder_48, b_X11_isOldOrder_53, b_X11_isOldOrder_51, i_lit, i_m1, i_31, il_t, il_f, iq_t, iq_f, it_t, it_f, im_e, im_l, im_g, im_g2, nI_add, pk_mul, i_sub, i_div, sdm, i_dec, i_cl, iv_t, bI_or2, bI_t0, bI_one, not_true_eq_false, not_false_eq_true, ↓reduceIte, am_tl, am_tn, am_t0, am_n0, and_true, true_and, List.cons_append, List.nil_append, List.append_nil, or_true, true_or, or_false, false_or, eq_self, ior0, iand0, im_e2, oI, c_oSize L0 m hc, c_sizeOf O0 r c11]
    refine lp_up l.length (fun i (_ : Unit) => [some (v_r (some 0)), some (v_i (nI c)), some (v_i (nI l.length)), some (v_i (nI i))]) (fun i _ h' => h' = h ∧ ∀ j, j < i → l.getD j 0 = v.2.getD j 0) ?_ ?_ (Nat.zero_le _) ⟨rfl, fun j hj => absurd hj (Nat.not_lt_zero _)⟩ (s := ())
    · rintro i - h' hi ⟨rfl, e⟩ nx
      have x1 := xl _ (gd_mem hi)
      have x2 := xv _ (gd_mem (show i < v.2.length by omega))
      rw [b_X11_isOldOrder_25 _ _ _ _ _]
      by_cases y : l.getD i 0 = v.2.getD i 0
      · simp (disch := first | assumption | omega | (simp only [ya_pi, ya_pj, ya_pa, ya_pr, yo_pi, yo_pj, yo_pa, yf_pi, yf_pj, yf_pa, yh_pi, yh_pj, yh_pa, yt_pi, yt_pj, yt_pa, la_pi, la_pj, la_pa]; assumption)) only [b_X11_isOldOrder_0, b_X11_isOldOrder_8, b_X11_isOldOrder_18, b_X11_isOldOrder_23, b_X11_isOldOrder_21, b_X11_isOldOrder_59, b_X11_isOldOrder_30, b_X11_isOldOrder_39, b_X11_isOldOrder_48, b_X11_isOldOrder_53, b_X11_isOldOrder_51, i_lit, i_m1, i_31, il_t, il_f, iq_t, iq_f, it_t, it_f, im_e, im_l, im_g, im_g2, nI_add, pk_mul, i_sub, i_div, sdm, i_dec, i_cl, iv_t, bI_or2, bI_t0, bI_one, not_true_eq_false, not_false_eq_true, ↓reduceIte, am_tl, am_tn, am_t0, am_n0, and_true, true_and, List.cons_append, List.nil_append, List.append_nil, or_true, true_or, or_false, false_or, eq_self, ior0, iand0, im_e2, oI, c_oAt L0 m hc hl hi, c_at O0 r c11 (show i < v.2.length by omega) (by omega)]
        refine nx () h' ⟨rfl, fun j hj => ?_⟩
        by_cases w : j = i
        · rw [w]
          exact y
        · exact e j (by omega)
      · have ne : ¬ (l == v.2) = true := fun w => by
          rw [beq_iff_eq] at w
          exact y (by rw [w])
        simp (disch := first | assumption | omega | (simp only [ya_pi, ya_pj, ya_pa, ya_pr, yo_pi, yo_pj, yo_pa, yf_pi, yf_pj, yf_pa, yh_pi, yh_pj, yh_pa, yt_pi, yt_pj, yt_pa, la_pi, la_pj, la_pa]; assumption)) only [b_X11_isOldOrder_0, b_X11_isOldOrder_8, b_X11_isOldOrder_18, b_X11_isOldOrder_23, b_X11_isOldOrder_21, b_X11_isOldOrder_59, b_X11_isOldOrder_30, b_X11_isOldOrder_39, b_X11_isOldOrder_48, b_X11_isOldOrder_53, b_X11_isOldOrder_51, i_lit, i_m1, i_31, il_t, il_f, iq_t, iq_f, it_t, it_f, im_e, im_l, im_g, im_g2, nI_add, pk_mul, i_sub, i_div, sdm, i_dec, i_cl, iv_t, bI_or2, bI_t0, bI_one, not_true_eq_false, not_false_eq_true, ↓reduceIte, am_tl, am_tn, am_t0, am_n0, and_true, true_and, List.cons_append, List.nil_append, List.append_nil, or_true, true_or, or_false, false_or, eq_self, ior0, iand0, im_e2, oI, c_oAt L0 m hc hl hi, c_at O0 r c11 (show i < v.2.length by omega) (by omega), ne, Bool.false_eq_true]
    · rintro - h' ⟨rfl, e⟩
      have eq : (l == v.2) = true := beq_iff_eq.2 (gd_ext hz e)
      rw [b_X11_isOldOrder_25 _ _ _ _ _]
      simp (disch := first | assumption | omega | (simp only [ya_pi, ya_pj, ya_pa, ya_pr, yo_pi, yo_pj, yo_pa, yf_pi, yf_pj, yf_pa, yh_pi, yh_pj, yh_pa, yt_pi, yt_pj, yt_pa, la_pi, la_pj, la_pa]; assumption)) only [b_X11_isOldOrder_0, b_X11_isOldOrder_8, b_X11_isOldOrder_18, b_X11_isOldOrder_23, b_X11_isOldOrder_21, b_X11_isOldOrder_59, b_X11_isOldOrder_30, b_X11_isOldOrder_39, b_X11_isOldOrder_48, b_X11_isOldOrder_53, b_X11_isOldOrder_51, i_lit, i_m1, i_31, il_t, il_f, iq_t, iq_f, it_t, it_f, im_e, im_l, im_g, im_g2, nI_add, pk_mul, i_sub, i_div, sdm, i_dec, i_cl, iv_t, bI_or2, bI_t0, bI_one, not_true_eq_false, not_false_eq_true, ↓reduceIte, am_tl, am_tn, am_t0, am_n0, and_true, true_and, List.cons_append, List.nil_append, List.append_nil, or_true, true_or, or_false, false_or, eq_self, ior0, iand0, im_e2, oI, eq]
  · have ne : ¬ (l == v.2) = true := fun w => by
      rw [beq_iff_eq] at w
      exact hz (by rw [w])
    simp (disch := first | assumption | omega | (simp only [ya_pi, ya_pj, ya_pa, ya_pr, yo_pi, yo_pj, yo_pa, yf_pi, yf_pj, yf_pa, yh_pi, yh_pj, yh_pa, yt_pi, yt_pj, yt_pa, la_pi, la_pj, la_pa]; assumption)) only [b_X11_isOldOrder_0, b_X11_isOldOrder_8, b_X11_isOldOrder_18, b_X11_isOldOrder_23, b_X11_isOldOrder_21, b_X11_isOldOrder_59, b_X11_isOldOrder_30, b_X11_isOldOrder_39, b_X11_isOldOrder_48, b_X11_isOldOrder_53, b_X11_isOldOrder_51, i_lit, i_m1, i_31, il_t, il_f, iq_t, iq_f, it_t, it_f, im_e, im_l, im_g, im_g2, nI_add, pk_mul, i_sub, i_div, sdm, i_dec, i_cl, iv_t, bI_or2, bI_t0, bI_one, not_true_eq_false, not_false_eq_true, ↓reduceIte, am_tl, am_tn, am_t0, am_n0, and_true, true_and, List.cons_append, List.nil_append, List.append_nil, or_true, true_or, or_false, false_or, eq_self, ior0, iand0, im_e2, oI, c_oSize L0 m hc, c_sizeOf O0 r c11, ne, Bool.false_eq_true]
theorem c_same {d : Nat} {Q : Option am_V → am_H → Prop} {h : am_H} {f : fa_S} (ok : fa_ok f) (C : cQ h f) {x : Int32} {l2 l3 : Option am_V} (k : ∀ h', am_fr h h' cS → Q (some (v_i (a_same f x))) h') : ex_ (d + 4) 200 0 [some (v_r (some 0)), some (v_i x), l2, l3] [] h Q := by
  have L0 := C.1
  have hn := ok.1
  have hp := fa_plt ok
  unfold a_same at k
  by_cases hx : kok x
  · rw [if_pos hx] at k
    obtain ⟨kd, k1, k3, rfl⟩ := hx
    rw [nI_clamp (show kd < 2147483648 by omega)] at k
    simp (disch := first | assumption | omega | (simp only [ya_pi, ya_pj, ya_pa, ya_pr, yo_pi, yo_pj, yo_pa, yf_pi, yf_pj, yf_pa, yh_pi, yh_pj, yh_pa, yt_pi, yt_pj, yt_pa, la_pi, la_pj, la_pa]; assumption)) only [b_X11_same_0, b_X11_same_4, b_X11_same_10, b_X11_same_7, b_X11_same_25, b_X11_same_74, b_X11_same_43, b_X11_same_51, b_X11_same_68, b_X11_same_54, b_X11_same_59, b_X11_same_62, i_lit, i_m1, i_31, il_t, il_f, iq_t, iq_f, it_t, it_f, im_e, im_l, im_g, im_g2, nI_add, pk_mul, i_sub, i_div, sdm, i_dec, i_cl, iv_t, bI_or2, bI_t0, bI_one, not_true_eq_false, not_false_eq_true, ↓reduceIte, am_tl, am_tn, am_t0, am_n0, and_true, true_and, List.cons_append, List.nil_append, List.append_nil, or_true, true_or, or_false, false_or, eq_self, ior0, iand0, im_e2, oI, c_isOldKind_y k1 k3]
    refine c_build L0 ok C.2.1 ⟨k1, k3⟩ (fun h1 fr1 r1 => ?_)
    have C1 : cQ h1 f := C.fr ok (fr1.le (fun a k z => z.S))
    have L1 := C1.1
    have en := C1.2.1.2.1
    simp (disch := first | assumption | omega | (simp only [ya_pi, ya_pj, ya_pa, ya_pr, yo_pi, yo_pj, yo_pa, yf_pi, yf_pj, yf_pa, yh_pi, yh_pj, yh_pa, yt_pi, yt_pj, yt_pa, la_pi, la_pj, la_pa]; assumption)) only [b_X11_same_0, b_X11_same_4, b_X11_same_10, b_X11_same_7, b_X11_same_25, b_X11_same_74, b_X11_same_43, b_X11_same_51, b_X11_same_68, b_X11_same_54, b_X11_same_59, b_X11_same_62, i_lit, i_m1, i_31, il_t, il_f, iq_t, iq_f, it_t, it_f, im_e, im_l, im_g, im_g2, nI_add, pk_mul, i_sub, i_div, sdm, i_dec, i_cl, iv_t, bI_or2, bI_t0, bI_one, not_true_eq_false, not_false_eq_true, ↓reduceIte, am_tl, am_tn, am_t0, am_n0, and_true, true_and, List.cons_append, List.nil_append, List.append_nil, or_true, true_or, or_false, false_or, eq_self, ior0, iand0, im_e2, oI]
    have st := lp_up (d := d + 4) (k := 200) (pc := 29) (Q := Q) (f_n f) (fun i (_ : Unit) => [some (v_r (some 0)), some (v_i (nI kd)), some (v_i (nI (bs (bl (smP f kd) i)))), some (v_i (nI i))]) (fun i _ h' => h' = h1) ?_ ?_ (Nat.zero_le _) (s := ()) (h := h1) rfl
    · rw [bl_0] at st
      exact st
    · rintro i - h' hi rfl nx
      have nxt := nx () h' rfl
      have i11 : i < 11 := by omega
      have ho := fT_ok ok i hi
      have m0 := C1.2.2.2 i hi
      rw [b_X11_same_29 _ _ _ _ L1]
      by_cases z : (fT f i).2 = []
      · have z0 : ¬ (fT f i).1 = 0 := fun w => ho.2.1.1 w z
        rw [bl_n (show smP f kd i = false by unfold smP; rw [show ((fT f i).1 == 0) = false from beq_eq_false_iff_ne.2 z0]; rfl)] at nxt
        simp (disch := first | assumption | omega | (simp only [ya_pi, ya_pj, ya_pa, ya_pr, yo_pi, yo_pj, yo_pa, yf_pi, yf_pj, yf_pa, yh_pi, yh_pj, yh_pa, yt_pi, yt_pj, yt_pa, la_pi, la_pj, la_pa]; assumption)) only [b_X11_same_0, b_X11_same_4, b_X11_same_10, b_X11_same_7, b_X11_same_25, b_X11_same_74, b_X11_same_43, b_X11_same_51, b_X11_same_68, b_X11_same_54, b_X11_same_59, b_X11_same_62, i_lit, i_m1, i_31, il_t, il_f, iq_t, iq_f, it_t, it_f, im_e, im_l, im_g, im_g2, nI_add, pk_mul, i_sub, i_div, sdm, i_dec, i_cl, iv_t, bI_or2, bI_t0, bI_one, not_true_eq_false, not_false_eq_true, ↓reduceIte, am_tl, am_tn, am_t0, am_n0, and_true, true_and, List.cons_append, List.nil_append, List.append_nil, or_true, true_or, or_false, false_or, eq_self, ior0, iand0, im_e2, oI, en, c_hasOrder_n C1.2.2.1 m0 i11 z]
        exact nxt
      · have z0 : (fT f i).1 = 0 := ho.2.1.2 z
        have cc := fun {d} {Q} {l2} {l3} => c_isOldOrder (d := d) (Q := Q) (l2 := l2) (l3 := l3) L1 C1.2.2.1 (show i < 10 by omega) (r1 i hi) m0 (oS_len hp (show i < 10 by omega)) ho.2.2.2.2 (fun y hy => oS_lt hp (show i < 10 by omega) hy) ho.2.2.2.1
        cases e : (oS (f_p f) kd i == (fT f i).2) with
        | true =>
          rw [bl_y (show smP f kd i = true by unfold smP; rw [z0, e]; rfl)] at nxt
          rw [e] at cc
          simp (disch := first | assumption | omega | (simp only [ya_pi, ya_pj, ya_pa, ya_pr, yo_pi, yo_pj, yo_pa, yf_pi, yf_pj, yf_pa, yh_pi, yh_pj, yh_pa, yt_pi, yt_pj, yt_pa, la_pi, la_pj, la_pa]; assumption)) only [b_X11_same_0, b_X11_same_4, b_X11_same_10, b_X11_same_7, b_X11_same_25, b_X11_same_74, b_X11_same_43, b_X11_same_51, b_X11_same_68, b_X11_same_54, b_X11_same_59, b_X11_same_62, i_lit, i_m1, i_31, il_t, il_f, iq_t, iq_f, it_t, it_f, im_e, im_l, im_g, im_g2, nI_add, pk_mul, i_sub, i_div, sdm, i_dec, i_cl, iv_t, bI_or2, bI_t0, bI_one, not_true_eq_false, not_false_eq_true, ↓reduceIte, am_tl, am_tn, am_t0, am_n0, and_true, true_and, List.cons_append, List.nil_append, List.append_nil, or_true, true_or, or_false, false_or, eq_self, ior0, iand0, im_e2, oI, en, c_hasOrder_y C1.2.2.1 m0 i11 z (by omega), cc, i_31]
          exact nxt
        | false =>
          rw [bl_n (show smP f kd i = false by unfold smP; rw [e, Bool.and_false])] at nxt
          rw [e] at cc
          simp (disch := first | assumption | omega | (simp only [ya_pi, ya_pj, ya_pa, ya_pr, yo_pi, yo_pj, yo_pa, yf_pi, yf_pj, yf_pa, yh_pi, yh_pj, yh_pa, yt_pi, yt_pj, yt_pa, la_pi, la_pj, la_pa]; assumption)) only [b_X11_same_0, b_X11_same_4, b_X11_same_10, b_X11_same_7, b_X11_same_25, b_X11_same_74, b_X11_same_43, b_X11_same_51, b_X11_same_68, b_X11_same_54, b_X11_same_59, b_X11_same_62, i_lit, i_m1, i_31, il_t, il_f, iq_t, iq_f, it_t, it_f, im_e, im_l, im_g, im_g2, nI_add, pk_mul, i_sub, i_div, sdm, i_dec, i_cl, iv_t, bI_or2, bI_t0, bI_one, not_true_eq_false, not_false_eq_true, ↓reduceIte, am_tl, am_tn, am_t0, am_n0, and_true, true_and, List.cons_append, List.nil_append, List.append_nil, or_true, true_or, or_false, false_or, eq_self, ior0, iand0, im_e2, oI, en, c_hasOrder_y C1.2.2.1 m0 i11 z (by omega), cc, Bool.false_eq_true]
          exact nxt
    · rintro - h' rfl
      rw [b_X11_same_29 _ _ _ _ L1]
      simp (disch := first | assumption | omega | (simp only [ya_pi, ya_pj, ya_pa, ya_pr, yo_pi, yo_pj, yo_pa, yf_pi, yf_pj, yf_pa, yh_pi, yh_pj, yh_pa, yt_pi, yt_pj, yt_pa, la_pi, la_pj, la_pa]; assumption)) only [b_X11_same_0, b_X11_same_4, b_X11_same_10, b_X11_same_7, b_X11_same_25, b_X11_same_74, b_X11_same_43, b_X11_same_51, b_X11_same_68, b_X11_same_54, b_X11_same_59, b_X11_same_62, i_lit, i_m1, i_31, il_t, il_f, iq_t, iq_f, it_t, it_f, im_e, im_l, im_g, im_g2, nI_add, pk_mul, i_sub, i_div, sdm, i_dec, i_cl, iv_t, bI_or2, bI_t0, bI_one, not_true_eq_false, not_false_eq_true, ↓reduceIte, am_tl, am_tn, am_t0, am_n0, and_true, true_and, List.cons_append, List.nil_append, List.append_nil, or_true, true_or, or_false, false_or, eq_self, ior0, iand0, im_e2, oI, en]
      exact k h' (fr1.le (fun a k z => z.S))
  · rw [if_neg hx] at k
    simp (disch := first | assumption | omega | (simp only [ya_pi, ya_pj, ya_pa, ya_pr, yo_pi, yo_pj, yo_pa, yf_pi, yf_pj, yf_pa, yh_pi, yh_pj, yh_pa, yt_pi, yt_pj, yt_pa, la_pi, la_pj, la_pa]; assumption)) only [b_X11_same_0, b_X11_same_4, b_X11_same_10, b_X11_same_7, b_X11_same_25, b_X11_same_74, b_X11_same_43, b_X11_same_51, b_X11_same_68, b_X11_same_54, b_X11_same_59, b_X11_same_62, i_lit, i_m1, i_31, il_t, il_f, iq_t, iq_f, it_t, it_f, im_e, im_l, im_g, im_g2, nI_add, pk_mul, i_sub, i_div, sdm, i_dec, i_cl, iv_t, bI_or2, bI_t0, bI_one, not_true_eq_false, not_false_eq_true, ↓reduceIte, am_tl, am_tn, am_t0, am_n0, and_true, true_and, List.cons_append, List.nil_append, List.append_nil, or_true, true_or, or_false, false_or, eq_self, ior0, iand0, im_e2, oI, c_isOldKind_n hx]
    exact k h am_fr.rf
theorem nb_and {b : Nat} (h : b ≤ 1) : nI b &&& nI 1 = nI b := by
  rcases (show b = 0 ∨ b = 1 by omega) with rfl | rfl <;> decide
theorem c_rSame {d : Nat} {Q : Option am_V → am_H → Prop} {h : am_H} {f : fa_S} (ok : fa_ok f) (F : rfa h f) {x : Int32} {l2 l3 l4 l5 : Option am_V} (k : ∀ h', am_fr h h' rS → Q (some (v_i (a_same f x))) h') : ex_ (d + 12) 329 0 [some (v_r (some 93)), some (v_i x), l2, l3, l4, l5] [] h Q := by
  have L0 := F.1
  have hn := ok.1
  have hp := fa_plt ok
  have F0 : rfa (p_i h 93 0 (nI 0)) f := p0_rfa ok F
  have fr0 : am_fr h (p_i h 93 0 (nI 0)) rS := am_fr_pi (by unfold rS; omega)
  unfold a_same at k
  by_cases hx : kok x
  · rw [if_pos hx] at k
    obtain ⟨kd, k1, k3, rfl⟩ := hx
    rw [nI_clamp (show kd < 2147483648 by omega)] at k
    simp (disch := first | assumption | omega | (simp only [ya_pi, ya_pj, ya_pa, ya_pr, yo_pi, yo_pj, yo_pa, yf_pi, yf_pj, yf_pa, yh_pi, yh_pj, yh_pa, yt_pi, yt_pj, yt_pa, la_pi, la_pj, la_pa]; assumption)) only [b_X12_same_0, b_X12_same_9, b_X12_same_15, b_X12_same_12, b_X12_same_19, b_X12_same_128, b_X12_same_33, b_X12_same_39, b_X12_same_52, b_X12_same_48, b_X12_same_107, b_X12_same_69, b_X12_same_119, b_X12_same_113, b_X12_same_97, b_X12_same_93, i_lit, i_m1, i_31, il_t, il_f, iq_t, iq_f, it_t, it_f, im_e, im_l, im_g, im_g2, nI_add, pk_mul, i_sub, i_div, sdm, i_dec, i_cl, iv_t, bI_or2, bI_t0, bI_one, not_true_eq_false, not_false_eq_true, ↓reduceIte, am_tl, am_tn, am_t0, am_n0, and_true, true_and, List.cons_append, List.nil_append, List.append_nil, or_true, true_or, or_false, false_or, eq_self, ior0, iand0, im_e2, oI, c_isKind_y k1 k3]
    refine c_laysOrders ok F0 (fun h1 fr1 (A1 : ra h1 (fT f) (f_n f)) => ?_)
    simp (disch := first | assumption | omega | (simp only [ya_pi, ya_pj, ya_pa, ya_pr, yo_pi, yo_pj, yo_pa, yf_pi, yf_pj, yf_pa, yh_pi, yh_pj, yh_pa, yt_pi, yt_pj, yt_pa, la_pi, la_pj, la_pa]; assumption)) only [b_X12_same_0, b_X12_same_9, b_X12_same_15, b_X12_same_12, b_X12_same_19, b_X12_same_128, b_X12_same_33, b_X12_same_39, b_X12_same_52, b_X12_same_48, b_X12_same_107, b_X12_same_69, b_X12_same_119, b_X12_same_113, b_X12_same_97, b_X12_same_93, i_lit, i_m1, i_31, il_t, il_f, iq_t, iq_f, it_t, it_f, im_e, im_l, im_g, im_g2, nI_add, pk_mul, i_sub, i_div, sdm, i_dec, i_cl, iv_t, bI_or2, bI_t0, bI_one, not_true_eq_false, not_false_eq_true, ↓reduceIte, am_tl, am_tn, am_t0, am_n0, and_true, true_and, List.cons_append, List.nil_append, List.append_nil, or_true, true_or, or_false, false_or, eq_self, ior0, iand0, im_e2, oI]
    have fr1' : am_fr h h1 rS := fr0.tr (fr1.le (fun a k z => z.S))
    have st := lp_up (d := d + 12) (k := 329) (pc := 23) (Q := Q) (f_n f) (fun i (s : Option am_V × Option am_V) => [some (v_r (some 93)), some (v_i (nI kd)), some (v_i (nI (bs (bl (smP f kd) i)))), some (v_i (nI i)), s.1, s.2]) (fun i _ h' => am_fr h h' rS ∧ ra h' (fT f) (f_n f)) ?_ ?_ (Nat.zero_le _) (s := (l4, l5)) (h := h1) ⟨fr1', A1⟩
    · rw [bl_0] at st
      exact st
    · rintro i ⟨l4, l5⟩ h2 hi ⟨fr2, A2⟩ nx
      dsimp only
      have F2 : rfa h2 f := fr2.rfa ok F (fun k _ => by unfold rS; omega)
      have L2 := F2.1
      have en := F2.2.1
      have ho := fT_ok ok i hi
      rw [b_X12_same_23 _ _ _ _ _ _ L2]
      simp (disch := first | assumption | omega | (simp only [ya_pi, ya_pj, ya_pa, ya_pr, yo_pi, yo_pj, yo_pa, yf_pi, yf_pj, yf_pa, yh_pi, yh_pj, yh_pa, yt_pi, yt_pj, yt_pa, la_pi, la_pj, la_pa]; assumption)) only [b_X12_same_0, b_X12_same_9, b_X12_same_15, b_X12_same_12, b_X12_same_19, b_X12_same_128, b_X12_same_33, b_X12_same_39, b_X12_same_52, b_X12_same_48, b_X12_same_107, b_X12_same_69, b_X12_same_119, b_X12_same_113, b_X12_same_97, b_X12_same_93, i_lit, i_m1, i_31, il_t, il_f, iq_t, iq_f, it_t, it_f, im_e, im_l, im_g, im_g2, nI_add, pk_mul, i_sub, i_div, sdm, i_dec, i_cl, iv_t, bI_or2, bI_t0, bI_one, not_true_eq_false, not_false_eq_true, ↓reduceIte, am_tl, am_tn, am_t0, am_n0, and_true, true_and, List.cons_append, List.nil_append, List.append_nil, or_true, true_or, or_false, false_or, eq_self, ior0, iand0, im_e2, oI, en]
      refine c_laysOld ok F2 hi ⟨k1, k3⟩ (fun h3 fr3 R3 => ?_)
      have L3 : Lay h3 := fr3.lay L2
      have A3 : ra h3 (fT f) (f_n f) := A2.fr (fT_ok ok) fr3 (fun a k _ _ => by unfold r9; omega)
      obtain ⟨e100, e98, r99⟩ := A3.2 i hi
      have nxt := fun l4 l5 => nx (l4, l5) h3 ⟨fr2.tr (fr3.le (fun a k z => z.S)), A3⟩
      dsimp only at nxt
      have inner : ∀ b0, b0 ≤ 1 → (b0 = 1 ↔ (fT f i).1 = 0) → ex_ (d + 12) 329 58 [some (v_r (some 93)), some (v_i (nI kd)), some (v_i (nI (bs (bl (smP f kd) i)))), some (v_i (nI i)), some (v_i (nI b0)), some (v_i (nI 0))] [] h3 Q := by
        intro b0 hb0 eb0
        have hlen : b0 = 1 → (oS (f_p f) kd i).length = (fT f i).2.length := fun w => by
          have ne := ho.2.1.1 (eb0.1 w)
          rcases fT_mem ok hi with z | z
          · exact absurd z ne
          · exact nd_len2 (oS_nd hp (show i < 10 by omega)) ho.2.2.1 (fun y hy => oS_lt hp (show i < 10 by omega) hy) (fun y => by rw [oS_mem hp (show i < 10 by omega), z y])
        refine lp_up (fT f i).2.length (fun j (b : Nat) => [some (v_r (some 93)), some (v_i (nI kd)), some (v_i (nI (bs (bl (smP f kd) i)))), some (v_i (nI i)), some (v_i (nI b)), some (v_i (nI j))]) (fun j b h' => h' = h3 ∧ b ≤ 1 ∧ (b = 1 ↔ b0 = 1 ∧ ∀ t, t < j → (fT f i).2.getD t 0 = (oS (f_p f) kd i).getD t 0)) ?_ ?_ (Nat.zero_le _) ⟨rfl, hb0, ⟨fun w => ⟨w, fun t ht => absurd ht (Nat.not_lt_zero _)⟩, fun w => w.1⟩⟩
        · rintro j b h' hj ⟨rfl, hb, eb⟩ nx2
          have e1 := r99 j hj
          have x1 := ho.2.2.2.1 _ (gd_mem hj)
          have hz := ho.2.1
          have b01 : b0 = 1 := by
            rcases (show b0 = 0 ∨ b0 = 1 by omega) with w | w
            · exfalso
              have : ¬ (fT f i).2 = [] := fun q => by rw [q] at hj; exact absurd hj (Nat.not_lt_zero _)
              have := eb0.2 (hz.2 this)
              omega
            · exact w
          have lj : j < (oS (f_p f) kd i).length := by rw [hlen b01]; exact hj
          have e2 := R3.2 j lj
          rw [Nat.zero_add] at e2
          have x2 := oS_lt hp (show i < 10 by omega) (gd_mem lj)
          rw [b_X12_same_58 _ _ _ _ _ _ L3]
          by_cases y : (fT f i).2.getD j 0 = (oS (f_p f) kd i).getD j 0
          · simp (disch := first | assumption | omega | (simp only [ya_pi, ya_pj, ya_pa, ya_pr, yo_pi, yo_pj, yo_pa, yf_pi, yf_pj, yf_pa, yh_pi, yh_pj, yh_pa, yt_pi, yt_pj, yt_pa, la_pi, la_pj, la_pa]; assumption)) only [b_X12_same_0, b_X12_same_9, b_X12_same_15, b_X12_same_12, b_X12_same_19, b_X12_same_128, b_X12_same_33, b_X12_same_39, b_X12_same_52, b_X12_same_48, b_X12_same_107, b_X12_same_69, b_X12_same_119, b_X12_same_113, b_X12_same_97, b_X12_same_93, i_lit, i_m1, i_31, il_t, il_f, iq_t, iq_f, it_t, it_f, im_e, im_l, im_g, im_g2, nI_add, pk_mul, i_sub, i_div, sdm, i_dec, i_cl, iv_t, bI_or2, bI_t0, bI_one, not_true_eq_false, not_false_eq_true, ↓reduceIte, am_tl, am_tn, am_t0, am_n0, and_true, true_and, List.cons_append, List.nil_append, List.append_nil, or_true, true_or, or_false, false_or, eq_self, ior0, iand0, im_e2, oI, e98, e1, e2, nb_and]
            refine nx2 b h' ⟨rfl, hb, ?_⟩
            rw [eb]
            refine and_congr_right (fun _ => ⟨fun w t ht => ?_, fun w t ht => w t (by omega)⟩)
            by_cases q : t = j
            · rw [q]
              exact y
            · exact w t (by omega)
          · simp (disch := first | assumption | omega | (simp only [ya_pi, ya_pj, ya_pa, ya_pr, yo_pi, yo_pj, yo_pa, yf_pi, yf_pj, yf_pa, yh_pi, yh_pj, yh_pa, yt_pi, yt_pj, yt_pa, la_pi, la_pj, la_pa]; assumption)) only [b_X12_same_0, b_X12_same_9, b_X12_same_15, b_X12_same_12, b_X12_same_19, b_X12_same_128, b_X12_same_33, b_X12_same_39, b_X12_same_52, b_X12_same_48, b_X12_same_107, b_X12_same_69, b_X12_same_119, b_X12_same_113, b_X12_same_97, b_X12_same_93, i_lit, i_m1, i_31, il_t, il_f, iq_t, iq_f, it_t, it_f, im_e, im_l, im_g, im_g2, nI_add, pk_mul, i_sub, i_div, sdm, i_dec, i_cl, iv_t, bI_or2, bI_t0, bI_one, not_true_eq_false, not_false_eq_true, ↓reduceIte, am_tl, am_tn, am_t0, am_n0, and_true, true_and, List.cons_append, List.nil_append, List.append_nil, or_true, true_or, or_false, false_or, eq_self, ior0, iand0, im_e2, oI, e98, e1, e2]
            refine nx2 0 h' ⟨rfl, by omega, ⟨fun w => by omega, fun w => absurd (w.2 j (by omega)) y⟩⟩
        · rintro b h' ⟨rfl, hb, eb⟩
          rw [b_X12_same_58 _ _ _ _ _ _ L3]
          rcases (show b = 0 ∨ b = 1 by omega) with w | w
          · subst w
            have zz : smP f kd i = false := by
              cases q : smP f kd i with
              | false => rfl
              | true =>
                unfold smP at q
                rw [Bool.and_eq_true, beq_iff_eq, beq_iff_eq] at q
                have := eb.2 ⟨eb0.2 q.1, fun t ht => by rw [q.2]⟩
                omega
            have n2 := nxt (some (v_i (nI 0))) (some (v_i (nI (fT f i).2.length)))
            rw [bl_n zz] at n2
            simp (disch := first | assumption | omega | (simp only [ya_pi, ya_pj, ya_pa, ya_pr, yo_pi, yo_pj, yo_pa, yf_pi, yf_pj, yf_pa, yh_pi, yh_pj, yh_pa, yt_pi, yt_pj, yt_pa, la_pi, la_pj, la_pa]; assumption)) only [b_X12_same_0, b_X12_same_9, b_X12_same_15, b_X12_same_12, b_X12_same_19, b_X12_same_128, b_X12_same_33, b_X12_same_39, b_X12_same_52, b_X12_same_48, b_X12_same_107, b_X12_same_69, b_X12_same_119, b_X12_same_113, b_X12_same_97, b_X12_same_93, i_lit, i_m1, i_31, il_t, il_f, iq_t, iq_f, it_t, it_f, im_e, im_l, im_g, im_g2, nI_add, pk_mul, i_sub, i_div, sdm, i_dec, i_cl, iv_t, bI_or2, bI_t0, bI_one, not_true_eq_false, not_false_eq_true, ↓reduceIte, am_tl, am_tn, am_t0, am_n0, and_true, true_and, List.cons_append, List.nil_append, List.append_nil, or_true, true_or, or_false, false_or, eq_self, ior0, iand0, im_e2, oI, e98]
            exact n2
          · subst w
            obtain ⟨w1, w2⟩ := eb.1 rfl
            have zz : smP f kd i = true := by
              unfold smP
              rw [Bool.and_eq_true, beq_iff_eq, beq_iff_eq]
              exact ⟨eb0.1 w1, (gd_ext (hlen w1).symm w2).symm⟩
            have n2 := nxt (some (v_i (nI 1))) (some (v_i (nI (fT f i).2.length)))
            rw [bl_y zz] at n2
            simp (disch := first | assumption | omega | (simp only [ya_pi, ya_pj, ya_pa, ya_pr, yo_pi, yo_pj, yo_pa, yf_pi, yf_pj, yf_pa, yh_pi, yh_pj, yh_pa, yt_pi, yt_pj, yt_pa, la_pi, la_pj, la_pa]; assumption)) only [b_X12_same_0, b_X12_same_9, b_X12_same_15, b_X12_same_12, b_X12_same_19, b_X12_same_128, b_X12_same_33, b_X12_same_39, b_X12_same_52, b_X12_same_48, b_X12_same_107, b_X12_same_69, b_X12_same_119, b_X12_same_113, b_X12_same_97, b_X12_same_93, i_lit, i_m1, i_31, il_t, il_f, iq_t, iq_f, it_t, it_f, im_e, im_l, im_g, im_g2, nI_add, pk_mul, i_sub, i_div, sdm, i_dec, i_cl, iv_t, bI_or2, bI_t0, bI_one, not_true_eq_false, not_false_eq_true, ↓reduceIte, am_tl, am_tn, am_t0, am_n0, and_true, true_and, List.cons_append, List.nil_append, List.append_nil, or_true, true_or, or_false, false_or, eq_self, ior0, iand0, im_e2, oI, e98, i_31]
            exact n2
      by_cases z : (fT f i).1 = 0
      · have := inner 1 (by omega) ⟨fun _ => z, fun _ => rfl⟩
        simp (disch := first | assumption | omega | (simp only [ya_pi, ya_pj, ya_pa, ya_pr, yo_pi, yo_pj, yo_pa, yf_pi, yf_pj, yf_pa, yh_pi, yh_pj, yh_pa, yt_pi, yt_pj, yt_pa, la_pi, la_pj, la_pa]; assumption)) only [b_X12_same_0, b_X12_same_9, b_X12_same_15, b_X12_same_12, b_X12_same_19, b_X12_same_128, b_X12_same_33, b_X12_same_39, b_X12_same_52, b_X12_same_48, b_X12_same_107, b_X12_same_69, b_X12_same_119, b_X12_same_113, b_X12_same_97, b_X12_same_93, i_lit, i_m1, i_31, il_t, il_f, iq_t, iq_f, it_t, it_f, im_e, im_l, im_g, im_g2, nI_add, pk_mul, i_sub, i_div, sdm, i_dec, i_cl, iv_t, bI_or2, bI_t0, bI_one, not_true_eq_false, not_false_eq_true, ↓reduceIte, am_tl, am_tn, am_t0, am_n0, and_true, true_and, List.cons_append, List.nil_append, List.append_nil, or_true, true_or, or_false, false_or, eq_self, ior0, iand0, im_e2, oI, e100, z]
        exact this
      · have := inner 0 (by omega) ⟨fun w => by omega, fun w => absurd w z⟩
        have o1 := ho.1
        simp (disch := first | assumption | omega | (simp only [ya_pi, ya_pj, ya_pa, ya_pr, yo_pi, yo_pj, yo_pa, yf_pi, yf_pj, yf_pa, yh_pi, yh_pj, yh_pa, yt_pi, yt_pj, yt_pa, la_pi, la_pj, la_pa]; assumption)) only [b_X12_same_0, b_X12_same_9, b_X12_same_15, b_X12_same_12, b_X12_same_19, b_X12_same_128, b_X12_same_33, b_X12_same_39, b_X12_same_52, b_X12_same_48, b_X12_same_107, b_X12_same_69, b_X12_same_119, b_X12_same_113, b_X12_same_97, b_X12_same_93, i_lit, i_m1, i_31, il_t, il_f, iq_t, iq_f, it_t, it_f, im_e, im_l, im_g, im_g2, nI_add, pk_mul, i_sub, i_div, sdm, i_dec, i_cl, iv_t, bI_or2, bI_t0, bI_one, not_true_eq_false, not_false_eq_true, ↓reduceIte, am_tl, am_tn, am_t0, am_n0, and_true, true_and, List.cons_append, List.nil_append, List.append_nil, or_true, true_or, or_false, false_or, eq_self, ior0, iand0, im_e2, oI, e100]
        exact this
    · rintro ⟨l4, l5⟩ h2 ⟨fr2, A2⟩
      dsimp only
      have F2 : rfa h2 f := fr2.rfa ok F (fun k _ => by unfold rS; omega)
      have L2 := F2.1
      have en := F2.2.1
      rw [b_X12_same_23 _ _ _ _ _ _ L2]
      simp (disch := first | assumption | omega | (simp only [ya_pi, ya_pj, ya_pa, ya_pr, yo_pi, yo_pj, yo_pa, yf_pi, yf_pj, yf_pa, yh_pi, yh_pj, yh_pa, yt_pi, yt_pj, yt_pa, la_pi, la_pj, la_pa]; assumption)) only [b_X12_same_0, b_X12_same_9, b_X12_same_15, b_X12_same_12, b_X12_same_19, b_X12_same_128, b_X12_same_33, b_X12_same_39, b_X12_same_52, b_X12_same_48, b_X12_same_107, b_X12_same_69, b_X12_same_119, b_X12_same_113, b_X12_same_97, b_X12_same_93, i_lit, i_m1, i_31, il_t, il_f, iq_t, iq_f, it_t, it_f, im_e, im_l, im_g, im_g2, nI_add, pk_mul, i_sub, i_div, sdm, i_dec, i_cl, iv_t, bI_or2, bI_t0, bI_one, not_true_eq_false, not_false_eq_true, ↓reduceIte, am_tl, am_tn, am_t0, am_n0, and_true, true_and, List.cons_append, List.nil_append, List.append_nil, or_true, true_or, or_false, false_or, eq_self, ior0, iand0, im_e2, oI, en]
      exact k h2 fr2
  · rw [if_neg hx] at k
    simp (disch := first | assumption | omega | (simp only [ya_pi, ya_pj, ya_pa, ya_pr, yo_pi, yo_pj, yo_pa, yf_pi, yf_pj, yf_pa, yh_pi, yh_pj, yh_pa, yt_pi, yt_pj, yt_pa, la_pi, la_pj, la_pa]; assumption)) only [b_X12_same_0, b_X12_same_9, b_X12_same_15, b_X12_same_12, b_X12_same_19, b_X12_same_128, b_X12_same_33, b_X12_same_39, b_X12_same_52, b_X12_same_48, b_X12_same_107, b_X12_same_69, b_X12_same_119, b_X12_same_113, b_X12_same_97, b_X12_same_93, i_lit, i_m1, i_31, il_t, il_f, iq_t, iq_f, it_t, it_f, im_e, im_l, im_g, im_g2, nI_add, pk_mul, i_sub, i_div, sdm, i_dec, i_cl, iv_t, bI_or2, bI_t0, bI_one, not_true_eq_false, not_false_eq_true, ↓reduceIte, am_tl, am_tn, am_t0, am_n0, and_true, true_and, List.cons_append, List.nil_append, List.append_nil, or_true, true_or, or_false, false_or, eq_self, ior0, iand0, im_e2, oI, c_isKind_n hx]
    exact k _ fr0
