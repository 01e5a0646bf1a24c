/-! ===== the class reads laws: comparisons, units, truths, levels ===== -/
theorem qC_cT {t c : Nat} (h : qC t = some c) : -(nI t) = cT c := by
  unfold qC at h
  repeat' split at h
  all_goals first | (cases h; fail) | skip
  all_goals simp only [Option.some.injEq, reduceCtorEq] at h
  all_goals (subst h; subst t; decide)
theorem c_readComparison {e n : Nat} {ts : List (Nat × Nat)} {sy : Bool} (G : gT ts) (CE : cRd 132 [some (v_r (some 2)), none, none, none] e n (pS ts sy (lo ts sy n)) ts sy) : cRd 131 [some (v_r (some 2)), none, none] (e + 1) n (pK ts sy (lo ts sy n)) ts sy := by
  intro Q h i cs S hc K
  have hi := S.1.2.2.2.2
  have L := S.1.1
  have s6 := S.1.2.2.2.1
  have t4 := G.2.1 i
  have G3 := G.2.2.1
  unfold pK at K
  cases w : qC (tK ts i) with
  | none =>
    rw [w] at K
    have K1 : Q (some (v_i (nI 0))) (rfH h ts 2 i) := K.no (by decide) S
    have ref := fun Q => c_refuse (d := e) (Q := Q) (k := 2) S.1
    unfold qC at w
    have a1 : ¬ tK ts i = 61 := fun a => by rw [if_pos a] at w; cases w
    have a2 : ¬ tK ts i = 60 := fun a => by rw [if_neg a1, if_pos a] at w; cases w
    have a3 : ¬ tK ts i = 62 := fun a => by rw [if_neg a1, if_neg a2, if_pos a] at w; cases w
    simp (disch := first | assumption | omega | (simp only [ya_pi, ya_pj, ya_pa, ya_pr, yo_pi, yo_pj, yo_pa, yf_pi, yf_pj, yf_pa, yh_pi, yh_pj, yh_pa, yt_pi, yt_pj, yt_pa, la_pi, la_pj, la_pa]; assumption)) only [b_X8_readComparison_0, b_X8_readComparison_11, b_X8_readComparison_17, b_X8_readComparison_23, b_X8_readComparison_28, i_lit, i_m1, i_31, il_t, il_f, iq_t, iq_f, it_t, it_f, im_e, im_l, im_g, im_g2, nI_add, pk_mul, i_sub, i_div, sdm, i_dec, i_cl, iv_t, bI_or2, bI_t0, bI_one, not_true_eq_false, not_false_eq_true, ↓reduceIte, am_tl, am_tn, am_t0, am_n0, and_true, true_and, List.cons_append, List.nil_append, List.append_nil, s6, ref, or_true, true_or]
    exact K1
  | some c =>
    rw [w] at K
    have K : cOK ts sy (6 - n) cs (pB (pS ts sy (lo ts sy n) (i + 1)) (pO c)) h Q := K
    have wc := qC_cT w
    have w1 : tK ts i = 61 ∨ tK ts i = 60 ∨ tK ts i = 62 := by
      unfold qC at w
      by_cases a1 : tK ts i = 61
      · exact Or.inl a1
      · by_cases a2 : tK ts i = 60
        · exact Or.inr (Or.inl a2)
        · by_cases a3 : tK ts i = 62
          · exact Or.inr (Or.inr a3)
          · rw [if_neg a1, if_neg a2, if_neg a3] at w; cases w
    have i1 := G.1 i (by omega)
    have S1 := S.st i1
    have L1 := S1.1.1
    have go : ex_ (e + 1) 131 29 [some (v_r (some 2)), some (v_i (nI (tK ts i))), none] [] h Q := by
      simp (disch := first | assumption | omega | (simp only [ya_pi, ya_pj, ya_pa, ya_pr, yo_pi, yo_pj, yo_pa, yf_pi, yf_pj, yf_pa, yh_pi, yh_pj, yh_pa, yt_pi, yt_pj, yt_pa, la_pi, la_pj, la_pa]; assumption)) only [b_X8_readComparison_29, b_X8_readComparison_33, i_lit, i_m1, i_31, il_t, il_f, iq_t, iq_f, it_t, it_f, im_e, im_l, im_g, im_g2, nI_add, pk_mul, i_sub, i_div, sdm, i_dec, i_cl, iv_t, bI_or2, bI_t0, bI_one, not_true_eq_false, not_false_eq_true, ↓reduceIte, am_tl, am_tn, am_t0, am_n0, and_true, true_and, List.cons_append, List.nil_append, List.append_nil, c_step8 S.1 i1]
      refine CE _ _ _ _ S1 (by omega) ⟨fun z2 h2 fr2 S2 => ?_, fun z2 h2 fr2 X2 => ?_⟩
      · have K2 := K.go z2 (stH_fr.tr fr2)
        have L2 := S2.1.1
        have f1 := (g_pS (sy := sy) G (g_lo G n) i1).1 z2
        simp (disch := first | assumption | omega | (simp only [ya_pi, ya_pj, ya_pa, ya_pr, yo_pi, yo_pj, yo_pa, yf_pi, yf_pj, yf_pa, yh_pi, yh_pj, yh_pa, yt_pi, yt_pj, yt_pa, la_pi, la_pj, la_pa]; assumption)) only [b_X8_readComparison_37, i_lit, i_m1, i_31, il_t, il_f, iq_t, iq_f, it_t, it_f, im_e, im_l, im_g, im_g2, nI_add, pk_mul, i_sub, i_div, sdm, i_dec, i_cl, iv_t, bI_or2, bI_t0, bI_one, not_true_eq_false, not_false_eq_true, ↓reduceIte, am_tl, am_tn, am_t0, am_n0, and_true, true_and, List.cons_append, List.nil_append, List.append_nil]
        refine c_emit S2 (by rw [List.length_append]; omega) wc (fun h3 fr3 S3 => ?_)
        simp (disch := first | assumption | omega | (simp only [ya_pi, ya_pj, ya_pa, ya_pr, yo_pi, yo_pj, yo_pa, yf_pi, yf_pj, yf_pa, yh_pi, yh_pj, yh_pa, yt_pi, yt_pj, yt_pa, la_pi, la_pj, la_pa]; assumption)) only [b_X8_readComparison_44, i_lit, i_m1, i_31, il_t, il_f, iq_t, iq_f, it_t, it_f, im_e, im_l, im_g, im_g2, nI_add, pk_mul, i_sub, i_div, sdm, i_dec, i_cl, iv_t, bI_or2, bI_t0, bI_one, not_true_eq_false, not_false_eq_true, ↓reduceIte, am_tl, am_tn, am_t0, am_n0, and_true, true_and, List.cons_append, List.nil_append, List.append_nil, or_true, true_or]
        exact K2.put fr3 S3
      · have L2 := X2.1
        simp (disch := first | assumption | omega | (simp only [ya_pi, ya_pj, ya_pa, ya_pr, yo_pi, yo_pj, yo_pa, yf_pi, yf_pj, yf_pa, yh_pi, yh_pj, yh_pa, yt_pi, yt_pj, yt_pa, la_pi, la_pj, la_pa]; assumption)) only [b_X8_readComparison_37, i_lit, i_m1, i_31, il_t, il_f, iq_t, iq_f, it_t, it_f, im_e, im_l, im_g, im_g2, nI_add, pk_mul, i_sub, i_div, sdm, i_dec, i_cl, iv_t, bI_or2, bI_t0, bI_one, not_true_eq_false, not_false_eq_true, ↓reduceIte, am_tl, am_tn, am_t0, am_n0, and_true, true_and, List.cons_append, List.nil_append, List.append_nil]
        refine c_emitX X2 (fun h3 fr3 X3 => ?_)
        simp (disch := first | assumption | omega | (simp only [ya_pi, ya_pj, ya_pa, ya_pr, yo_pi, yo_pj, yo_pa, yf_pi, yf_pj, yf_pa, yh_pi, yh_pj, yh_pa, yt_pi, yt_pj, yt_pa, la_pi, la_pj, la_pa]; assumption)) only [b_X8_readComparison_44, i_lit, i_m1, i_31, il_t, il_f, iq_t, iq_f, it_t, it_f, im_e, im_l, im_g, im_g2, nI_add, pk_mul, i_sub, i_div, sdm, i_dec, i_cl, iv_t, bI_or2, bI_t0, bI_one, not_true_eq_false, not_false_eq_true, ↓reduceIte, am_tl, am_tn, am_t0, am_n0, and_true, true_and, List.cons_append, List.nil_append, List.append_nil, or_true, true_or]
        exact K.stop z2 ((stH_fr.tr fr2).tr fr3) X3
    rcases w1 with a | a | a
    · rw [a] at go
      simp (disch := first | assumption | omega | (simp only [ya_pi, ya_pj, ya_pa, ya_pr, yo_pi, yo_pj, yo_pa, yf_pi, yf_pj, yf_pa, yh_pi, yh_pj, yh_pa, yt_pi, yt_pj, yt_pa, la_pi, la_pj, la_pa]; assumption)) only [b_X8_readComparison_0, b_X8_readComparison_11, b_X8_readComparison_17, i_lit, i_m1, i_31, il_t, il_f, iq_t, iq_f, it_t, it_f, im_e, im_l, im_g, im_g2, nI_add, pk_mul, i_sub, i_div, sdm, i_dec, i_cl, iv_t, bI_or2, bI_t0, bI_one, not_true_eq_false, not_false_eq_true, ↓reduceIte, am_tl, am_tn, am_t0, am_n0, and_true, true_and, List.cons_append, List.nil_append, List.append_nil, s6, a]
      exact go
    · rw [a] at go
      simp (disch := first | assumption | omega | (simp only [ya_pi, ya_pj, ya_pa, ya_pr, yo_pi, yo_pj, yo_pa, yf_pi, yf_pj, yf_pa, yh_pi, yh_pj, yh_pa, yt_pi, yt_pj, yt_pa, la_pi, la_pj, la_pa]; assumption)) only [b_X8_readComparison_0, b_X8_readComparison_11, b_X8_readComparison_17, i_lit, i_m1, i_31, il_t, il_f, iq_t, iq_f, it_t, it_f, im_e, im_l, im_g, im_g2, nI_add, pk_mul, i_sub, i_div, sdm, i_dec, i_cl, iv_t, bI_or2, bI_t0, bI_one, not_true_eq_false, not_false_eq_true, ↓reduceIte, am_tl, am_tn, am_t0, am_n0, and_true, true_and, List.cons_append, List.nil_append, List.append_nil, s6, a]
      exact go
    · rw [a] at go
      simp (disch := first | assumption | omega | (simp only [ya_pi, ya_pj, ya_pa, ya_pr, yo_pi, yo_pj, yo_pa, yf_pi, yf_pj, yf_pa, yh_pi, yh_pj, yh_pa, yt_pi, yt_pj, yt_pa, la_pi, la_pj, la_pa]; assumption)) only [b_X8_readComparison_0, b_X8_readComparison_11, b_X8_readComparison_17, i_lit, i_m1, i_31, il_t, il_f, iq_t, iq_f, it_t, it_f, im_e, im_l, im_g, im_g2, nI_add, pk_mul, i_sub, i_div, sdm, i_dec, i_cl, iv_t, bI_or2, bI_t0, bI_one, not_true_eq_false, not_false_eq_true, ↓reduceIte, am_tl, am_tn, am_t0, am_n0, and_true, true_and, List.cons_append, List.nil_append, List.append_nil, s6, a]
      exact go
theorem c_readUnit {e n : Nat} {ts : List (Nat × Nat)} {sy : Bool} (G : gT ts) (hn : n ≤ 6) (hn6 : n ≤ 6) (CE : cRd 132 [some (v_r (some 2)), none, none, none] (e + 1) n (pS ts sy (lo ts sy n)) ts sy) (C : ∀ m, n = m + 1 → cLv ts sy m (e + 2)) : cRd 135 [some (v_r (some 2)), none] (e + 3) n (pU ts sy (lo ts sy n)) ts sy := by
  intro Q h i cs S hc K
  have hi := S.1.2.2.2.2
  have L := S.1.1
  have s6 := S.1.2.2.2.1
  have t4 := G.2.1 i
  have G3 := G.2.2.1
  have ent := fun i1 Q => c_enter (d := e + 1) (Q := Q) S (Nat.sub_le 6 n) i1
  unfold pU at K
  have bad : ∀ h1 a b, rdX h1 ts a b → (∀ h2, am_fr h1 h2 rdP → rdX h2 ts a b → Q (some (v_i (nI 0))) h2) → ex_ (e + 3) 135 35 [some (v_r (some 2)), none] [] h1 Q := fun h1 a b X k => by
    have L1 := X.1
    rw [b_X8_readUnit_35 _ _ L1]
    refine c_emitX X (fun h2 fr2 X2 => ?_)
    simp (disch := first | assumption | omega | (simp only [ya_pi, ya_pj, ya_pa, ya_pr, yo_pi, yo_pj, yo_pa, yf_pi, yf_pj, yf_pa, yh_pi, yh_pj, yh_pa, yt_pi, yt_pj, yt_pa, la_pi, la_pj, la_pa]; assumption)) only [b_X8_readUnit_44, i_lit, i_m1, i_31, il_t, il_f, iq_t, iq_f, it_t, it_f, im_e, im_l, im_g, im_g2, nI_add, pk_mul, i_sub, i_div, sdm, i_dec, i_cl, iv_t, bI_or2, bI_t0, bI_one, not_true_eq_false, not_false_eq_true, ↓reduceIte, am_tl, am_tn, am_t0, am_n0, and_true, true_and, List.cons_append, List.nil_append, List.append_nil, true_or]
    exact k h2 fr2 X2
  by_cases y : tK ts i = 217
  · rw [if_pos y] at K
    have i1 := G.1 i (by omega)
    simp (disch := first | assumption | omega | (simp only [ya_pi, ya_pj, ya_pa, ya_pr, yo_pi, yo_pj, yo_pa, yf_pi, yf_pj, yf_pa, yh_pi, yh_pj, yh_pa, yt_pi, yt_pj, yt_pa, la_pi, la_pj, la_pa]; assumption)) only [b_X8_readUnit_0, b_X8_readUnit_10, i_lit, i_m1, i_31, il_t, il_f, iq_t, iq_f, it_t, it_f, im_e, im_l, im_g, im_g2, nI_add, pk_mul, i_sub, i_div, sdm, i_dec, i_cl, iv_t, bI_or2, bI_t0, bI_one, not_true_eq_false, not_false_eq_true, ↓reduceIte, am_tl, am_tn, am_t0, am_n0, and_true, true_and, List.cons_append, List.nil_append, List.append_nil, s6, y, ent i1]
    cases n with
    | zero =>
      rw [if_neg (by decide)]
      simp (disch := first | assumption | omega | (simp only [ya_pi, ya_pj, ya_pa, ya_pr, yo_pi, yo_pj, yo_pa, yf_pi, yf_pj, yf_pa, yh_pi, yh_pj, yh_pa, yt_pi, yt_pj, yt_pa, la_pi, la_pj, la_pa]; assumption)) only [b_X8_readUnit_14, i_lit, i_m1, i_31, il_t, il_f, iq_t, iq_f, it_t, it_f, im_e, im_l, im_g, im_g2, nI_add, pk_mul, i_sub, i_div, sdm, i_dec, i_cl, iv_t, bI_or2, bI_t0, bI_one, not_true_eq_false, not_false_eq_true, ↓reduceIte, am_tl, am_tn, am_t0, am_n0, and_true, true_and, List.cons_append, List.nil_append, List.append_nil]
      exact bad _ _ _ (rfH_X S) (fun h2 fr2 X2 => K.2 (pF_ne (by decide)) _ (rfH_fr.tr fr2) X2)
    | succ m =>
      rw [if_pos (by omega)]
      have S1 := S.in hn i1
      have L1 := S1.1.1
      have K : cOK ts sy (6 - (m + 1)) cs (pB ((gN ts sy m).2.2 (i + 1)) (pO 3006)) h Q := K
      simp (disch := first | assumption | omega | (simp only [ya_pi, ya_pj, ya_pa, ya_pr, yo_pi, yo_pj, yo_pa, yf_pi, yf_pj, yf_pa, yh_pi, yh_pj, yh_pa, yt_pi, yt_pj, yt_pa, la_pi, la_pj, la_pa]; assumption)) only [b_X8_readUnit_14, b_X8_readUnit_17, i_lit, i_m1, i_31, il_t, il_f, iq_t, iq_f, it_t, it_f, im_e, im_l, im_g, im_g2, nI_add, pk_mul, i_sub, i_div, sdm, i_dec, i_cl, iv_t, bI_or2, bI_t0, bI_one, not_true_eq_false, not_false_eq_true, ↓reduceIte, am_tl, am_tn, am_t0, am_n0, and_true, true_and, List.cons_append, List.nil_append, List.append_nil]
      refine (C m rfl).2.2 _ _ _ _ S1 (by omega) ⟨fun z2 h2 fr2 S2 => ?_, fun z2 h2 fr2 X2 => ?_⟩
      · have K2 := K.go z2 (in_fr.tr fr2)
        have L2 := S2.1.1
        have f1 := ((gN_g (sy := sy) G m) _ i1).2.2.1 z2
        have e6 : 6 - m = 6 - (m + 1) + 1 := by omega
        rw [e6] at S2
        have S3 := S2.nd (nd' := 6 - (m + 1))
        have L3 := S3.1.1
        simp (disch := first | assumption | omega | (simp only [ya_pi, ya_pj, ya_pa, ya_pr, yo_pi, yo_pj, yo_pa, yf_pi, yf_pj, yf_pa, yh_pi, yh_pj, yh_pa, yt_pi, yt_pj, yt_pa, la_pi, la_pj, la_pa]; assumption)) only [b_X8_readUnit_21, b_X8_readUnit_24, b_X8_readUnit_28, b_X8_readUnit_31, i_lit, i_m1, i_31, il_t, il_f, iq_t, iq_f, it_t, it_f, im_e, im_l, im_g, im_g2, nI_add, pk_mul, i_sub, i_div, sdm, i_dec, i_cl, iv_t, bI_or2, bI_t0, bI_one, not_true_eq_false, not_false_eq_true, ↓reduceIte, am_tl, am_tn, am_t0, am_n0, and_true, true_and, List.cons_append, List.nil_append, List.append_nil, c_leave S2]
        refine c_emit S3 (by rw [List.length_append]; omega) (c := 3006) (by decide) (fun h4 fr4 S4 => ?_)
        simp (disch := first | assumption | omega | (simp only [ya_pi, ya_pj, ya_pa, ya_pr, yo_pi, yo_pj, yo_pa, yf_pi, yf_pj, yf_pa, yh_pi, yh_pj, yh_pa, yt_pi, yt_pj, yt_pa, la_pi, la_pj, la_pa]; assumption)) only [b_X8_readUnit_44, i_lit, i_m1, i_31, il_t, il_f, iq_t, iq_f, it_t, it_f, im_e, im_l, im_g, im_g2, nI_add, pk_mul, i_sub, i_div, sdm, i_dec, i_cl, iv_t, bI_or2, bI_t0, bI_one, not_true_eq_false, not_false_eq_true, ↓reduceIte, am_tl, am_tn, am_t0, am_n0, and_true, true_and, List.cons_append, List.nil_append, List.append_nil, or_true, true_or]
        exact K2.put ((am_fr_pi (rdP_2 (by omega))).tr fr4) S4
      · simp (disch := first | assumption | omega | (simp only [ya_pi, ya_pj, ya_pa, ya_pr, yo_pi, yo_pj, yo_pa, yf_pi, yf_pj, yf_pa, yh_pi, yh_pj, yh_pa, yt_pi, yt_pj, yt_pa, la_pi, la_pj, la_pa]; assumption)) only [b_X8_readUnit_21, i_lit, i_m1, i_31, il_t, il_f, iq_t, iq_f, it_t, it_f, im_e, im_l, im_g, im_g2, nI_add, pk_mul, i_sub, i_div, sdm, i_dec, i_cl, iv_t, bI_or2, bI_t0, bI_one, not_true_eq_false, not_false_eq_true, ↓reduceIte, am_tl, am_tn, am_t0, am_n0, and_true, true_and, List.cons_append, List.nil_append, List.append_nil]
        exact bad _ _ _ X2 (fun h3 fr3 X3 => K.stop z2 ((in_fr.tr fr2).tr fr3) X3)
  · rw [if_neg y] at K
    by_cases x : tK ts i = 91
    · rw [if_pos x] at K
      have i1 := G.1 i (by omega)
      simp (disch := first | assumption | omega | (simp only [ya_pi, ya_pj, ya_pa, ya_pr, yo_pi, yo_pj, yo_pa, yf_pi, yf_pj, yf_pa, yh_pi, yh_pj, yh_pa, yt_pi, yt_pj, yt_pa, la_pi, la_pj, la_pa]; assumption)) only [b_X8_readUnit_0, b_X8_readUnit_46, b_X8_readUnit_55, i_lit, i_m1, i_31, il_t, il_f, iq_t, iq_f, it_t, it_f, im_e, im_l, im_g, im_g2, nI_add, pk_mul, i_sub, i_div, sdm, i_dec, i_cl, iv_t, bI_or2, bI_t0, bI_one, not_true_eq_false, not_false_eq_true, ↓reduceIte, am_tl, am_tn, am_t0, am_n0, and_true, true_and, List.cons_append, List.nil_append, List.append_nil, s6, x, ent i1]
      cases n with
      | zero =>
        rw [if_neg (by decide)]
        simp (disch := first | assumption | omega | (simp only [ya_pi, ya_pj, ya_pa, ya_pr, yo_pi, yo_pj, yo_pa, yf_pi, yf_pj, yf_pa, yh_pi, yh_pj, yh_pa, yt_pi, yt_pj, yt_pa, la_pi, la_pj, la_pa]; assumption)) only [b_X8_readUnit_59, b_X8_readUnit_89, i_lit, i_m1, i_31, il_t, il_f, iq_t, iq_f, it_t, it_f, im_e, im_l, im_g, im_g2, nI_add, pk_mul, i_sub, i_div, sdm, i_dec, i_cl, iv_t, bI_or2, bI_t0, bI_one, not_true_eq_false, not_false_eq_true, ↓reduceIte, am_tl, am_tn, am_t0, am_n0, and_true, true_and, List.cons_append, List.nil_append, List.append_nil]
        exact K.no (by decide) S
      | succ m =>
        rw [if_pos (by omega)]
        have S1 := S.in hn i1
        have L1 := S1.1.1
        have K : cOK ts sy (6 - (m + 1)) cs (pB ((gN ts sy m).2.1 (i + 1)) (pE ts 93)) h Q := K
        simp (disch := first | assumption | omega | (simp only [ya_pi, ya_pj, ya_pa, ya_pr, yo_pi, yo_pj, yo_pa, yf_pi, yf_pj, yf_pa, yh_pi, yh_pj, yh_pa, yt_pi, yt_pj, yt_pa, la_pi, la_pj, la_pa]; assumption)) only [b_X8_readUnit_59, b_X8_readUnit_62, i_lit, i_m1, i_31, il_t, il_f, iq_t, iq_f, it_t, it_f, im_e, im_l, im_g, im_g2, nI_add, pk_mul, i_sub, i_div, sdm, i_dec, i_cl, iv_t, bI_or2, bI_t0, bI_one, not_true_eq_false, not_false_eq_true, ↓reduceIte, am_tl, am_tn, am_t0, am_n0, and_true, true_and, List.cons_append, List.nil_append, List.append_nil]
        refine (C m rfl).2.1 _ _ _ _ S1 (by omega) ⟨fun z2 h2 fr2 S2 => ?_, fun z2 h2 fr2 X2 => ?_⟩
        · have K2 := K.go z2 (in_fr.tr fr2)
          have L2 := S2.1.1
          clear K
          generalize hj : ((gN ts sy m).2.1 (i + 1)).2.1 = j2 at S2 K2
          generalize ha : cs ++ ((gN ts sy m).2.1 (i + 1)).2.2 = c2 at S2 K2
          have ps := fun Q => c_pass (d := e + 1) (Q := Q) (t := 93) G S2.1 (by decide) (by decide)
          simp (disch := first | assumption | omega | (simp only [ya_pi, ya_pj, ya_pa, ya_pr, yo_pi, yo_pj, yo_pa, yf_pi, yf_pj, yf_pa, yh_pi, yh_pj, yh_pa, yt_pi, yt_pj, yt_pa, la_pi, la_pj, la_pa]; assumption)) only [b_X8_readUnit_66, b_X8_readUnit_69, i_lit, i_m1, i_31, il_t, il_f, iq_t, iq_f, it_t, it_f, im_e, im_l, im_g, im_g2, nI_add, pk_mul, i_sub, i_div, sdm, i_dec, i_cl, iv_t, bI_or2, bI_t0, bI_one, not_true_eq_false, not_false_eq_true, ↓reduceIte, am_tl, am_tn, am_t0, am_n0, and_true, true_and, List.cons_append, List.nil_append, List.append_nil, ps]
          by_cases y2 : tK ts j2 = 93
          · rw [if_pos y2]
            rw [pE_y y2] at K2
            have i3 := G.1 j2 (by omega)
            have S3 := S2.st i3
            have L3 := S3.1.1
            have e6 : 6 - m = 6 - (m + 1) + 1 := by omega
            rw [e6] at S3
            simp (disch := first | assumption | omega | (simp only [ya_pi, ya_pj, ya_pa, ya_pr, yo_pi, yo_pj, yo_pa, yf_pi, yf_pj, yf_pa, yh_pi, yh_pj, yh_pa, yt_pi, yt_pj, yt_pa, la_pi, la_pj, la_pa]; assumption)) only [b_X8_readUnit_75, b_X8_readUnit_78, b_X8_readUnit_82, b_X8_readUnit_85, i_lit, i_m1, i_31, il_t, il_f, iq_t, iq_f, it_t, it_f, im_e, im_l, im_g, im_g2, nI_add, pk_mul, i_sub, i_div, sdm, i_dec, i_cl, iv_t, bI_or2, bI_t0, bI_one, not_true_eq_false, not_false_eq_true, ↓reduceIte, am_tl, am_tn, am_t0, am_n0, and_true, true_and, List.cons_append, List.nil_append, List.append_nil, c_leave S3]
            refine K2.1 rfl _ (stH_fr.pi (rdP_2 (by omega))) ?_
            have e7 : c2 ++ ((0, j2 + 1, []) : pR_).2.2 = c2 := List.append_nil c2
            rw [e7]
            exact S3.nd
          · rw [if_neg y2]
            rw [pE_n y2] at K2
            simp (disch := first | assumption | omega | (simp only [ya_pi, ya_pj, ya_pa, ya_pr, yo_pi, yo_pj, yo_pa, yf_pi, yf_pj, yf_pa, yh_pi, yh_pj, yh_pa, yt_pi, yt_pj, yt_pa, la_pi, la_pj, la_pa]; assumption)) only [b_X8_readUnit_75, b_X8_readUnit_89, i_lit, i_m1, i_31, il_t, il_f, iq_t, iq_f, it_t, it_f, im_e, im_l, im_g, im_g2, nI_add, pk_mul, i_sub, i_div, sdm, i_dec, i_cl, iv_t, bI_or2, bI_t0, bI_one, not_true_eq_false, not_false_eq_true, ↓reduceIte, am_tl, am_tn, am_t0, am_n0, and_true, true_and, List.cons_append, List.nil_append, List.append_nil]
            exact K2.2 (pF_ne (by decide)) _ rfH_fr (rfH_X S2)
        · simp (disch := first | assumption | omega | (simp only [ya_pi, ya_pj, ya_pa, ya_pr, yo_pi, yo_pj, yo_pa, yf_pi, yf_pj, yf_pa, yh_pi, yh_pj, yh_pa, yt_pi, yt_pj, yt_pa, la_pi, la_pj, la_pa]; assumption)) only [b_X8_readUnit_66, b_X8_readUnit_89, i_lit, i_m1, i_31, il_t, il_f, iq_t, iq_f, it_t, it_f, im_e, im_l, im_g, im_g2, nI_add, pk_mul, i_sub, i_div, sdm, i_dec, i_cl, iv_t, bI_or2, bI_t0, bI_one, not_true_eq_false, not_false_eq_true, ↓reduceIte, am_tl, am_tn, am_t0, am_n0, and_true, true_and, List.cons_append, List.nil_append, List.append_nil]
          exact K.stop z2 (in_fr.tr fr2) X2
    · rw [if_neg x] at K
      simp (disch := first | assumption | omega | (simp only [ya_pi, ya_pj, ya_pa, ya_pr, yo_pi, yo_pj, yo_pa, yf_pi, yf_pj, yf_pa, yh_pi, yh_pj, yh_pa, yt_pi, yt_pj, yt_pa, la_pi, la_pj, la_pa]; assumption)) only [b_X8_readUnit_0, b_X8_readUnit_46, b_X8_readUnit_91, i_lit, i_m1, i_31, il_t, il_f, iq_t, iq_f, it_t, it_f, im_e, im_l, im_g, im_g2, nI_add, pk_mul, i_sub, i_div, sdm, i_dec, i_cl, iv_t, bI_or2, bI_t0, bI_one, not_true_eq_false, not_false_eq_true, ↓reduceIte, am_tl, am_tn, am_t0, am_n0, and_true, true_and, List.cons_append, List.nil_append, List.append_nil, s6]
      refine (CE.deep (by omega)) _ _ _ _ S hc ⟨fun z2 h2 fr2 S2 => ?_, fun z2 h2 fr2 X2 => ?_⟩
      · have K2 := K.go z2 fr2
        have L2 := S2.1.1
        have f1 := (g_pS (sy := sy) G (g_lo G n) hi).1 z2
        simp (disch := first | assumption | omega | (simp only [ya_pi, ya_pj, ya_pa, ya_pr, yo_pi, yo_pj, yo_pa, yf_pi, yf_pj, yf_pa, yh_pi, yh_pj, yh_pa, yt_pi, yt_pj, yt_pa, la_pi, la_pj, la_pa]; assumption)) only [b_X8_readUnit_95, b_X8_readUnit_98, i_lit, i_m1, i_31, il_t, il_f, iq_t, iq_f, it_t, it_f, im_e, im_l, im_g, im_g2, nI_add, pk_mul, i_sub, i_div, sdm, i_dec, i_cl, iv_t, bI_or2, bI_t0, bI_one, not_true_eq_false, not_false_eq_true, ↓reduceIte, am_tl, am_tn, am_t0, am_n0, and_true, true_and, List.cons_append, List.nil_append, List.append_nil]
        refine (c_readComparison G CE) _ _ _ _ S2 (by rw [List.length_append]; omega) ⟨fun z3 h3 fr3 S3 => ?_, fun z3 h3 fr3 X3 => ?_⟩
        · simp (disch := first | assumption | omega | (simp only [ya_pi, ya_pj, ya_pa, ya_pr, yo_pi, yo_pj, yo_pa, yf_pi, yf_pj, yf_pa, yh_pi, yh_pj, yh_pa, yt_pi, yt_pj, yt_pa, la_pi, la_pj, la_pa]; assumption)) only [b_X8_readUnit_102, b_X8_readUnit_105, i_lit, i_m1, i_31, il_t, il_f, iq_t, iq_f, it_t, it_f, im_e, im_l, im_g, im_g2, nI_add, pk_mul, i_sub, i_div, sdm, i_dec, i_cl, iv_t, bI_or2, bI_t0, bI_one, not_true_eq_false, not_false_eq_true, ↓reduceIte, am_tl, am_tn, am_t0, am_n0, and_true, true_and, List.cons_append, List.nil_append, List.append_nil]
          exact K2.1 z3 _ fr3 S3
        · simp (disch := first | assumption | omega | (simp only [ya_pi, ya_pj, ya_pa, ya_pr, yo_pi, yo_pj, yo_pa, yf_pi, yf_pj, yf_pa, yh_pi, yh_pj, yh_pa, yt_pi, yt_pj, yt_pa, la_pi, la_pj, la_pa]; assumption)) only [b_X8_readUnit_102, b_X8_readUnit_109, i_lit, i_m1, i_31, il_t, il_f, iq_t, iq_f, it_t, it_f, im_e, im_l, im_g, im_g2, nI_add, pk_mul, i_sub, i_div, sdm, i_dec, i_cl, iv_t, bI_or2, bI_t0, bI_one, not_true_eq_false, not_false_eq_true, ↓reduceIte, am_tl, am_tn, am_t0, am_n0, and_true, true_and, List.cons_append, List.nil_append, List.append_nil]
          exact K2.2 z3 _ fr3 X3
      · simp (disch := first | assumption | omega | (simp only [ya_pi, ya_pj, ya_pa, ya_pr, yo_pi, yo_pj, yo_pa, yf_pi, yf_pj, yf_pa, yh_pi, yh_pj, yh_pa, yt_pi, yt_pj, yt_pa, la_pi, la_pj, la_pa]; assumption)) only [b_X8_readUnit_95, b_X8_readUnit_109, i_lit, i_m1, i_31, il_t, il_f, iq_t, iq_f, it_t, it_f, im_e, im_l, im_g, im_g2, nI_add, pk_mul, i_sub, i_div, sdm, i_dec, i_cl, iv_t, bI_or2, bI_t0, bI_one, not_true_eq_false, not_false_eq_true, ↓reduceIte, am_tl, am_tn, am_t0, am_n0, and_true, true_and, List.cons_append, List.nil_append, List.append_nil]
        exact K.stop z2 fr2 X2
theorem c_readBoth {e n : Nat} {ts : List (Nat × Nat)} {sy : Bool} (G : gT ts) (hn : n ≤ 6) (CE : cRd 135 [some (v_r (some 2)), none] e n (pU ts sy (lo ts sy n)) ts sy) : cRd 129 [some (v_r (some 2)), none, none] (e + 1) n (pH ts sy (lo ts sy n)) ts sy := by
  refine c_rows (q := qA) (f := pU ts sy (lo ts sy n)) G (fun g j _ => [some (v_r (some 2)), some (v_i g), some (v_i (nI j))]) _ (fun _ => rfl) (fun j hj => g_pU G (g_lo G n) hj) (fun j hj z => gR_pos (g_pU G (g_lo G n) hj) (by omega) z) (fun t c h => ?_) CE ?_ ?_ ?_ ?_
  · unfold qA at h
    split at h
    · omega
    · cases h
  · intro j l h Q L hj k
    rw [b_X8_readBoth_7 _ _ _ _]
    by_cases z : 900 ≤ j
    · simp (disch := first | assumption | omega | (simp only [ya_pi, ya_pj, ya_pa, ya_pr, yo_pi, yo_pj, yo_pa, yf_pi, yf_pj, yf_pa, yh_pi, yh_pj, yh_pa, yt_pi, yt_pj, yt_pa, la_pi, la_pj, la_pa]; assumption)) only [b_X8_readBoth_50, i_lit, i_m1, i_31, il_t, il_f, iq_t, iq_f, it_t, it_f, im_e, im_l, im_g, im_g2, nI_add, pk_mul, i_sub, i_div, sdm, i_dec, i_cl, iv_t, bI_or2, bI_t0, bI_one, not_true_eq_false, not_false_eq_true, ↓reduceIte, am_tl, am_tn, am_t0, am_n0, and_true, true_and, List.cons_append, List.nil_append, List.append_nil, true_or]; exact k
    · simp (disch := first | assumption | omega | (simp only [ya_pi, ya_pj, ya_pa, ya_pr, yo_pi, yo_pj, yo_pa, yf_pi, yf_pj, yf_pa, yh_pi, yh_pj, yh_pa, yt_pi, yt_pj, yt_pa, la_pi, la_pj, la_pa]; assumption)) only [b_X8_readBoth_14, b_X8_readBoth_50, i_lit, i_m1, i_31, il_t, il_f, iq_t, iq_f, it_t, it_f, im_e, im_l, im_g, im_g2, nI_add, pk_mul, i_sub, i_div, sdm, i_dec, i_cl, iv_t, bI_or2, bI_t0, bI_one, not_true_eq_false, not_false_eq_true, ↓reduceIte, am_tl, am_tn, am_t0, am_n0, and_true, true_and, List.cons_append, List.nil_append, List.append_nil, true_or]; exact k
  · intro j l h Q i cs S hj w k
    have L := S.1.1
    have s6 := S.1.2.2.2.1
    have t4 := G.2.1 i
    unfold qA at w
    have a1 : ¬ tK ts i = 216 := fun a => by rw [if_pos a] at w; cases w
    rw [b_X8_readBoth_7 _ _ _ _]
    simp (disch := first | assumption | omega | (simp only [ya_pi, ya_pj, ya_pa, ya_pr, yo_pi, yo_pj, yo_pa, yf_pi, yf_pj, yf_pa, yh_pi, yh_pj, yh_pa, yt_pi, yt_pj, yt_pa, la_pi, la_pj, la_pa]; assumption)) only [b_X8_readBoth_14, b_X8_readBoth_18, b_X8_readBoth_50, i_lit, i_m1, i_31, il_t, il_f, iq_t, iq_f, it_t, it_f, im_e, im_l, im_g, im_g2, nI_add, pk_mul, i_sub, i_div, sdm, i_dec, i_cl, iv_t, bI_or2, bI_t0, bI_one, not_true_eq_false, not_false_eq_true, ↓reduceIte, am_tl, am_tn, am_t0, am_n0, and_true, true_and, List.cons_append, List.nil_append, List.append_nil, s6, or_true, true_or]
    exact k
  · intro j l h Q i cs c S hj w i1 X
    have L := S.1.1
    have s6 := S.1.2.2.2.1
    have L1 := (S.st i1).1.1
    unfold qA at w
    by_cases a1 : tK ts i = 216
    · rw [if_pos a1] at w
      cases w
      rw [b_X8_readBoth_7 _ _ _ _]
      simp (disch := first | assumption | omega | (simp only [ya_pi, ya_pj, ya_pa, ya_pr, yo_pi, yo_pj, yo_pa, yf_pi, yf_pj, yf_pa, yh_pi, yh_pj, yh_pa, yt_pi, yt_pj, yt_pa, la_pi, la_pj, la_pa]; assumption)) only [b_X8_readBoth_14, b_X8_readBoth_18, b_X8_readBoth_28, b_X8_readBoth_32, i_lit, i_m1, i_31, il_t, il_f, iq_t, iq_f, it_t, it_f, im_e, im_l, im_g, im_g2, nI_add, pk_mul, i_sub, i_div, sdm, i_dec, i_cl, iv_t, bI_or2, bI_t0, bI_one, not_true_eq_false, not_false_eq_true, ↓reduceIte, am_tl, am_tn, am_t0, am_n0, and_true, true_and, List.cons_append, List.nil_append, List.append_nil, s6, a1, c_step8 S.1 i1]
      refine X.mono ?_
      rintro r h2 ⟨L2, v, rfl, Y⟩
      simp (disch := first | assumption | omega | (simp only [ya_pi, ya_pj, ya_pa, ya_pr, yo_pi, yo_pj, yo_pa, yf_pi, yf_pj, yf_pa, yh_pi, yh_pj, yh_pa, yt_pi, yt_pj, yt_pa, la_pi, la_pj, la_pa]; assumption)) only [b_X8_readBoth_36, i_lit, i_m1, i_31, il_t, il_f, iq_t, iq_f, it_t, it_f, im_e, im_l, im_g, im_g2, nI_add, pk_mul, i_sub, i_div, sdm, i_dec, i_cl, iv_t, bI_or2, bI_t0, bI_one, not_true_eq_false, not_false_eq_true, ↓reduceIte, am_tl, am_tn, am_t0, am_n0, and_true, true_and, List.cons_append, List.nil_append, List.append_nil]
      refine Y.mono ?_
      rintro r h3 ⟨rfl, Z⟩
      simp (disch := first | assumption | omega | (simp only [ya_pi, ya_pj, ya_pa, ya_pr, yo_pi, yo_pj, yo_pa, yf_pi, yf_pj, yf_pa, yh_pi, yh_pj, yh_pa, yt_pi, yt_pj, yt_pa, la_pi, la_pj, la_pa]; assumption)) only [b_X8_readBoth_44, i_lit, i_m1, i_31, il_t, il_f, iq_t, iq_f, it_t, it_f, im_e, im_l, im_g, im_g2, nI_add, pk_mul, i_sub, i_div, sdm, i_dec, i_cl, iv_t, bI_or2, bI_t0, bI_one, not_true_eq_false, not_false_eq_true, ↓reduceIte, am_tl, am_tn, am_t0, am_n0, and_true, true_and, List.cons_append, List.nil_append, List.append_nil]
      exact Z none
    · rw [if_neg a1] at w; cases w
  · intro h Q L X
    simp (disch := first | assumption | omega | (simp only [ya_pi, ya_pj, ya_pa, ya_pr, yo_pi, yo_pj, yo_pa, yf_pi, yf_pj, yf_pa, yh_pi, yh_pj, yh_pa, yt_pi, yt_pj, yt_pa, la_pi, la_pj, la_pa]; assumption)) only [b_X8_readBoth_0, i_lit, i_m1, i_31, il_t, il_f, iq_t, iq_f, it_t, it_f, im_e, im_l, im_g, im_g2, nI_add, pk_mul, i_sub, i_div, sdm, i_dec, i_cl, iv_t, bI_or2, bI_t0, bI_one, not_true_eq_false, not_false_eq_true, ↓reduceIte, am_tl, am_tn, am_t0, am_n0, and_true, true_and, List.cons_append, List.nil_append, List.append_nil]
    refine X.mono ?_
    rintro r h2 ⟨v, rfl, Y⟩
    simp (disch := first | assumption | omega | (simp only [ya_pi, ya_pj, ya_pa, ya_pr, yo_pi, yo_pj, yo_pa, yf_pi, yf_pj, yf_pa, yh_pi, yh_pj, yh_pa, yt_pi, yt_pj, yt_pa, la_pi, la_pj, la_pa]; assumption)) only [b_X8_readBoth_4, i_lit, i_m1, i_31, il_t, il_f, iq_t, iq_f, it_t, it_f, im_e, im_l, im_g, im_g2, nI_add, pk_mul, i_sub, i_div, sdm, i_dec, i_cl, iv_t, bI_or2, bI_t0, bI_one, not_true_eq_false, not_false_eq_true, ↓reduceIte, am_tl, am_tn, am_t0, am_n0, and_true, true_and, List.cons_append, List.nil_append, List.append_nil]
    exact Y
theorem c_readTruth {e n : Nat} {ts : List (Nat × Nat)} {sy : Bool} (G : gT ts) (hn : n ≤ 6) (CE : cRd 129 [some (v_r (some 2)), none, none] e n (pH ts sy (lo ts sy n)) ts sy) : cRd 134 [some (v_r (some 2)), none, none] (e + 1) n (pTr ts sy (lo ts sy n)) ts sy := by
  refine c_rows (q := qO) (f := pH ts sy (lo ts sy n)) G (fun g j _ => [some (v_r (some 2)), some (v_i g), some (v_i (nI j))]) _ (fun _ => rfl) (fun j hj => g_pH G (g_lo G n) hj) (fun j hj z => gR_pos (g_pH G (g_lo G n) hj) (by omega) z) (fun t c h => ?_) CE ?_ ?_ ?_ ?_
  · unfold qO at h
    split at h
    · omega
    · cases h
  · intro j l h Q L hj k
    rw [b_X8_readTruth_7 _ _ _ _]
    by_cases z : 900 ≤ j
    · simp (disch := first | assumption | omega | (simp only [ya_pi, ya_pj, ya_pa, ya_pr, yo_pi, yo_pj, yo_pa, yf_pi, yf_pj, yf_pa, yh_pi, yh_pj, yh_pa, yt_pi, yt_pj, yt_pa, la_pi, la_pj, la_pa]; assumption)) only [b_X8_readTruth_50, i_lit, i_m1, i_31, il_t, il_f, iq_t, iq_f, it_t, it_f, im_e, im_l, im_g, im_g2, nI_add, pk_mul, i_sub, i_div, sdm, i_dec, i_cl, iv_t, bI_or2, bI_t0, bI_one, not_true_eq_false, not_false_eq_true, ↓reduceIte, am_tl, am_tn, am_t0, am_n0, and_true, true_and, List.cons_append, List.nil_append, List.append_nil, true_or]; exact k
    · simp (disch := first | assumption | omega | (simp only [ya_pi, ya_pj, ya_pa, ya_pr, yo_pi, yo_pj, yo_pa, yf_pi, yf_pj, yf_pa, yh_pi, yh_pj, yh_pa, yt_pi, yt_pj, yt_pa, la_pi, la_pj, la_pa]; assumption)) only [b_X8_readTruth_14, b_X8_readTruth_50, i_lit, i_m1, i_31, il_t, il_f, iq_t, iq_f, it_t, it_f, im_e, im_l, im_g, im_g2, nI_add, pk_mul, i_sub, i_div, sdm, i_dec, i_cl, iv_t, bI_or2, bI_t0, bI_one, not_true_eq_false, not_false_eq_true, ↓reduceIte, am_tl, am_tn, am_t0, am_n0, and_true, true_and, List.cons_append, List.nil_append, List.append_nil, true_or]; exact k
  · intro j l h Q i cs S hj w k
    have L := S.1.1
    have s6 := S.1.2.2.2.1
    have t4 := G.2.1 i
    unfold qO at w
    have a1 : ¬ tK ts i = 215 := fun a => by rw [if_pos a] at w; cases w
    rw [b_X8_readTruth_7 _ _ _ _]
    simp (disch := first | assumption | omega | (simp only [ya_pi, ya_pj, ya_pa, ya_pr, yo_pi, yo_pj, yo_pa, yf_pi, yf_pj, yf_pa, yh_pi, yh_pj, yh_pa, yt_pi, yt_pj, yt_pa, la_pi, la_pj, la_pa]; assumption)) only [b_X8_readTruth_14, b_X8_readTruth_18, b_X8_readTruth_50, i_lit, i_m1, i_31, il_t, il_f, iq_t, iq_f, it_t, it_f, im_e, im_l, im_g, im_g2, nI_add, pk_mul, i_sub, i_div, sdm, i_dec, i_cl, iv_t, bI_or2, bI_t0, bI_one, not_true_eq_false, not_false_eq_true, ↓reduceIte, am_tl, am_tn, am_t0, am_n0, and_true, true_and, List.cons_append, List.nil_append, List.append_nil, s6, or_true, true_or]
    exact k
  · intro j l h Q i cs c S hj w i1 X
    have L := S.1.1
    have s6 := S.1.2.2.2.1
    have L1 := (S.st i1).1.1
    unfold qO at w
    by_cases a1 : tK ts i = 215
    · rw [if_pos a1] at w
      cases w
      rw [b_X8_readTruth_7 _ _ _ _]
      simp (disch := first | assumption | omega | (simp only [ya_pi, ya_pj, ya_pa, ya_pr, yo_pi, yo_pj, yo_pa, yf_pi, yf_pj, yf_pa, yh_pi, yh_pj, yh_pa, yt_pi, yt_pj, yt_pa, la_pi, la_pj, la_pa]; assumption)) only [b_X8_readTruth_14, b_X8_readTruth_18, b_X8_readTruth_28, b_X8_readTruth_32, i_lit, i_m1, i_31, il_t, il_f, iq_t, iq_f, it_t, it_f, im_e, im_l, im_g, im_g2, nI_add, pk_mul, i_sub, i_div, sdm, i_dec, i_cl, iv_t, bI_or2, bI_t0, bI_one, not_true_eq_false, not_false_eq_true, ↓reduceIte, am_tl, am_tn, am_t0, am_n0, and_true, true_and, List.cons_append, List.nil_append, List.append_nil, s6, a1, c_step8 S.1 i1]
      refine X.mono ?_
      rintro r h2 ⟨L2, v, rfl, Y⟩
      simp (disch := first | assumption | omega | (simp only [ya_pi, ya_pj, ya_pa, ya_pr, yo_pi, yo_pj, yo_pa, yf_pi, yf_pj, yf_pa, yh_pi, yh_pj, yh_pa, yt_pi, yt_pj, yt_pa, la_pi, la_pj, la_pa]; assumption)) only [b_X8_readTruth_36, i_lit, i_m1, i_31, il_t, il_f, iq_t, iq_f, it_t, it_f, im_e, im_l, im_g, im_g2, nI_add, pk_mul, i_sub, i_div, sdm, i_dec, i_cl, iv_t, bI_or2, bI_t0, bI_one, not_true_eq_false, not_false_eq_true, ↓reduceIte, am_tl, am_tn, am_t0, am_n0, and_true, true_and, List.cons_append, List.nil_append, List.append_nil]
      refine Y.mono ?_
      rintro r h3 ⟨rfl, Z⟩
      simp (disch := first | assumption | omega | (simp only [ya_pi, ya_pj, ya_pa, ya_pr, yo_pi, yo_pj, yo_pa, yf_pi, yf_pj, yf_pa, yh_pi, yh_pj, yh_pa, yt_pi, yt_pj, yt_pa, la_pi, la_pj, la_pa]; assumption)) only [b_X8_readTruth_44, i_lit, i_m1, i_31, il_t, il_f, iq_t, iq_f, it_t, it_f, im_e, im_l, im_g, im_g2, nI_add, pk_mul, i_sub, i_div, sdm, i_dec, i_cl, iv_t, bI_or2, bI_t0, bI_one, not_true_eq_false, not_false_eq_true, ↓reduceIte, am_tl, am_tn, am_t0, am_n0, and_true, true_and, List.cons_append, List.nil_append, List.append_nil]
      exact Z none
    · rw [if_neg a1] at w; cases w
  · intro h Q L X
    simp (disch := first | assumption | omega | (simp only [ya_pi, ya_pj, ya_pa, ya_pr, yo_pi, yo_pj, yo_pa, yf_pi, yf_pj, yf_pa, yh_pi, yh_pj, yh_pa, yt_pi, yt_pj, yt_pa, la_pi, la_pj, la_pa]; assumption)) only [b_X8_readTruth_0, i_lit, i_m1, i_31, il_t, il_f, iq_t, iq_f, it_t, it_f, im_e, im_l, im_g, im_g2, nI_add, pk_mul, i_sub, i_div, sdm, i_dec, i_cl, iv_t, bI_or2, bI_t0, bI_one, not_true_eq_false, not_false_eq_true, ↓reduceIte, am_tl, am_tn, am_t0, am_n0, and_true, true_and, List.cons_append, List.nil_append, List.append_nil]
    refine X.mono ?_
    rintro r h2 ⟨v, rfl, Y⟩
    simp (disch := first | assumption | omega | (simp only [ya_pi, ya_pj, ya_pa, ya_pr, yo_pi, yo_pj, yo_pa, yf_pi, yf_pj, yf_pa, yh_pi, yh_pj, yh_pa, yt_pi, yt_pj, yt_pa, la_pi, la_pj, la_pa]; assumption)) only [b_X8_readTruth_4, i_lit, i_m1, i_31, il_t, il_f, iq_t, iq_f, it_t, it_f, im_e, im_l, im_g, im_g2, nI_add, pk_mul, i_sub, i_div, sdm, i_dec, i_cl, iv_t, bI_or2, bI_t0, bI_one, not_true_eq_false, not_false_eq_true, ↓reduceIte, am_tl, am_tn, am_t0, am_n0, and_true, true_and, List.cons_append, List.nil_append, List.append_nil]
    exact Y
theorem c_level {ts : List (Nat × Nat)} {sy : Bool} (G : gT ts) : ∀ n, n ≤ 6 → cLv ts sy n (8 * n + 10) := by
  intro n
  induction n with
  | zero =>
    intro hn
    have a := c_readAtom (e := 0) (n := 0) (sy := sy) G hn (fun m hm => by omega)
    have s := c_readSum G hn (c_readTerm G hn a)
    have u := c_readUnit (e := 4) G hn hn (s.deep (by omega)) (fun m hm => by omega)
    have t := c_readTruth G hn (c_readBoth G hn u)
    exact ⟨s.deep (by omega), t.deep (by omega), u.deep (by omega)⟩
  | succ n ih =>
    intro hn
    have C := ih (by omega)
    have a := c_readAtom (e := 8 * n + 9) (n := n + 1) (sy := sy) G hn (fun m hm => by cases hm; exact C)
    have s := c_readSum G hn (c_readTerm G hn a)
    have u := c_readUnit (e := 8 * n + 13) G hn hn (s.deep (by omega)) (fun m hm => by cases hm; exact ⟨C.1.deep (by omega), C.2.1.deep (by omega), C.2.2.deep (by omega)⟩)
    have t := c_readTruth G hn (c_readBoth G hn u)
    exact ⟨s.deep (by omega), t.deep (by omega), u.deep (by omega)⟩
