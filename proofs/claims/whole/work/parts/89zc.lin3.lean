/-! ===== the class reads lines: methods, laws, the house ===== -/
theorem pB_1 {j : Nat} {f : Nat → pR_} : pB (0, j, []) f = f j := by rw [pB_y rfl]; rfl
theorem pN_y {ts : List (Nat × Nat)} {b i : Nat} (h1 : 1000 ≤ tK ts i) (h2 : tK ts i - 1000 < b) : pN ts b i = (0, i + 1, []) := by unfold pN; rw [if_pos h1, if_pos h2]
theorem pN_3 {ts : List (Nat × Nat)} {b i : Nat} (h1 : 1000 ≤ tK ts i) (h2 : ¬ tK ts i - 1000 < b) : pN ts b i = pF ts 3 i := by unfold pN; rw [if_pos h1, if_neg h2]
theorem pN_2 {ts : List (Nat × Nat)} {b i : Nat} (h1 : ¬ 1000 ≤ tK ts i) : pN ts b i = pF ts 2 i := by unfold pN; rw [if_neg h1]
theorem c_pn_y {d : Nat} {Q : Option am_V → am_H → Prop} {h : am_H} {ts : List (Nat × Nat)} {i b : Nat} (G : gT ts) (S : tkS h ts i) (hb : b < 1000) (h1 : 1000 ≤ tK ts i) (h2 : tK ts i - 1000 < b) : ex_ (d + 1) 119 0 [some (v_r (some 2)), some (v_i (nI b))] [] h Q ↔ Q (some (v_i (nI 1))) (stH h ts i) := by rw [c_passNumber G S hb, if_pos h1, if_pos h2]
theorem c_pn_3 {d : Nat} {Q : Option am_V → am_H → Prop} {h : am_H} {ts : List (Nat × Nat)} {i b : Nat} (G : gT ts) (S : tkS h ts i) (hb : b < 1000) (h1 : 1000 ≤ tK ts i) (h2 : ¬ tK ts i - 1000 < b) : ex_ (d + 1) 119 0 [some (v_r (some 2)), some (v_i (nI b))] [] h Q ↔ Q (some (v_i (nI 0))) (rfH h ts 3 i) := by rw [c_passNumber G S hb, if_pos h1, if_neg h2]
theorem c_pn_2 {d : Nat} {Q : Option am_V → am_H → Prop} {h : am_H} {ts : List (Nat × Nat)} {i b : Nat} (G : gT ts) (S : tkS h ts i) (hb : b < 1000) (h1 : ¬ 1000 ≤ tK ts i) : ex_ (d + 1) 119 0 [some (v_r (some 2)), some (v_i (nI b))] [] h Q ↔ Q (some (v_i (nI 0))) (rfH h ts 2 i) := by rw [c_passNumber G S hb, if_neg h1]
theorem c_pass_y {d : Nat} {Q : Option am_V → am_H → Prop} {h : am_H} {ts : List (Nat × Nat)} {i t : Nat} (G : gT ts) (S : tkS h ts i) (ht : ¬ t = 1) (h2 : t < 2000) (z : tK ts i = t) : ex_ (d + 1) 117 0 [some (v_r (some 2)), some (v_i (nI t))] [] h Q ↔ Q (some (v_i (nI 1))) (stH h ts i) := by rw [c_pass G S ht h2, if_pos z]
theorem c_pass_n {d : Nat} {Q : Option am_V → am_H → Prop} {h : am_H} {ts : List (Nat × Nat)} {i t : Nat} (G : gT ts) (S : tkS h ts i) (ht : ¬ t = 1) (h2 : t < 2000) (z : ¬ tK ts i = t) : ex_ (d + 1) 117 0 [some (v_r (some 2)), some (v_i (nI t))] [] h Q ↔ Q (some (v_i (nI 0))) (rfH h ts 2 i) := by rw [c_pass G S ht h2, if_neg z]
theorem c_readMethod8 {d : Nat} {Q : Option am_V → am_H → Prop} {h0 h : am_H} {ts : List (Nat × Nat)} {i : Nat} {H : ho_S} (G : gT ts) (okh : okH H) (S : clS h0 h ts i H) (hc : tK ts i = 203) (K : lOK h0 ts (zM ts i H) Q) : ex_ (d + 4) 123 0 [some (v_r (some 2)), none, none] [] h Q := by
  have gd := okh.1
  have ok := gd.1
  have hn := ok.1
  have L := S.1.1
  have i1 := G.1 i (by omega)
  have Kb : ∀ r : pR_, zMh ts (f_n H.1) i = r → ¬ r.1 = 0 → ∀ h', clX h0 h' ts r.1 r.2.1 → Q (some (v_i (nI 0))) h' := by
    intro r e z
    unfold zM at K
    rw [e, if_neg z] at K
    exact K.2 z
  have Kg : ∀ j c, zMh ts (f_n H.1) i = (0, j, c) → ∀ h', clS h0 h' ts j (zMf ts i H.1, H.2) → Q (some (v_i (nI 1))) h' := by
    intro j c e
    unfold zM at K
    rw [e, if_pos rfl] at K
    exact K.1 rfl
  clear K
  have S1 := S.st ok i1
  have L1 := S1.1.1
  simp (disch := first | assumption | omega | (simp only [ya_pi, ya_pj, ya_pa, ya_pr, yo_pi, yo_pj, yo_pa, yf_pi, yf_pj, yf_pa, yh_pi, yh_pj, yh_pa, yt_pi, yt_pj, yt_pa, la_pi, la_pj, la_pa]; assumption)) only [b_X8_readMethod_0, b_X8_readMethod_4, i_lit, i_m1, i_31, il_t, il_f, iq_t, iq_f, it_t, it_f, im_e, im_l, im_g, im_g2, nI_add, pk_mul, i_sub, i_div, sdm, i_dec, i_cl, iv_t, bI_or2, bI_t0, bI_one, not_true_eq_false, not_false_eq_true, ↓reduceIte, am_tl, am_tn, am_t0, am_n0, and_true, true_and, List.cons_append, List.nil_append, List.append_nil, c_step8 S.1 i1]
  have e8 : (8 : Nat) < 1000 := by decide
  by_cases a1 : 1000 ≤ tK ts (i + 1)
  rotate_left
  · simp (disch := first | assumption | omega | (simp only [ya_pi, ya_pj, ya_pa, ya_pr, yo_pi, yo_pj, yo_pa, yf_pi, yf_pj, yf_pa, yh_pi, yh_pj, yh_pa, yt_pi, yt_pj, yt_pa, la_pi, la_pj, la_pa]; assumption)) only [c_pn_2 G S1.1 e8 a1, b_X8_readMethod_19, b_X8_readMethod_32, i_lit, i_m1, i_31, il_t, il_f, iq_t, iq_f, it_t, it_f, im_e, im_l, im_g, im_g2, nI_add, pk_mul, i_sub, i_div, sdm, i_dec, i_cl, iv_t, bI_or2, bI_t0, bI_one, not_true_eq_false, not_false_eq_true, ↓reduceIte, am_tl, am_tn, am_t0, am_n0, and_true, true_and, List.cons_append, List.nil_append, List.append_nil]
    refine Kb (pF ts 2 (i + 1)) ?_ (pF_ne (by decide)) _ (S1.no G)
    unfold zMh
    rw [pN_2 a1, pB_n (pF_ne (by decide))]
  by_cases a2 : tK ts (i + 1) - 1000 < 8
  rotate_left
  · simp (disch := first | assumption | omega | (simp only [ya_pi, ya_pj, ya_pa, ya_pr, yo_pi, yo_pj, yo_pa, yf_pi, yf_pj, yf_pa, yh_pi, yh_pj, yh_pa, yt_pi, yt_pj, yt_pa, la_pi, la_pj, la_pa]; assumption)) only [c_pn_3 G S1.1 e8 a1 a2, b_X8_readMethod_19, b_X8_readMethod_32, i_lit, i_m1, i_31, il_t, il_f, iq_t, iq_f, it_t, it_f, im_e, im_l, im_g, im_g2, nI_add, pk_mul, i_sub, i_div, sdm, i_dec, i_cl, iv_t, bI_or2, bI_t0, bI_one, not_true_eq_false, not_false_eq_true, ↓reduceIte, am_tl, am_tn, am_t0, am_n0, and_true, true_and, List.cons_append, List.nil_append, List.append_nil]
    refine Kb (pF ts 3 (i + 1)) ?_ (pF_ne (by decide)) _ (S1.no G)
    unfold zMh
    rw [pN_3 a1 a2, pB_n (pF_ne (by decide))]
  have i2 := G.1 (i + 1) (by omega)
  have S2 := S1.st ok i2
  have L2 := S2.1.1
  have s6 := S1.1.2.2.2.1
  have i6 : nI (tK ts (i + 1)) - 1000 = nI (tK ts (i + 1) - 1000) := i_sub a1
  obtain ⟨mv, hm⟩ : ∃ mv, tK ts (i + 1) - 1000 = mv := ⟨_, rfl⟩
  simp (disch := first | assumption | omega | (simp only [ya_pi, ya_pj, ya_pa, ya_pr, yo_pi, yo_pj, yo_pa, yf_pi, yf_pj, yf_pa, yh_pi, yh_pj, yh_pa, yt_pi, yt_pj, yt_pa, la_pi, la_pj, la_pa]; assumption)) only [c_pn_y G S1.1 e8 a1 a2, b_X8_readMethod_19, b_X8_readMethod_22, i_lit, i_m1, i_31, il_t, il_f, iq_t, iq_f, it_t, it_f, im_e, im_l, im_g, im_g2, nI_add, pk_mul, i_sub, i_div, sdm, i_dec, i_cl, iv_t, bI_or2, bI_t0, bI_one, not_true_eq_false, not_false_eq_true, ↓reduceIte, am_tl, am_tn, am_t0, am_n0, and_true, true_and, List.cons_append, List.nil_append, List.append_nil, s6, hm]
  by_cases a3 : tK ts (i + 1 + 1) = 204
  rotate_left
  · simp (disch := first | assumption | omega | (simp only [ya_pi, ya_pj, ya_pa, ya_pr, yo_pi, yo_pj, yo_pa, yf_pi, yf_pj, yf_pa, yh_pi, yh_pj, yh_pa, yt_pi, yt_pj, yt_pa, la_pi, la_pj, la_pa]; assumption)) only [c_pass_n G S2.1 (show ¬ 204 = 1 by decide) (show 204 < 2000 by decide) a3, b_X8_readMethod_29, b_X8_readMethod_32, i_lit, i_m1, i_31, il_t, il_f, iq_t, iq_f, it_t, it_f, im_e, im_l, im_g, im_g2, nI_add, pk_mul, i_sub, i_div, sdm, i_dec, i_cl, iv_t, bI_or2, bI_t0, bI_one, not_true_eq_false, not_false_eq_true, ↓reduceIte, am_tl, am_tn, am_t0, am_n0, and_true, true_and, List.cons_append, List.nil_append, List.append_nil]
    refine Kb (pF ts 2 (i + 1 + 1)) ?_ (pF_ne (by decide)) _ (S2.no G)
    unfold zMh
    rw [pN_y a1 a2, pB_1, pE_n a3, pB_n (pF_ne (by decide))]
  have i3 := G.1 (i + 1 + 1) (by omega)
  have S3 := S2.st ok i3
  have L3 := S3.1.1
  have a0 := S3.2.1.1.2.1
  have s63 := S3.1.2.2.2.1
  simp (disch := first | assumption | omega | (simp only [ya_pi, ya_pj, ya_pa, ya_pr, yo_pi, yo_pj, yo_pa, yf_pi, yf_pj, yf_pa, yh_pi, yh_pj, yh_pa, yt_pi, yt_pj, yt_pa, la_pi, la_pj, la_pa]; assumption)) only [c_pass_y G S2.1 (show ¬ 204 = 1 by decide) (show 204 < 2000 by decide) a3, b_X8_readMethod_29, b_X8_readMethod_34, i_lit, i_m1, i_31, il_t, il_f, iq_t, iq_f, it_t, it_f, im_e, im_l, im_g, im_g2, nI_add, pk_mul, i_sub, i_div, sdm, i_dec, i_cl, iv_t, bI_or2, bI_t0, bI_one, not_true_eq_false, not_false_eq_true, ↓reduceIte, am_tl, am_tn, am_t0, am_n0, and_true, true_and, List.cons_append, List.nil_append, List.append_nil, a0]
  have en : f_n H.1 < 1000 := by omega
  by_cases a4 : 1000 ≤ tK ts (i + 1 + 1 + 1)
  rotate_left
  · simp (disch := first | assumption | omega | (simp only [ya_pi, ya_pj, ya_pa, ya_pr, yo_pi, yo_pj, yo_pa, yf_pi, yf_pj, yf_pa, yh_pi, yh_pj, yh_pa, yt_pi, yt_pj, yt_pa, la_pi, la_pj, la_pa]; assumption)) only [c_pn_2 G S3.1 en a4, b_X8_readMethod_54, b_X8_readMethod_57, i_lit, i_m1, i_31, il_t, il_f, iq_t, iq_f, it_t, it_f, im_e, im_l, im_g, im_g2, nI_add, pk_mul, i_sub, i_div, sdm, i_dec, i_cl, iv_t, bI_or2, bI_t0, bI_one, not_true_eq_false, not_false_eq_true, ↓reduceIte, am_tl, am_tn, am_t0, am_n0, and_true, true_and, List.cons_append, List.nil_append, List.append_nil]
    refine Kb (pF ts 2 (i + 1 + 1 + 1)) ?_ (pF_ne (by decide)) _ (S3.no G)
    unfold zMh
    rw [pN_y a1 a2, pB_1, pE_y a3, pB_1, pN_2 a4, pB_n (pF_ne (by decide))]
  by_cases a5 : tK ts (i + 1 + 1 + 1) - 1000 < f_n H.1
  rotate_left
  · simp (disch := first | assumption | omega | (simp only [ya_pi, ya_pj, ya_pa, ya_pr, yo_pi, yo_pj, yo_pa, yf_pi, yf_pj, yf_pa, yh_pi, yh_pj, yh_pa, yt_pi, yt_pj, yt_pa, la_pi, la_pj, la_pa]; assumption)) only [c_pn_3 G S3.1 en a4 a5, b_X8_readMethod_54, b_X8_readMethod_57, i_lit, i_m1, i_31, il_t, il_f, iq_t, iq_f, it_t, it_f, im_e, im_l, im_g, im_g2, nI_add, pk_mul, i_sub, i_div, sdm, i_dec, i_cl, iv_t, bI_or2, bI_t0, bI_one, not_true_eq_false, not_false_eq_true, ↓reduceIte, am_tl, am_tn, am_t0, am_n0, and_true, true_and, List.cons_append, List.nil_append, List.append_nil]
    refine Kb (pF ts 3 (i + 1 + 1 + 1)) ?_ (pF_ne (by decide)) _ (S3.no G)
    unfold zMh
    rw [pN_y a1 a2, pB_1, pE_y a3, pB_1, pN_3 a4 a5, pB_n (pF_ne (by decide))]
  have i4 := G.1 (i + 1 + 1 + 1) (by omega)
  have S4 := S3.st ok i4
  have L4 := S4.1.1
  have s64 := S4.1.2.2.2.1
  have t4 := G.2.1 (i + 1 + 1 + 1 + 1)
  have F4 := S4.2.1.1
  have F0 := F4.1
  have zh : zMh ts (f_n H.1) i = zW ts (i + 1 + 1 + 1 + 1) := by
    unfold zMh
    rw [pN_y a1 a2, pB_1, pE_y a3, pB_1, pN_y a4 a5, pB_1]
  simp (disch := first | assumption | omega | (simp only [ya_pi, ya_pj, ya_pa, ya_pr, yo_pi, yo_pj, yo_pa, yf_pi, yf_pj, yf_pa, yh_pi, yh_pj, yh_pa, yt_pi, yt_pj, yt_pa, la_pi, la_pj, la_pa]; assumption)) only [c_pn_y G S3.1 en a4 a5, b_X8_readMethod_54, i_lit, i_m1, i_31, il_t, il_f, iq_t, iq_f, it_t, it_f, im_e, im_l, im_g, im_g2, nI_add, pk_mul, i_sub, i_div, sdm, i_dec, i_cl, iv_t, bI_or2, bI_t0, bI_one, not_true_eq_false, not_false_eq_true, ↓reduceIte, am_tl, am_tn, am_t0, am_n0, and_true, true_and, List.cons_append, List.nil_append, List.append_nil, s63]
  obtain ⟨cv, hcv⟩ : ∃ cv, tK ts (i + 1 + 1 + 1) - 1000 = cv := ⟨_, rfl⟩
  simp only [hcv]
  -- the last word
  have go : ∀ w : Nat, w = (if tK ts (i + 1 + 1 + 1 + 1) = 205 then 0 else 1) → zMh ts (f_n H.1) i = (0, i + 1 + 1 + 1 + 1 + 1, []) → i + 1 + 1 + 1 + 1 + 1 < ts.length → ex_ (d + 3) 39 0 [some (v_r (some 5)), some (v_i (nI cv)), some (v_i (nI mv)), some (v_i (nI w)), none] [] (stH (stH (stH (stH h ts i) ts (i + 1)) ts (i + 1 + 1)) ts (i + 1 + 1 + 1)) (fun r h' => ex_ (d + 4) 123 109 [some (v_r (some 2)), some (v_i (nI mv)), some (v_i (nI cv))] (r.toList ++ []) h' Q) := by
    intro w hw e i5
    refine c_putDefinition ok F4 (fun h5 fr5 F5 => ?_)
    have ef : (d_def H.1 (nI cv) (nI mv) (nI w)).2 = zMf ts i H.1 := by
      unfold zMf
      show _ = (d_def H.1 (nI (tK ts (i + 1 + 1 + 1) - 1000)) (nI (tK ts (i + 1) - 1000)) (nI (if tK ts (i + 1 + 1 + 1 + 1) = 205 then 0 else 1))).2
      simp only [hm, hcv, hw]
    rw [ef] at F5
    clear ef
    have okz : fa_ok (zMf ts i H.1) := by unfold zMf; exact (gd_def gd).1
    generalize zMf ts i H.1 = gz at F5 Kg okz
    obtain ⟨⟨-, T, s5, -, hx⟩, ⟨b1, b2, b3, b4, b5, b6⟩, rm, ln, fl⟩ := S4
    have n2 := la_n L4 (show 2 < 118 by decide)
    have ng : ∀ a k, 118 ≤ a → ¬ fa_P 5 a k := fun a k ha z => by unfold fa_P at z; omega
    have ng2 : ∀ k, ¬ fa_P 5 2 k := fun k z => by unfold fa_P at z; omega
    have A2 : clS h0 h5 ts (i + 1 + 1 + 1 + 1) (gz, H.2) := ⟨⟨fr5.lay L4, T.fr fr5 (ng2 4) (fun k => ⟨fun z => by unfold fa_P at z; omega, fun z => by unfold fa_P at z; omega⟩), by rw [fr5.i (ng2 5)]; exact s5, by rw [fr5.i (ng2 6)]; exact s64, hx⟩, ⟨F5, b2.g (fr5.g (J := N0) (R := N0)) b6 n2 (fun z => z) ng, b3.g (fr5.g (J := N0) (R := N0)) b6 n2 (fun z => z) ng, by rw [fr5.i (ng2 10)]; exact b4, b5.tr ((fr5.g (J := N0) (R := rlR)).le (fun q k z => by unfold fa_P at z; unfold rlP; omega) (fun _ _ z => z) (fun _ _ z => z)), b6⟩, rm.fr fr5 (Nat.le_refl _), ln, fl.fr fr5 (ng2 7) (ng2 8)⟩
    have L5 := A2.1.1
    generalize hg : d_def H.1 (nI cv) (nI mv) (nI w) = g
    simp (disch := first | assumption | omega | (simp only [ya_pi, ya_pj, ya_pa, ya_pr, yo_pi, yo_pj, yo_pa, yf_pi, yf_pj, yf_pa, yh_pi, yh_pj, yh_pa, yt_pi, yt_pj, yt_pa, la_pi, la_pj, la_pa]; assumption)) only [b_X8_readMethod_109, b_X8_readMethod_114, i_lit, i_m1, i_31, il_t, il_f, iq_t, iq_f, it_t, it_f, im_e, im_l, im_g, im_g2, nI_add, pk_mul, i_sub, i_div, sdm, i_dec, i_cl, iv_t, bI_or2, bI_t0, bI_one, not_true_eq_false, not_false_eq_true, ↓reduceIte, am_tl, am_tn, am_t0, am_n0, and_true, true_and, List.cons_append, List.nil_append, List.append_nil, c_step8 A2.1 i5]
    exact Kg _ _ e _ (A2.st okz i5)
  by_cases a6 : tK ts (i + 1 + 1 + 1 + 1) = 205
  · have i5 := G.1 (i + 1 + 1 + 1 + 1) (by omega)
    have := go 0 (by rw [if_pos a6]) (by rw [zh]; unfold zW; rw [if_pos (Or.inl a6)]) i5
    simp (disch := first | assumption | omega | (simp only [ya_pi, ya_pj, ya_pa, ya_pr, yo_pi, yo_pj, yo_pa, yf_pi, yf_pj, yf_pa, yh_pi, yh_pj, yh_pa, yt_pi, yt_pj, yt_pa, la_pi, la_pj, la_pa]; assumption)) only [b_X8_readMethod_59, b_X8_readMethod_85, b_X8_readMethod_101, i_lit, i_m1, i_31, il_t, il_f, iq_t, iq_f, it_t, it_f, im_e, im_l, im_g, im_g2, nI_add, pk_mul, i_sub, i_div, sdm, i_dec, i_cl, iv_t, bI_or2, bI_t0, bI_one, not_true_eq_false, not_false_eq_true, ↓reduceIte, am_tl, am_tn, am_t0, am_n0, and_true, true_and, List.cons_append, List.nil_append, List.append_nil, s64, a6, hm, hcv]
    simp (disch := first | assumption | omega | (simp only [ya_pi, ya_pj, ya_pa, ya_pr, yo_pi, yo_pj, yo_pa, yf_pi, yf_pj, yf_pa, yh_pi, yh_pj, yh_pa, yt_pi, yt_pj, yt_pa, la_pi, la_pj, la_pa]; assumption)) only [i_lit, i_m1, i_31, il_t, il_f, iq_t, iq_f, it_t, it_f, im_e, im_l, im_g, im_g2, nI_add, pk_mul, i_sub, i_div, sdm, i_dec, i_cl, iv_t, bI_or2, bI_t0, bI_one, not_true_eq_false, not_false_eq_true, ↓reduceIte, am_tl, am_tn, am_t0, am_n0, and_true, true_and, List.cons_append, List.nil_append, List.append_nil] at this
    exact this
  · by_cases a7 : tK ts (i + 1 + 1 + 1 + 1) = 206
    · have i5 := G.1 (i + 1 + 1 + 1 + 1) (by omega)
      have := go 1 (by rw [if_neg a6]) (by rw [zh]; unfold zW; rw [if_pos (Or.inr a7)]) i5
      simp (disch := first | assumption | omega | (simp only [ya_pi, ya_pj, ya_pa, ya_pr, yo_pi, yo_pj, yo_pa, yf_pi, yf_pj, yf_pa, yh_pi, yh_pj, yh_pa, yt_pi, yt_pj, yt_pa, la_pi, la_pj, la_pa]; assumption)) only [b_X8_readMethod_59, b_X8_readMethod_69, b_X8_readMethod_85, b_X8_readMethod_105, i_lit, i_m1, i_31, il_t, il_f, iq_t, iq_f, it_t, it_f, im_e, im_l, im_g, im_g2, nI_add, pk_mul, i_sub, i_div, sdm, i_dec, i_cl, iv_t, bI_or2, bI_t0, bI_one, not_true_eq_false, not_false_eq_true, ↓reduceIte, am_tl, am_tn, am_t0, am_n0, and_true, true_and, List.cons_append, List.nil_append, List.append_nil, s64, a7, hm, hcv]
      simp (disch := first | assumption | omega | (simp only [ya_pi, ya_pj, ya_pa, ya_pr, yo_pi, yo_pj, yo_pa, yf_pi, yf_pj, yf_pa, yh_pi, yh_pj, yh_pa, yt_pi, yt_pj, yt_pa, la_pi, la_pj, la_pa]; assumption)) only [i_lit, i_m1, i_31, il_t, il_f, iq_t, iq_f, it_t, it_f, im_e, im_l, im_g, im_g2, nI_add, pk_mul, i_sub, i_div, sdm, i_dec, i_cl, iv_t, bI_or2, bI_t0, bI_one, not_true_eq_false, not_false_eq_true, ↓reduceIte, am_tl, am_tn, am_t0, am_n0, and_true, true_and, List.cons_append, List.nil_append, List.append_nil] at this
      exact this
    · have ref := fun Q => c_refuse (d := d + 3) (Q := Q) (k := 2) S4.1
      simp (disch := first | assumption | omega | (simp only [ya_pi, ya_pj, ya_pa, ya_pr, yo_pi, yo_pj, yo_pa, yf_pi, yf_pj, yf_pa, yh_pi, yh_pj, yh_pa, yt_pi, yt_pj, yt_pa, la_pi, la_pj, la_pa]; assumption)) only [b_X8_readMethod_59, b_X8_readMethod_69, b_X8_readMethod_79, b_X8_readMethod_84, i_lit, i_m1, i_31, il_t, il_f, iq_t, iq_f, it_t, it_f, im_e, im_l, im_g, im_g2, nI_add, pk_mul, i_sub, i_div, sdm, i_dec, i_cl, iv_t, bI_or2, bI_t0, bI_one, not_true_eq_false, not_false_eq_true, ↓reduceIte, am_tl, am_tn, am_t0, am_n0, and_true, true_and, List.cons_append, List.nil_append, List.append_nil, s64, ref, or_true, true_or]
      refine Kb (pF ts 2 (i + 1 + 1 + 1 + 1)) ?_ (pF_ne (by decide)) _ (S4.no G)
      rw [zh]
      unfold zW
      rw [if_neg (fun k => k.elim a6 a7)]
