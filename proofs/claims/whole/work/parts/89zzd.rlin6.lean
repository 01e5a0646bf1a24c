/-! ===== house(), the reference ===== -/
theorem r_loop {d m : Nat} {Q : Option am_V → am_H → Prop} {h2 h5 : am_H} {tx : List Nat} {ts : List (Nat × Nat)} {r R : lR_} (G : gT ts) (gz : gZ ts 0 r) (A1 : r.1 = 0 → rlS h2 h5 tx ts r.2.1 r.2.2) (A2 : ¬ r.1 = 0 → rlX h2 h5 ts r.1 r.2.1) (E : zP ts 902 r = R) (Kg : R.1 = 0 → okH R.2.2 → ∀ h', rlS h2 h' tx ts R.2.1 R.2.2 → ex_ (d + 59) 260 113 [some (v_r (some 93)), some (v_i (nI m)), none] [] h' Q) (Kb : ¬ R.1 = 0 → ∀ h', rlX h2 h' ts R.1 R.2.1 → ex_ (d + 59) 260 113 [some (v_r (some 93)), some (v_i (nI m)), none] [] h' Q) : ex_ (d + 59) 260 86 [some (v_r (some 93)), some (v_i (nI m)), none] [] h5 Q := by
  have G3 := G.2.2.1
  refine lp_wf (d := d + 59) (k := 260) (pc := 86) (fun s : Nat × lR_ => if s.2.1 = 0 then ts.length + 1 - s.2.2.1 else 0) (fun _ => [some (v_r (some 93)), some (v_i (nI m)), none]) (fun s h' => gZ ts 0 s.2 ∧ (s.2.1 = 0 → rlS h2 h' tx ts s.2.2.1 s.2.2.2 ∧ ts.length < s.1 + s.2.2.1) ∧ (¬ s.2.1 = 0 → rlX h2 h' ts s.2.1 s.2.2.1) ∧ zP ts s.1 s.2 = R) ?_ (s := (902, r)) ⟨gz, fun z => ⟨A1 z, by show ts.length < 902 + r.2.1; omega⟩, A2, E⟩
  clear A1 A2 E gz
  rintro ⟨mm, r⟩ h' ⟨gz, A1, A2, E⟩ nx
  have gz : gZ ts 0 r := gz
  have A1 : r.1 = 0 → rlS h2 h' tx ts r.2.1 r.2.2 ∧ ts.length < mm + r.2.1 := A1
  have A2 : ¬ r.1 = 0 → rlX h2 h' ts r.1 r.2.1 := A2
  have E : zP ts mm r = R := E
  by_cases z : r.1 = 0
  · obtain ⟨S, fu⟩ := A1 z
    obtain ⟨q1, q2, q3⟩ := gz.1 z
    have L := S.1.1
    have w := S.2.1
    have e9 := S.1.2.2.2.1
    have r24 := (rk_25 (t := tK ts r.2.1)).2.2.1
    have rb := (rk_25 (t := tK ts r.2.1)).2.2.2
    by_cases t : tK ts r.2.1 = 1
    · rw [zP_e (Or.inr t)] at E
      subst E
      rw [r24.2 t] at e9
      rw [b_X12_house_86 _ _ _ L]
      simp (disch := first | assumption | omega | (simp only [ya_pi, ya_pj, ya_pa, ya_pr, yo_pi, yo_pj, yo_pa, yf_pi, yf_pj, yf_pa, yh_pi, yh_pj, yh_pa, yt_pi, yt_pj, yt_pa, la_pi, la_pj, la_pa]; assumption)) only [b_X12_house_93, i_lit, i_m1, i_31, il_t, il_f, iq_t, iq_f, it_t, it_f, im_e, im_l, im_g, im_g2, nI_add, pk_mul, i_sub, i_div, sdm, i_dec, i_cl, iv_t, bI_or2, bI_t0, bI_one, not_true_eq_false, not_false_eq_true, ↓reduceIte, am_tl, am_tn, am_t0, am_n0, and_true, true_and, List.cons_append, List.nil_append, List.append_nil, w, e9]
      exact Kg z q3 h' S
    · obtain ⟨m', hm⟩ : ∃ m', mm = m' + 1 := ⟨mm - 1, by omega⟩
      rw [hm, zP_p z t] at E
      have t24 : ¬ rk (tK ts r.2.1) = 24 := fun u => t (r24.1 u)
      rw [b_X12_house_86 _ _ _ L]
      simp (disch := first | assumption | omega | (simp only [ya_pi, ya_pj, ya_pa, ya_pr, yo_pi, yo_pj, yo_pa, yf_pi, yf_pj, yf_pa, yh_pi, yh_pj, yh_pa, yt_pi, yt_pj, yt_pa, la_pi, la_pj, la_pa]; assumption)) only [b_X12_house_93, b_X12_house_102, i_lit, i_m1, i_31, il_t, il_f, iq_t, iq_f, it_t, it_f, im_e, im_l, im_g, im_g2, nI_add, pk_mul, i_sub, i_div, sdm, i_dec, i_cl, iv_t, bI_or2, bI_t0, bI_one, not_true_eq_false, not_false_eq_true, ↓reduceIte, am_tl, am_tn, am_t0, am_n0, and_true, true_and, List.cons_append, List.nil_append, List.append_nil, w, e9]
      have gi := g_zI (i := r.2.1) G q2 q3
      have gb := g_zB (g := zE ts) gi (fun z2 => g_zE G (gi.1 z2).2.1 (gi.1 z2).2.2)
      have gb0 : gZ ts 0 (zB (zI ts r.2.1 r.2.2) (zE ts)) := ⟨fun y => ⟨by have := (gb.1 y).1; omega, (gb.1 y).2⟩, gb.2⟩
      have nx2 : ∀ h5, ((zB (zI ts r.2.1 r.2.2) (zE ts)).1 = 0 → rlS h2 h5 tx ts (zB (zI ts r.2.1 r.2.2) (zE ts)).2.1 (zB (zI ts r.2.1 r.2.2) (zE ts)).2.2) → (¬ (zB (zI ts r.2.1 r.2.2) (zE ts)).1 = 0 → rlX h2 h5 ts (zB (zI ts r.2.1 r.2.2) (zE ts)).1 (zB (zI ts r.2.1 r.2.2) (zE ts)).2.1) → ex_ (d + 59) 260 86 [some (v_r (some 93)), some (v_i (nI m)), none] [] h5 Q := by
        intro h5 B1 B2
        refine nx (m', zB (zI ts r.2.1 r.2.2) (zE ts)) h5 ?_ ⟨gb0, fun y => ⟨B1 y, ?_⟩, B2, E⟩
        · show (if (zB (zI ts r.2.1 r.2.2) (zE ts)).1 = 0 then ts.length + 1 - (zB (zI ts r.2.1 r.2.2) (zE ts)).2.1 else 0) < (if r.1 = 0 then ts.length + 1 - r.2.1 else 0)
          rw [if_pos z]
          by_cases y : (zB (zI ts r.2.1 r.2.2) (zE ts)).1 = 0
          · rw [if_pos y]
            have := (gb.1 y).1
            omega
          · rw [if_neg y]
            omega
        · show ts.length < m' + (zB (zI ts r.2.1 r.2.2) (zE ts)).2.1
          have := (gb.1 y).1
          omega
      refine c_rLine (d := d) G q3 S ⟨fun z3 h3 S3 => ?_, fun z3 h3 X3 => ?_⟩
      · have L3 := S3.1.1
        have eb : zB (zI ts r.2.1 r.2.2) (zE ts) = zE ts (zI ts r.2.1 r.2.2).2.1 (zI ts r.2.1 r.2.2).2.2 := if_pos z3
        rw [eb] at nx2
        simp (disch := first | assumption | omega | (simp only [ya_pi, ya_pj, ya_pa, ya_pr, yo_pi, yo_pj, yo_pa, yf_pi, yf_pj, yf_pa, yh_pi, yh_pj, yh_pa, yt_pi, yt_pj, yt_pa, la_pi, la_pj, la_pa]; assumption)) only [b_X12_house_106, i_lit, i_m1, i_31, il_t, il_f, iq_t, iq_f, it_t, it_f, im_e, im_l, im_g, im_g2, nI_add, pk_mul, i_sub, i_div, sdm, i_dec, i_cl, iv_t, bI_or2, bI_t0, bI_one, not_true_eq_false, not_false_eq_true, ↓reduceIte, am_tl, am_tn, am_t0, am_n0, and_true, true_and, List.cons_append, List.nil_append, List.append_nil]
        refine c_closes (d := d + 51) (gi.1 z3).2.2.1.1 S3 ⟨fun z4 h4 S4 => ?_, fun z4 h4 X4 => ?_⟩
        · simp (disch := first | assumption | omega | (simp only [ya_pi, ya_pj, ya_pa, ya_pr, yo_pi, yo_pj, yo_pa, yf_pi, yf_pj, yf_pa, yh_pi, yh_pj, yh_pa, yt_pi, yt_pj, yt_pa, la_pi, la_pj, la_pa]; assumption)) only [b_X12_house_110, i_lit, i_m1, i_31, il_t, il_f, iq_t, iq_f, it_t, it_f, im_e, im_l, im_g, im_g2, nI_add, pk_mul, i_sub, i_div, sdm, i_dec, i_cl, iv_t, bI_or2, bI_t0, bI_one, not_true_eq_false, not_false_eq_true, ↓reduceIte, am_tl, am_tn, am_t0, am_n0, and_true, true_and, List.cons_append, List.nil_append, List.append_nil]
          exact nx2 h4 (fun _ => S4) (fun y => absurd z4 y)
        · simp (disch := first | assumption | omega | (simp only [ya_pi, ya_pj, ya_pa, ya_pr, yo_pi, yo_pj, yo_pa, yf_pi, yf_pj, yf_pa, yh_pi, yh_pj, yh_pa, yt_pi, yt_pj, yt_pa, la_pi, la_pj, la_pa]; assumption)) only [b_X12_house_110, i_lit, i_m1, i_31, il_t, il_f, iq_t, iq_f, it_t, it_f, im_e, im_l, im_g, im_g2, nI_add, pk_mul, i_sub, i_div, sdm, i_dec, i_cl, iv_t, bI_or2, bI_t0, bI_one, not_true_eq_false, not_false_eq_true, ↓reduceIte, am_tl, am_tn, am_t0, am_n0, and_true, true_and, List.cons_append, List.nil_append, List.append_nil]
          exact nx2 h4 (fun y => absurd y z4) (fun _ => X4)
      · have L3 := X3.1.1
        have eb : zB (zI ts r.2.1 r.2.2) (zE ts) = zI ts r.2.1 r.2.2 := if_neg z3
        rw [eb] at nx2
        simp (disch := first | assumption | omega | (simp only [ya_pi, ya_pj, ya_pa, ya_pr, yo_pi, yo_pj, yo_pa, yf_pi, yf_pj, yf_pa, yh_pi, yh_pj, yh_pa, yt_pi, yt_pj, yt_pa, la_pi, la_pj, la_pa]; assumption)) only [b_X12_house_106, i_lit, i_m1, i_31, il_t, il_f, iq_t, iq_f, it_t, it_f, im_e, im_l, im_g, im_g2, nI_add, pk_mul, i_sub, i_div, sdm, i_dec, i_cl, iv_t, bI_or2, bI_t0, bI_one, not_true_eq_false, not_false_eq_true, ↓reduceIte, am_tl, am_tn, am_t0, am_n0, and_true, true_and, List.cons_append, List.nil_append, List.append_nil]
        refine c_closesX (d := d + 51) X3 (fun h4 X4 => ?_)
        simp (disch := first | assumption | omega | (simp only [ya_pi, ya_pj, ya_pa, ya_pr, yo_pi, yo_pj, yo_pa, yf_pi, yf_pj, yf_pa, yh_pi, yh_pj, yh_pa, yt_pi, yt_pj, yt_pa, la_pi, la_pj, la_pa]; assumption)) only [b_X12_house_110, i_lit, i_m1, i_31, il_t, il_f, iq_t, iq_f, it_t, it_f, im_e, im_l, im_g, im_g2, nI_add, pk_mul, i_sub, i_div, sdm, i_dec, i_cl, iv_t, bI_or2, bI_t0, bI_one, not_true_eq_false, not_false_eq_true, ↓reduceIte, am_tl, am_tn, am_t0, am_n0, and_true, true_and, List.cons_append, List.nil_append, List.append_nil]
        exact nx2 h4 (fun y => absurd y z3) (fun _ => X4)
  · rw [zP_e (Or.inl z)] at E
    subst E
    have X := A2 z
    have L := X.1.1
    have wx := X.1.2.1
    have x0 := X.1.2.2.1
    have x4 := X.1.2.2.2.1
    rw [b_X12_house_86 _ _ _ L]
    simp (disch := first | assumption | omega | (simp only [ya_pi, ya_pj, ya_pa, ya_pr, yo_pi, yo_pj, yo_pa, yf_pi, yf_pj, yf_pa, yh_pi, yh_pj, yh_pa, yt_pi, yt_pj, yt_pa, la_pi, la_pj, la_pa]; assumption)) only [i_lit, i_m1, i_31, il_t, il_f, iq_t, iq_f, it_t, it_f, im_e, im_l, im_g, im_g2, nI_add, pk_mul, i_sub, i_div, sdm, i_dec, i_cl, iv_t, bI_or2, bI_t0, bI_one, not_true_eq_false, not_false_eq_true, ↓reduceIte, am_tl, am_tn, am_t0, am_n0, and_true, true_and, List.cons_append, List.nil_append, List.append_nil, wx]
    exact Kb z h' X
/-- the line of the house -/
theorem r_head {d m : Nat} {Q : Option am_V → am_H → Prop} {h2 h3 : am_H} {tx : List Nat} {ts : List (Nat × Nat)} (G : gT ts) (S : rlS h2 h3 tx ts 0 ho_0) (K1 : ∀ h', ((zB (zH ts) (zE ts)).1 = 0 → rlS h2 h' tx ts (zB (zH ts) (zE ts)).2.1 (zB (zH ts) (zE ts)).2.2) → (¬ (zB (zH ts) (zE ts)).1 = 0 → rlX h2 h' ts (zB (zH ts) (zE ts)).1 (zB (zH ts) (zE ts)).2.1) → ex_ (d + 59) 260 86 [some (v_r (some 93)), some (v_i (nI m)), none] [] h' Q) : ex_ (d + 59) 260 53 [some (v_r (some 93)), some (v_i (nI m)), none] [] h3 Q := by
  have n1 : ¬ nI 1 = 0 := by decide
  have n00 : ¬ ¬ nI 0 = 0 := fun u => u rfl
  have ok0 : fa_ok f_0 := (gd_0 (m := 0) (by decide)).1
  have kk : kT 0 = 200 ∧ kT 1 = 201 := by decide
  have L := S.1.1
  have w := S.2.1
  -- a fault
  have Kb : ∀ q j, zHh ts = pF ts q j → 0 < q → ∀ h', rlX h2 h' ts (pF ts q j).1 j → ex_ (d + 59) 260 86 [some (v_r (some 93)), some (v_i (nI m)), none] [] h' Q := by
    intro q j e hq h' X
    have z := pF_ne (ts := ts) (i := j) hq
    have e2 : zB (zH ts) (zE ts) = ((pF ts q j).1, j, ho_0) := by
      unfold zH
      rw [e, if_neg z]
      exact if_neg z
    rw [e2] at K1
    exact K1 h' (fun y => absurd y z) (fun _ => X)
  have x81 : ∀ h' e j v, rlX h2 h' ts e j → (∀ h5, rlX h2 h5 ts e j → ex_ (d + 59) 260 86 [some (v_r (some 93)), some (v_i (nI m)), none] [] h5 Q) → ex_ (d + 59) 260 81 [some (v_r (some 93)), some (v_i (nI m)), none] [v_i v, v_i (138 : Int32), v_r (some 97)] h' Q := fun h' e j v X k => by
    have L' := X.1.1
    have A := la_y (o := 97) (t := 20) (n := 2351) L' rfl
    rw [b_X12_house_81 _ _ _ _ _ _ L' A, show (138 : Int32) = nI 138 from rfl, i_cl (by omega)]
    refine ⟨vp_in_nI (by omega) (by omega), ?_⟩
    have fr : am_fr h' (p_i h' 97 138 v) (fun q k => q = 97 ∧ k = 138) := am_fr_pi ⟨rfl, rfl⟩
    refine c_closesX (d := d + 51) (h0 := h2) (e := e) (j := j) ⟨⟨fr.lay L', by rw [fr.i (by omega)]; exact X.1.2.1, X.1.2.2.1, X.1.2.2.2.1, by rw [fr.i (by omega)]; exact X.1.2.2.2.2⟩, X.2.tr (fr.le (fun q k z => Or.inr z.1))⟩ (fun h5 X5 => ?_)
    exact k h5 X5
  rw [b_X12_house_53 _ _ _ L]
  by_cases y : tK ts 0 = 200
  rotate_left
  · have n := fun Q => c_eats_n (d := d + 57) (Q := Q) (k := 0) S.1 w (by decide) (by decide) (by rw [kk.1]; exact y)
    have fl := fun Q => c_fails (d := d + 58) (Q := Q) (k := 2) S.1 w (by decide)
    have X := S.no (k := 2) (by decide) (by decide)
    have LX := X.1.1
    have nx := fun Q => c_namedX (d := d + 56) (Q := Q) (x1 := 1) (x2 := 0) (x3 := 9) X.1
    rw [show (0 : Int32) = nI 0 from rfl, n]
    show ex_ (d + 59) 260 58 [some (v_r (some 93)), some (v_i (nI m)), none] [v_i (nI 0)] h3 Q
    rw [b_X12_house_58 _ _ _ _ _, if_neg n00, b_X12_house_61 _ _ _ L, show (2 : Int32) = nI 2 from rfl, fl]
    show ex_ (d + 59) 260 66 [some (v_r (some 93)), some (v_i (nI m)), none] [] (rfR h3 ts 2 0) Q
    rw [b_X12_house_66 _ _ _ LX, nx]
    refine x81 _ _ _ _ X (Kb 2 0 ?_ (by decide))
    unfold zHh
    rw [pE_n y, pB_F (by decide)]
  refine c_eats_y (d := d + 52) (k := 0) S.1 w (by decide) (by decide) (by rw [kk.1]; exact y) (fun h4 fr4 R4 => ?_)
  have S4 := S.nx ok0 fr4 R4 (Nat.le_succ _)
  have L4 := R4.1
  show ex_ (d + 59) 260 58 [some (v_r (some 93)), some (v_i (nI m)), none] [v_i (nI 1)] h4 Q
  rw [b_X12_house_58 _ _ _ _ _, if_pos n1, b_X12_house_66 _ _ _ L4, show (9 : Int32) = nI 10 - nI 1 from by decide, show (1 : Int32) = nI 1 from rfl, show (0 : Int32) = nI 0 from rfl]
  refine c_named (d := d + 51) (b := 10) (k := 1) G R4 S4.2.1 (by omega) (by decide) (by decide) (fun a3 a4 a5 h5 fr5 R5 => ?_) (fun q j v h' e hq h4 fr X => ?_)
  rotate_left
  · refine x81 _ _ _ v ⟨X, S4.2.2.1.tr (fr.le (fun _ _ z => rg_rl z))⟩ (Kb q j ?_ hq)
    unfold zHh
    rw [pE_y y, pB_1, show (201 : Nat) = kT 1 from kk.2.symm, e]
  have a4 : 1000 ≤ tK ts 2 := a4
  have a5 : tK ts 2 - 1000 < 10 := a5
  have a3 : tK ts 1 = 201 := by rw [← kk.2]; exact a3
  have R5 : rTk h5 tx ts 3 := R5
  have S5 : rlS h2 h5 tx ts 3 ho_0 := S4.nx ok0 fr5 R5 (by omega)
  have L5 := R5.1
  show ex_ (d + 59) 260 81 [some (v_r (some 93)), some (v_i (nI m)), none] [v_i (nI (tK ts 2 - 1000)), v_i (138 : Int32), v_r (some 97)] h5 Q
  have zh : zHh ts = (0, 3, []) := by
    unfold zHh
    rw [pE_y y, pB_1, pE_y a3, pB_1, pN_y a4 a5]
  have ez : zB (zH ts) (zE ts) = zE ts 3 (f_setm f_0 (nI (tK ts 2 - 1000)), none, none, 0) := by
    unfold zH
    rw [zh, if_pos rfl]
    exact if_pos rfl
  rw [ez] at K1
  obtain ⟨v, hv⟩ : ∃ v, tK ts 2 - 1000 = v := ⟨_, rfl⟩
  rw [hv] at K1 a5 ⊢
  have A := la_y (o := 97) (t := 20) (n := 2351) L5 rfl
  rw [b_X12_house_81 _ _ _ _ _ _ L5 A, show (138 : Int32) = nI 138 from rfl, i_cl (by omega)]
  refine ⟨vp_in_nI (by omega) (by omega), ?_⟩
  have F5 : fb h5 97 8 f_0 := by obtain ⟨cs, -, -, b1, b2, b3, -⟩ := S5.2.2.2.2; exact b3
  have S6 : rlS h2 (p_i h5 97 138 (nI v)) tx ts 3 (f_setm f_0 (nI v), none, none, 0) := S5.upd (am_fr_pi ⟨rfl, by omega, by omega⟩) rfl (fb_setm (fa4 ok0) F5)
  refine c_closes (d := d + 51) (gd_0 a5).1 S6 ⟨fun z4 h6 S7 => ?_, fun z4 h6 X7 => ?_⟩
  · exact K1 h6 (fun _ => S7) (fun y => absurd z4 y)
  · exact K1 h6 (fun y => absurd y z4) (fun _ => X7)
theorem c_rHouse {d : Nat} {Q : Option am_V → am_H → Prop} {h : am_H} {S : St} {n : Int32} (ok : St_ok S) (C : rI h S) (k : ∀ h', am_fr h h' rHo → rI h' (t_house S n).2 → Q (some (v_i (t_house S n).1)) h') : ex_ (d + 59) 260 0 [some (v_r (some 93)), some (v_i n), none] [] h Q := by
  have L := C.1
  have fr0 : am_fr h (p_i h 93 0 0) rS := am_fr_pi (by unfold rS; omega)
  have fr0' : am_fr h (p_i h 93 0 0) rHo := am_fr_pi (Or.inl rfl)
  have C0 := C.q ok fr0
  have L0 := C0.1
  have lb := ok.2.2.2.1
  have e5 : h_i (p_i h 93 0 0) 93 5 = nI (s_b S).length := C0.2.2.2.2.2.1.1
  have n1 : ¬ nI 1 = 0 := by decide
  have n00 : ¬ ¬ nI 0 = 0 := fun u => u rfl
  have l0 : (0 : Int64) = (nI 0).toInt64 := by rw [nI_l (by omega)]; rfl
  unfold t_house at k
  rw [b_X12_house_0 _ _ _ L, e5, l0]
  by_cases z1 : n < nI 0
  · rw [if_neg (fun w => w.1 z1)] at k
    rw [c_within_n (Or.inl (by rw [lg64]; exact z1))]
    show ex_ (d + 59) 260 16 [some (v_r (some 93)), some (v_i n), none] [v_i (nI 0)] (p_i h 93 0 0) Q
    rw [b_X12_house_16 _ _ _ _ _, if_neg n00, b_X12_house_19 _ _ _ _]
    exact k _ fr0' C0
  by_cases z2 : n ≤ nI (s_b S).length
  rotate_left
  · rw [if_neg (fun w => z2 w.2)] at k
    rw [c_within_n (Or.inr (by rw [lg64]; exact Int32.not_le.1 z2))]
    show ex_ (d + 59) 260 16 [some (v_r (some 93)), some (v_i n), none] [v_i (nI 0)] (p_i h 93 0 0) Q
    rw [b_X12_house_16 _ _ _ _ _, if_neg n00, b_X12_house_19 _ _ _ _]
    exact k _ fr0' C0
  rw [if_pos ⟨z1, z2⟩] at k
  obtain ⟨m, hm0, rfl⟩ := nI_of z1
  have hm : m ≤ (s_b S).length := (nI_leI hm0 (by omega)).1 z2
  have cm : (nI m).toNatClampNeg = m := nI_clamp (by omega)
  rw [cm] at k
  rw [nI_l (n := m) (by omega), nI_l (n := 0) (by omega), nI_l (n := (s_b S).length) (by omega), c_within_y (by omega) hm (by omega)]
  show ex_ (d + 59) 260 16 [some (v_r (some 93)), some (v_i (nI m)), none] [v_i (nI 1)] (p_i h 93 0 0) Q
  rw [b_X12_house_16 _ _ _ _ _, if_pos n1, b_X12_house_22 _ _ _ L0]
  have fr1 : am_fr h (p_i (p_i (p_i (p_i (p_i h 93 0 0) 93 8 (nI m)) 93 5 0) 93 7 0) 93 11 0) (fun a k => a = 93 ∧ (k = 0 ∨ k = 8 ∨ k = 5 ∨ k = 7 ∨ k = 11)) := ((((am_fr_pi ⟨rfl, by omega⟩).pi ⟨rfl, by omega⟩).pi ⟨rfl, by omega⟩).pi ⟨rfl, by omega⟩).pi ⟨rfl, by omega⟩
  have v8 : h_i (p_i (p_i (p_i (p_i (p_i h 93 0 0) 93 8 (nI m)) 93 5 0) 93 7 0) 93 11 0) 93 8 = nI m := by simp (disch := first | assumption | omega | (simp only [ya_pi, ya_pj, ya_pa, ya_pr, yo_pi, yo_pj, yo_pa, yf_pi, yf_pj, yf_pa, yh_pi, yh_pj, yh_pa, yt_pi, yt_pj, yt_pa, la_pi, la_pj, la_pa]; assumption)) only [hi_s, hi_o, hi_k, hr_pi, hj_pi, hn_pi, hi_pas, hi_pao, hr_pa, hj_pa]
  have v5 : h_i (p_i (p_i (p_i (p_i (p_i h 93 0 0) 93 8 (nI m)) 93 5 0) 93 7 0) 93 11 0) 93 5 = nI 0 := by simp (disch := first | assumption | omega | (simp only [ya_pi, ya_pj, ya_pa, ya_pr, yo_pi, yo_pj, yo_pa, yf_pi, yf_pj, yf_pa, yh_pi, yh_pj, yh_pa, yt_pi, yt_pj, yt_pa, la_pi, la_pj, la_pa]; assumption)) only [hi_s, hi_o, hi_k, hr_pi, hj_pi, hn_pi, hi_pas, hi_pao, hr_pa, hj_pa]; rfl
  have v7 : h_i (p_i (p_i (p_i (p_i (p_i h 93 0 0) 93 8 (nI m)) 93 5 0) 93 7 0) 93 11 0) 93 7 = nI 0 := by simp (disch := first | assumption | omega | (simp only [ya_pi, ya_pj, ya_pa, ya_pr, yo_pi, yo_pj, yo_pa, yf_pi, yf_pj, yf_pa, yh_pi, yh_pj, yh_pa, yt_pi, yt_pj, yt_pa, la_pi, la_pj, la_pa]; assumption)) only [hi_s, hi_o, hi_k, hr_pi, hj_pi, hn_pi, hi_pas, hi_pao, hr_pa, hj_pa]; rfl
  have v11 : h_i (p_i (p_i (p_i (p_i (p_i h 93 0 0) 93 8 (nI m)) 93 5 0) 93 7 0) 93 11 0) 93 11 = nI 0 := by simp (disch := first | assumption | omega | (simp only [ya_pi, ya_pj, ya_pa, ya_pr, yo_pi, yo_pj, yo_pa, yf_pi, yf_pj, yf_pa, yh_pi, yh_pj, yh_pa, yt_pi, yt_pj, yt_pa, la_pi, la_pj, la_pa]; assumption)) only [hi_s, hi_o, hi_k, hr_pi, hj_pi, hn_pi, hi_pas, hi_pao, hr_pa, hj_pa]; rfl
  generalize p_i (p_i (p_i (p_i (p_i h 93 0 0) 93 8 (nI m)) 93 5 0) 93 7 0) 93 11 0 = h1 at fr1 v8 v5 v7 v11 ⊢
  have L1 := fr1.lay L
  refine c_plain (la_y L1 rfl) (by omega) (by omega) (fun h2 fr2 z0 => ?_)
  have L2 := fr2.lay L1
  have C5 := C.2.2.2.2.2.1
  have hl : ((s_b S).take m).length = m := by rw [List.length_take]; omega
  have hb : ∀ x ∈ (s_b S).take m, x < 256 := fun x hx => ok.2.2.2.2 x (List.mem_of_mem_take hx)
  have T2 : rtx h2 ((s_b S).take m) := ⟨by rw [fr2.i (by omega), v8, hl], by omega, fun j hj => by
    rw [hl] at hj
    rw [fr2.i (by omega), fr1.i (by omega), gd_take hj]
    exact C5.2 j (by omega), hb⟩
  have G := tz_gT hb (by omega)
  unfold t_hR at k
  have gzA : gZ (tz ((s_b S).take m) 0) 0 (zA (tz ((s_b S).take m) 0)) := g_zA G
  have hz0 : tz ((s_b S).take m) 0 = (tz ((s_b S).take m) 0).drop 0 := rfl
  generalize (s_b S).take m = tx at T2 hb hl G k gzA hz0
  generalize hts : tz tx 0 = ts at G k gzA hz0
  show ex_ (d + 59) 260 49 [some (v_r (some 93)), some (v_i (nI m)), none] [] h2 Q
  rw [b_X12_house_49 _ _ _ L2]
  refine c_next (d := d + 53) (ts := ts) (b := 0) (j := 0) L2 T2 (by rw [fr2.i (by omega)]; exact v7) (by omega) (by rw [hts]; rfl) (fun h3 fr3 R3 => ?_)
  have B := rlB_0 z0
  have ok0 : fa_ok ho_0.1 := (gd_0 (m := 0) (by decide)).1
  have S3 : rlS h2 h3 tx ts 0 ho_0 := ⟨R3, by rw [fr3.i (fun z => by unfold nxP at z; omega), fr2.i (by omega)]; exact v11, fr3.le (fun _ _ z => nx_rl z), Nat.le_refl _, [], B.2.nx fr3, Nat.le_refl _, B.1.fr ok0 fr3 (fun k _ z => by unfold nxP at z; omega)⟩
  have F : am_fr h h2 rHo := (fr1.le (fun a k z => Or.inl z.1)).tr (fr2.le (fun a k z => Or.inr (Or.inr z.1)))
  have u5 : h_i h2 93 5 = nI 0 := by rw [fr2.i (by omega)]; exact v5
  have fx : ∀ k, h_i h2 94 k = h_i h 94 k := fun k => by rw [fr2.i (by omega), fr1.i (by omega)]
  show ex_ (d + 59) 260 53 [some (v_r (some 93)), some (v_i (nI m)), none] [] h3 Q
  refine r_head G S3 (fun h4 A1 A2 => ?_)
  refine r_loop G (g_zB (g_zH G) (fun z => g_zE G ((g_zH G).1 z).2.1 ((g_zH G).1 z).2.2)) A1 A2 (show _ = zA ts from rfl) (fun z okr h5 S5 => ?_) (fun z h5 X5 => ?_)
  · rw [if_pos z] at k
    exact c_rEnd ok C okr.1 F u5 fx S5 k
  · rw [if_neg z] at k
    exact c_rEndX ok C F u5 fx X5 k
