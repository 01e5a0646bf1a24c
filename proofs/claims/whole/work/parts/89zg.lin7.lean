/-! ===== the class reads a text: all of it ===== -/
theorem c_step0 {d : Nat} {Q : Option am_V → am_H → Prop} {h : am_H} {ts : List (Nat × Nat)} (G : gT ts) (L : Lay h) (T : tkA h ts) : ex_ d 115 0 [some (v_r (some 2))] [] (p_i h 2 5 (-1 : Int32)) Q ↔ Q none (p_i (p_i (p_i h 2 5 (-1 : Int32)) 2 5 (nI 0)) 2 6 (nI (tK ts 0))) := by
  have t1 := T.1
  have t2 := T.2.1
  have hi := G.2.2.2
  have t3 := (T.2.2.1 0 hi).1
  have e : (-1 : Int32) + 1 = nI 0 := by decide
  have L2 : Lay (p_i h 2 5 (-1 : Int32)) := by simp only [ya_pi, ya_pj, ya_pa, ya_pr, yo_pi, yo_pj, yo_pa, yf_pi, yf_pj, yf_pa, yh_pi, yh_pj, yh_pa, yt_pi, yt_pj, yt_pa, la_pi, la_pj, la_pa]; exact L
  rw [b_X8_step_0 _ L2]
  simp only [show h_i (p_i h 2 5 (-1 : Int32)) 2 5 = -1 from hi_s, e]
  generalize hx : p_i (p_i h 2 5 (-1 : Int32)) 2 5 (nI 0) = h2
  have L3 : Lay h2 := by rw [← hx]; simp only [ya_pi, ya_pj, ya_pa, ya_pr, yo_pi, yo_pj, yo_pa, yf_pi, yf_pj, yf_pa, yh_pi, yh_pj, yh_pa, yt_pi, yt_pj, yt_pa, la_pi, la_pj, la_pa]; exact L
  have e5 : h_i h2 2 5 = nI 0 := by rw [← hx]; exact hi_s
  have e4 : h_i h2 2 4 = nI ts.length := by rw [← hx]; simp (disch := first | assumption | omega | (simp only [ya_pi, ya_pj, ya_pa, ya_pr, yo_pi, yo_pj, yo_pa, yf_pi, yf_pj, yf_pa, yh_pi, yh_pj, yh_pa, yt_pi, yt_pj, yt_pa, la_pi, la_pj, la_pa]; assumption)) only [hi_s, hi_o, hi_k, hr_pi, hj_pi, hn_pi, hi_pas, hi_pao, hr_pa, hj_pa]; exact t1
  have e3 : h_i h2 3 0 = nI (tK ts 0) := by rw [← hx]; simp (disch := first | assumption | omega | (simp only [ya_pi, ya_pj, ya_pa, ya_pr, yo_pi, yo_pj, yo_pa, yf_pi, yf_pj, yf_pa, yh_pi, yh_pj, yh_pa, yt_pi, yt_pj, yt_pa, la_pi, la_pj, la_pa]; assumption)) only [hi_s, hi_o, hi_k, hr_pi, hj_pi, hn_pi, hi_pas, hi_pao, hr_pa, hj_pa]; exact t3
  simp (disch := first | assumption | omega | (simp only [ya_pi, ya_pj, ya_pa, ya_pr, yo_pi, yo_pj, yo_pa, yf_pi, yf_pj, yf_pa, yh_pi, yh_pj, yh_pa, yt_pi, yt_pj, yt_pa, la_pi, la_pj, la_pa]; assumption)) only [b_X8_step_18, b_X8_step_29, b_X8_step_41, i_lit, i_m1, i_31, il_t, il_f, iq_t, iq_f, it_t, it_f, im_e, im_l, im_g, im_g2, nI_add, pk_mul, i_sub, i_div, sdm, i_dec, i_cl, iv_t, bI_or2, bI_t0, bI_one, not_true_eq_false, not_false_eq_true, ↓reduceIte, am_tl, am_tn, am_t0, am_n0, and_true, true_and, List.cons_append, List.nil_append, List.append_nil, e5, e4, e3]
theorem zP_p {ts : List (Nat × Nat)} {m : Nat} {r : lR_} (z : r.1 = 0) (t : ¬ tK ts r.2.1 = 1) : zP ts (m + 1) r = zP ts m (zB (zI ts r.2.1 r.2.2) (zE ts)) := by
  show (if r.1 = 0 then (if tK ts r.2.1 = 1 then r else zP ts m (zB (zI ts r.2.1 r.2.2) (zE ts))) else r) = _
  rw [if_pos z, if_neg t]
theorem zP_e {ts : List (Nat × Nat)} {m : Nat} {r : lR_} (z : ¬ r.1 = 0 ∨ tK ts r.2.1 = 1) : zP ts m r = r := by
  cases m with
  | zero => rfl
  | succ m =>
    show (if r.1 = 0 then (if tK ts r.2.1 = 1 then r else zP ts m (zB (zI ts r.2.1 r.2.2) (zE ts))) else r) = _
    by_cases y : r.1 = 0
    · rw [if_pos y]
      rcases z with z | z
      · exact absurd y z
      · rw [if_pos z]
    · rw [if_neg y]
theorem zB_y {r : lR_} {g : Nat → ho_S → lR_} (z : r.1 = 0) : zB r g = g r.2.1 r.2.2 := if_pos z
theorem zB_n {r : lR_} {g : Nat → ho_S → lR_} (z : ¬ r.1 = 0) : zB r g = r := if_neg z
theorem c_readLoop {d : Nat} {Q : Option am_V → am_H → Prop} {h0 : am_H} {ts : List (Nat × Nat)} {n : Int32} {l1 : Option am_V} (G : gT ts) (K : lOK h0 ts (zA ts) Q) : ∀ (r : lR_) (h1 : am_H), gZ ts 0 r → (r.1 = 0 → clS h0 h1 ts r.2.1 r.2.2) → (¬ r.1 = 0 → clX h0 h1 ts r.1 r.2.1) → zP ts 902 r = zA ts → ex_ (d + 62) 139 87 [some (v_r (some 2)), l1, some (v_i n), some (v_i (nI (if r.1 = 0 then 1 else 0))), some (v_i (nI 0))] [] h1 Q := by
  intro r h1 g0 A1 A2 E1
  generalize zA ts = R at K E1
  refine lp_wf (d := d + 62) (k := 139) (pc := 87) (fun s : Nat × lR_ => 901 - s.1) (fun s => [some (v_r (some 2)), l1, some (v_i n), some (v_i (nI (if s.2.1 = 0 then 1 else 0))), some (v_i (nI s.1))]) (fun s h1 => s.1 ≤ 900 ∧ gZ ts s.1 s.2 ∧ (s.2.1 = 0 → clS h0 h1 ts s.2.2.1 s.2.2.2) ∧ (¬ s.2.1 = 0 → clX h0 h1 ts s.2.1 s.2.2.1) ∧ zP ts (902 - s.1) s.2 = R) ?_ (s := (0, r)) ⟨Nat.zero_le _, g0, A1, A2, E1⟩
  clear E1 A1 A2 g0
  rintro ⟨j, r⟩ h1 ⟨hj, g0, A1, A2, E1⟩ nx
  have hj : j ≤ 900 := hj
  have g0 : gZ ts j r := g0
  have A1 : r.1 = 0 → clS h0 h1 ts r.2.1 r.2.2 := A1
  have A2 : ¬ r.1 = 0 → clX h0 h1 ts r.1 r.2.1 := A2
  have E1 : zP ts (902 - j) r = R := E1
  show ex_ (d + 62) 139 87 [some (v_r (some 2)), l1, some (v_i n), some (v_i (nI (if r.1 = 0 then 1 else 0))), some (v_i (nI j))] [] h1 Q
  have G3 := G.2.2.1
  by_cases z : r.1 = 0
  · obtain ⟨q1, q2, q3⟩ := g0.1 z
    have S := A1 z
    have L := S.1.1
    have s6 := S.1.2.2.2.1
    have t4 := G.2.1 r.2.1
    have j9 : ¬ 900 ≤ j := by omega
    rw [if_pos z, b_X8_read_87 _ _ _ _ _ _]
    by_cases t : tK ts r.2.1 = 1
    · rw [zP_e (Or.inr t)] at E1
      subst E1
      simp (disch := first | assumption | omega | (simp only [ya_pi, ya_pj, ya_pa, ya_pr, yo_pi, yo_pj, yo_pa, yf_pi, yf_pj, yf_pa, yh_pi, yh_pj, yh_pa, yt_pi, yt_pj, yt_pa, la_pi, la_pj, la_pa]; assumption)) only [b_X8_read_95, b_X8_read_99, b_X8_read_133, i_lit, i_m1, i_31, il_t, il_f, iq_t, iq_f, it_t, it_f, im_e, im_l, im_g, im_g2, nI_add, pk_mul, i_sub, i_div, sdm, i_dec, i_cl, iv_t, bI_or2, bI_t0, bI_one, not_true_eq_false, not_false_eq_true, ↓reduceIte, am_tl, am_tn, am_t0, am_n0, and_true, true_and, List.cons_append, List.nil_append, List.append_nil, s6, t, or_true]
      exact K.1 z h1 S
    · have e9 : 902 - j = (902 - (j + 1)) + 1 := by omega
      rw [e9, zP_p z t] at E1
      simp (disch := first | assumption | omega | (simp only [ya_pi, ya_pj, ya_pa, ya_pr, yo_pi, yo_pj, yo_pa, yf_pi, yf_pj, yf_pa, yh_pi, yh_pj, yh_pa, yt_pi, yt_pj, yt_pa, la_pi, la_pj, la_pa]; assumption)) only [b_X8_read_95, b_X8_read_99, b_X8_read_107, i_lit, i_m1, i_31, il_t, il_f, iq_t, iq_f, it_t, it_f, im_e, im_l, im_g, im_g2, nI_add, pk_mul, i_sub, i_div, sdm, i_dec, i_cl, iv_t, bI_or2, bI_t0, bI_one, not_true_eq_false, not_false_eq_true, ↓reduceIte, am_tl, am_tn, am_t0, am_n0, and_true, true_and, List.cons_append, List.nil_append, List.append_nil, s6]
      have gi := g_zI (i := r.2.1) G q2 q3
      -- the next round
      have nxt : ∀ (r2 : lR_) h2, zB (zI ts r.2.1 r.2.2) (zE ts) = r2 → gZ ts (j + 1) r2 → (r2.1 = 0 → clS h0 h2 ts r2.2.1 r2.2.2) → (¬ r2.1 = 0 → clX h0 h2 ts r2.1 r2.2.1) → ex_ (d + 62) 139 87 [some (v_r (some 2)), l1, some (v_i n), some (v_i (nI (if r2.1 = 0 then 1 else 0))), some (v_i (nI (j + 1)))] [] h2 Q := fun r2 h2 e g2 B1 B2 => nx (j + 1, r2) h2 (by show 901 - (j + 1) < 901 - j; omega) ⟨by show j + 1 ≤ 900; omega, g2, B1, B2, by rw [e] at E1; exact E1⟩
      refine c_readLine8 G q3 S ⟨fun z2 h2 S2 => ?_, fun z2 h2 X2 => ?_⟩
      · obtain ⟨w1, w2, w3⟩ := gi.1 z2
        have L2 := S2.1.1
        have ge := g_zE (i := (zI ts r.2.1 r.2.2).2.1) G w2 w3
        have eB := zB_y (g := zE ts) z2
        simp (disch := first | assumption | omega | (simp only [ya_pi, ya_pj, ya_pa, ya_pr, yo_pi, yo_pj, yo_pa, yf_pi, yf_pj, yf_pa, yh_pi, yh_pj, yh_pa, yt_pi, yt_pj, yt_pa, la_pi, la_pj, la_pa]; assumption)) only [b_X8_read_111, b_X8_read_114, i_lit, i_m1, i_31, il_t, il_f, iq_t, iq_f, it_t, it_f, im_e, im_l, im_g, im_g2, nI_add, pk_mul, i_sub, i_div, sdm, i_dec, i_cl, iv_t, bI_or2, bI_t0, bI_one, not_true_eq_false, not_false_eq_true, ↓reduceIte, am_tl, am_tn, am_t0, am_n0, and_true, true_and, List.cons_append, List.nil_append, List.append_nil]
        have nx2 := fun r2 => nxt r2
        generalize zI ts r.2.1 r.2.2 = ri at nx2 eB ge w1 w2 w3 S2 z2
        refine c_endLine (d := d + 59) G w3.1.1 S2 ⟨fun z3 h3 S3 => ?_, fun z3 h3 X3 => ?_⟩
        · have := nx2 _ h3 eB ⟨fun y => ⟨by have := (ge.1 y).1; omega, (ge.1 y).2⟩, ge.2⟩ (fun _ => S3) (fun y => absurd z3 y)
          rw [if_pos z3] at this
          simp (disch := first | assumption | omega | (simp only [ya_pi, ya_pj, ya_pa, ya_pr, yo_pi, yo_pj, yo_pa, yf_pi, yf_pj, yf_pa, yh_pi, yh_pj, yh_pa, yt_pi, yt_pj, yt_pa, la_pi, la_pj, la_pa]; assumption)) only [b_X8_read_118, b_X8_read_121, i_lit, i_m1, i_31, il_t, il_f, iq_t, iq_f, it_t, it_f, im_e, im_l, im_g, im_g2, nI_add, pk_mul, i_sub, i_div, sdm, i_dec, i_cl, iv_t, bI_or2, bI_t0, bI_one, not_true_eq_false, not_false_eq_true, ↓reduceIte, am_tl, am_tn, am_t0, am_n0, and_true, true_and, List.cons_append, List.nil_append, List.append_nil]
          exact this
        · have := nx2 _ h3 eB ⟨fun y => absurd y z3, ge.2⟩ (fun y => absurd y z3) (fun _ => X3)
          rw [if_neg z3] at this
          simp (disch := first | assumption | omega | (simp only [ya_pi, ya_pj, ya_pa, ya_pr, yo_pi, yo_pj, yo_pa, yf_pi, yf_pj, yf_pa, yh_pi, yh_pj, yh_pa, yt_pi, yt_pj, yt_pa, la_pi, la_pj, la_pa]; assumption)) only [b_X8_read_118, b_X8_read_125, i_lit, i_m1, i_31, il_t, il_f, iq_t, iq_f, it_t, it_f, im_e, im_l, im_g, im_g2, nI_add, pk_mul, i_sub, i_div, sdm, i_dec, i_cl, iv_t, bI_or2, bI_t0, bI_one, not_true_eq_false, not_false_eq_true, ↓reduceIte, am_tl, am_tn, am_t0, am_n0, and_true, true_and, List.cons_append, List.nil_append, List.append_nil]
          exact this
      · have eB := zB_n (g := zE ts) z2
        have := nxt _ h2 eB ⟨fun y => absurd y z2, gi.2⟩ (fun y => absurd y z2) (fun _ => X2)
        rw [if_neg z2] at this
        simp (disch := first | assumption | omega | (simp only [ya_pi, ya_pj, ya_pa, ya_pr, yo_pi, yo_pj, yo_pa, yf_pi, yf_pj, yf_pa, yh_pi, yh_pj, yh_pa, yt_pi, yt_pj, yt_pa, la_pi, la_pj, la_pa]; assumption)) only [b_X8_read_111, b_X8_read_125, i_lit, i_m1, i_31, il_t, il_f, iq_t, iq_f, it_t, it_f, im_e, im_l, im_g, im_g2, nI_add, pk_mul, i_sub, i_div, sdm, i_dec, i_cl, iv_t, bI_or2, bI_t0, bI_one, not_true_eq_false, not_false_eq_true, ↓reduceIte, am_tl, am_tn, am_t0, am_n0, and_true, true_and, List.cons_append, List.nil_append, List.append_nil]
        exact this
  · rw [zP_e (Or.inl z)] at E1
    subst E1
    rw [if_neg z, b_X8_read_87 _ _ _ _ _ _]
    by_cases j9 : 900 ≤ j
    · simp (disch := first | assumption | omega | (simp only [ya_pi, ya_pj, ya_pa, ya_pr, yo_pi, yo_pj, yo_pa, yf_pi, yf_pj, yf_pa, yh_pi, yh_pj, yh_pa, yt_pi, yt_pj, yt_pa, la_pi, la_pj, la_pa]; assumption)) only [b_X8_read_133, i_lit, i_m1, i_31, il_t, il_f, iq_t, iq_f, it_t, it_f, im_e, im_l, im_g, im_g2, nI_add, pk_mul, i_sub, i_div, sdm, i_dec, i_cl, iv_t, bI_or2, bI_t0, bI_one, not_true_eq_false, not_false_eq_true, ↓reduceIte, am_tl, am_tn, am_t0, am_n0, and_true, true_and, List.cons_append, List.nil_append, List.append_nil, true_or]
      exact K.2 z h1 (A2 z)
    · simp (disch := first | assumption | omega | (simp only [ya_pi, ya_pj, ya_pa, ya_pr, yo_pi, yo_pj, yo_pa, yf_pi, yf_pj, yf_pa, yh_pi, yh_pj, yh_pa, yt_pi, yt_pj, yt_pa, la_pi, la_pj, la_pa]; assumption)) only [b_X8_read_95, b_X8_read_133, i_lit, i_m1, i_31, il_t, il_f, iq_t, iq_f, it_t, it_f, im_e, im_l, im_g, im_g2, nI_add, pk_mul, i_sub, i_div, sdm, i_dec, i_cl, iv_t, bI_or2, bI_t0, bI_one, not_true_eq_false, not_false_eq_true, ↓reduceIte, am_tl, am_tn, am_t0, am_n0, and_true, true_and, List.cons_append, List.nil_append, List.append_nil, true_or]
      exact K.2 z h1 (A2 z)
