/-! ===== the reference's deeds ===== -/
def rF (a k : Nat) : Prop := a = 94 ∧ 8 ≤ k ∧ k ≤ 138
theorem c_rParentRaw {d : Nat} {Q : Option am_V → am_H → Prop} {h : am_H} (L0 : Lay h) {c k : Nat} (hc : c < 10) (hk : k < 5) : ex_ d 264 0 [some (v_r (some 93)), some (v_i (nI c)), some (v_i (nI k))] [] h Q ↔ Q (some (v_i (h_i h 94 (18 + 4 * c + k)))) h := by
  simp (disch := first | assumption | omega | (simp only [ya_pi, ya_pj, ya_pa, ya_pr, yo_pi, yo_pj, yo_pa, yf_pi, yf_pj, yf_pa, yh_pi, yh_pj, yh_pa, yt_pi, yt_pj, yt_pa, la_pi, la_pj, la_pa]; assumption)) only [b_X12_parentAt_0, i_lit, i_m1, i_31, il_t, il_f, iq_t, iq_f, it_t, it_f, im_e, im_l, im_g, im_g2, nI_add, pk_mul, i_sub, i_div, sdm, i_dec, i_cl, iv_t, bI_or2, bI_t0, bI_one, not_true_eq_false, not_false_eq_true, ↓reduceIte, am_tl, am_tn, am_t0, am_n0, and_true, true_and, List.cons_append, List.nil_append, List.append_nil, or_true, true_or, or_false, false_or, eq_self, ior0, iand0, im_e2, oI]
theorem rfa_setp {h h' : am_H} {c : Nat} {f : fa_S} {l : List Nat} (F : rfa h f) (fr : am_fr h h' (fun a k => a = 94 ∧ (k = 8 + c ∨ (18 + 4 * c ≤ k ∧ k < 18 + 4 * c + 4)))) (h4 : ∀ k, (f_p f k).length ≤ 4) (hc : c < 10) (e1 : h_i h' 94 (8 + c) = nI l.length) (e2 : ro h' 94 (18 + 4 * c) l) : rfa h' (f_setp f c l) := by
  obtain ⟨L0, n0, F1, F2, F3, F4⟩ := F
  refine ⟨fr.lay L0, by rw [fr.i (by omega), n0]; rfl, ?_, ?_, ?_, ?_⟩
  · intro q hq
    show h_i h' 94 (8 + q) = nI (if q = c then l else f_p f q).length
    by_cases z : q = c
    · rw [if_pos z, z, e1]
    · rw [if_neg z, fr.i (by omega), F1 q hq]
  · intro q hq
    show ro h' 94 (8 + 10 + 4 * q) (if q = c then l else f_p f q)
    by_cases z : q = c
    · rw [if_pos z, z]
      exact e2
    · rw [if_neg z]
      exact fr.ro (F2 q hq) (fun k hk => by have := h4 q; omega)
  · intro q m hq hm
    rw [fr.i (by omega)]
    exact F3 q m hq hm
  · rw [fr.i (by omega)]
    exact F4
theorem c_goesGive {d : Nat} {Q : Option am_V → am_H → Prop} {h : am_H} {f : fa_S} (ok : fa_ok f) (F : rfa h f) {c p : Nat} (hc : c < 10) (hl : (f_p f c).length < 4) (k : ∀ h', am_fr h h' rF → rfa h' (f_setp f c (f_p f c ++ [p])) → Q none h') : ex_ d 290 0 [some (v_r (some 93)), some (v_i (nI c)), some (v_i (nI p))] [] h Q := by
  have L0 := F.1
  have e0 := r_cnt F hc
  have h4 := (ok.2 c).1
  simp (disch := first | assumption | omega | (simp only [ya_pi, ya_pj, ya_pa, ya_pr, yo_pi, yo_pj, yo_pa, yf_pi, yf_pj, yf_pa, yh_pi, yh_pj, yh_pa, yt_pi, yt_pj, yt_pa, la_pi, la_pj, la_pa]; assumption)) only [b_X12_goesGive_0, i_lit, i_m1, i_31, il_t, il_f, iq_t, iq_f, it_t, it_f, im_e, im_l, im_g, im_g2, nI_add, pk_mul, i_sub, i_div, sdm, i_dec, i_cl, iv_t, bI_or2, bI_t0, bI_one, not_true_eq_false, not_false_eq_true, ↓reduceIte, am_tl, am_tn, am_t0, am_n0, and_true, true_and, List.cons_append, List.nil_append, List.append_nil, or_true, true_or, or_false, false_or, eq_self, ior0, iand0, im_e2, oI, hi_s, hi_o, hi_k, hr_pi, hj_pi, hn_pi, hi_pas, hi_pao, hr_pa, hj_pa, e0]
  refine k _ ((am_fr_pi (by unfold rF; omega)).pi (by unfold rF; omega)) (rfa_setp F ((am_fr_pi (by omega)).pi (by omega)) (fun k => (ok.2 k).1) hc ?_ ?_)
  · rw [hi_s, List.length_append]
    rfl
  · have := ro_app (q := p) (F.2.2.2.1 c hc)
    intro j hj
    rw [hi_k (by rw [List.length_append, List.length_singleton] at hj; omega)]
    exact this j hj
theorem c_goesTake {d : Nat} {Q : Option am_V → am_H → Prop} {h : am_H} {f : fa_S} (ok : fa_ok f) (F : rfa h f) {c i : Nat} (hc : c < 10) (hi : i < (f_p f c).length) {l3 : Option am_V} (k : ∀ h', am_fr h h' rF → rfa h' (f_setp f c ((f_p f c).eraseIdx i)) → Q none h') : ex_ (d + 1) 291 0 [some (v_r (some 93)), some (v_i (nI c)), some (v_i (nI i)), l3] [] h Q := by
  have L0 := F.1
  have e0 := r_cnt F hc
  have h4 := (ok.2 c).1
  have er := F.2.2.2.1 c hc
  generalize hl : f_p f c = l at *
  simp (disch := first | assumption | omega | (simp only [ya_pi, ya_pj, ya_pa, ya_pr, yo_pi, yo_pj, yo_pa, yf_pi, yf_pj, yf_pa, yh_pi, yh_pj, yh_pa, yt_pi, yt_pj, yt_pa, la_pi, la_pj, la_pa]; assumption)) only [b_X12_goesTake_0, b_X12_goesTake_64, b_X12_goesTake_20, b_X12_goesTake_56, b_X12_goesTake_45, b_X12_goesTake_53, i_lit, i_m1, i_31, il_t, il_f, iq_t, iq_f, it_t, it_f, im_e, im_l, im_g, im_g2, nI_add, pk_mul, i_sub, i_div, sdm, i_dec, i_cl, iv_t, bI_or2, bI_t0, bI_one, not_true_eq_false, not_false_eq_true, ↓reduceIte, am_tl, am_tn, am_t0, am_n0, and_true, true_and, List.cons_append, List.nil_append, List.append_nil, or_true, true_or, or_false, false_or, eq_self, ior0, iand0, im_e2, oI, hi_s, hi_o, hi_k, hr_pi, hj_pi, hn_pi, hi_pas, hi_pao, hr_pa, hj_pa, e0]
  have L1 := lp_up (d := d + 1) (k := 291) (pc := 15) (Q := Q) (4 - i) (fun j (_ : Unit) => [some (v_r (some 93)), some (v_i (nI c)), some (v_i (nI i)), some (v_i (nI (i + j)))]) (fun j _ h' => am_fr h h' (fun a k => a = 94 ∧ (k = 8 + c ∨ (18 + 4 * c ≤ k ∧ k < 18 + 4 * c + 4))) ∧ h_i h' 94 (8 + c) = nI (l.length - 1) ∧ (∀ q, q < i + j → q < l.length - 1 → h_i h' 94 (18 + 4 * c + q) = nI ((l.eraseIdx i).getD q 0)) ∧ ∀ q, i + j ≤ q → q < l.length → h_i h' 94 (18 + 4 * c + q) = nI (l.getD q 0)) ?_ ?_ (Nat.zero_le _) (s := ()) (h := p_i h 94 (8 + c) (nI (l.length - 1))) ⟨am_fr_pi (by omega), hi_s, ?_, ?_⟩
  · exact L1
  · rintro j - h' hj ⟨fr, e1, e2, e3⟩ nx
    have L1 : Lay h' := fr.lay L0
    have A1 : y_arr h' 94 20 7053 := la_y L1 rfl
    rw [b_X12_goesTake_15 _ _ _ _ _]
    by_cases z : i + j < l.length - 1
    · have e4 := e3 (i + j + 1) (by omega) (by omega)
      simp (disch := first | assumption | omega | (simp only [ya_pi, ya_pj, ya_pa, ya_pr, yo_pi, yo_pj, yo_pa, yf_pi, yf_pj, yf_pa, yh_pi, yh_pj, yh_pa, yt_pi, yt_pj, yt_pa, la_pi, la_pj, la_pa]; assumption)) only [b_X12_goesTake_0, b_X12_goesTake_64, b_X12_goesTake_20, b_X12_goesTake_56, b_X12_goesTake_45, b_X12_goesTake_53, i_lit, i_m1, i_31, il_t, il_f, iq_t, iq_f, it_t, it_f, im_e, im_l, im_g, im_g2, nI_add, pk_mul, i_sub, i_div, sdm, i_dec, i_cl, iv_t, bI_or2, bI_t0, bI_one, not_true_eq_false, not_false_eq_true, ↓reduceIte, am_tl, am_tn, am_t0, am_n0, and_true, true_and, List.cons_append, List.nil_append, List.append_nil, or_true, true_or, or_false, false_or, eq_self, ior0, iand0, im_e2, oI, e1, c_rParentRaw L1 hc (show i + j + 1 < 5 by omega), e4]
      refine nx () _ ⟨fr.pi (by omega), by rw [hi_k (by omega), e1], fun q hq hq2 => ?_, fun q hq hq2 => by rw [hi_k (by omega)]; exact e3 q (by omega) hq2⟩
      by_cases w : q = i + j
      · rw [w, hi_s, gd_er, if_neg (by omega)]
      · rw [hi_k (by omega)]
        exact e2 q (by omega) hq2
    · simp (disch := first | assumption | omega | (simp only [ya_pi, ya_pj, ya_pa, ya_pr, yo_pi, yo_pj, yo_pa, yf_pi, yf_pj, yf_pa, yh_pi, yh_pj, yh_pa, yt_pi, yt_pj, yt_pa, la_pi, la_pj, la_pa]; assumption)) only [b_X12_goesTake_0, b_X12_goesTake_64, b_X12_goesTake_20, b_X12_goesTake_56, b_X12_goesTake_45, b_X12_goesTake_53, i_lit, i_m1, i_31, il_t, il_f, iq_t, iq_f, it_t, it_f, im_e, im_l, im_g, im_g2, nI_add, pk_mul, i_sub, i_div, sdm, i_dec, i_cl, iv_t, bI_or2, bI_t0, bI_one, not_true_eq_false, not_false_eq_true, ↓reduceIte, am_tl, am_tn, am_t0, am_n0, and_true, true_and, List.cons_append, List.nil_append, List.append_nil, or_true, true_or, or_false, false_or, eq_self, ior0, iand0, im_e2, oI, e1]
      refine nx () _ ⟨fr.pi (by omega), by rw [hi_k (by omega), e1], fun q hq hq2 => ?_, fun q hq hq2 => by omega⟩
      rw [hi_k (by omega)]
      exact e2 q (by omega) hq2
  · rintro - h' ⟨fr, e1, e2, e3⟩
    have hel : (l.eraseIdx i).length = l.length - 1 := List.length_eraseIdx_of_lt hi
    rw [b_X12_goesTake_15 _ _ _ _ _]
    simp (disch := first | assumption | omega | (simp only [ya_pi, ya_pj, ya_pa, ya_pr, yo_pi, yo_pj, yo_pa, yf_pi, yf_pj, yf_pa, yh_pi, yh_pj, yh_pa, yt_pi, yt_pj, yt_pa, la_pi, la_pj, la_pa]; assumption)) only [b_X12_goesTake_0, b_X12_goesTake_64, b_X12_goesTake_20, b_X12_goesTake_56, b_X12_goesTake_45, b_X12_goesTake_53, i_lit, i_m1, i_31, il_t, il_f, iq_t, iq_f, it_t, it_f, im_e, im_l, im_g, im_g2, nI_add, pk_mul, i_sub, i_div, sdm, i_dec, i_cl, iv_t, bI_or2, bI_t0, bI_one, not_true_eq_false, not_false_eq_true, ↓reduceIte, am_tl, am_tn, am_t0, am_n0, and_true, true_and, List.cons_append, List.nil_append, List.append_nil, or_true, true_or, or_false, false_or, eq_self, ior0, iand0, im_e2, oI]
    refine k h' (fr.le (fun a k z => by unfold rF; omega)) (rfa_setp F fr (fun k => (ok.2 k).1) hc (by rw [e1, hel]) (fun q hq => e2 q (by omega) (by omega)))
  · intro q hq hq2
    rw [hi_k (by omega), gd_er, if_pos (by omega)]
    exact er q (by omega)
  · intro q hq hq2
    rw [hi_k (by omega)]
    exact er q (by omega)
theorem c_goesSwap {d : Nat} {Q : Option am_V → am_H → Prop} {h : am_H} {f : fa_S} (ok : fa_ok f) (F : rfa h f) {c i : Nat} (hc : c < 10) (hi : i + 1 < (f_p f c).length) {l3 : Option am_V} (k : ∀ h', am_fr h h' rF → rfa h' (f_setp f c (sw (f_p f c) i)) → Q none h') : ex_ (d + 1) 292 0 [some (v_r (some 93)), some (v_i (nI c)), some (v_i (nI i)), l3] [] h Q := by
  have L0 := F.1
  have A1 : y_arr h 94 20 7053 := la_y L0 rfl
  have e0 := r_cnt F hc
  have h4 := (ok.2 c).1
  have er := F.2.2.2.1 c hc
  simp (disch := first | assumption | omega | (simp only [ya_pi, ya_pj, ya_pa, ya_pr, yo_pi, yo_pj, yo_pa, yf_pi, yf_pj, yf_pa, yh_pi, yh_pj, yh_pa, yt_pi, yt_pj, yt_pa, la_pi, la_pj, la_pa]; assumption)) only [b_X12_goesSwap_0, b_X12_goesSwap_6, b_X12_goesSwap_27, i_lit, i_m1, i_31, il_t, il_f, iq_t, iq_f, it_t, it_f, im_e, im_l, im_g, im_g2, nI_add, pk_mul, i_sub, i_div, sdm, i_dec, i_cl, iv_t, bI_or2, bI_t0, bI_one, not_true_eq_false, not_false_eq_true, ↓reduceIte, am_tl, am_tn, am_t0, am_n0, and_true, true_and, List.cons_append, List.nil_append, List.append_nil, or_true, true_or, or_false, false_or, eq_self, ior0, iand0, im_e2, oI, hi_s, hi_o, hi_k, hr_pi, hj_pi, hn_pi, hi_pas, hi_pao, hr_pa, hj_pa, c_rParentAt F hc (show i < (f_p f c).length by omega) h4, c_rParentAt F hc hi h4]
  refine k _ ((am_fr_pi (by unfold rF; omega)).pi (by unfold rF; omega)) (rfa_setp F ((am_fr_pi (by omega)).pi (by omega)) (fun k => (ok.2 k).1) hc ?_ ?_)
  · rw [hi_k (by omega), hi_k (by omega), e0, sw_len]
  · intro j hj
    rw [sw_len] at hj
    rw [sw, gd_set (by rw [List.length_set]; omega), gd_set (by omega)]
    by_cases z1 : j = i + 1
    · subst z1
      rw [if_pos rfl, show 18 + 4 * c + (i + 1) = 18 + 4 * c + i + 1 from by omega, hi_s]
    · rw [if_neg z1, hi_k (by omega)]
      by_cases z2 : j = i
      · subst z2
        rw [if_pos rfl, hi_s]
      · rw [if_neg z2, hi_k (by omega)]
        exact er j hj
theorem w_iff2 {n : Nat} (hn : n ≤ 1000) {v : Int64} : (v < lN 0 ∨ lN n - lN 1 < v) = ¬ lh n v := by
  rw [← w_iff hn]
  congr 1
  congr 1
  by_cases z : n = 0
  · subst z
    decide
  · rw [pk_sub (by omega), nI_l (by omega), lN_sub (by omega)]
theorem l_32 {k : Nat} (h : k < 2147483648) : (lN k).toInt32 = nI k := lN_i ..
