theorem n2_0 : ¬ nI 2 = nI 0 := by decide
theorem n1_0 : ¬ nI 1 = nI 0 := by decide
theorem c_whyGive_N {d : Nat} {Q : Option am_V → am_H → Prop} {h : am_H} {f : fa_S} (ok : fa_ok f) (F : rfa h f) {a b : Nat} (ha : a < 1000) (hb : b < 1000) {l2 l4 : Option am_V} : ex_ (d + 2) 286 0 [some (v_r (some 93)), some (v_l (lN a)), l2, some (v_l (lN b)), l4] [] h Q ↔ Q (some (v_i (d_add f (nI a) (nI b)).1)) h := by
  rw [← c_whyGive (Q := Q) (d := d) ok F (l2 := l2) (l4 := l4), nI_l (by omega), nI_l (by omega)]
theorem c_whyTake_N {d : Nat} {Q : Option am_V → am_H → Prop} {h : am_H} {f : fa_S} (ok : fa_ok f) (F : rfa h f) {a b : Nat} (ha : a < 1000) (hb : b < 1000) {l2 l4 : Option am_V} : ex_ (d + 2) 287 0 [some (v_r (some 93)), some (v_l (lN a)), l2, some (v_l (lN b)), l4] [] h Q ↔ Q (some (v_i (d_rem f (nI a) (nI b)).1)) h := by
  rw [← c_whyTake (Q := Q) (d := d) ok F (l2 := l2) (l4 := l4), nI_l (by omega), nI_l (by omega)]
theorem c_whySwap_N {d : Nat} {Q : Option am_V → am_H → Prop} {h : am_H} {f : fa_S} (ok : fa_ok f) (F : rfa h f) {a b : Nat} (ha : a < 1000) (hb : b < 1000) {l2 l4 : Option am_V} : ex_ (d + 2) 288 0 [some (v_r (some 93)), some (v_l (lN a)), l2, some (v_l (lN b)), l4] [] h Q ↔ Q (some (v_i (d_swap f (nI a) (nI b)).1)) h := by
  rw [← c_whySwap (Q := Q) (d := d) ok F (l2 := l2) (l4 := l4), nI_l (by omega), nI_l (by omega)]
theorem c_whyDefine_N {d : Nat} {Q : Option am_V → am_H → Prop} {h : am_H} {f : fa_S} (gd : fa_gd f) (F : rfa h f) {a b c : Nat} (ha : a < 1000) (hb : b < 1000) (hc : c < 1000) {l2 l4 l6 : Option am_V} : ex_ (d + 2) 289 0 [some (v_r (some 93)), some (v_l (lN a)), l2, some (v_l (lN b)), l4, some (v_l (lN c)), l6] [] h Q ↔ Q (some (v_i (d_def f (nI a) (nI b) (nI c)).1)) h := by
  rw [← c_whyDefine (Q := Q) (d := d) gd F (l2 := l2) (l4 := l4) (l6 := l6), nI_l (by omega), nI_l (by omega), nI_l (by omega)]
theorem c_whyNot {d : Nat} {Q : Option am_V → am_H → Prop} {h : am_H} {f : fa_S} (gd : fa_gd f) (F : rfa h f) {v : Int64} {l2 : Option am_V} : ex_ (d + 3) 300 0 [some (v_r (some 93)), some (v_l v), l2] [] h Q ↔ Q (some (v_i (d_do f v).1)) h := by
  have ok := gd.1
  have L0 := F.1
  unfold d_do
  by_cases h1 : v < lN 10
  · rw [if_pos (Or.inl h1)]
    have hv : ∀ a, 10 ≤ a → a < 10000 → (v < lN a) = True := fun a h2 h3 => by
      apply eq_true
      rw [Int64.lt_iff_toInt_lt, lI (by omega)] at *
      omega
    have v1 := hv 10 (by omega) (by omega)
    have v2 := hv 100 (by omega) (by omega)
    have v3 := hv 200 (by omega) (by omega)
    have v4 := hv 300 (by omega) (by omega)
    have v5 := hv 1000 (by omega) (by omega)
    simp (disch := first | assumption | omega | (simp only [ya_pi, ya_pj, ya_pa, ya_pr, yo_pi, yo_pj, yo_pa, yf_pi, yf_pj, yf_pa, yh_pi, yh_pj, yh_pa, yt_pi, yt_pj, yt_pa, la_pi, la_pj, la_pa]; assumption)) only [b_X12_whyNot_0, b_X12_whyNot_10, b_X12_whyNot_15, b_X12_whyNot_13, b_X12_whyNot_25, b_X12_whyNot_47, b_X12_whyNot_28, b_X12_whyNot_57, b_X12_whyNot_46, b_X12_whyNot_79, b_X12_whyNot_60, b_X12_whyNot_89, b_X12_whyNot_78, b_X12_whyNot_111, b_X12_whyNot_92, b_X12_whyNot_121, b_X12_whyNot_110, b_X12_whyNot_154, b_X12_whyNot_124, b_X12_whyNot_151, i_lit, i_m1, i_31, il_t, il_f, iq_t, iq_f, it_t, it_f, im_e, im_l, im_g, im_g2, nI_add, pk_mul, i_sub, i_div, sdm, i_dec, i_cl, iv_t, bI_or2, bI_t0, bI_one, not_true_eq_false, not_false_eq_true, ↓reduceIte, am_tl, am_tn, am_t0, am_n0, and_true, true_and, List.cons_append, List.nil_append, List.append_nil, or_true, true_or, or_false, false_or, eq_self, ior0, iand0, im_e2, oI, l_lit, c_within, v1, v2, v3, v4, v5]
  · by_cases h2 : lN 1299 < v
    · rw [if_pos (Or.inr h2)]
      have hv : ∀ a, a ≤ 1299 → (lN a < v) = True := fun a h3 => by
        apply eq_true
        rw [Int64.lt_iff_toInt_lt, lI (by omega)] at *
        omega
      have v1 := hv 19 (by omega)
      have v2 := hv 199 (by omega)
      have v3 := hv 299 (by omega)
      have v4 := hv 399 (by omega)
      have v5 := hv 1299 (by omega)
      simp (disch := first | assumption | omega | (simp only [ya_pi, ya_pj, ya_pa, ya_pr, yo_pi, yo_pj, yo_pa, yf_pi, yf_pj, yf_pa, yh_pi, yh_pj, yh_pa, yt_pi, yt_pj, yt_pa, la_pi, la_pj, la_pa]; assumption)) only [b_X12_whyNot_0, b_X12_whyNot_10, b_X12_whyNot_15, b_X12_whyNot_13, b_X12_whyNot_25, b_X12_whyNot_47, b_X12_whyNot_28, b_X12_whyNot_57, b_X12_whyNot_46, b_X12_whyNot_79, b_X12_whyNot_60, b_X12_whyNot_89, b_X12_whyNot_78, b_X12_whyNot_111, b_X12_whyNot_92, b_X12_whyNot_121, b_X12_whyNot_110, b_X12_whyNot_154, b_X12_whyNot_124, b_X12_whyNot_151, i_lit, i_m1, i_31, il_t, il_f, iq_t, iq_f, it_t, it_f, im_e, im_l, im_g, im_g2, nI_add, pk_mul, i_sub, i_div, sdm, i_dec, i_cl, iv_t, bI_or2, bI_t0, bI_one, not_true_eq_false, not_false_eq_true, ↓reduceIte, am_tl, am_tn, am_t0, am_n0, and_true, true_and, List.cons_append, List.nil_append, List.append_nil, or_true, true_or, or_false, false_or, eq_self, ior0, iand0, im_e2, oI, l_lit, c_within, v1, v2, v3, v4, v5]
    · obtain ⟨n, hn1, hn2, rfl⟩ := lN_rng h1 h2 (by omega) (by omega)
      rw [if_neg (fun z => by rcases z with z | z; exact h1 z; exact h2 z), lN_i, nI_clamp (by omega)]
      unfold d_doN
      have e2 : n % 10 = n % 100 % 10 := by omega
      have e3 : n / 10 % 10 = n % 100 / 10 := by omega
      by_cases z : n / 100 = 0
      · rw [if_pos z, d_mood]
        by_cases z2 : n < 20
        · rw [if_pos ⟨nI_pos (by omega), nI_lt (by omega) (by omega)⟩]
          simp (disch := first | assumption | omega | (simp only [ya_pi, ya_pj, ya_pa, ya_pr, yo_pi, yo_pj, yo_pa, yf_pi, yf_pj, yf_pa, yh_pi, yh_pj, yh_pa, yt_pi, yt_pj, yt_pa, la_pi, la_pj, la_pa]; assumption)) only [b_X12_whyNot_0, b_X12_whyNot_10, b_X12_whyNot_15, b_X12_whyNot_13, b_X12_whyNot_25, b_X12_whyNot_47, b_X12_whyNot_28, b_X12_whyNot_57, b_X12_whyNot_46, b_X12_whyNot_79, b_X12_whyNot_60, b_X12_whyNot_89, b_X12_whyNot_78, b_X12_whyNot_111, b_X12_whyNot_92, b_X12_whyNot_121, b_X12_whyNot_110, b_X12_whyNot_154, b_X12_whyNot_124, b_X12_whyNot_151, i_lit, i_m1, i_31, il_t, il_f, iq_t, iq_f, it_t, it_f, im_e, im_l, im_g, im_g2, nI_add, pk_mul, i_sub, i_div, sdm, i_dec, i_cl, iv_t, bI_or2, bI_t0, bI_one, not_true_eq_false, not_false_eq_true, ↓reduceIte, am_tl, am_tn, am_t0, am_n0, and_true, true_and, List.cons_append, List.nil_append, List.append_nil, or_true, true_or, or_false, false_or, eq_self, ior0, iand0, im_e2, oI, l_lit, lc_lt, lc_le, lc_gt, lc_ge, lc_eq, ll_t, ll_f, lt_t, lt_f, lq_t, lq_f, l_div, lN_add, lN_mul, lN_sub, lN_i, c_within]
        · rw [if_neg (fun y => by have := (nI_ltI (by omega) (by omega)).1 y.2; omega)]
          simp (disch := first | assumption | omega | (simp only [ya_pi, ya_pj, ya_pa, ya_pr, yo_pi, yo_pj, yo_pa, yf_pi, yf_pj, yf_pa, yh_pi, yh_pj, yh_pa, yt_pi, yt_pj, yt_pa, la_pi, la_pj, la_pa]; assumption)) only [b_X12_whyNot_0, b_X12_whyNot_10, b_X12_whyNot_15, b_X12_whyNot_13, b_X12_whyNot_25, b_X12_whyNot_47, b_X12_whyNot_28, b_X12_whyNot_57, b_X12_whyNot_46, b_X12_whyNot_79, b_X12_whyNot_60, b_X12_whyNot_89, b_X12_whyNot_78, b_X12_whyNot_111, b_X12_whyNot_92, b_X12_whyNot_121, b_X12_whyNot_110, b_X12_whyNot_154, b_X12_whyNot_124, b_X12_whyNot_151, i_lit, i_m1, i_31, il_t, il_f, iq_t, iq_f, it_t, it_f, im_e, im_l, im_g, im_g2, nI_add, pk_mul, i_sub, i_div, sdm, i_dec, i_cl, iv_t, bI_or2, bI_t0, bI_one, not_true_eq_false, not_false_eq_true, ↓reduceIte, am_tl, am_tn, am_t0, am_n0, and_true, true_and, List.cons_append, List.nil_append, List.append_nil, or_true, true_or, or_false, false_or, eq_self, ior0, iand0, im_e2, oI, l_lit, lc_lt, lc_le, lc_gt, lc_ge, lc_eq, ll_t, ll_f, lt_t, lt_f, lq_t, lq_f, l_div, lN_add, lN_mul, lN_sub, lN_i, c_within]
      rw [if_neg z]
      by_cases z1 : n / 100 = 1
      · rw [if_pos z1]
        have e1 : (n - 100) / 10 = n % 100 / 10 := by omega
        simp (disch := first | assumption | omega | (simp only [ya_pi, ya_pj, ya_pa, ya_pr, yo_pi, yo_pj, yo_pa, yf_pi, yf_pj, yf_pa, yh_pi, yh_pj, yh_pa, yt_pi, yt_pj, yt_pa, la_pi, la_pj, la_pa]; assumption)) only [b_X12_whyNot_0, b_X12_whyNot_10, b_X12_whyNot_15, b_X12_whyNot_13, b_X12_whyNot_25, b_X12_whyNot_47, b_X12_whyNot_28, b_X12_whyNot_57, b_X12_whyNot_46, b_X12_whyNot_79, b_X12_whyNot_60, b_X12_whyNot_89, b_X12_whyNot_78, b_X12_whyNot_111, b_X12_whyNot_92, b_X12_whyNot_121, b_X12_whyNot_110, b_X12_whyNot_154, b_X12_whyNot_124, b_X12_whyNot_151, i_lit, i_m1, i_31, il_t, il_f, iq_t, iq_f, it_t, it_f, im_e, im_l, im_g, im_g2, nI_add, pk_mul, i_sub, i_div, sdm, i_dec, i_cl, iv_t, bI_or2, bI_t0, bI_one, not_true_eq_false, not_false_eq_true, ↓reduceIte, am_tl, am_tn, am_t0, am_n0, and_true, true_and, List.cons_append, List.nil_append, List.append_nil, or_true, true_or, or_false, false_or, eq_self, ior0, iand0, im_e2, oI, l_lit, lc_lt, lc_le, lc_gt, lc_ge, lc_eq, ll_t, ll_f, lt_t, lt_f, lq_t, lq_f, l_div, lN_add, lN_mul, lN_sub, lN_i, c_within, c_whyGive_N ok F, e1, e2]
      rw [if_neg z1]
      by_cases z2 : n / 100 = 2
      · rw [if_pos z2]
        have e1 : (n - 200) / 10 = n % 100 / 10 := by omega
        simp (disch := first | assumption | omega | (simp only [ya_pi, ya_pj, ya_pa, ya_pr, yo_pi, yo_pj, yo_pa, yf_pi, yf_pj, yf_pa, yh_pi, yh_pj, yh_pa, yt_pi, yt_pj, yt_pa, la_pi, la_pj, la_pa]; assumption)) only [b_X12_whyNot_0, b_X12_whyNot_10, b_X12_whyNot_15, b_X12_whyNot_13, b_X12_whyNot_25, b_X12_whyNot_47, b_X12_whyNot_28, b_X12_whyNot_57, b_X12_whyNot_46, b_X12_whyNot_79, b_X12_whyNot_60, b_X12_whyNot_89, b_X12_whyNot_78, b_X12_whyNot_111, b_X12_whyNot_92, b_X12_whyNot_121, b_X12_whyNot_110, b_X12_whyNot_154, b_X12_whyNot_124, b_X12_whyNot_151, i_lit, i_m1, i_31, il_t, il_f, iq_t, iq_f, it_t, it_f, im_e, im_l, im_g, im_g2, nI_add, pk_mul, i_sub, i_div, sdm, i_dec, i_cl, iv_t, bI_or2, bI_t0, bI_one, not_true_eq_false, not_false_eq_true, ↓reduceIte, am_tl, am_tn, am_t0, am_n0, and_true, true_and, List.cons_append, List.nil_append, List.append_nil, or_true, true_or, or_false, false_or, eq_self, ior0, iand0, im_e2, oI, l_lit, lc_lt, lc_le, lc_gt, lc_ge, lc_eq, ll_t, ll_f, lt_t, lt_f, lq_t, lq_f, l_div, lN_add, lN_mul, lN_sub, lN_i, c_within, c_whyTake_N ok F, e1, e2]
      rw [if_neg z2]
      by_cases z3 : n / 100 = 3
      · rw [if_pos z3]
        have e1 : (n - 300) / 10 = n % 100 / 10 := by omega
        simp (disch := first | assumption | omega | (simp only [ya_pi, ya_pj, ya_pa, ya_pr, yo_pi, yo_pj, yo_pa, yf_pi, yf_pj, yf_pa, yh_pi, yh_pj, yh_pa, yt_pi, yt_pj, yt_pa, la_pi, la_pj, la_pa]; assumption)) only [b_X12_whyNot_0, b_X12_whyNot_10, b_X12_whyNot_15, b_X12_whyNot_13, b_X12_whyNot_25, b_X12_whyNot_47, b_X12_whyNot_28, b_X12_whyNot_57, b_X12_whyNot_46, b_X12_whyNot_79, b_X12_whyNot_60, b_X12_whyNot_89, b_X12_whyNot_78, b_X12_whyNot_111, b_X12_whyNot_92, b_X12_whyNot_121, b_X12_whyNot_110, b_X12_whyNot_154, b_X12_whyNot_124, b_X12_whyNot_151, i_lit, i_m1, i_31, il_t, il_f, iq_t, iq_f, it_t, it_f, im_e, im_l, im_g, im_g2, nI_add, pk_mul, i_sub, i_div, sdm, i_dec, i_cl, iv_t, bI_or2, bI_t0, bI_one, not_true_eq_false, not_false_eq_true, ↓reduceIte, am_tl, am_tn, am_t0, am_n0, and_true, true_and, List.cons_append, List.nil_append, List.append_nil, or_true, true_or, or_false, false_or, eq_self, ior0, iand0, im_e2, oI, l_lit, lc_lt, lc_le, lc_gt, lc_ge, lc_eq, ll_t, ll_f, lt_t, lt_f, lq_t, lq_f, l_div, lN_add, lN_mul, lN_sub, lN_i, c_within, c_whySwap_N ok F, e1, e2]
      rw [if_neg z3]
      by_cases z4 : 10 ≤ n / 100 ∧ n / 100 ≤ 12
      · rw [if_pos z4]
        have e1 : (n - 1000) / 100 = n / 100 - 10 := by omega
        simp (disch := first | assumption | omega | (simp only [ya_pi, ya_pj, ya_pa, ya_pr, yo_pi, yo_pj, yo_pa, yf_pi, yf_pj, yf_pa, yh_pi, yh_pj, yh_pa, yt_pi, yt_pj, yt_pa, la_pi, la_pj, la_pa]; assumption)) only [b_X12_whyNot_0, b_X12_whyNot_10, b_X12_whyNot_15, b_X12_whyNot_13, b_X12_whyNot_25, b_X12_whyNot_47, b_X12_whyNot_28, b_X12_whyNot_57, b_X12_whyNot_46, b_X12_whyNot_79, b_X12_whyNot_60, b_X12_whyNot_89, b_X12_whyNot_78, b_X12_whyNot_111, b_X12_whyNot_92, b_X12_whyNot_121, b_X12_whyNot_110, b_X12_whyNot_154, b_X12_whyNot_124, b_X12_whyNot_151, i_lit, i_m1, i_31, il_t, il_f, iq_t, iq_f, it_t, it_f, im_e, im_l, im_g, im_g2, nI_add, pk_mul, i_sub, i_div, sdm, i_dec, i_cl, iv_t, bI_or2, bI_t0, bI_one, not_true_eq_false, not_false_eq_true, ↓reduceIte, am_tl, am_tn, am_t0, am_n0, and_true, true_and, List.cons_append, List.nil_append, List.append_nil, or_true, true_or, or_false, false_or, eq_self, ior0, iand0, im_e2, oI, l_lit, lc_lt, lc_le, lc_gt, lc_ge, lc_eq, ll_t, ll_f, lt_t, lt_f, lq_t, lq_f, l_div, lN_add, lN_mul, lN_sub, lN_i, c_within, c_whyDefine_N gd F, e1, e2, e3]
      · rw [if_neg z4]
        simp (disch := first | assumption | omega | (simp only [ya_pi, ya_pj, ya_pa, ya_pr, yo_pi, yo_pj, yo_pa, yf_pi, yf_pj, yf_pa, yh_pi, yh_pj, yh_pa, yt_pi, yt_pj, yt_pa, la_pi, la_pj, la_pa]; assumption)) only [b_X12_whyNot_0, b_X12_whyNot_10, b_X12_whyNot_15, b_X12_whyNot_13, b_X12_whyNot_25, b_X12_whyNot_47, b_X12_whyNot_28, b_X12_whyNot_57, b_X12_whyNot_46, b_X12_whyNot_79, b_X12_whyNot_60, b_X12_whyNot_89, b_X12_whyNot_78, b_X12_whyNot_111, b_X12_whyNot_92, b_X12_whyNot_121, b_X12_whyNot_110, b_X12_whyNot_154, b_X12_whyNot_124, b_X12_whyNot_151, i_lit, i_m1, i_31, il_t, il_f, iq_t, iq_f, it_t, it_f, im_e, im_l, im_g, im_g2, nI_add, pk_mul, i_sub, i_div, sdm, i_dec, i_cl, iv_t, bI_or2, bI_t0, bI_one, not_true_eq_false, not_false_eq_true, ↓reduceIte, am_tl, am_tn, am_t0, am_n0, and_true, true_and, List.cons_append, List.nil_append, List.append_nil, or_true, true_or, or_false, false_or, eq_self, ior0, iand0, im_e2, oI, l_lit, lc_lt, lc_le, lc_gt, lc_ge, lc_eq, ll_t, ll_f, lt_t, lt_f, lq_t, lq_f, l_div, lN_add, lN_mul, lN_sub, lN_i, c_within]
theorem d_add_0 {f : fa_S} (hn : f_n f ≤ 10) {c p : Int32} (h : (d_add f c p).1 = nI 0) : ∃ k q, c = nI k ∧ p = nI q ∧ k < f_n f ∧ q < k ∧ (f_p f k).length < 4 ∧ (d_add f c p).2 = f_setp f k (f_p f k ++ [q]) := by
  unfold d_add at h ⊢
  split at h
  · rename_i hh
    rw [if_pos hh]
    obtain ⟨k, hk, rfl⟩ := (fa_has_iff hn).1 hh.1
    obtain ⟨q, hq, rfl⟩ := nI_of hh.2.1
    have hqk := (nI_ltI hq (by omega)).1 hh.2.2
    split at h
    · first | exact absurd h n2_0 | exact absurd h n1_0
    · rename_i h1
      rw [if_neg h1]
      rw [nI_clamp (by omega), nI_clamp (by omega)] at h1 ⊢
      exact ⟨k, q, rfl, rfl, hk, hqk, Nat.lt_of_not_le (fun z => h1 (Or.inr z)), rfl⟩
  · first | exact absurd h n2_0 | exact absurd h n1_0
theorem d_rem_0 {f : fa_S} (hn : f_n f ≤ 10) {c p : Int32} (h : (d_rem f c p).1 = nI 0) : ∃ k q i, c = nI k ∧ p = nI q ∧ k < f_n f ∧ q < f_n f ∧ pl (f_p f k) q = some i ∧ (d_rem f c p).2 = f_setp f k ((f_p f k).eraseIdx i) := by
  unfold d_rem at h ⊢
  split at h
  · rename_i hh
    rw [if_pos hh]
    obtain ⟨k, hk, rfl⟩ := (fa_has_iff hn).1 hh.1
    obtain ⟨q, hq, rfl⟩ := (fa_has_iff hn).1 hh.2
    rw [nI_clamp (by omega), nI_clamp (by omega)] at h ⊢
    cases e : pl (f_p f k) q with
    | none =>
      rw [e] at h
      first | exact absurd h n2_0 | exact absurd h n1_0
    | some i => exact ⟨k, q, i, rfl, rfl, hk, hq, e, rfl⟩
  · first | exact absurd h n2_0 | exact absurd h n1_0
theorem d_swap_0 {f : fa_S} (hn : f_n f ≤ 10) {c x : Int32} (h : (d_swap f c x).1 = nI 0) : ∃ k i, c = nI k ∧ x = nI i ∧ i < 2147483648 ∧ k < f_n f ∧ i + 1 < (f_p f k).length ∧ (d_swap f c x).2 = f_setp f k (sw (f_p f k) i) := by
  unfold d_swap at h ⊢
  split at h
  · rename_i hh
    rw [if_pos hh]
    obtain ⟨k, hk, rfl⟩ := (fa_has_iff hn).1 hh
    rw [nI_clamp (by omega)] at h ⊢
    split at h
    · rename_i h2
      rw [if_pos h2]
      obtain ⟨i, hi, rfl⟩ := nI_of h2.1
      rw [nI_clamp hi] at h2 ⊢
      exact ⟨k, i, rfl, rfl, hi, hk, h2.2, rfl⟩
    · first | exact absurd h n2_0 | exact absurd h n1_0
  · first | exact absurd h n2_0 | exact absurd h n1_0
theorem d_def_0 {f : fa_S} (hn : f_n f ≤ 10) {c m w : Int32} (h : (d_def f c m w).1 = nI 0) : ∃ k j i, c = nI k ∧ m = nI j ∧ w = nI i ∧ k < f_n f ∧ j < 8 ∧ i < 3 ∧ (d_def f c m w).2 = f_setd f k j (nI ((i + 1) % 3)) := by
  unfold d_def at h ⊢
  split at h
  · rename_i hh
    rw [if_pos hh]
    obtain ⟨k, hk, rfl⟩ := (fa_has_iff hn).1 hh.1
    obtain ⟨j, hj, rfl⟩ : ∃ j, j < 8 ∧ m = nI j := by
      rcases me_cs m with z | z
      · exact z
      · exact absurd hh.2.1 z
    obtain ⟨i, hi, rfl⟩ := nI_of hh.2.2.1
    have hi3 := (nI_leI hi (by omega)).1 hh.2.2.2
    rw [nI_clamp (by omega), nI_clamp (by omega), nI_clamp (by omega)] at h ⊢
    split at h
    · first | exact absurd h n2_0 | exact absurd h n1_0
    · rename_i h2
      rw [if_neg h2]
      exact ⟨k, j, i, rfl, rfl, rfl, hk, hj, by omega, rfl⟩
  · first | exact absurd h n2_0 | exact absurd h n1_0
theorem d_mood_0 {f : fa_S} {x : Int32} (h : (d_mood f x).1 = nI 0) : ∃ k, x = nI k ∧ k < 10 ∧ (d_mood f x).2 = f_setm f (nI k) := by
  unfold d_mood at h ⊢
  split at h
  · rename_i hh
    rw [if_pos hh]
    obtain ⟨k, hk, rfl⟩ := nI_of hh.1
    exact ⟨k, rfl, (nI_ltI hk (by omega)).1 hh.2, rfl⟩
  · first | exact absurd h n2_0 | exact absurd h n1_0
theorem rfa_setd {h : am_H} {c m : Nat} {f : fa_S} {v : Int32} (h4 : ∀ c, (f_p f c).length ≤ 4) (F : rfa h f) (hc : c < 10) (hm : m < 8) : rfa (p_i h 94 (58 + 8 * c + m) v) (f_setd f c m v) := by
  obtain ⟨L0, n0, F1, F2, F3, F4⟩ := F
  refine ⟨L0, by rw [hi_k (by omega), n0]; rfl, ?_, ?_, ?_, ?_⟩
  · intro q hq
    rw [hi_k (by omega)]
    exact F1 q hq
  · intro q hq j hj
    have hj2 : j < (f_p f q).length := hj
    have h44 := h4 q
    by_cases z : 8 + 10 + 4 * q + j = 58 + 8 * c + m
    · omega
    · rw [hi_k z]
      exact F2 q hq j hj
  · intro q j hq hj
    show _ = if q = c ∧ j = m then v else f_d f q j
    by_cases z : q = c ∧ j = m
    · rw [if_pos z, z.1, z.2, show 8 + 50 + (8 * c + m) = 58 + 8 * c + m from by omega, hi_s]
    · rw [if_neg z, hi_k (by omega)]
      exact F3 q j hq hj
  · rw [hi_k (by omega)]
    exact F4
theorem rfa_setm {h : am_H} {f : fa_S} {v : Int32} (h4 : ∀ c, (f_p f c).length ≤ 4) (F : rfa h f) : rfa (p_i h 94 138 v) (f_setm f v) := by
  obtain ⟨L0, n0, F1, F2, F3, F4⟩ := F
  refine ⟨L0, by rw [hi_k (by omega), n0]; rfl, ?_, ?_, ?_, ?_⟩
  · intro q hq
    rw [hi_k (by omega)]
    exact F1 q hq
  · intro q hq j hj
    have hj' : j < (f_p f q).length := hj
    have := h4 q
    rw [hi_k (by omega)]
    exact F2 q hq j hj
  · intro q j hq hj
    rw [hi_k (by omega)]
    exact F3 q j hq hj
  · exact hi_s
theorem fb_cp {h h' : am_H} {a b a' b' : Nat} {f : fa_S} (h4 : ∀ c, (f_p f c).length ≤ 4) (F : fb h a b f) (e : ∀ k, k < 131 → h_i h' a' (b' + k) = h_i h a (b + k)) : fb h' a' b' f := by
  obtain ⟨F1, F2, F3, F4⟩ := F
  refine ⟨?_, ?_, ?_, ?_⟩
  · intro q hq
    rw [e q (by omega), F1 q hq]
  · intro q hq j hj
    have := h4 q
    rw [show b' + 10 + 4 * q + j = b' + (10 + 4 * q + j) from by omega, e _ (by omega), ← F2 q hq j hj]
    congr 1
    omega
  · intro q m hq hm
    rw [show b' + 50 + (8 * q + m) = b' + (50 + (8 * q + m)) from by omega, e _ (by omega), ← F3 q m hq hm]
    congr 1
    omega
  · rw [e 130 (by omega), F4]
theorem c_stores {d : Nat} {Q : Option am_V → am_H → Prop} {h : am_H} {f : fa_S} (ok : fa_ok f) (F : rfa h f) {l1 : Option am_V} (k : ∀ h', am_fr h h' (fun a _ => a = 105) → fb h' 105 0 f → Q none h') : ex_ d 283 0 [some (v_r (some 93)), l1] [] h Q := by
  have L0 := F.1
  rw [b_X12_stores_0 _ _ _]
  refine lp_up 131 (fun i (_ : Unit) => [some (v_r (some 93)), some (v_i (nI i))]) (fun i _ h' => am_fr h h' (fun a _ => a = 105) ∧ ∀ k, k < i → h_i h' 105 (0 + k) = h_i h 94 (8 + k)) ?_ ?_ (Nat.zero_le _) ⟨am_fr.rf, fun k hk => absurd hk (Nat.not_lt_zero _)⟩ (s := ())
  · rintro i - h' hi ⟨fr, e⟩ nx
    have L1 : Lay h' := fr.lay L0
    rw [b_X12_stores_2 _ _ _]
    simp (disch := first | assumption | omega | (simp only [ya_pi, ya_pj, ya_pa, ya_pr, yo_pi, yo_pj, yo_pa, yf_pi, yf_pj, yf_pa, yh_pi, yh_pj, yh_pa, yt_pi, yt_pj, yt_pa, la_pi, la_pj, la_pa]; assumption)) only [b_X12_stores_0, b_X12_stores_30, b_X12_stores_9, i_lit, i_m1, i_31, il_t, il_f, iq_t, iq_f, it_t, it_f, im_e, im_l, im_g, im_g2, nI_add, pk_mul, i_sub, i_div, sdm, i_dec, i_cl, iv_t, bI_or2, bI_t0, bI_one, not_true_eq_false, not_false_eq_true, ↓reduceIte, am_tl, am_tn, am_t0, am_n0, and_true, true_and, List.cons_append, List.nil_append, List.append_nil, or_true, true_or, or_false, false_or, eq_self, ior0, iand0, im_e2, oI]
    refine nx () _ ⟨fr.pi rfl, fun k hk => ?_⟩
    by_cases z : k = i
    · subst z
      rw [Nat.zero_add, hi_s, fr.i (by omega)]
    · rw [hi_k (by omega)]
      exact e k (by omega)
  · rintro - h' ⟨fr, e⟩
    rw [b_X12_stores_2 _ _ _]
    simp (disch := first | assumption | omega | (simp only [ya_pi, ya_pj, ya_pa, ya_pr, yo_pi, yo_pj, yo_pa, yf_pi, yf_pj, yf_pa, yh_pi, yh_pj, yh_pa, yt_pi, yt_pj, yt_pa, la_pi, la_pj, la_pa]; assumption)) only [b_X12_stores_0, b_X12_stores_30, b_X12_stores_9, i_lit, i_m1, i_31, il_t, il_f, iq_t, iq_f, it_t, it_f, im_e, im_l, im_g, im_g2, nI_add, pk_mul, i_sub, i_div, sdm, i_dec, i_cl, iv_t, bI_or2, bI_t0, bI_one, not_true_eq_false, not_false_eq_true, ↓reduceIte, am_tl, am_tn, am_t0, am_n0, and_true, true_and, List.cons_append, List.nil_append, List.append_nil, or_true, true_or, or_false, false_or, eq_self, ior0, iand0, im_e2, oI]
    exact k h' fr (fb_cp (fun c => (ok.2 c).1) F.2.2 e)
theorem c_isAgain {d : Nat} {Q : Option am_V → am_H → Prop} {h : am_H} {f : fa_S} (ok : fa_ok f) (L0 : Lay h) (e1 : h_i h 94 1 = nI (f_n f)) (F : fb h 105 0 f) {l1 : Option am_V} (k : ∀ h', am_fr h h' rF → rfa h' f → Q none h') : ex_ d 284 0 [some (v_r (some 93)), l1] [] h Q := by
  rw [b_X12_isAgain_0 _ _ _]
  refine lp_up 131 (fun i (_ : Unit) => [some (v_r (some 93)), some (v_i (nI i))]) (fun i _ h' => am_fr h h' rF ∧ ∀ k, k < i → h_i h' 94 (8 + k) = h_i h 105 (0 + k)) ?_ ?_ (Nat.zero_le _) ⟨am_fr.rf, fun k hk => absurd hk (Nat.not_lt_zero _)⟩ (s := ())
  · rintro i - h' hi ⟨fr, e⟩ nx
    have L1 : Lay h' := fr.lay L0
    rw [b_X12_isAgain_2 _ _ _]
    simp (disch := first | assumption | omega | (simp only [ya_pi, ya_pj, ya_pa, ya_pr, yo_pi, yo_pj, yo_pa, yf_pi, yf_pj, yf_pa, yh_pi, yh_pj, yh_pa, yt_pi, yt_pj, yt_pa, la_pi, la_pj, la_pa]; assumption)) only [b_X12_isAgain_0, b_X12_isAgain_30, b_X12_isAgain_9, i_lit, i_m1, i_31, il_t, il_f, iq_t, iq_f, it_t, it_f, im_e, im_l, im_g, im_g2, nI_add, pk_mul, i_sub, i_div, sdm, i_dec, i_cl, iv_t, bI_or2, bI_t0, bI_one, not_true_eq_false, not_false_eq_true, ↓reduceIte, am_tl, am_tn, am_t0, am_n0, and_true, true_and, List.cons_append, List.nil_append, List.append_nil, or_true, true_or, or_false, false_or, eq_self, ior0, iand0, im_e2, oI]
    refine nx () _ ⟨fr.pi (by unfold rF; omega), fun k hk => ?_⟩
    by_cases z : k = i
    · subst z
      rw [Nat.zero_add, hi_s, fr.i (by unfold rF; omega)]
    · rw [hi_k (by omega)]
      exact e k (by omega)
  · rintro - h' ⟨fr, e⟩
    rw [b_X12_isAgain_2 _ _ _]
    simp (disch := first | assumption | omega | (simp only [ya_pi, ya_pj, ya_pa, ya_pr, yo_pi, yo_pj, yo_pa, yf_pi, yf_pj, yf_pa, yh_pi, yh_pj, yh_pa, yt_pi, yt_pj, yt_pa, la_pi, la_pj, la_pa]; assumption)) only [b_X12_isAgain_0, b_X12_isAgain_30, b_X12_isAgain_9, i_lit, i_m1, i_31, il_t, il_f, iq_t, iq_f, it_t, it_f, im_e, im_l, im_g, im_g2, nI_add, pk_mul, i_sub, i_div, sdm, i_dec, i_cl, iv_t, bI_or2, bI_t0, bI_one, not_true_eq_false, not_false_eq_true, ↓reduceIte, am_tl, am_tn, am_t0, am_n0, and_true, true_and, List.cons_append, List.nil_append, List.append_nil, or_true, true_or, or_false, false_or, eq_self, ior0, iand0, im_e2, oI]
    exact k h' fr ⟨fr.lay L0, by rw [fr.i (by unfold rF; omega), e1], fb_cp (fun c => (ok.2 c).1) F e⟩
