theorem lh_k {n k : Nat} (h : k < n) : lh n (lN k) := ⟨k, h, rfl⟩
theorem lh_nk {n k : Nat} (h : n ≤ k) (hk : k < 9223372036854775808) (hn : n ≤ 1000) : ¬ lh n (lN k) := fun ⟨j, hj, e⟩ => by
  have := (pk_lEQ hk (by omega)).1 e
  omega
theorem c_whyGive {d : Nat} {Q : Option am_V → am_H → Prop} {h : am_H} {f : fa_S} (ok : fa_ok f) (F : rfa h f) {c p : Int32} {l2 l4 : Option am_V} : ex_ (d + 2) 286 0 [some (v_r (some 93)), some (v_l c.toInt64), l2, some (v_l p.toInt64), l4] [] h Q ↔ Q (some (v_i (d_add f c p).1)) h := by
  have L0 := F.1
  have hn := ok.1
  unfold d_add
  rcases fa_cs hn c with ⟨a, ha, rfl⟩ | hc
  · have hh : fa_has (f_n f) (nI a) := (fa_has_iff hn).2 ⟨a, ha, rfl⟩
    have h4 := (ok.2 a).1
    have e0 := r_cnt F (show a < 10 by omega)
    rcases fa_cs (show a ≤ 10 by omega) p with ⟨q, hq, rfl⟩ | hp
    · have w : (lN q < lN 0 ∨ lN a - lN 1 < lN q) = False := by rw [w_iff2 (by omega)]; exact eq_false (fun z => z (lh_k hq))
      rw [if_pos ⟨hh, nI_pos (by omega), nI_lt hq (by omega)⟩, nI_clamp (by omega), nI_clamp (by omega)]
      cases h5 : pl (f_p f a) q with
      | none =>
        by_cases h6 : 4 ≤ (f_p f a).length
        · rw [if_pos (Or.inr h6)]
          have h7 : (f_p f a).length = 4 := by omega
          simp (disch := first | assumption | omega | (simp only [ya_pi, ya_pj, ya_pa, ya_pr, yo_pi, yo_pj, yo_pa, yf_pi, yf_pj, yf_pa, yh_pi, yh_pj, yh_pa, yt_pi, yt_pj, yt_pa, la_pi, la_pj, la_pa]; assumption)) only [b_X12_whyGive_0, b_X12_whyGive_5, b_X12_whyGive_19, b_X12_whyGive_8, b_X12_whyGive_16, b_X12_whyGive_21, b_X12_whyGive_29, b_X12_whyGive_47, b_X12_whyGive_33, b_X12_whyGive_51, i_lit, i_m1, i_31, il_t, il_f, iq_t, iq_f, it_t, it_f, im_e, im_l, im_g, im_g2, nI_add, pk_mul, i_sub, i_div, sdm, i_dec, i_cl, iv_t, bI_or2, bI_t0, bI_one, not_true_eq_false, not_false_eq_true, ↓reduceIte, am_tl, am_tn, am_t0, am_n0, and_true, true_and, List.cons_append, List.nil_append, List.append_nil, or_true, true_or, or_false, false_or, eq_self, ior0, iand0, im_e2, oI, l_lit, nI_l, lN_i, c_isClass_y ok F ha, c_within, w, c_placeOfParent ok F (show a < 10 by omega) (show q < 2147483648 by omega), h5, e0]
        · rw [if_neg (fun z => by rcases z with z | z; exact z rfl; exact h6 z)]
          simp (disch := first | assumption | omega | (simp only [ya_pi, ya_pj, ya_pa, ya_pr, yo_pi, yo_pj, yo_pa, yf_pi, yf_pj, yf_pa, yh_pi, yh_pj, yh_pa, yt_pi, yt_pj, yt_pa, la_pi, la_pj, la_pa]; assumption)) only [b_X12_whyGive_0, b_X12_whyGive_5, b_X12_whyGive_19, b_X12_whyGive_8, b_X12_whyGive_16, b_X12_whyGive_21, b_X12_whyGive_29, b_X12_whyGive_47, b_X12_whyGive_33, b_X12_whyGive_51, i_lit, i_m1, i_31, il_t, il_f, iq_t, iq_f, it_t, it_f, im_e, im_l, im_g, im_g2, nI_add, pk_mul, i_sub, i_div, sdm, i_dec, i_cl, iv_t, bI_or2, bI_t0, bI_one, not_true_eq_false, not_false_eq_true, ↓reduceIte, am_tl, am_tn, am_t0, am_n0, and_true, true_and, List.cons_append, List.nil_append, List.append_nil, or_true, true_or, or_false, false_or, eq_self, ior0, iand0, im_e2, oI, l_lit, nI_l, lN_i, c_isClass_y ok F ha, c_within, w, c_placeOfParent ok F (show a < 10 by omega) (show q < 2147483648 by omega), h5, e0]
      | some i =>
        have hi := (pl_some h5).1
        rw [if_pos (Or.inl (fun z => by cases z))]
        simp (disch := first | assumption | omega | (simp only [ya_pi, ya_pj, ya_pa, ya_pr, yo_pi, yo_pj, yo_pa, yf_pi, yf_pj, yf_pa, yh_pi, yh_pj, yh_pa, yt_pi, yt_pj, yt_pa, la_pi, la_pj, la_pa]; assumption)) only [b_X12_whyGive_0, b_X12_whyGive_5, b_X12_whyGive_19, b_X12_whyGive_8, b_X12_whyGive_16, b_X12_whyGive_21, b_X12_whyGive_29, b_X12_whyGive_47, b_X12_whyGive_33, b_X12_whyGive_51, i_lit, i_m1, i_31, il_t, il_f, iq_t, iq_f, it_t, it_f, im_e, im_l, im_g, im_g2, nI_add, pk_mul, i_sub, i_div, sdm, i_dec, i_cl, iv_t, bI_or2, bI_t0, bI_one, not_true_eq_false, not_false_eq_true, ↓reduceIte, am_tl, am_tn, am_t0, am_n0, and_true, true_and, List.cons_append, List.nil_append, List.append_nil, or_true, true_or, or_false, false_or, eq_self, ior0, iand0, im_e2, oI, l_lit, nI_l, lN_i, c_isClass_y ok F ha, c_within, w, c_placeOfParent ok F (show a < 10 by omega) (show q < 2147483648 by omega), h5]
    · have w : (p.toInt64 < lN 0 ∨ lN a - lN 1 < p.toInt64) = True := by rw [w_iff2 (by omega)]; exact eq_true (fun z => hp ((lh_32 (by omega)).1 z))
      rw [if_neg (fun z => hp ⟨z.2.1, z.2.2⟩)]
      simp (disch := first | assumption | omega | (simp only [ya_pi, ya_pj, ya_pa, ya_pr, yo_pi, yo_pj, yo_pa, yf_pi, yf_pj, yf_pa, yh_pi, yh_pj, yh_pa, yt_pi, yt_pj, yt_pa, la_pi, la_pj, la_pa]; assumption)) only [b_X12_whyGive_0, b_X12_whyGive_5, b_X12_whyGive_19, b_X12_whyGive_8, b_X12_whyGive_16, b_X12_whyGive_21, b_X12_whyGive_29, b_X12_whyGive_47, b_X12_whyGive_33, b_X12_whyGive_51, i_lit, i_m1, i_31, il_t, il_f, iq_t, iq_f, it_t, it_f, im_e, im_l, im_g, im_g2, nI_add, pk_mul, i_sub, i_div, sdm, i_dec, i_cl, iv_t, bI_or2, bI_t0, bI_one, not_true_eq_false, not_false_eq_true, ↓reduceIte, am_tl, am_tn, am_t0, am_n0, and_true, true_and, List.cons_append, List.nil_append, List.append_nil, or_true, true_or, or_false, false_or, eq_self, ior0, iand0, im_e2, oI, l_lit, nI_l, lN_i, c_isClass_y ok F ha, c_within, w]
  · rw [if_neg (fun z => hc z.1)]
    simp (disch := first | assumption | omega | (simp only [ya_pi, ya_pj, ya_pa, ya_pr, yo_pi, yo_pj, yo_pa, yf_pi, yf_pj, yf_pa, yh_pi, yh_pj, yh_pa, yt_pi, yt_pj, yt_pa, la_pi, la_pj, la_pa]; assumption)) only [b_X12_whyGive_0, b_X12_whyGive_5, b_X12_whyGive_19, b_X12_whyGive_8, b_X12_whyGive_16, b_X12_whyGive_21, b_X12_whyGive_29, b_X12_whyGive_47, b_X12_whyGive_33, b_X12_whyGive_51, i_lit, i_m1, i_31, il_t, il_f, iq_t, iq_f, it_t, it_f, im_e, im_l, im_g, im_g2, nI_add, pk_mul, i_sub, i_div, sdm, i_dec, i_cl, iv_t, bI_or2, bI_t0, bI_one, not_true_eq_false, not_false_eq_true, ↓reduceIte, am_tl, am_tn, am_t0, am_n0, and_true, true_and, List.cons_append, List.nil_append, List.append_nil, or_true, true_or, or_false, false_or, eq_self, ior0, iand0, im_e2, oI, c_isClass_32 ok F hc]
theorem c_whyTake {d : Nat} {Q : Option am_V → am_H → Prop} {h : am_H} {f : fa_S} (ok : fa_ok f) (F : rfa h f) {c p : Int32} {l2 l4 : Option am_V} : ex_ (d + 2) 287 0 [some (v_r (some 93)), some (v_l c.toInt64), l2, some (v_l p.toInt64), l4] [] h Q ↔ Q (some (v_i (d_rem f c p).1)) h := by
  have L0 := F.1
  have hn := ok.1
  unfold d_rem
  rcases fa_cs hn c with ⟨a, ha, rfl⟩ | hc
  · have hh : fa_has (f_n f) (nI a) := (fa_has_iff hn).2 ⟨a, ha, rfl⟩
    have h4 := (ok.2 a).1
    rcases fa_cs hn p with ⟨q, hq, rfl⟩ | hp
    · rw [if_pos ⟨hh, (fa_has_iff hn).2 ⟨q, hq, rfl⟩⟩, nI_clamp (by omega), nI_clamp (by omega)]
      cases h5 : pl (f_p f a) q with
      | none => simp (disch := first | assumption | omega | (simp only [ya_pi, ya_pj, ya_pa, ya_pr, yo_pi, yo_pj, yo_pa, yf_pi, yf_pj, yf_pa, yh_pi, yh_pj, yh_pa, yt_pi, yt_pj, yt_pa, la_pi, la_pj, la_pa]; assumption)) only [b_X12_whyTake_0, b_X12_whyTake_5, b_X12_whyTake_16, b_X12_whyTake_8, b_X12_whyTake_13, b_X12_whyTake_18, b_X12_whyTake_26, b_X12_whyTake_34, b_X12_whyTake_30, i_lit, i_m1, i_31, il_t, il_f, iq_t, iq_f, it_t, it_f, im_e, im_l, im_g, im_g2, nI_add, pk_mul, i_sub, i_div, sdm, i_dec, i_cl, iv_t, bI_or2, bI_t0, bI_one, not_true_eq_false, not_false_eq_true, ↓reduceIte, am_tl, am_tn, am_t0, am_n0, and_true, true_and, List.cons_append, List.nil_append, List.append_nil, or_true, true_or, or_false, false_or, eq_self, ior0, iand0, im_e2, oI, nI_l, lN_i, c_isClass_y ok F ha, c_isClass_y ok F hq, c_placeOfParent ok F (show a < 10 by omega) (show q < 2147483648 by omega), h5]
      | some i =>
        have hi := (pl_some h5).1
        simp (disch := first | assumption | omega | (simp only [ya_pi, ya_pj, ya_pa, ya_pr, yo_pi, yo_pj, yo_pa, yf_pi, yf_pj, yf_pa, yh_pi, yh_pj, yh_pa, yt_pi, yt_pj, yt_pa, la_pi, la_pj, la_pa]; assumption)) only [b_X12_whyTake_0, b_X12_whyTake_5, b_X12_whyTake_16, b_X12_whyTake_8, b_X12_whyTake_13, b_X12_whyTake_18, b_X12_whyTake_26, b_X12_whyTake_34, b_X12_whyTake_30, i_lit, i_m1, i_31, il_t, il_f, iq_t, iq_f, it_t, it_f, im_e, im_l, im_g, im_g2, nI_add, pk_mul, i_sub, i_div, sdm, i_dec, i_cl, iv_t, bI_or2, bI_t0, bI_one, not_true_eq_false, not_false_eq_true, ↓reduceIte, am_tl, am_tn, am_t0, am_n0, and_true, true_and, List.cons_append, List.nil_append, List.append_nil, or_true, true_or, or_false, false_or, eq_self, ior0, iand0, im_e2, oI, nI_l, lN_i, c_isClass_y ok F ha, c_isClass_y ok F hq, c_placeOfParent ok F (show a < 10 by omega) (show q < 2147483648 by omega), h5]
    · rw [if_neg (fun z => hp z.2)]
      simp (disch := first | assumption | omega | (simp only [ya_pi, ya_pj, ya_pa, ya_pr, yo_pi, yo_pj, yo_pa, yf_pi, yf_pj, yf_pa, yh_pi, yh_pj, yh_pa, yt_pi, yt_pj, yt_pa, la_pi, la_pj, la_pa]; assumption)) only [b_X12_whyTake_0, b_X12_whyTake_5, b_X12_whyTake_16, b_X12_whyTake_8, b_X12_whyTake_13, b_X12_whyTake_18, b_X12_whyTake_26, b_X12_whyTake_34, b_X12_whyTake_30, i_lit, i_m1, i_31, il_t, il_f, iq_t, iq_f, it_t, it_f, im_e, im_l, im_g, im_g2, nI_add, pk_mul, i_sub, i_div, sdm, i_dec, i_cl, iv_t, bI_or2, bI_t0, bI_one, not_true_eq_false, not_false_eq_true, ↓reduceIte, am_tl, am_tn, am_t0, am_n0, and_true, true_and, List.cons_append, List.nil_append, List.append_nil, or_true, true_or, or_false, false_or, eq_self, ior0, iand0, im_e2, oI, nI_l, c_isClass_y ok F ha, c_isClass_32 ok F hp]
  · rw [if_neg (fun z => hc z.1)]
    simp (disch := first | assumption | omega | (simp only [ya_pi, ya_pj, ya_pa, ya_pr, yo_pi, yo_pj, yo_pa, yf_pi, yf_pj, yf_pa, yh_pi, yh_pj, yh_pa, yt_pi, yt_pj, yt_pa, la_pi, la_pj, la_pa]; assumption)) only [b_X12_whyTake_0, b_X12_whyTake_5, b_X12_whyTake_16, b_X12_whyTake_8, b_X12_whyTake_13, b_X12_whyTake_18, b_X12_whyTake_26, b_X12_whyTake_34, b_X12_whyTake_30, i_lit, i_m1, i_31, il_t, il_f, iq_t, iq_f, it_t, it_f, im_e, im_l, im_g, im_g2, nI_add, pk_mul, i_sub, i_div, sdm, i_dec, i_cl, iv_t, bI_or2, bI_t0, bI_one, not_true_eq_false, not_false_eq_true, ↓reduceIte, am_tl, am_tn, am_t0, am_n0, and_true, true_and, List.cons_append, List.nil_append, List.append_nil, or_true, true_or, or_false, false_or, eq_self, ior0, iand0, im_e2, oI, c_isClass_32 ok F hc]
theorem w_iff3 {n : Nat} (hn : n ≤ 1000) {v : Int64} : (v < lN 0 ∨ (nI n - nI 2).toInt64 < v) = ¬ lh (n - 1) v := by
  by_cases z : n = 0
  · subst z
    rw [← w_iff (by omega)]
    apply propext
    constructor
    · rintro (h | h)
      · exact Or.inl h
      · rw [show ((nI 0 - nI 2 : Int32)).toInt64 = -2 from rfl] at h
        rw [show ((nI (0 - 1) - nI 1 : Int32)).toInt64 = -1 from rfl]
        by_cases q : v < lN 0
        · exact Or.inl q
        · right
          obtain ⟨k, hk, rfl⟩ := pk_lOf q
          rw [Int64.lt_iff_toInt_lt, lI hk]
          show -1 < (k : Int)
          omega
    · rintro (h | h)
      · exact Or.inl h
      · right
        rw [show ((nI (0 - 1) - nI 1 : Int32)).toInt64 = -1 from rfl] at h
        rw [show ((nI 0 - nI 2 : Int32)).toInt64 = -2 from rfl]
        rw [Int64.lt_iff_toInt_lt] at h ⊢
        have h1 : (-1 : Int64).toInt = -1 := by decide
        have h2 : (-2 : Int64).toInt = -2 := by decide
        omega
  · rw [← w_iff (by omega)]
    congr 1
    congr 1
    congr 1
    rw [show n = (n - 1) + 1 from by omega, Nat.add_sub_cancel]
    rw [← nI_add, show (nI 2 : Int32) = nI 1 + nI 1 from rfl, ← Int32.sub_sub]
    rw [Int32.add_sub_cancel]
theorem c_whySwap {d : Nat} {Q : Option am_V → am_H → Prop} {h : am_H} {f : fa_S} (ok : fa_ok f) (F : rfa h f) {c x : Int32} {l2 l4 : Option am_V} : ex_ (d + 2) 288 0 [some (v_r (some 93)), some (v_l c.toInt64), l2, some (v_l x.toInt64), l4] [] h Q ↔ Q (some (v_i (d_swap f c x).1)) h := by
  have L0 := F.1
  have hn := ok.1
  unfold d_swap
  rcases fa_cs hn c with ⟨a, ha, rfl⟩ | hc
  · have hh : fa_has (f_n f) (nI a) := (fa_has_iff hn).2 ⟨a, ha, rfl⟩
    have h4 := (ok.2 a).1
    have e0 := r_cnt F (show a < 10 by omega)
    rw [if_pos hh, nI_clamp (by omega)]
    have w := w_iff3 (n := (f_p f a).length) (by omega) (v := x.toInt64)
    rcases fa_cs (show (f_p f a).length - 1 ≤ 10 by omega) x with ⟨q, hq, rfl⟩ | hp
    · rw [if_pos ⟨nI_pos (by omega), by rw [nI_clamp (by omega)]; omega⟩]
      replace w := w.trans (eq_false (fun z => z ((lh_32 (by omega)).2 ((fa_has_iff (by omega)).2 ⟨q, hq, rfl⟩))))
      simp (disch := first | assumption | omega | (simp only [ya_pi, ya_pj, ya_pa, ya_pr, yo_pi, yo_pj, yo_pa, yf_pi, yf_pj, yf_pa, yh_pi, yh_pj, yh_pa, yt_pi, yt_pj, yt_pa, la_pi, la_pj, la_pa]; assumption)) only [b_X12_whySwap_0, b_X12_whySwap_5, b_X12_whySwap_10, b_X12_whySwap_8, b_X12_whySwap_28, b_X12_whySwap_35, b_X12_whySwap_31, i_lit, i_m1, i_31, il_t, il_f, iq_t, iq_f, it_t, it_f, im_e, im_l, im_g, im_g2, nI_add, pk_mul, i_sub, i_div, sdm, i_dec, i_cl, iv_t, bI_or2, bI_t0, bI_one, not_true_eq_false, not_false_eq_true, ↓reduceIte, am_tl, am_tn, am_t0, am_n0, and_true, true_and, List.cons_append, List.nil_append, List.append_nil, or_true, true_or, or_false, false_or, eq_self, ior0, iand0, im_e2, oI, l_lit, lc_lt, lc_le, lc_gt, lc_ge, lc_eq, ll_t, ll_f, lt_t, lt_f, lq_t, lq_f, l_div, lN_add, lN_mul, lN_sub, lN_i, nI_l, c_isClass_y ok F ha, e0, c_within]
    · replace w := w.trans (eq_true (fun z => hp ((lh_32 (by omega)).1 z)))
      rw [if_neg (fun z => by
        obtain ⟨j, hj, rfl⟩ := nI_of z.1
        rw [nI_clamp hj] at z
        exact hp ⟨z.1, nI_lt (by omega) (by omega)⟩)]
      simp (disch := first | assumption | omega | (simp only [ya_pi, ya_pj, ya_pa, ya_pr, yo_pi, yo_pj, yo_pa, yf_pi, yf_pj, yf_pa, yh_pi, yh_pj, yh_pa, yt_pi, yt_pj, yt_pa, la_pi, la_pj, la_pa]; assumption)) only [b_X12_whySwap_0, b_X12_whySwap_5, b_X12_whySwap_10, b_X12_whySwap_8, b_X12_whySwap_28, b_X12_whySwap_35, b_X12_whySwap_31, i_lit, i_m1, i_31, il_t, il_f, iq_t, iq_f, it_t, it_f, im_e, im_l, im_g, im_g2, nI_add, pk_mul, i_sub, i_div, sdm, i_dec, i_cl, iv_t, bI_or2, bI_t0, bI_one, not_true_eq_false, not_false_eq_true, ↓reduceIte, am_tl, am_tn, am_t0, am_n0, and_true, true_and, List.cons_append, List.nil_append, List.append_nil, or_true, true_or, or_false, false_or, eq_self, ior0, iand0, im_e2, oI, l_lit, nI_l, lN_i, c_isClass_y ok F ha, e0, c_within, w]
  · rw [if_neg hc]
    simp (disch := first | assumption | omega | (simp only [ya_pi, ya_pj, ya_pa, ya_pr, yo_pi, yo_pj, yo_pa, yf_pi, yf_pj, yf_pa, yh_pi, yh_pj, yh_pa, yt_pi, yt_pj, yt_pa, la_pi, la_pj, la_pa]; assumption)) only [b_X12_whySwap_0, b_X12_whySwap_5, b_X12_whySwap_10, b_X12_whySwap_8, b_X12_whySwap_28, b_X12_whySwap_35, b_X12_whySwap_31, i_lit, i_m1, i_31, il_t, il_f, iq_t, iq_f, it_t, it_f, im_e, im_l, im_g, im_g2, nI_add, pk_mul, i_sub, i_div, sdm, i_dec, i_cl, iv_t, bI_or2, bI_t0, bI_one, not_true_eq_false, not_false_eq_true, ↓reduceIte, am_tl, am_tn, am_t0, am_n0, and_true, true_and, List.cons_append, List.nil_append, List.append_nil, or_true, true_or, or_false, false_or, eq_self, ior0, iand0, im_e2, oI, c_isClass_32 ok F hc]
theorem w2 {v : Int64} : (v < lN 0 ∨ lN 2 < v) = ¬ lh 3 v := w_iff (n := 3) (by omega) (v := v)
theorem c_whyDefine {d : Nat} {Q : Option am_V → am_H → Prop} {h : am_H} {f : fa_S} (gd : fa_gd f) (F : rfa h f) {c m w : Int32} {l2 l4 l6 : Option am_V} : ex_ (d + 2) 289 0 [some (v_r (some 93)), some (v_l c.toInt64), l2, some (v_l m.toInt64), l4, some (v_l w.toInt64), l6] [] h Q ↔ Q (some (v_i (d_def f c m w).1)) h := by
  have ok := gd.1
  have L0 := F.1
  have hn := ok.1
  unfold d_def
  rcases fa_cs hn c with ⟨a, ha, rfl⟩ | hc
  · have hh : fa_has (f_n f) (nI a) := (fa_has_iff hn).2 ⟨a, ha, rfl⟩
    rcases me_cs m with ⟨m, hm, rfl⟩ | hm
    · have e0 := r_def F (show a < 10 by omega) hm
      obtain ⟨v, hv, ev⟩ := gd.2.1 a m
      rw [ev] at e0
      have wq := w2 (v := w.toInt64)
      rcases fa_cs (show 3 ≤ 10 by omega) w with ⟨q, hq, rfl⟩ | hp
      · replace wq := wq.trans (eq_false (fun z => z ((lh_32 (by omega)).2 ((fa_has_iff (by omega)).2 ⟨q, hq, rfl⟩))))
        rw [if_pos ⟨hh, ⟨nI_pos (by omega), nI_lt hm (by omega)⟩, nI_pos (by omega), nI_le (by omega) (by omega)⟩, nI_clamp (by omega), nI_clamp (by omega), ev]
        simp (disch := first | assumption | omega | (simp only [ya_pi, ya_pj, ya_pa, ya_pr, yo_pi, yo_pj, yo_pa, yf_pi, yf_pj, yf_pa, yh_pi, yh_pj, yh_pa, yt_pi, yt_pj, yt_pa, la_pi, la_pj, la_pa]; assumption)) only [nI_l] at wq
        by_cases z : q = 2
        · by_cases z2 : v = 0
          · rw [if_pos ⟨congrArg nI z, congrArg nI z2⟩]
            simp (disch := first | assumption | omega | (simp only [ya_pi, ya_pj, ya_pa, ya_pr, yo_pi, yo_pj, yo_pa, yf_pi, yf_pj, yf_pa, yh_pi, yh_pj, yh_pa, yt_pi, yt_pj, yt_pa, la_pi, la_pj, la_pa]; assumption)) only [b_X12_whyDefine_0, b_X12_whyDefine_5, b_X12_whyDefine_27, b_X12_whyDefine_8, b_X12_whyDefine_12, b_X12_whyDefine_15, b_X12_whyDefine_24, b_X12_whyDefine_29, b_X12_whyDefine_61, b_X12_whyDefine_38, b_X12_whyDefine_57, i_lit, i_m1, i_31, il_t, il_f, iq_t, iq_f, it_t, it_f, im_e, im_l, im_g, im_g2, nI_add, pk_mul, i_sub, i_div, sdm, i_dec, i_cl, iv_t, bI_or2, bI_t0, bI_one, not_true_eq_false, not_false_eq_true, ↓reduceIte, am_tl, am_tn, am_t0, am_n0, and_true, true_and, List.cons_append, List.nil_append, List.append_nil, or_true, true_or, or_false, false_or, eq_self, ior0, iand0, im_e2, oI, l_lit, lc_eq, lq_t, lq_f, nI_l, lN_i, c_isClass_y ok F ha, c_rMethod_y hm, c_within, wq, e0]
          · rw [if_neg (fun y => z2 ((nI_eq (by omega) (by omega)).1 y.2))]
            simp (disch := first | assumption | omega | (simp only [ya_pi, ya_pj, ya_pa, ya_pr, yo_pi, yo_pj, yo_pa, yf_pi, yf_pj, yf_pa, yh_pi, yh_pj, yh_pa, yt_pi, yt_pj, yt_pa, la_pi, la_pj, la_pa]; assumption)) only [b_X12_whyDefine_0, b_X12_whyDefine_5, b_X12_whyDefine_27, b_X12_whyDefine_8, b_X12_whyDefine_12, b_X12_whyDefine_15, b_X12_whyDefine_24, b_X12_whyDefine_29, b_X12_whyDefine_61, b_X12_whyDefine_38, b_X12_whyDefine_57, i_lit, i_m1, i_31, il_t, il_f, iq_t, iq_f, it_t, it_f, im_e, im_l, im_g, im_g2, nI_add, pk_mul, i_sub, i_div, sdm, i_dec, i_cl, iv_t, bI_or2, bI_t0, bI_one, not_true_eq_false, not_false_eq_true, ↓reduceIte, am_tl, am_tn, am_t0, am_n0, and_true, true_and, List.cons_append, List.nil_append, List.append_nil, or_true, true_or, or_false, false_or, eq_self, ior0, iand0, im_e2, oI, l_lit, lc_eq, lq_t, lq_f, nI_l, lN_i, c_isClass_y ok F ha, c_rMethod_y hm, c_within, wq, e0]
        · rw [if_neg (fun y => z ((nI_eq (by omega) (by omega)).1 y.1))]
          simp (disch := first | assumption | omega | (simp only [ya_pi, ya_pj, ya_pa, ya_pr, yo_pi, yo_pj, yo_pa, yf_pi, yf_pj, yf_pa, yh_pi, yh_pj, yh_pa, yt_pi, yt_pj, yt_pa, la_pi, la_pj, la_pa]; assumption)) only [b_X12_whyDefine_0, b_X12_whyDefine_5, b_X12_whyDefine_27, b_X12_whyDefine_8, b_X12_whyDefine_12, b_X12_whyDefine_15, b_X12_whyDefine_24, b_X12_whyDefine_29, b_X12_whyDefine_61, b_X12_whyDefine_38, b_X12_whyDefine_57, i_lit, i_m1, i_31, il_t, il_f, iq_t, iq_f, it_t, it_f, im_e, im_l, im_g, im_g2, nI_add, pk_mul, i_sub, i_div, sdm, i_dec, i_cl, iv_t, bI_or2, bI_t0, bI_one, not_true_eq_false, not_false_eq_true, ↓reduceIte, am_tl, am_tn, am_t0, am_n0, and_true, true_and, List.cons_append, List.nil_append, List.append_nil, or_true, true_or, or_false, false_or, eq_self, ior0, iand0, im_e2, oI, l_lit, lc_eq, lq_t, lq_f, nI_l, lN_i, c_isClass_y ok F ha, c_rMethod_y hm, c_within, wq]
      · replace wq := wq.trans (eq_true (fun z => hp ((lh_32 (by omega)).1 z)))
        rw [if_neg (fun z => by
          obtain ⟨j, hj, rfl⟩ := nI_of z.2.2.1
          have := (nI_leI hj (by omega)).1 z.2.2.2
          exact hp ⟨z.2.2.1, nI_lt (by omega) (by omega)⟩)]
        simp (disch := first | assumption | omega | (simp only [ya_pi, ya_pj, ya_pa, ya_pr, yo_pi, yo_pj, yo_pa, yf_pi, yf_pj, yf_pa, yh_pi, yh_pj, yh_pa, yt_pi, yt_pj, yt_pa, la_pi, la_pj, la_pa]; assumption)) only [b_X12_whyDefine_0, b_X12_whyDefine_5, b_X12_whyDefine_27, b_X12_whyDefine_8, b_X12_whyDefine_12, b_X12_whyDefine_15, b_X12_whyDefine_24, b_X12_whyDefine_29, b_X12_whyDefine_61, b_X12_whyDefine_38, b_X12_whyDefine_57, i_lit, i_m1, i_31, il_t, il_f, iq_t, iq_f, it_t, it_f, im_e, im_l, im_g, im_g2, nI_add, pk_mul, i_sub, i_div, sdm, i_dec, i_cl, iv_t, bI_or2, bI_t0, bI_one, not_true_eq_false, not_false_eq_true, ↓reduceIte, am_tl, am_tn, am_t0, am_n0, and_true, true_and, List.cons_append, List.nil_append, List.append_nil, or_true, true_or, or_false, false_or, eq_self, ior0, iand0, im_e2, oI, l_lit, nI_l, c_isClass_y ok F ha, c_rMethod_y hm, c_within, wq]
    · rw [if_neg (fun z => hm z.2.1)]
      simp (disch := first | assumption | omega | (simp only [ya_pi, ya_pj, ya_pa, ya_pr, yo_pi, yo_pj, yo_pa, yf_pi, yf_pj, yf_pa, yh_pi, yh_pj, yh_pa, yt_pi, yt_pj, yt_pa, la_pi, la_pj, la_pa]; assumption)) only [b_X12_whyDefine_0, b_X12_whyDefine_5, b_X12_whyDefine_27, b_X12_whyDefine_8, b_X12_whyDefine_12, b_X12_whyDefine_15, b_X12_whyDefine_24, b_X12_whyDefine_29, b_X12_whyDefine_61, b_X12_whyDefine_38, b_X12_whyDefine_57, i_lit, i_m1, i_31, il_t, il_f, iq_t, iq_f, it_t, it_f, im_e, im_l, im_g, im_g2, nI_add, pk_mul, i_sub, i_div, sdm, i_dec, i_cl, iv_t, bI_or2, bI_t0, bI_one, not_true_eq_false, not_false_eq_true, ↓reduceIte, am_tl, am_tn, am_t0, am_n0, and_true, true_and, List.cons_append, List.nil_append, List.append_nil, or_true, true_or, or_false, false_or, eq_self, ior0, iand0, im_e2, oI, nI_l, c_isClass_y ok F ha, c_rMethod_n (lh_8 hm)]
  · rw [if_neg (fun z => hc z.1)]
    simp (disch := first | assumption | omega | (simp only [ya_pi, ya_pj, ya_pa, ya_pr, yo_pi, yo_pj, yo_pa, yf_pi, yf_pj, yf_pa, yh_pi, yh_pj, yh_pa, yt_pi, yt_pj, yt_pa, la_pi, la_pj, la_pa]; assumption)) only [b_X12_whyDefine_0, b_X12_whyDefine_5, b_X12_whyDefine_27, b_X12_whyDefine_8, b_X12_whyDefine_12, b_X12_whyDefine_15, b_X12_whyDefine_24, b_X12_whyDefine_29, b_X12_whyDefine_61, b_X12_whyDefine_38, b_X12_whyDefine_57, i_lit, i_m1, i_31, il_t, il_f, iq_t, iq_f, it_t, it_f, im_e, im_l, im_g, im_g2, nI_add, pk_mul, i_sub, i_div, sdm, i_dec, i_cl, iv_t, bI_or2, bI_t0, bI_one, not_true_eq_false, not_false_eq_true, ↓reduceIte, am_tl, am_tn, am_t0, am_n0, and_true, true_and, List.cons_append, List.nil_append, List.append_nil, or_true, true_or, or_false, false_or, eq_self, ior0, iand0, im_e2, oI, c_isClass_32 ok F hc]
/-! facts stay facts -/
theorem gd_setp {f : fa_S} (gd : fa_gd f) {c : Nat} {l : List Nat} (hc : c < f_n f) (h4 : l.length ≤ 4) (hp : ∀ p ∈ l, p < c) (nd : l.Nodup) : fa_gd (f_setp f c l) := by
  obtain ⟨ok, g1, g2, g3, g4⟩ := gd
  have hn := ok.1
  refine ⟨⟨ok.1, fun q => ?_⟩, g1, g2, fun q hq => ?_, g4⟩
  · show (if q = c then l else f_p f q).length ≤ 4 ∧ (∀ p ∈ (if q = c then l else f_p f q), p < q) ∧ (if q = c then l else f_p f q).Nodup ∧ (10 ≤ q → (if q = c then l else f_p f q) = [])
    by_cases z : q = c
    · subst z
      rw [if_pos rfl]
      exact ⟨h4, hp, nd, fun h => by omega⟩
    · rw [if_neg z]
      exact ok.2 q
  · show (if q = c then l else f_p f q) = []
    have hq' : f_n f ≤ q := hq
    rw [if_neg (by omega)]
    exact g3 q hq'
theorem gd_add {f : fa_S} (gd : fa_gd f) {c p : Int32} : fa_gd (d_add f c p).2 := by
  have ok := gd.1
  unfold d_add
  split
  · rename_i hh
    split
    · exact gd
    · rename_i h1
      obtain ⟨k, hk, rfl⟩ := (fa_has_iff ok.1).1 hh.1
      have hn := ok.1
      obtain ⟨q, hq, rfl⟩ := nI_of hh.2.1
      have hqk := (nI_ltI hq (by omega)).1 hh.2.2
      rw [nI_clamp (by omega), nI_clamp (by omega)] at h1 ⊢
      have hno : ¬ q ∈ f_p f k := by
        have : pl (f_p f k) q = none := by
          cases z : pl (f_p f k) q with
          | none => rfl
          | some i => exact absurd (Or.inl (by rw [z]; exact fun y => by cases y)) h1
        exact pl_none.1 this
      refine gd_setp gd hk ?_ ?_ ?_
      · rw [List.length_append, List.length_singleton]
        have : ¬ 4 ≤ (f_p f k).length := fun z => h1 (Or.inr z)
        omega
      · intro p hp
        rcases List.mem_append.1 hp with z | z
        · exact (ok.2 k).2.1 p z
        · rw [List.mem_singleton.1 z]
          exact hqk
      · rw [List.nodup_append]
        refine ⟨(ok.2 k).2.2.1, (by simp : [q].Nodup), fun a ha b hb e => ?_⟩
        rw [List.mem_singleton.1 hb] at e
        exact hno (e ▸ ha)
  · exact gd
theorem gd_rem {f : fa_S} (gd : fa_gd f) {c p : Int32} : fa_gd (d_rem f c p).2 := by
  have ok := gd.1
  unfold d_rem
  split
  · rename_i hh
    obtain ⟨k, hk, rfl⟩ := (fa_has_iff ok.1).1 hh.1
    have hn := ok.1
    rw [nI_clamp (by omega)]
    split
    · rename_i i hi
      refine gd_setp gd hk ?_ ?_ ?_
      · exact Nat.le_trans (List.length_eraseIdx_le _ _) (ok.2 k).1
      · intro p hp
        exact (ok.2 k).2.1 p (List.mem_of_mem_eraseIdx hp)
      · exact (ok.2 k).2.2.1.sublist (List.eraseIdx_sublist _ _)
    · exact gd
  · exact gd
theorem nd_gd {l : List Nat} : l.Nodup ↔ ∀ i j, i < j → j < l.length → ¬ l.getD i 0 = l.getD j 0 := by
  unfold List.Nodup
  rw [List.pairwise_iff_getElem]
  constructor
  · intro h i j hij hj
    rw [List.getD_eq_getElem?_getD, List.getD_eq_getElem?_getD, List.getElem?_eq_getElem hj, List.getElem?_eq_getElem (by omega)]
    exact h i j (by omega) hj hij
  · intro h i j hi hj hij
    have := h i j hij hj
    rw [List.getD_eq_getElem?_getD, List.getD_eq_getElem?_getD, List.getElem?_eq_getElem hj, List.getElem?_eq_getElem hi] at this
    exact this
theorem sw_mem {l : List Nat} {i x : Nat} (hi : i + 1 < l.length) (h : x ∈ sw l i) : x ∈ l := by
  obtain ⟨k, hk, e⟩ := gd_ex h
  rw [sw_len] at hk
  rw [gd_sw (by omega)] at e
  rw [← e]
  split
  · exact gd_mem (by omega)
  · split
    · exact gd_mem (by omega)
    · exact gd_mem (by omega)
theorem sw_nd {l : List Nat} {i : Nat} (hi : i + 1 < l.length) (h : l.Nodup) : (sw l i).Nodup := by
  rw [nd_gd] at h ⊢
  intro a b hab hb
  rw [sw_len] at hb
  rw [gd_sw hi, gd_sw hi]
  by_cases a1 : a = i + 1
  · rw [if_pos a1, if_neg (by omega), if_neg (by omega)]
    exact h _ _ (by omega) hb
  · rw [if_neg a1]
    by_cases a2 : a = i
    · rw [if_pos a2]
      by_cases b1 : b = i + 1
      · rw [if_pos b1]
        exact fun z => h i (i + 1) (by omega) hi z.symm
      · rw [if_neg b1, if_neg (by omega)]
        exact h _ _ (by omega) hb
    · rw [if_neg a2]
      by_cases b1 : b = i + 1
      · rw [if_pos b1]
        exact h _ _ (by omega) (by omega)
      · rw [if_neg b1]
        by_cases b2 : b = i
        · rw [if_pos b2]
          exact h _ _ (by omega) hi
        · rw [if_neg b2]
          exact h _ _ hab hb
theorem gd_swp {f : fa_S} (gd : fa_gd f) {c i : Nat} (hc : c < f_n f) (hi : i + 1 < (f_p f c).length) : fa_gd (f_setp f c (sw (f_p f c) i)) := by
  have ok := gd.1
  refine gd_setp gd hc (by rw [sw_len]; exact (ok.2 c).1) ?_ ?_
  · intro p hp
    exact (ok.2 c).2.1 p (sw_mem hi hp)
  · exact sw_nd hi (ok.2 c).2.2.1
theorem gd_swap {f : fa_S} (gd : fa_gd f) {c x : Int32} : fa_gd (d_swap f c x).2 := by
  have ok := gd.1
  unfold d_swap
  split
  · rename_i hh
    obtain ⟨k, hk, rfl⟩ := (fa_has_iff ok.1).1 hh
    have hn := ok.1
    rw [nI_clamp (by omega)]
    split
    · rename_i h2
      exact gd_swp gd hk h2.2
    · exact gd
  · exact gd
theorem gd_def {f : fa_S} (gd : fa_gd f) {c m w : Int32} : fa_gd (d_def f c m w).2 := by
  obtain ⟨ok, g1, g2, g3, g4⟩ := gd
  unfold d_def
  split
  · rename_i hh
    obtain ⟨k, hk, rfl⟩ := (fa_has_iff ok.1).1 hh.1
    have hn := ok.1
    rw [nI_clamp (by omega)]
    split
    · exact ⟨ok, g1, g2, g3, g4⟩
    · refine ⟨ok, fun a b => ?_, fun a b ha => ?_, g3, g4⟩
      · show ∃ v, v < 3 ∧ (if a = k ∧ b = m.toNatClampNeg then nI ((w.toNatClampNeg + 1) % 3) else f_d f a b) = nI v
        split
        · exact ⟨_, Nat.mod_lt _ (by omega), rfl⟩
        · exact g1 a b
      · show (if a = k ∧ b = m.toNatClampNeg then nI ((w.toNatClampNeg + 1) % 3) else f_d f a b) = nI 0
        have ha' : f_n f ≤ a := ha
        rw [if_neg (by omega)]
        exact g2 a b ha'
  · exact ⟨ok, g1, g2, g3, g4⟩
theorem gd_mood {f : fa_S} (gd : fa_gd f) {x : Int32} : fa_gd (d_mood f x).2 := by
  obtain ⟨ok, g1, g2, g3, g4⟩ := gd
  unfold d_mood
  split
  · rename_i hh
    obtain ⟨k, hk, rfl⟩ := nI_of hh.1
    exact ⟨ok, g1, g2, g3, k, (nI_ltI hk (by omega)).1 hh.2, rfl⟩
  · exact ⟨ok, g1, g2, g3, g4⟩
theorem gd_doN {f : fa_S} (gd : fa_gd f) {n : Nat} : fa_gd (d_doN f n).2 := by
  unfold d_doN
  split
  · exact gd_mood gd
  split
  · exact gd_add gd
  split
  · exact gd_rem gd
  split
  · exact gd_swap gd
  split
  · exact gd_def gd
  exact gd
theorem gd_do {f : fa_S} (gd : fa_gd f) {v : Int64} : fa_gd (d_do f v).2 := by
  unfold d_do
  split
  · exact gd
  · exact gd_doN gd
/-! what can't be changes nothing -/
theorem d_add_n {f : fa_S} {c p : Int32} (h : ¬ (d_add f c p).1 = nI 0) : (d_add f c p).2 = f := by
  unfold d_add at h ⊢
  split
  · rename_i z
    rw [if_pos z] at h
    split
    · rfl
    · rename_i y
      rw [if_neg y] at h
      exact absurd rfl h
  · rfl
theorem d_rem_n {f : fa_S} {c p : Int32} (h : ¬ (d_rem f c p).1 = nI 0) : (d_rem f c p).2 = f := by
  unfold d_rem at h ⊢
  split
  · rename_i z
    rw [if_pos z] at h
    split
    · rename_i y
      rw [y] at h
      exact absurd rfl h
    · rfl
  · rfl
theorem d_swap_n {f : fa_S} {c p : Int32} (h : ¬ (d_swap f c p).1 = nI 0) : (d_swap f c p).2 = f := by
  unfold d_swap at h ⊢
  split
  · rename_i z
    rw [if_pos z] at h
    split
    · rename_i y
      rw [if_pos y] at h
      exact absurd rfl h
    · rfl
  · rfl
theorem d_def_n {f : fa_S} {c m w : Int32} (h : ¬ (d_def f c m w).1 = nI 0) : (d_def f c m w).2 = f := by
  unfold d_def at h ⊢
  split
  · rename_i z
    rw [if_pos z] at h
    split
    · rfl
    · rename_i y
      rw [if_neg y] at h
      exact absurd rfl h
  · rfl
theorem d_mood_n {f : fa_S} {x : Int32} (h : ¬ (d_mood f x).1 = nI 0) : (d_mood f x).2 = f := by
  unfold d_mood at h ⊢
  split
  · rename_i z
    rw [if_pos z] at h
    exact absurd rfl h
  · rfl
theorem d_do_n {f : fa_S} {v : Int64} (h : ¬ (d_do f v).1 = nI 0) : (d_do f v).2 = f := by
  unfold d_do d_doN at h ⊢
  split
  · rfl
  rename_i z0
  rw [if_neg z0] at h
  split
  · rename_i z
    rw [if_pos z] at h
    exact d_mood_n h
  rename_i z
  rw [if_neg z] at h
  split
  · rename_i z
    rw [if_pos z] at h
    exact d_add_n h
  rename_i z
  rw [if_neg z] at h
  split
  · rename_i z
    rw [if_pos z] at h
    exact d_rem_n h
  rename_i z
  rw [if_neg z] at h
  split
  · rename_i z
    rw [if_pos z] at h
    exact d_swap_n h
  rename_i z
  rw [if_neg z] at h
  split
  · rename_i z
    rw [if_pos z] at h
    exact d_def_n h
  rfl
