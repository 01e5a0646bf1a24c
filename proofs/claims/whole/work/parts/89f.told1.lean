/-! ===== what calls were told to say ===== -/
def tdn (v : Int64) : Nat := v.toInt.toNat
theorem tdn_l {n : Nat} (h : n < 9223372036854775808) : tdn (lN n) = n := by
  unfold tdn
  rw [lI h]
  rfl
def tdB (f : fa_S) (v : Int64) : Bool := decide (¬ v < lN 0) && (decide (tdn v / 10000000 < f_n f) && (decide ((fT f (tdn v / 10000000)).1 = 0) && decide (tdn v / 100000 % 100 < 8)))
def tdC (f : fa_S) (tr : tr_S) (x : Int32) : Int32 := if tC tr x = nI 0 then (if (tr x.toNatClampNeg).2.length < 1 ∨ 8 < (tr x.toNatClampNeg).2.length then -4 else if (tr x.toNatClampNeg).2.all (tdB f) = true then nI 0 else -3) else tC tr x
theorem td_cs {f : fa_S} (ok : fa_ok f) {v : Int64} (h : tdB f v = true) : ∃ n, n < 100000000 ∧ v = lN n ∧ n / 10000000 < f_n f ∧ (fT f (n / 10000000)).1 = 0 ∧ n / 100000 % 100 < 8 := by
  unfold tdB at h
  rw [Bool.and_eq_true, Bool.and_eq_true, Bool.and_eq_true, decide_eq_true_eq, decide_eq_true_eq, decide_eq_true_eq, decide_eq_true_eq] at h
  obtain ⟨h0, h1, h2, h3⟩ := h
  obtain ⟨n, hn, rfl⟩ := pk_lOf h0
  rw [tdn_l hn] at h1 h2 h3
  have n10 := ok.1
  exact ⟨n, by omega, rfl, h1, h2, h3⟩
theorem c_canBeTold {d : Nat} {Q : Option am_V → am_H → Prop} {h : am_H} {f : fa_S} {v : Int64} {l2 l3 l4 : Option am_V} (ok : fa_ok f) (C : cQ h f) : ex_ (d + 1) 214 0 [some (v_r (some 0)), some (v_l v), l2, l3, l4] [] h Q ↔ Q (some (v_i (nI (if tdB f v = true then 1 else 0)))) h := by
  have L := C.1
  have n10 := ok.1
  have e0 := C.2.1.2.1
  by_cases z : v < lN 0
  · have b : tdB f v = false := by unfold tdB; rw [decide_eq_false (fun w => w z), Bool.false_and]
    simp (disch := first | assumption | omega | (simp only [ya_pi, ya_pj, ya_pa, ya_pr, yo_pi, yo_pj, yo_pa, yf_pi, yf_pj, yf_pa, yh_pi, yh_pj, yh_pa, yt_pi, yt_pj, yt_pa, la_pi, la_pj, la_pa]; assumption)) only [b_X11_canBeTold_0, b_X11_canBeTold_28, b_X11_canBeTold_12, b_X11_canBeTold_30, b_X11_canBeTold_39, b_X11_canBeTold_62, b_X11_canBeTold_42, b_X11_canBeTold_58, i_lit, i_m1, i_31, il_t, il_f, iq_t, iq_f, it_t, it_f, im_e, im_l, im_g, im_g2, nI_add, pk_mul, i_sub, i_div, sdm, i_dec, i_cl, iv_t, bI_or2, bI_t0, bI_one, not_true_eq_false, not_false_eq_true, ↓reduceIte, am_tl, am_tn, am_t0, am_n0, and_true, true_and, List.cons_append, List.nil_append, List.append_nil, l_lit, lc_lt, lc_le, lc_gt, lc_ge, lc_eq, ll_t, ll_f, lt_t, lt_f, lq_t, lq_f, l_div, lN_add, lN_mul, lN_sub, lN_i, z, b, Bool.false_eq_true]
  · obtain ⟨n, hn, rfl⟩ := pk_lOf z
    have b : tdB f (lN n) = (decide (n / 10000000 < f_n f) && (decide ((fT f (n / 10000000)).1 = 0) && decide (n / 100000 % 100 < 8))) := by
      unfold tdB
      rw [decide_eq_true z, Bool.true_and, tdn_l hn]
    rw [b]
    by_cases y : n / 10000000 < f_n f
    · rw [decide_eq_true y, Bool.true_and]
      have y11 : n / 10000000 < 11 := by omega
      rcases T_st ok y with ⟨sa, na⟩ | ⟨sa, na⟩
      · have la := (fT_ok ok _ y).2.2.2.2
        rw [decide_eq_true sa, Bool.true_and]
        by_cases w : n / 100000 % 100 < 8
        · simp (disch := first | assumption | omega | (simp only [ya_pi, ya_pj, ya_pa, ya_pr, yo_pi, yo_pj, yo_pa, yf_pi, yf_pj, yf_pa, yh_pi, yh_pj, yh_pa, yt_pi, yt_pj, yt_pa, la_pi, la_pj, la_pa]; assumption)) only [b_X11_canBeTold_0, b_X11_canBeTold_28, b_X11_canBeTold_12, b_X11_canBeTold_30, b_X11_canBeTold_39, b_X11_canBeTold_62, b_X11_canBeTold_42, b_X11_canBeTold_58, i_lit, i_m1, i_31, il_t, il_f, iq_t, iq_f, it_t, it_f, im_e, im_l, im_g, im_g2, nI_add, pk_mul, i_sub, i_div, sdm, i_dec, i_cl, iv_t, bI_or2, bI_t0, bI_one, not_true_eq_false, not_false_eq_true, ↓reduceIte, am_tl, am_tn, am_t0, am_n0, and_true, true_and, List.cons_append, List.nil_append, List.append_nil, l_lit, lc_lt, lc_le, lc_gt, lc_ge, lc_eq, ll_t, ll_f, lt_t, lt_f, lq_t, lq_f, l_div, lN_add, lN_mul, lN_sub, lN_i, z, e0, nI_l, c_hasOrder_y C.2.2.1 (C.2.2.2 _ y) y11 na (by omega), decide_eq_true w]
        · simp (disch := first | assumption | omega | (simp only [ya_pi, ya_pj, ya_pa, ya_pr, yo_pi, yo_pj, yo_pa, yf_pi, yf_pj, yf_pa, yh_pi, yh_pj, yh_pa, yt_pi, yt_pj, yt_pa, la_pi, la_pj, la_pa]; assumption)) only [b_X11_canBeTold_0, b_X11_canBeTold_28, b_X11_canBeTold_12, b_X11_canBeTold_30, b_X11_canBeTold_39, b_X11_canBeTold_62, b_X11_canBeTold_42, b_X11_canBeTold_58, i_lit, i_m1, i_31, il_t, il_f, iq_t, iq_f, it_t, it_f, im_e, im_l, im_g, im_g2, nI_add, pk_mul, i_sub, i_div, sdm, i_dec, i_cl, iv_t, bI_or2, bI_t0, bI_one, not_true_eq_false, not_false_eq_true, ↓reduceIte, am_tl, am_tn, am_t0, am_n0, and_true, true_and, List.cons_append, List.nil_append, List.append_nil, l_lit, lc_lt, lc_le, lc_gt, lc_ge, lc_eq, ll_t, ll_f, lt_t, lt_f, lq_t, lq_f, l_div, lN_add, lN_mul, lN_sub, lN_i, z, e0, nI_l, c_hasOrder_y C.2.2.1 (C.2.2.2 _ y) y11 na (by omega), decide_eq_false w, Bool.false_eq_true]
      · rw [decide_eq_false sa, Bool.false_and]
        simp (disch := first | assumption | omega | (simp only [ya_pi, ya_pj, ya_pa, ya_pr, yo_pi, yo_pj, yo_pa, yf_pi, yf_pj, yf_pa, yh_pi, yh_pj, yh_pa, yt_pi, yt_pj, yt_pa, la_pi, la_pj, la_pa]; assumption)) only [b_X11_canBeTold_0, b_X11_canBeTold_28, b_X11_canBeTold_12, b_X11_canBeTold_30, b_X11_canBeTold_39, b_X11_canBeTold_62, b_X11_canBeTold_42, b_X11_canBeTold_58, i_lit, i_m1, i_31, il_t, il_f, iq_t, iq_f, it_t, it_f, im_e, im_l, im_g, im_g2, nI_add, pk_mul, i_sub, i_div, sdm, i_dec, i_cl, iv_t, bI_or2, bI_t0, bI_one, not_true_eq_false, not_false_eq_true, ↓reduceIte, am_tl, am_tn, am_t0, am_n0, and_true, true_and, List.cons_append, List.nil_append, List.append_nil, l_lit, lc_lt, lc_le, lc_gt, lc_ge, lc_eq, ll_t, ll_f, lt_t, lt_f, lq_t, lq_f, l_div, lN_add, lN_mul, lN_sub, lN_i, z, e0, nI_l, c_hasOrder_n C.2.2.1 (C.2.2.2 _ y) y11 na, Bool.false_eq_true]
    · rw [decide_eq_false y, Bool.false_and]
      have y' : f_n f ≤ n / 10000000 := by omega
      simp (disch := first | assumption | omega | (simp only [ya_pi, ya_pj, ya_pa, ya_pr, yo_pi, yo_pj, yo_pa, yf_pi, yf_pj, yf_pa, yh_pi, yh_pj, yh_pa, yt_pi, yt_pj, yt_pa, la_pi, la_pj, la_pa]; assumption)) only [b_X11_canBeTold_0, b_X11_canBeTold_28, b_X11_canBeTold_12, b_X11_canBeTold_30, b_X11_canBeTold_39, b_X11_canBeTold_62, b_X11_canBeTold_42, b_X11_canBeTold_58, i_lit, i_m1, i_31, il_t, il_f, iq_t, iq_f, it_t, it_f, im_e, im_l, im_g, im_g2, nI_add, pk_mul, i_sub, i_div, sdm, i_dec, i_cl, iv_t, bI_or2, bI_t0, bI_one, not_true_eq_false, not_false_eq_true, ↓reduceIte, am_tl, am_tn, am_t0, am_n0, and_true, true_and, List.cons_append, List.nil_append, List.append_nil, l_lit, lc_lt, lc_le, lc_gt, lc_ge, lc_eq, ll_t, ll_f, lt_t, lt_f, lq_t, lq_f, l_div, lN_add, lN_mul, lN_sub, lN_i, z, e0, nI_l, Bool.false_eq_true]
theorem all_drop {vs : List Int64} {p : Int64 → Bool} {i : Nat} (h : i < vs.length) : (vs.drop i).all p = (p (vs.getD i 0) && (vs.drop (i + 1)).all p) := by
  rw [List.drop_eq_getElem_cons h, List.all_cons, List.getD_eq_getElem?_getD, List.getElem?_eq_getElem h]
  rfl
theorem c_toldCode {d : Nat} {Q : Option am_V → am_H → Prop} {h : am_H} {f : fa_S} {tr : tr_S} {x : Int32} {l2 l3 l4 : Option am_V} (ok : fa_ok f) (C : cQ h f) (T : tyA h tr) : ex_ (d + 2) 215 0 [some (v_r (some 0)), some (v_i x), l2, l3, l4] [] h Q ↔ Q (some (v_i (tdC f tr x))) h := by
  have L := C.1
  rcases tr_cs x with ⟨t, ht, rfl⟩ | hx
  · by_cases hm : (tr t).1 = mI
    · have e : tdC f tr (nI t) = -6 := by unfold tdC; rw [tC_m ht hm, if_neg nI0_6]
      rw [e]
      simp (disch := first | assumption | omega | (simp only [ya_pi, ya_pj, ya_pa, ya_pr, yo_pi, yo_pj, yo_pa, yf_pi, yf_pj, yf_pa, yh_pi, yh_pj, yh_pa, yt_pi, yt_pj, yt_pa, la_pi, la_pj, la_pa]; assumption)) only [b_X11_toldCode_0, b_X11_toldCode_5, b_X11_toldCode_12, b_X11_toldCode_10, b_X11_toldCode_20, b_X11_toldCode_36, b_X11_toldCode_27, b_X11_toldCode_28, b_X11_toldCode_39, b_X11_toldCode_45, b_X11_toldCode_73, b_X11_toldCode_51, b_X11_toldCode_55, b_X11_toldCode_58, b_X11_toldCode_61, b_X11_toldCode_67, b_X11_toldCode_64, i_lit, i_m1, i_31, il_t, il_f, iq_t, iq_f, it_t, it_f, im_e, im_l, im_g, im_g2, nI_add, pk_mul, i_sub, i_div, sdm, i_dec, i_cl, iv_t, bI_or2, bI_t0, bI_one, not_true_eq_false, not_false_eq_true, ↓reduceIte, am_tl, am_tn, am_t0, am_n0, and_true, true_and, List.cons_append, List.nil_append, List.append_nil, c_trayCode L T, tC_m ht hm, q60]
    · have er := tr_ref L ht
      have Y := tr_y L ht
      have T1 := T t ht
      have e1 := T1.2.1
      have l40 := T1.2.2.1
      by_cases z : (tr t).2.length < 1 ∨ 8 < (tr t).2.length
      · have e : tdC f tr (nI t) = -4 := by unfold tdC; rw [tC_y ht hm, if_pos rfl, nI_clamp (by omega), if_pos z]
        rw [e]
        by_cases y : (tr t).2.length < 1
        · simp (disch := first | assumption | omega | (simp only [ya_pi, ya_pj, ya_pa, ya_pr, yo_pi, yo_pj, yo_pa, yf_pi, yf_pj, yf_pa, yh_pi, yh_pj, yh_pa, yt_pi, yt_pj, yt_pa, la_pi, la_pj, la_pa]; assumption)) only [b_X11_toldCode_0, b_X11_toldCode_5, b_X11_toldCode_12, b_X11_toldCode_10, b_X11_toldCode_20, b_X11_toldCode_36, b_X11_toldCode_27, b_X11_toldCode_28, b_X11_toldCode_39, b_X11_toldCode_45, b_X11_toldCode_73, b_X11_toldCode_51, b_X11_toldCode_55, b_X11_toldCode_58, b_X11_toldCode_61, b_X11_toldCode_67, b_X11_toldCode_64, i_lit, i_m1, i_31, il_t, il_f, iq_t, iq_f, it_t, it_f, im_e, im_l, im_g, im_g2, nI_add, pk_mul, i_sub, i_div, sdm, i_dec, i_cl, iv_t, bI_or2, bI_t0, bI_one, not_true_eq_false, not_false_eq_true, ↓reduceIte, am_tl, am_tn, am_t0, am_n0, and_true, true_and, List.cons_append, List.nil_append, List.append_nil, c_trayCode L T, tC_y ht hm, er, e1]
        · have y2 : 8 < (tr t).2.length := by omega
          simp (disch := first | assumption | omega | (simp only [ya_pi, ya_pj, ya_pa, ya_pr, yo_pi, yo_pj, yo_pa, yf_pi, yf_pj, yf_pa, yh_pi, yh_pj, yh_pa, yt_pi, yt_pj, yt_pa, la_pi, la_pj, la_pa]; assumption)) only [b_X11_toldCode_0, b_X11_toldCode_5, b_X11_toldCode_12, b_X11_toldCode_10, b_X11_toldCode_20, b_X11_toldCode_36, b_X11_toldCode_27, b_X11_toldCode_28, b_X11_toldCode_39, b_X11_toldCode_45, b_X11_toldCode_73, b_X11_toldCode_51, b_X11_toldCode_55, b_X11_toldCode_58, b_X11_toldCode_61, b_X11_toldCode_67, b_X11_toldCode_64, i_lit, i_m1, i_31, il_t, il_f, iq_t, iq_f, it_t, it_f, im_e, im_l, im_g, im_g2, nI_add, pk_mul, i_sub, i_div, sdm, i_dec, i_cl, iv_t, bI_or2, bI_t0, bI_one, not_true_eq_false, not_false_eq_true, ↓reduceIte, am_tl, am_tn, am_t0, am_n0, and_true, true_and, List.cons_append, List.nil_append, List.append_nil, c_trayCode L T, tC_y ht hm, er, e1]
      · have e : tdC f tr (nI t) = if (tr t).2.all (tdB f) = true then nI 0 else -3 := by unfold tdC; rw [tC_y ht hm, if_pos rfl, nI_clamp (by omega), if_neg z]
        rw [e]
        generalize hR : (if (tr t).2.all (tdB f) = true then nI 0 else (-3 : Int32)) = R
        apply ex_iff
        have z1 : 1 ≤ (tr t).2.length := by omega
        have z8 : (tr t).2.length ≤ 8 := by omega
        simp (disch := first | assumption | omega | (simp only [ya_pi, ya_pj, ya_pa, ya_pr, yo_pi, yo_pj, yo_pa, yf_pi, yf_pj, yf_pa, yh_pi, yh_pj, yh_pa, yt_pi, yt_pj, yt_pa, la_pi, la_pj, la_pa]; assumption)) only [b_X11_toldCode_0, b_X11_toldCode_5, b_X11_toldCode_12, b_X11_toldCode_10, b_X11_toldCode_20, b_X11_toldCode_36, b_X11_toldCode_27, b_X11_toldCode_28, b_X11_toldCode_39, b_X11_toldCode_45, b_X11_toldCode_73, b_X11_toldCode_51, b_X11_toldCode_55, b_X11_toldCode_58, b_X11_toldCode_61, b_X11_toldCode_67, b_X11_toldCode_64, i_lit, i_m1, i_31, il_t, il_f, iq_t, iq_f, it_t, it_f, im_e, im_l, im_g, im_g2, nI_add, pk_mul, i_sub, i_div, sdm, i_dec, i_cl, iv_t, bI_or2, bI_t0, bI_one, not_true_eq_false, not_false_eq_true, ↓reduceIte, am_tl, am_tn, am_t0, am_n0, and_true, true_and, List.cons_append, List.nil_append, List.append_nil, c_trayCode L T, tC_y ht hm, er, e1]
        generalize hvs : (tr t).2 = vs at l40 z z1 z8 e1 hR
        refine lp_up vs.length (fun i (_ : Unit) => [some (v_r (some 0)), some (v_i (nI t)), some (v_i (nI 0)), some (v_r (some (85 + 2 * t))), some (v_i (nI i))]) (fun i _ h' => h' = h ∧ vs.all (tdB f) = (vs.drop i).all (tdB f)) ?_ ?_ (Nat.zero_le _) ⟨rfl, by rw [List.drop_zero]⟩ (s := ())
        · rintro i - h1 hi ⟨rfl, eq⟩ nxt
          have ca := fun {d} {Q} => c_tAt (d := d) (Q := Q) (k := i) L ht T1 (by rw [hvs]; exact hi)
          rw [hvs] at ca
          rw [all_drop hi] at eq
          rw [b_X11_toldCode_42 _ _ _ _ _ _]
          cases w : tdB f (vs.getD i 0) with
          | true =>
            rw [w, Bool.true_and] at eq
            simp (disch := first | assumption | omega | (simp only [ya_pi, ya_pj, ya_pa, ya_pr, yo_pi, yo_pj, yo_pa, yf_pi, yf_pj, yf_pa, yh_pi, yh_pj, yh_pa, yt_pi, yt_pj, yt_pa, la_pi, la_pj, la_pa]; assumption)) only [b_X11_toldCode_0, b_X11_toldCode_5, b_X11_toldCode_12, b_X11_toldCode_10, b_X11_toldCode_20, b_X11_toldCode_36, b_X11_toldCode_27, b_X11_toldCode_28, b_X11_toldCode_39, b_X11_toldCode_45, b_X11_toldCode_73, b_X11_toldCode_51, b_X11_toldCode_55, b_X11_toldCode_58, b_X11_toldCode_61, b_X11_toldCode_67, b_X11_toldCode_64, i_lit, i_m1, i_31, il_t, il_f, iq_t, iq_f, it_t, it_f, im_e, im_l, im_g, im_g2, nI_add, pk_mul, i_sub, i_div, sdm, i_dec, i_cl, iv_t, bI_or2, bI_t0, bI_one, not_true_eq_false, not_false_eq_true, ↓reduceIte, am_tl, am_tn, am_t0, am_n0, and_true, true_and, List.cons_append, List.nil_append, List.append_nil, e1, ca, c_canBeTold ok C, w]
            exact nxt () h1 ⟨rfl, eq⟩
          | false =>
            rw [w, Bool.false_and] at eq
            rw [eq, if_neg (by decide)] at hR
            simp (disch := first | assumption | omega | (simp only [ya_pi, ya_pj, ya_pa, ya_pr, yo_pi, yo_pj, yo_pa, yf_pi, yf_pj, yf_pa, yh_pi, yh_pj, yh_pa, yt_pi, yt_pj, yt_pa, la_pi, la_pj, la_pa]; assumption)) only [b_X11_toldCode_0, b_X11_toldCode_5, b_X11_toldCode_12, b_X11_toldCode_10, b_X11_toldCode_20, b_X11_toldCode_36, b_X11_toldCode_27, b_X11_toldCode_28, b_X11_toldCode_39, b_X11_toldCode_45, b_X11_toldCode_73, b_X11_toldCode_51, b_X11_toldCode_55, b_X11_toldCode_58, b_X11_toldCode_61, b_X11_toldCode_67, b_X11_toldCode_64, i_lit, i_m1, i_31, il_t, il_f, iq_t, iq_f, it_t, it_f, im_e, im_l, im_g, im_g2, nI_add, pk_mul, i_sub, i_div, sdm, i_dec, i_cl, iv_t, bI_or2, bI_t0, bI_one, not_true_eq_false, not_false_eq_true, ↓reduceIte, am_tl, am_tn, am_t0, am_n0, and_true, true_and, List.cons_append, List.nil_append, List.append_nil, e1, ca, c_canBeTold ok C, w, Bool.false_eq_true]
            rw [← hR]
            rfl
        · rintro - h1 ⟨rfl, eq⟩
          rw [List.drop_length, List.all_nil] at eq
          rw [eq, if_pos rfl] at hR
          rw [b_X11_toldCode_42 _ _ _ _ _ _]
          simp (disch := first | assumption | omega | (simp only [ya_pi, ya_pj, ya_pa, ya_pr, yo_pi, yo_pj, yo_pa, yf_pi, yf_pj, yf_pa, yh_pi, yh_pj, yh_pa, yt_pi, yt_pj, yt_pa, la_pi, la_pj, la_pa]; assumption)) only [b_X11_toldCode_0, b_X11_toldCode_5, b_X11_toldCode_12, b_X11_toldCode_10, b_X11_toldCode_20, b_X11_toldCode_36, b_X11_toldCode_27, b_X11_toldCode_28, b_X11_toldCode_39, b_X11_toldCode_45, b_X11_toldCode_73, b_X11_toldCode_51, b_X11_toldCode_55, b_X11_toldCode_58, b_X11_toldCode_61, b_X11_toldCode_67, b_X11_toldCode_64, i_lit, i_m1, i_31, il_t, il_f, iq_t, iq_f, it_t, it_f, im_e, im_l, im_g, im_g2, nI_add, pk_mul, i_sub, i_div, sdm, i_dec, i_cl, iv_t, bI_or2, bI_t0, bI_one, not_true_eq_false, not_false_eq_true, ↓reduceIte, am_tl, am_tn, am_t0, am_n0, and_true, true_and, List.cons_append, List.nil_append, List.append_nil, e1]
          rw [← hR]
  · have e : tdC f tr x = -2 := by unfold tdC; rw [tC_n hx, if_neg nI0_2]
    rw [e]
    simp (disch := first | assumption | omega | (simp only [ya_pi, ya_pj, ya_pa, ya_pr, yo_pi, yo_pj, yo_pa, yf_pi, yf_pj, yf_pa, yh_pi, yh_pj, yh_pa, yt_pi, yt_pj, yt_pa, la_pi, la_pj, la_pa]; assumption)) only [b_X11_toldCode_0, b_X11_toldCode_5, b_X11_toldCode_12, b_X11_toldCode_10, b_X11_toldCode_20, b_X11_toldCode_36, b_X11_toldCode_27, b_X11_toldCode_28, b_X11_toldCode_39, b_X11_toldCode_45, b_X11_toldCode_73, b_X11_toldCode_51, b_X11_toldCode_55, b_X11_toldCode_58, b_X11_toldCode_61, b_X11_toldCode_67, b_X11_toldCode_64, i_lit, i_m1, i_31, il_t, il_f, iq_t, iq_f, it_t, it_f, im_e, im_l, im_g, im_g2, nI_add, pk_mul, i_sub, i_div, sdm, i_dec, i_cl, iv_t, bI_or2, bI_t0, bI_one, not_true_eq_false, not_false_eq_true, ↓reduceIte, am_tl, am_tn, am_t0, am_n0, and_true, true_and, List.cons_append, List.nil_append, List.append_nil, c_trayCode L T, tC_n hx, q20]
/-- a told tray: its calls -/
theorem tdC_cs {f : fa_S} (tr : tr_S) (x : Int32) : (¬ tdC f tr x = nI 0) ∨ (tdC f tr x = nI 0 ∧ ∃ t, t < 4 ∧ x = nI t ∧ 1 ≤ (tr t).2.length ∧ (tr t).2.length ≤ 8 ∧ (tr t).2.all (tdB f) = true) := by
  by_cases z : tdC f tr x = nI 0
  · refine Or.inr ⟨z, ?_⟩
    rcases tr_cs x with ⟨t, ht, rfl⟩ | hx
    · unfold tdC at z
      rw [nI_clamp (by omega)] at z
      split at z
      · split at z
        · exact absurd z (by decide)
        · rename_i y
          split at z
          · rename_i w
            exact ⟨t, ht, rfl, by omega, by omega, w⟩
          · exact absurd z (by decide)
      · rename_i y
        exact absurd z y
    · unfold tdC at z
      rw [tC_n hx, if_neg nI0_2] at z
      exact absurd z nI0_2
  · exact Or.inl z
def xpd (v : Int64) : Int32 := nI (tdn v % 100000) - nI 50000
def mo1 (f : fa_S) (says seen : Option (List Nat)) (md : Nat) (v : Int64) : Bool := an f says seen (tdn v / 10000000) (tdn v / 100000 % 100) (nI md) == xpd v
def moP (f : fa_S) (says seen : Option (List Nat)) (vs : List Int64) (md : Nat) : Bool := vs.all (mo1 f says seen md)
theorem sub_64 {a b : Nat} (ha : a < 1000000) (hb : b < 1000000) : (nI a - nI b).toInt64 = lN a - lN b := by
  apply Int64.toInt_inj.1
  rw [Int32.toInt_toInt64, Int64.toInt_sub, lI (by omega), lI (by omega), Int32.toInt_sub, nI_toInt (by omega), nI_toInt (by omega)]
  rw [Int.bmod_eq_of_le (by omega) (by omega), Int.bmod_eq_of_le (by omega) (by omega)]
theorem x_eq {s : Int32} {a : Nat} (ha : a < 100000) : (s.toInt64 = lN a - lN 50000) = (s = nI a - nI 50000) := by
  rw [← sub_64 (by omega) (by omega), lg64e]
theorem c_moodsOf {d : Nat} {Q : Option am_V → am_H → Prop} {h : am_H} {S : St} {t : Nat} (ok : St_ok S) (C : cI h S) (ht : t < 4) (l8 : (s_t S t).2.length ≤ 8) (al : (s_t S t).2.all (tdB (s_f S)) = true) {l2 l3 l4 l5 l6 l7 lx : Option am_V} (k : ∀ h', am_fr h h' cS → Q (some (v_i (nI (bs (bl (moP (s_f S) (s_H S).2.1 (s_H S).2.2.1 (s_t S t).2) 10))))) h') : ex_ (d + 5) 216 0 [some (v_r (some 0)), some (v_r (some (85 + 2 * t))), l2, l3, l4, l5, l6, l7, lx] [] h Q := by
  have G := ok.1.1
  have gd := G.1
  have n10 := gd.1.1
  simp (disch := first | assumption | omega | (simp only [ya_pi, ya_pj, ya_pa, ya_pr, yo_pi, yo_pj, yo_pa, yf_pi, yf_pj, yf_pa, yh_pi, yh_pj, yh_pa, yt_pi, yt_pj, yt_pa, la_pi, la_pj, la_pa]; assumption)) only [b_X11_moodsOf_0, i_lit, i_m1, i_31, il_t, il_f, iq_t, iq_f, it_t, it_f, im_e, im_l, im_g, im_g2, nI_add, pk_mul, i_sub, i_div, sdm, i_dec, i_cl, iv_t, bI_or2, bI_t0, bI_one, not_true_eq_false, not_false_eq_true, ↓reduceIte, am_tl, am_tn, am_t0, am_n0, and_true, true_and, List.cons_append, List.nil_append, List.append_nil]
  generalize hvs : (s_t S t).2 = vs at k l8 al
  generalize hP : moP (s_f S) (s_H S).2.1 (s_H S).2.2.1 vs = P at k
  have st := lp_up (d := d + 5) (k := 216) (pc := 4) (Q := Q) 10 (fun i (s : Option am_V × Option am_V × Option am_V × Option am_V × Option am_V) => [some (v_r (some 0)), some (v_r (some (85 + 2 * t))), some (v_i (nI (bs (bl P i)))), some (v_i (nI i)), s.1, s.2.1, s.2.2.1, s.2.2.2.1, s.2.2.2.2]) (fun i _ h' => am_fr h h' cS) ?_ ?_ (Nat.zero_le _) am_fr.rf (s := (l4, l5, l6, l7, lx)) (h := h)
  · dsimp only at st
    rw [bl_0] at st
    exact st
  · rintro i ⟨m4, m5, m6, m7, m8⟩ h1 hi fr1 nxt
    dsimp only at nxt ⊢
    have i16 : i < 16 := by omega
    rw [b_X11_moodsOf_4 _ _ _ _ _ _ _ _ _ _]
    simp (disch := first | assumption | omega | (simp only [ya_pi, ya_pj, ya_pa, ya_pr, yo_pi, yo_pj, yo_pa, yf_pi, yf_pj, yf_pa, yh_pi, yh_pj, yh_pa, yt_pi, yt_pj, yt_pa, la_pi, la_pj, la_pa]; assumption)) only [b_X11_moodsOf_10, i_lit, i_m1, i_31, il_t, il_f, iq_t, iq_f, it_t, it_f, im_e, im_l, im_g, im_g2, nI_add, pk_mul, i_sub, i_div, sdm, i_dec, i_cl, iv_t, bI_or2, bI_t0, bI_one, not_true_eq_false, not_false_eq_true, ↓reduceIte, am_tl, am_tn, am_t0, am_n0, and_true, true_and, List.cons_append, List.nil_append, List.append_nil]
    refine lp_up vs.length (fun j (s : Nat × Option am_V × Option am_V × Option am_V) => [some (v_r (some 0)), some (v_r (some (85 + 2 * t))), some (v_i (nI (bs (bl P i)))), some (v_i (nI i)), some (v_i (nI s.1)), some (v_i (nI j)), s.2.1, s.2.2.1, s.2.2.2]) (fun j s h' => am_fr h h' cS ∧ s.1 = (if (vs.take j).all (mo1 (s_f S) (s_H S).2.1 (s_H S).2.2.1 i) = true then 1 else 0)) ?_ ?_ (Nat.zero_le _) ⟨fr1, rfl⟩ (s := (1, m6, m7, m8))
    · rintro j ⟨so, p6, p7, p8⟩ h2 hj ⟨fr2, eso⟩ nx2
      dsimp only at eso nx2 ⊢
      have C2 := C.q ok fr2
      have L2 := C2.1
      have T2 := C2.2.2.2.1 t ht
      have Y2 := tr_y L2 ht
      have e1 := T2.2.1
      have ca := fun {d} {Q} => c_tAt (d := d) (Q := Q) (k := j) L2 ht T2 (by rw [hvs]; exact hj)
      rw [hvs] at e1 ca
      have tk : (vs.take (j + 1)).all (mo1 (s_f S) (s_H S).2.1 (s_H S).2.2.1 i) = ((vs.take j).all (mo1 (s_f S) (s_H S).2.1 (s_H S).2.2.1 i) && mo1 (s_f S) (s_H S).2.1 (s_H S).2.2.1 i (vs.getD j 0)) := by
        rw [List.take_succ_eq_append_getElem hj, List.all_append, List.getD_eq_getElem?_getD, List.getElem?_eq_getElem hj]
        simp
      rw [b_X11_moodsOf_16 _ _ _ _ _ _ _ _ _ _ Y2]
      by_cases z : (vs.take j).all (mo1 (s_f S) (s_H S).2.1 (s_H S).2.2.1 i) = true
      · rw [if_pos z] at eso
        subst eso
        have hv : tdB (s_f S) (vs.getD j 0) = true := by
          have := List.all_eq_true.1 al (vs.getD j 0)
          apply this
          rw [List.getD_eq_getElem?_getD, List.getElem?_eq_getElem hj]
          exact List.getElem_mem hj
        obtain ⟨n, hn, ev, n1, n2, n3⟩ := td_cs gd.1 hv
        rw [ev] at ca
        rw [z, ev, Bool.true_and] at tk
        have em : n % 100000 < 100000 := Nat.mod_lt _ (by omega)
        simp (disch := first | assumption | omega | (simp only [ya_pi, ya_pj, ya_pa, ya_pr, yo_pi, yo_pj, yo_pa, yf_pi, yf_pj, yf_pa, yh_pi, yh_pj, yh_pa, yt_pi, yt_pj, yt_pa, la_pi, la_pj, la_pa]; assumption)) only [b_X11_moodsOf_25, b_X11_moodsOf_30, b_X11_moodsOf_36, i_lit, i_m1, i_31, il_t, il_f, iq_t, iq_f, it_t, it_f, im_e, im_l, im_g, im_g2, nI_add, pk_mul, i_sub, i_div, sdm, i_dec, i_cl, iv_t, bI_or2, bI_t0, bI_one, not_true_eq_false, not_false_eq_true, ↓reduceIte, am_tl, am_tn, am_t0, am_n0, and_true, true_and, List.cons_append, List.nil_append, List.append_nil, l_lit, lc_lt, lc_le, lc_gt, lc_ge, lc_eq, ll_t, ll_f, lt_t, lt_f, lq_t, lq_f, l_div, lN_add, lN_mul, lN_sub, lN_i, e1, ca, sdm]
        refine c_answer gd C2.cQ C2.cH.2.1 C2.cH.2.2 G.2.1 G.2.2 n1 n3 (fun h3 fr3 => ?_)
        have fr3' := fr2.tr (fr3.le (fun a k (z : vF a k) => z.S))
        have emo : mo1 (s_f S) (s_H S).2.1 (s_H S).2.2.1 i (lN n) = (an (s_f S) (s_H S).2.1 (s_H S).2.2.1 (n / 10000000) (n / 100000 % 100) (nI i) == (nI (n % 100000) - nI 50000)) := by
          unfold mo1 xpd
          rw [tdn_l (by omega)]
        simp only [b_X11_moodsOf_64, i_lit, l_lit, am_tl, am_t0, List.append_nil, lc_eq]
        rw [l_div (by omega) (by omega) (by omega), show lN n - lN (n / 100000) * lN 100000 = lN (n % 100000) from by rw [lN_mul, lN_sub (by omega), sdm]]
        simp only [x_eq em]
        by_cases y : an (s_f S) (s_H S).2.1 (s_H S).2.2.1 (n / 10000000) (n / 100000 % 100) (nI i) = nI (n % 100000) - nI 50000
        · rw [if_neg (fun w => w y)]
          simp (disch := first | assumption | omega | (simp only [ya_pi, ya_pj, ya_pa, ya_pr, yo_pi, yo_pj, yo_pa, yf_pi, yf_pj, yf_pa, yh_pi, yh_pj, yh_pa, yt_pi, yt_pj, yt_pa, la_pi, la_pj, la_pa]; assumption)) only [b_X11_moodsOf_83, i_lit, i_m1, i_31, il_t, il_f, iq_t, iq_f, it_t, it_f, im_e, im_l, im_g, im_g2, nI_add, pk_mul, i_sub, i_div, sdm, i_dec, i_cl, iv_t, bI_or2, bI_t0, bI_one, not_true_eq_false, not_false_eq_true, ↓reduceIte, am_tl, am_tn, am_t0, am_n0, and_true, true_and, List.cons_append, List.nil_append, List.append_nil]
          refine nx2 (1, _, _, _) h3 ⟨fr3', ?_⟩
          rw [tk, emo, y, beq_self_eq_true, if_pos rfl]
        · rw [if_pos y]
          simp (disch := first | assumption | omega | (simp only [ya_pi, ya_pj, ya_pa, ya_pr, yo_pi, yo_pj, yo_pa, yf_pi, yf_pj, yf_pa, yh_pi, yh_pj, yh_pa, yt_pi, yt_pj, yt_pa, la_pi, la_pj, la_pa]; assumption)) only [b_X11_moodsOf_87, i_lit, i_m1, i_31, il_t, il_f, iq_t, iq_f, it_t, it_f, im_e, im_l, im_g, im_g2, nI_add, pk_mul, i_sub, i_div, sdm, i_dec, i_cl, iv_t, bI_or2, bI_t0, bI_one, not_true_eq_false, not_false_eq_true, ↓reduceIte, am_tl, am_tn, am_t0, am_n0, and_true, true_and, List.cons_append, List.nil_append, List.append_nil]
          refine nx2 (0, _, _, _) h3 ⟨fr3', ?_⟩
          rw [tk, emo, beq_eq_false_iff_ne.2 y, if_neg (by decide)]
      · rw [if_neg z] at eso
        subst eso
        have zf : (vs.take j).all (mo1 (s_f S) (s_H S).2.1 (s_H S).2.2.1 i) = false := by simpa using z
        have pf : P i = false := by
          rw [← hP]
          unfold moP
          rw [← List.take_append_drop j vs, List.all_append, zf, Bool.false_and]
        have nx1 := nxt (some (v_i (nI 0)), some (v_i (nI j)), p6, p7, p8) h2 fr2
        dsimp only at nx1
        rw [bl_n pf] at nx1
        simp (disch := first | assumption | omega | (simp only [ya_pi, ya_pj, ya_pa, ya_pr, yo_pi, yo_pj, yo_pa, yf_pi, yf_pj, yf_pa, yh_pi, yh_pj, yh_pa, yt_pi, yt_pj, yt_pa, la_pi, la_pj, la_pa]; assumption)) only [b_X11_moodsOf_25, b_X11_moodsOf_96, b_X11_moodsOf_107, i_lit, i_m1, i_31, il_t, il_f, iq_t, iq_f, it_t, it_f, im_e, im_l, im_g, im_g2, nI_add, pk_mul, i_sub, i_div, sdm, i_dec, i_cl, iv_t, bI_or2, bI_t0, bI_one, not_true_eq_false, not_false_eq_true, ↓reduceIte, am_tl, am_tn, am_t0, am_n0, and_true, true_and, List.cons_append, List.nil_append, List.append_nil, e1]
        exact nx1
    · rintro ⟨so, p6, p7, p8⟩ h2 ⟨fr2, eso⟩
      dsimp only at eso ⊢
      have C2 := C.q ok fr2
      have L2 := C2.1
      have T2 := C2.2.2.2.1 t ht
      have Y2 := tr_y L2 ht
      have e1 := T2.2.1
      rw [hvs] at e1
      rw [List.take_length] at eso
      have eP : vs.all (mo1 (s_f S) (s_H S).2.1 (s_H S).2.2.1 i) = P i := by rw [← hP]; rfl
      rw [eP] at eso
      have nx1 := nxt (some (v_i (nI so)), some (v_i (nI vs.length)), p6, p7, p8) h2 fr2
      dsimp only at nx1
      rw [b_X11_moodsOf_16 _ _ _ _ _ _ _ _ _ _ Y2]
      cases w : P i with
      | true =>
        rw [w, if_pos rfl] at eso
        subst eso
        rw [bl_y w] at nx1
        simp (disch := first | assumption | omega | (simp only [ya_pi, ya_pj, ya_pa, ya_pr, yo_pi, yo_pj, yo_pa, yf_pi, yf_pj, yf_pa, yh_pi, yh_pj, yh_pa, yt_pi, yt_pj, yt_pa, la_pi, la_pj, la_pa]; assumption)) only [b_X11_moodsOf_96, b_X11_moodsOf_101, i_lit, i_m1, i_31, il_t, il_f, iq_t, iq_f, it_t, it_f, im_e, im_l, im_g, im_g2, nI_add, pk_mul, i_sub, i_div, sdm, i_dec, i_cl, iv_t, bI_or2, bI_t0, bI_one, not_true_eq_false, not_false_eq_true, ↓reduceIte, am_tl, am_tn, am_t0, am_n0, and_true, true_and, List.cons_append, List.nil_append, List.append_nil, e1, i_31]
        exact nx1
      | false =>
        rw [w, if_neg (by decide)] at eso
        subst eso
        rw [bl_n w] at nx1
        simp (disch := first | assumption | omega | (simp only [ya_pi, ya_pj, ya_pa, ya_pr, yo_pi, yo_pj, yo_pa, yf_pi, yf_pj, yf_pa, yh_pi, yh_pj, yh_pa, yt_pi, yt_pj, yt_pa, la_pi, la_pj, la_pa]; assumption)) only [b_X11_moodsOf_96, b_X11_moodsOf_107, i_lit, i_m1, i_31, il_t, il_f, iq_t, iq_f, it_t, it_f, im_e, im_l, im_g, im_g2, nI_add, pk_mul, i_sub, i_div, sdm, i_dec, i_cl, iv_t, bI_or2, bI_t0, bI_one, not_true_eq_false, not_false_eq_true, ↓reduceIte, am_tl, am_tn, am_t0, am_n0, and_true, true_and, List.cons_append, List.nil_append, List.append_nil, e1]
        exact nx1
  · rintro ⟨m4, m5, m6, m7, m8⟩ h1 fr1
    dsimp only
    rw [b_X11_moodsOf_4 _ _ _ _ _ _ _ _ _ _]
    simp (disch := first | assumption | omega | (simp only [ya_pi, ya_pj, ya_pa, ya_pr, yo_pi, yo_pj, yo_pa, yf_pi, yf_pj, yf_pa, yh_pi, yh_pj, yh_pa, yt_pi, yt_pj, yt_pa, la_pi, la_pj, la_pa]; assumption)) only [b_X11_moodsOf_113, i_lit, i_m1, i_31, il_t, il_f, iq_t, iq_f, it_t, it_f, im_e, im_l, im_g, im_g2, nI_add, pk_mul, i_sub, i_div, sdm, i_dec, i_cl, iv_t, bI_or2, bI_t0, bI_one, not_true_eq_false, not_false_eq_true, ↓reduceIte, am_tl, am_tn, am_t0, am_n0, and_true, true_and, List.cons_append, List.nil_append, List.append_nil]
    exact k h1 fr1
