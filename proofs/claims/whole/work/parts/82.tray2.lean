theorem hs_32 {n : Nat} (hn : n ≤ 1000) {c : Int32} : lh n c.toInt64 ↔ (¬ c < 0 ∧ c < nI n) := by
  constructor
  · rintro ⟨k, hk, e⟩
    rw [← nI_l (by omega)] at e
    rw [i_inj e]
    exact ⟨nI_pos (by omega), nI_lt hk (by omega)⟩
  · rintro ⟨h0, h1⟩
    obtain ⟨k, hk, rfl⟩ := nI_of h0
    exact ⟨k, (nI_ltI hk (by omega)).1 h1, nI_l (by omega)⟩
theorem p0_rtA {h : am_H} {tr : tr_S} (L0 : Lay h) (T : rtA h tr) {v : Int32} {j : Nat} : rtA (p_i h 93 j v) tr := fun _ ht => (T _ ht).fr L0 ht (gj_pi (P := fun a _ => a = 93) (J := N0) (R := N0) rfl) (by omega) (by omega) (fun _ _ z => z)
theorem p0_rP {h : am_H} {v : Int32} {t : Nat} : gj h (p_i h 93 0 v) (rP4 t) (rJ4 t) N0 := gj_pi (by unfold rP4 rS; omega)
theorem c_rNumbers {d : Nat} {Q : Option am_V → am_H → Prop} {h : am_H} {tr : tr_S} {x s n : Int32} (L0 : Lay h) (T : rtA h tr) {l4 : Option am_V} (k : ∀ h', (∃ t, t < 4 ∧ gj h h' (rP4 t) (rJ4 t) N0) → rtA h' (t_num tr x s n).2 → Q (some (v_i (t_num tr x s n).1)) h') : ex_ (d + 1) 369 0 [some (v_r (some 93)), some (v_i x), some (v_i s), some (v_i n), l4] [] h Q := by
  unfold t_num at k
  have L1 : Lay (p_i h 93 0 (nI 0)) := L0
  have T0 : rtA (p_i h 93 0 (nI 0)) tr := p0_rtA L0 T
  rcases tr_cs x with ⟨t, ht, rfl⟩ | hx
  · rcases tr_cs s with ⟨u, hu, rfl⟩ | hs
    · rw [if_pos ⟨tr_y4 ht, tr_y4 hu⟩, nI_clamp (by omega)] at k
      by_cases z : n < 0 ∨ nI 40 < n
      · rw [if_pos z] at k
        have z' : n.toInt64 < lN 0 ∨ lN 40 < n.toInt64 := by
          rw [← nI_l (n := 0) (by omega), ← nI_l (n := 40) (by omega), lg64, lg64]
          exact z
        simp (disch := first | assumption | omega | (simp only [ya_pi, ya_pj, ya_pa, ya_pr, yo_pi, yo_pj, yo_pa, yf_pi, yf_pj, yf_pa, yh_pi, yh_pj, yh_pa, yt_pi, yt_pj, yt_pa, la_pi, la_pj, la_pa]; assumption)) only [b_X12_numbers_0, b_X12_numbers_14, b_X12_numbers_29, b_X12_numbers_17, b_X12_numbers_26, b_X12_numbers_32, b_X12_numbers_41, b_X12_numbers_47, b_X12_numbers_44, b_X12_numbers_89, b_X12_numbers_70, i_lit, i_m1, i_31, il_t, il_f, iq_t, iq_f, it_t, it_f, im_e, im_l, im_g, im_g2, nI_add, pk_mul, i_sub, i_div, sdm, i_dec, i_cl, iv_t, bI_or2, bI_t0, bI_one, not_true_eq_false, not_false_eq_true, ↓reduceIte, am_tl, am_tn, am_t0, am_n0, and_true, true_and, List.cons_append, List.nil_append, List.append_nil, nI_l, l_lit, c_within_y, c_within_n z']
        exact k _ ⟨t, ht, p0_rP⟩ T0
      · rw [if_neg z] at k
        obtain ⟨n, hn, rfl⟩ := nI_of (fun w => z (Or.inl w))
        have n40 : n ≤ 40 := by
          rcases Nat.lt_or_ge 40 n with y | y
          · exact absurd (Or.inr (nI_lt y hn)) z
          · exact y
        rw [nI_clamp hn] at k
        simp (disch := first | assumption | omega | (simp only [ya_pi, ya_pj, ya_pa, ya_pr, yo_pi, yo_pj, yo_pa, yf_pi, yf_pj, yf_pa, yh_pi, yh_pj, yh_pa, yt_pi, yt_pj, yt_pa, la_pi, la_pj, la_pa]; assumption)) only [b_X12_numbers_0, b_X12_numbers_14, b_X12_numbers_29, b_X12_numbers_17, b_X12_numbers_26, b_X12_numbers_32, b_X12_numbers_41, b_X12_numbers_47, b_X12_numbers_44, b_X12_numbers_89, b_X12_numbers_70, i_lit, i_m1, i_31, il_t, il_f, iq_t, iq_f, it_t, it_f, im_e, im_l, im_g, im_g2, nI_add, pk_mul, i_sub, i_div, sdm, i_dec, i_cl, iv_t, bI_or2, bI_t0, bI_one, not_true_eq_false, not_false_eq_true, ↓reduceIte, am_tl, am_tn, am_t0, am_n0, and_true, true_and, List.cons_append, List.nil_append, List.append_nil, nI_l, l_lit, c_within_y]
        refine lp_up n (fun i (_ : Unit) => [some (v_r (some 93)), some (v_i (nI t)), some (v_i (nI u)), some (v_i (nI n)), some (v_i (nI i))]) (fun i _ h' => gj h h' (rP4 t) (rJ4 t) N0 ∧ Lay h' ∧ h_i h' 115 t = nI u ∧ h_i h' 116 t = nI n ∧ ∀ j, j < i → h_j h' 117 (40 * t + j) = 0) ?_ ?_ (Nat.zero_le _) ⟨(p0_rP.tr (gj_pi (by unfold rP4; omega))).tr (gj_pi (by unfold rP4; omega)), L0, by rw [hi_o (by omega), hi_s], by rw [hi_s], fun j hj => absurd hj (Nat.not_lt_zero _)⟩ (s := ())
        · rintro i - h1 hi ⟨g1, L1, e115, e116, e117⟩ nx
          rw [b_X12_numbers_64 _ _ _ _ _ _]
          simp (disch := first | assumption | omega | (simp only [ya_pi, ya_pj, ya_pa, ya_pr, yo_pi, yo_pj, yo_pa, yf_pi, yf_pj, yf_pa, yh_pi, yh_pj, yh_pa, yt_pi, yt_pj, yt_pa, la_pi, la_pj, la_pa]; assumption)) only [b_X12_numbers_0, b_X12_numbers_14, b_X12_numbers_29, b_X12_numbers_17, b_X12_numbers_26, b_X12_numbers_32, b_X12_numbers_41, b_X12_numbers_47, b_X12_numbers_44, b_X12_numbers_89, b_X12_numbers_70, i_lit, i_m1, i_31, il_t, il_f, iq_t, iq_f, it_t, it_f, im_e, im_l, im_g, im_g2, nI_add, pk_mul, i_sub, i_div, sdm, i_dec, i_cl, iv_t, bI_or2, bI_t0, bI_one, not_true_eq_false, not_false_eq_true, ↓reduceIte, am_tl, am_tn, am_t0, am_n0, and_true, true_and, List.cons_append, List.nil_append, List.append_nil]
          refine nx () _ ⟨g1.tr (gj_pj (by unfold rJ4; omega)), L1, e115, e116, fun j hj => ?_⟩
          by_cases y : j = i
          · rw [y, hj_s]
          · rw [hj_o (fun w => y (by omega))]
            exact e117 j (by omega)
        · rintro - h1 ⟨g1, L1, e115, e116, e117⟩
          rw [b_X12_numbers_64 _ _ _ _ _ _]
          simp (disch := first | assumption | omega | (simp only [ya_pi, ya_pj, ya_pa, ya_pr, yo_pi, yo_pj, yo_pa, yf_pi, yf_pj, yf_pa, yh_pi, yh_pj, yh_pa, yt_pi, yt_pj, yt_pa, la_pi, la_pj, la_pa]; assumption)) only [b_X12_numbers_0, b_X12_numbers_14, b_X12_numbers_29, b_X12_numbers_17, b_X12_numbers_26, b_X12_numbers_32, b_X12_numbers_41, b_X12_numbers_47, b_X12_numbers_44, b_X12_numbers_89, b_X12_numbers_70, i_lit, i_m1, i_31, il_t, il_f, iq_t, iq_f, it_t, it_f, im_e, im_l, im_g, im_g2, nI_add, pk_mul, i_sub, i_div, sdm, i_dec, i_cl, iv_t, bI_or2, bI_t0, bI_one, not_true_eq_false, not_false_eq_true, ↓reduceIte, am_tl, am_tn, am_t0, am_n0, and_true, true_and, List.cons_append, List.nil_append, List.append_nil]
          refine k h1 ⟨t, ht, g1⟩ (T.up L0 g1 ⟨e115, by rw [List.length_replicate]; exact e116, by rw [List.length_replicate]; exact n40, fun j hj => ?_⟩)
          rw [List.length_replicate] at hj
          rw [gdJ_rep]
          exact e117 j hj
    · rw [if_neg (fun z => hs z.2)] at k
      have z' : s.toInt64 < lN 0 ∨ lN 3 < s.toInt64 := by
        rw [w3]
        exact fun z => hs (lh_4.1 z)
      simp (disch := first | assumption | omega | (simp only [ya_pi, ya_pj, ya_pa, ya_pr, yo_pi, yo_pj, yo_pa, yf_pi, yf_pj, yf_pa, yh_pi, yh_pj, yh_pa, yt_pi, yt_pj, yt_pa, la_pi, la_pj, la_pa]; assumption)) only [b_X12_numbers_0, b_X12_numbers_14, b_X12_numbers_29, b_X12_numbers_17, b_X12_numbers_26, b_X12_numbers_32, b_X12_numbers_41, b_X12_numbers_47, b_X12_numbers_44, b_X12_numbers_89, b_X12_numbers_70, i_lit, i_m1, i_31, il_t, il_f, iq_t, iq_f, it_t, it_f, im_e, im_l, im_g, im_g2, nI_add, pk_mul, i_sub, i_div, sdm, i_dec, i_cl, iv_t, bI_or2, bI_t0, bI_one, not_true_eq_false, not_false_eq_true, ↓reduceIte, am_tl, am_tn, am_t0, am_n0, and_true, true_and, List.cons_append, List.nil_append, List.append_nil, nI_l, l_lit, c_within_y, c_within_n z']
      exact k _ ⟨t, ht, p0_rP⟩ T0
  · rw [if_neg (fun z => hx z.1)] at k
    have z' : x.toInt64 < lN 0 ∨ lN 3 < x.toInt64 := by
      rw [w3]
      exact fun z => hx (lh_4.1 z)
    simp (disch := first | assumption | omega | (simp only [ya_pi, ya_pj, ya_pa, ya_pr, yo_pi, yo_pj, yo_pa, yf_pi, yf_pj, yf_pa, yh_pi, yh_pj, yh_pa, yt_pi, yt_pj, yt_pa, la_pi, la_pj, la_pa]; assumption)) only [b_X12_numbers_0, b_X12_numbers_14, b_X12_numbers_29, b_X12_numbers_17, b_X12_numbers_26, b_X12_numbers_32, b_X12_numbers_41, b_X12_numbers_47, b_X12_numbers_44, b_X12_numbers_89, b_X12_numbers_70, i_lit, i_m1, i_31, il_t, il_f, iq_t, iq_f, it_t, it_f, im_e, im_l, im_g, im_g2, nI_add, pk_mul, i_sub, i_div, sdm, i_dec, i_cl, iv_t, bI_or2, bI_t0, bI_one, not_true_eq_false, not_false_eq_true, ↓reduceIte, am_tl, am_tn, am_t0, am_n0, and_true, true_and, List.cons_append, List.nil_append, List.append_nil, l_lit, c_within_n z']
    exact k _ ⟨0, by omega, p0_rP⟩ T0
theorem c_rWrite {d : Nat} {Q : Option am_V → am_H → Prop} {h : am_H} {tr : tr_S} {x i : Int32} {v : Int64} (L0 : Lay h) (T : rtA h tr) {l4 l5 : Option am_V} (k : ∀ h', (∃ t, t < 4 ∧ gj h h' (rP4 t) (rJ4 t) N0) → rtA h' (t_write tr x i v).2 → Q (some (v_l (t_write tr x i v).1)) h') : ex_ (d + 2) 370 0 [some (v_r (some 93)), some (v_i x), some (v_i i), some (v_l v), l4, l5] [] h Q := by
  unfold t_write at k
  have L1 : Lay (p_i h 93 0 (nI 0)) := L0
  have T0 : rtA (p_i h 93 0 (nI 0)) tr := p0_rtA L0 T
  rcases tr_cs x with ⟨t, ht, rfl⟩ | hx
  · by_cases hm : (tr t).1 = mI
    · rw [tC_m ht hm, if_neg nI0_6] at k
      simp (disch := first | assumption | omega | (simp only [ya_pi, ya_pj, ya_pa, ya_pr, yo_pi, yo_pj, yo_pa, yf_pi, yf_pj, yf_pa, yh_pi, yh_pj, yh_pa, yt_pi, yt_pj, yt_pa, la_pi, la_pj, la_pa]; assumption)) only [b_X12_write_0, b_X12_write_10, b_X12_write_21, b_X12_write_17, b_X12_write_36, b_X12_write_43, b_X12_write_39, b_X12_write_63, i_lit, i_m1, i_31, il_t, il_f, iq_t, iq_f, it_t, it_f, im_e, im_l, im_g, im_g2, nI_add, pk_mul, i_sub, i_div, sdm, i_dec, i_cl, iv_t, bI_or2, bI_t0, bI_one, not_true_eq_false, not_false_eq_true, ↓reduceIte, am_tl, am_tn, am_t0, am_n0, and_true, true_and, List.cons_append, List.nil_append, List.append_nil, c_noTray L1 T0, tC_m ht hm, nI0_6]
      exact k _ ⟨0, by omega, p0_rP⟩ T0
    · rw [tC_y ht hm, if_pos rfl, nI_clamp (by omega)] at k
      have T1 := T0 t ht
      have e0 := T1.1
      have e1 := T1.2.1
      have l40 := T1.2.2.1
      by_cases z : ¬ i < 0 ∧ i < nI (tr t).2.length
      · rw [if_pos z] at k
        obtain ⟨i, hi, rfl⟩ := nI_of z.1
        have y : i < (tr t).2.length := (nI_ltI hi (by omega)).1 z.2
        rw [nI_clamp hi] at k
        have T2 := rty_set (x := cutL (tr t).1 v) T1 y
        have A : y_arr (p_i h 93 0 (nI 0)) 117 23 160 := la_y L1 rfl
        simp (disch := first | assumption | omega | (simp only [ya_pi, ya_pj, ya_pa, ya_pr, yo_pi, yo_pj, yo_pa, yf_pi, yf_pj, yf_pa, yh_pi, yh_pj, yh_pa, yt_pi, yt_pj, yt_pa, la_pi, la_pj, la_pa]; assumption)) only [b_X12_write_0, b_X12_write_10, b_X12_write_21, b_X12_write_17, b_X12_write_36, b_X12_write_43, b_X12_write_39, b_X12_write_63, i_lit, i_m1, i_31, il_t, il_f, iq_t, iq_f, it_t, it_f, im_e, im_l, im_g, im_g2, nI_add, pk_mul, i_sub, i_div, sdm, i_dec, i_cl, iv_t, bI_or2, bI_t0, bI_one, not_true_eq_false, not_false_eq_true, ↓reduceIte, am_tl, am_tn, am_t0, am_n0, and_true, true_and, List.cons_append, List.nil_append, List.append_nil, nI_l, l_lit, c_noTray L1 T0, tC_y ht hm, e1, c_within_y, e0, c_rCut, hj_s]
        exact k _ ⟨t, ht, p0_rP.tr (gj_pj (by unfold rJ4; omega))⟩ (T.up L0 (p0_rP.tr (gj_pj (by unfold rJ4; omega))) T2)
      · rw [if_neg z] at k
        have w : i.toInt64 < lN 0 ∨ (nI (tr t).2.length - nI 1).toInt64 < i.toInt64 := by
          rw [w_iff (by omega)]
          exact fun y => z ((hs_32 (by omega)).1 y)
        simp (disch := first | assumption | omega | (simp only [ya_pi, ya_pj, ya_pa, ya_pr, yo_pi, yo_pj, yo_pa, yf_pi, yf_pj, yf_pa, yh_pi, yh_pj, yh_pa, yt_pi, yt_pj, yt_pa, la_pi, la_pj, la_pa]; assumption)) only [b_X12_write_0, b_X12_write_10, b_X12_write_21, b_X12_write_17, b_X12_write_36, b_X12_write_43, b_X12_write_39, b_X12_write_63, i_lit, i_m1, i_31, il_t, il_f, iq_t, iq_f, it_t, it_f, im_e, im_l, im_g, im_g2, nI_add, pk_mul, i_sub, i_div, sdm, i_dec, i_cl, iv_t, bI_or2, bI_t0, bI_one, not_true_eq_false, not_false_eq_true, ↓reduceIte, am_tl, am_tn, am_t0, am_n0, and_true, true_and, List.cons_append, List.nil_append, List.append_nil, nI_l, l_lit, c_noTray L1 T0, tC_y ht hm, e1, c_within_n w]
        exact k _ ⟨0, by omega, p0_rP⟩ T0
  · rw [tC_n hx, if_neg nI0_2] at k
    simp (disch := first | assumption | omega | (simp only [ya_pi, ya_pj, ya_pa, ya_pr, yo_pi, yo_pj, yo_pa, yf_pi, yf_pj, yf_pa, yh_pi, yh_pj, yh_pa, yt_pi, yt_pj, yt_pa, la_pi, la_pj, la_pa]; assumption)) only [b_X12_write_0, b_X12_write_10, b_X12_write_21, b_X12_write_17, b_X12_write_36, b_X12_write_43, b_X12_write_39, b_X12_write_63, i_lit, i_m1, i_31, il_t, il_f, iq_t, iq_f, it_t, it_f, im_e, im_l, im_g, im_g2, nI_add, pk_mul, i_sub, i_div, sdm, i_dec, i_cl, iv_t, bI_or2, bI_t0, bI_one, not_true_eq_false, not_false_eq_true, ↓reduceIte, am_tl, am_tn, am_t0, am_n0, and_true, true_and, List.cons_append, List.nil_append, List.append_nil, c_noTray L1 T0, tC_n hx, nI0_2]
    exact k _ ⟨0, by omega, p0_rP⟩ T0
/-! lists -/
def stl (vs : List Int64) (l : List Nat) : Nat → List Int64
  | 0 => vs
  | i + 1 => (stl vs l i).set i (lN (l.getD i 0))
theorem stl_len {vs : List Int64} {l : List Nat} : ∀ i, (stl vs l i).length = vs.length := by
  intro i
  induction i with
  | zero => rfl
  | succ i ih => rw [stl, List.length_set, ih]
theorem cut_10 : ∀ x, x < 10 → Int32.toInt64 (Int8.toInt32 (Int32.toInt8 (Int64.toInt32 (lN x)))) = lN x ∧ Int32.toInt64 (Int16.toInt32 (Int32.toInt16 (Int64.toInt32 (lN x)))) = lN x ∧ Int32.toInt64 (Int64.toInt32 (lN x)) = lN x := by decide
theorem cutL_10 {s : Int32} {x : Nat} (hx : x < 10) : cutL s (lN x) = lN x := by
  have := cut_10 x hx
  unfold cutL
  split
  · exact this.1
  · split
    · exact this.2.1
    · split
      · exact this.2.2
      · rfl
def mnl (a b : Nat) : Nat := if b < a then b else a
def t_lists (f : fa_S) (tr : tr_S) (x c : Int32) : Int32 × tr_S := if tr_ok x ∧ fa_has (f_n f) c then (if (tr x.toNatClampNeg).1 = mI then (-6, tr) else if (fT f c.toNatClampNeg).1 = 0 then (nI (mnl (tr x.toNatClampNeg).2.length (fT f c.toNatClampNeg).2.length), up_t tr x.toNatClampNeg ((tr x.toNatClampNeg).1, stl (tr x.toNatClampNeg).2 (fT f c.toNatClampNeg).2 (mnl (tr x.toNatClampNeg).2.length (fT f c.toNatClampNeg).2.length))) else (-5, tr)) else (-2, tr)
theorem mnl_i {a b : Nat} (ha : a < 2147483648) (hb : b < 2147483648) : (if nI b < nI a then nI b else nI a) = nI (mnl a b) := by
  unfold mnl
  by_cases z : b < a
  · rw [if_pos z, if_pos (nI_lt z ha)]
  · rw [if_neg z, if_neg (nI_nlt (by omega) hb)]
theorem mnl_le {a b : Nat} : mnl a b ≤ a ∧ mnl a b ≤ b := by unfold mnl; split <;> omega
theorem cQ.tr {h h' : am_H} {f : fa_S} (ok : fa_ok f) (C : cQ h f) {t : Nat} (ht : t < 4) (g : gj h h' (tP t) (tJ t) N0) : cQ h' f := ⟨g.2.lay N0_ref C.1, g.2.fa (fun c => (ok.2 c).1) C.2.1 (fun a k h1 h2 => by unfold tP; omega) (fun k z => z), g.2.or C.2.2 (fun c hc => by have := (fT_ok ok c hc).2.2.2.2; omega) (fun c hc => ⟨by unfold tP; omega, by unfold tP; omega, fun k hk => by unfold tP; omega⟩) (fun k z => z)⟩
theorem c_lists {d : Nat} {Q : Option am_V → am_H → Prop} {h : am_H} {f : fa_S} {tr : tr_S} (ok : fa_ok f) (C : cQ h f) (T : tyA h tr) {x c : Int32} {l3 l4 : Option am_V} (k : ∀ h', (∃ t, t < 4 ∧ gj h h' (tP t) (tJ t) N0) → tyA h' (t_lists f tr x c).2 → Q (some (v_i (t_lists f tr x c).1)) h') : ex_ (d + 2) 225 0 [some (v_r (some 0)), some (v_i x), some (v_i c), l3, l4] [] h Q := by
  have L0 := C.1
  have hn := ok.1
  unfold t_lists at k
  rcases tr_cs x with ⟨t, ht, rfl⟩ | hx
  · have Y := tr_y L0 ht
    have er := tr_ref L0 ht
    rcases fa_cs hn c with ⟨a, ha, rfl⟩ | hc
    · rw [if_pos ⟨tr_y4 ht, (fa_has_iff hn).2 ⟨a, ha, rfl⟩⟩, nI_clamp (by omega), nI_clamp (by omega)] at k
      have T1 := T t ht
      have e1 := T1.2.1
      have l40 := T1.2.2.1
      have oa := fT_ok ok a ha
      have a11 : a < 11 := by omega
      by_cases hm : (tr t).1 = mI
      · rw [if_pos hm] at k
        simp (disch := first | assumption | omega | (simp only [ya_pi, ya_pj, ya_pa, ya_pr, yo_pi, yo_pj, yo_pa, yf_pi, yf_pj, yf_pa, yh_pi, yh_pj, yh_pa, yt_pi, yt_pj, yt_pa, la_pi, la_pj, la_pa]; assumption)) only [b_X11_lists_0, b_X11_lists_4, b_X11_lists_21, b_X11_lists_7, b_X11_lists_18, b_X11_lists_24, b_X11_lists_30, b_X11_lists_33, b_X11_lists_39, b_X11_lists_36, b_X11_lists_47, b_X11_lists_53, b_X11_lists_50, b_X11_lists_59, b_X11_lists_70, b_X11_lists_111, b_X11_lists_83, b_X11_lists_101, b_X11_lists_102, b_X11_lists_105, i_lit, i_m1, i_31, il_t, il_f, iq_t, iq_f, it_t, it_f, im_e, im_l, im_g, im_g2, nI_add, pk_mul, i_sub, i_div, sdm, i_dec, i_cl, iv_t, bI_or2, bI_t0, bI_one, not_true_eq_false, not_false_eq_true, ↓reduceIte, am_tl, am_tn, am_t0, am_n0, and_true, true_and, List.cons_append, List.nil_append, List.append_nil, c_isTray_y ht, c_hasClass_y ok C.2.1 ha, er, c_isMissing L0 ht T1, hm]
        exact k h ⟨0, by omega, gj.rf⟩ T
      · rw [if_neg hm] at k
        rcases T_st ok ha with ⟨sa, na⟩ | ⟨sa, na⟩
        · rw [if_pos sa] at k
          simp (disch := first | assumption | omega | (simp only [ya_pi, ya_pj, ya_pa, ya_pr, yo_pi, yo_pj, yo_pa, yf_pi, yf_pj, yf_pa, yh_pi, yh_pj, yh_pa, yt_pi, yt_pj, yt_pa, la_pi, la_pj, la_pa]; assumption)) only [b_X11_lists_0, b_X11_lists_4, b_X11_lists_21, b_X11_lists_7, b_X11_lists_18, b_X11_lists_24, b_X11_lists_30, b_X11_lists_33, b_X11_lists_39, b_X11_lists_36, b_X11_lists_47, b_X11_lists_53, b_X11_lists_50, b_X11_lists_59, b_X11_lists_70, b_X11_lists_111, b_X11_lists_83, b_X11_lists_101, b_X11_lists_102, b_X11_lists_105, i_lit, i_m1, i_31, il_t, il_f, iq_t, iq_f, it_t, it_f, im_e, im_l, im_g, im_g2, nI_add, pk_mul, i_sub, i_div, sdm, i_dec, i_cl, iv_t, bI_or2, bI_t0, bI_one, not_true_eq_false, not_false_eq_true, ↓reduceIte, am_tl, am_tn, am_t0, am_n0, and_true, true_and, List.cons_append, List.nil_append, List.append_nil, c_isTray_y ht, c_hasClass_y ok C.2.1 ha, er, c_isMissing L0 ht T1, hm, c_hasOrder_y C.2.2.1 (C.2.2.2 a ha) a11 na (by omega), c_sizeOf C.2.2.1 (C.2.2.2 a ha) a11, e1]
          rw [mnl_i (by omega) (by omega)]
          have ml := mnl_le (a := (tr t).2.length) (b := (fT f a).2.length)
          generalize hm0 : mnl (tr t).2.length (fT f a).2.length = n at k ml
          refine lp_up n (fun i (_ : Unit) => [some (v_r (some 0)), some (v_i (nI t)), some (v_i (nI a)), some (v_i (nI n)), some (v_i (nI i))]) (fun i _ h' => gj h h' (tP t) (tJ t) N0 ∧ ty h' t ((tr t).1, stl (tr t).2 (fT f a).2 i)) ?_ ?_ (Nat.zero_le _) ⟨gj.rf, T1⟩ (s := ())
          · rintro i - h1 hi ⟨g1, T2⟩ nx
            have C1 := C.tr ok ht g1
            have L1 := C1.1
            have Y1 := tr_y L1 ht
            have er1 := tr_ref L1 ht
            have xi := oa.2.2.2.1 _ (gd_mem (show i < (fT f a).2.length by omega))
            rw [b_X11_lists_77 _ _ _ _ _ _]
            simp (disch := first | assumption | omega | (simp only [ya_pi, ya_pj, ya_pa, ya_pr, yo_pi, yo_pj, yo_pa, yf_pi, yf_pj, yf_pa, yh_pi, yh_pj, yh_pa, yt_pi, yt_pj, yt_pa, la_pi, la_pj, la_pa]; assumption)) only [b_X11_lists_0, b_X11_lists_4, b_X11_lists_21, b_X11_lists_7, b_X11_lists_18, b_X11_lists_24, b_X11_lists_30, b_X11_lists_33, b_X11_lists_39, b_X11_lists_36, b_X11_lists_47, b_X11_lists_53, b_X11_lists_50, b_X11_lists_59, b_X11_lists_70, b_X11_lists_111, b_X11_lists_83, b_X11_lists_101, b_X11_lists_102, b_X11_lists_105, i_lit, i_m1, i_31, il_t, il_f, iq_t, iq_f, it_t, it_f, im_e, im_l, im_g, im_g2, nI_add, pk_mul, i_sub, i_div, sdm, i_dec, i_cl, iv_t, bI_or2, bI_t0, bI_one, not_true_eq_false, not_false_eq_true, ↓reduceIte, am_tl, am_tn, am_t0, am_n0, and_true, true_and, List.cons_append, List.nil_append, List.append_nil, er1, c_at C1.2.2.1 (C1.2.2.2 a ha) a11 (show i < (fT f a).2.length by omega) (by omega), nI_l, c_put L1 ht T2.1 (show i < 40 by omega), cutL_10 xi]
            exact nx () _ ⟨g1.tr (gj_pj rfl), ty_set T2 (by dsimp only; rw [stl_len]; omega)⟩
          · rintro - h1 ⟨g1, T2⟩
            rw [b_X11_lists_77 _ _ _ _ _ _]
            simp (disch := first | assumption | omega | (simp only [ya_pi, ya_pj, ya_pa, ya_pr, yo_pi, yo_pj, yo_pa, yf_pi, yf_pj, yf_pa, yh_pi, yh_pj, yh_pa, yt_pi, yt_pj, yt_pa, la_pi, la_pj, la_pa]; assumption)) only [b_X11_lists_0, b_X11_lists_4, b_X11_lists_21, b_X11_lists_7, b_X11_lists_18, b_X11_lists_24, b_X11_lists_30, b_X11_lists_33, b_X11_lists_39, b_X11_lists_36, b_X11_lists_47, b_X11_lists_53, b_X11_lists_50, b_X11_lists_59, b_X11_lists_70, b_X11_lists_111, b_X11_lists_83, b_X11_lists_101, b_X11_lists_102, b_X11_lists_105, i_lit, i_m1, i_31, il_t, il_f, iq_t, iq_f, it_t, it_f, im_e, im_l, im_g, im_g2, nI_add, pk_mul, i_sub, i_div, sdm, i_dec, i_cl, iv_t, bI_or2, bI_t0, bI_one, not_true_eq_false, not_false_eq_true, ↓reduceIte, am_tl, am_tn, am_t0, am_n0, and_true, true_and, List.cons_append, List.nil_append, List.append_nil]
            exact k h1 ⟨t, ht, g1⟩ (T.up L0 g1 T2)
        · rw [if_neg sa] at k
          simp (disch := first | assumption | omega | (simp only [ya_pi, ya_pj, ya_pa, ya_pr, yo_pi, yo_pj, yo_pa, yf_pi, yf_pj, yf_pa, yh_pi, yh_pj, yh_pa, yt_pi, yt_pj, yt_pa, la_pi, la_pj, la_pa]; assumption)) only [b_X11_lists_0, b_X11_lists_4, b_X11_lists_21, b_X11_lists_7, b_X11_lists_18, b_X11_lists_24, b_X11_lists_30, b_X11_lists_33, b_X11_lists_39, b_X11_lists_36, b_X11_lists_47, b_X11_lists_53, b_X11_lists_50, b_X11_lists_59, b_X11_lists_70, b_X11_lists_111, b_X11_lists_83, b_X11_lists_101, b_X11_lists_102, b_X11_lists_105, i_lit, i_m1, i_31, il_t, il_f, iq_t, iq_f, it_t, it_f, im_e, im_l, im_g, im_g2, nI_add, pk_mul, i_sub, i_div, sdm, i_dec, i_cl, iv_t, bI_or2, bI_t0, bI_one, not_true_eq_false, not_false_eq_true, ↓reduceIte, am_tl, am_tn, am_t0, am_n0, and_true, true_and, List.cons_append, List.nil_append, List.append_nil, c_isTray_y ht, c_hasClass_y ok C.2.1 ha, er, c_isMissing L0 ht T1, hm, c_hasOrder_n C.2.2.1 (C.2.2.2 a ha) a11 na]
          exact k h ⟨0, by omega, gj.rf⟩ T
    · rw [if_neg (fun z => hc z.2)] at k
      simp (disch := first | assumption | omega | (simp only [ya_pi, ya_pj, ya_pa, ya_pr, yo_pi, yo_pj, yo_pa, yf_pi, yf_pj, yf_pa, yh_pi, yh_pj, yh_pa, yt_pi, yt_pj, yt_pa, la_pi, la_pj, la_pa]; assumption)) only [b_X11_lists_0, b_X11_lists_4, b_X11_lists_21, b_X11_lists_7, b_X11_lists_18, b_X11_lists_24, b_X11_lists_30, b_X11_lists_33, b_X11_lists_39, b_X11_lists_36, b_X11_lists_47, b_X11_lists_53, b_X11_lists_50, b_X11_lists_59, b_X11_lists_70, b_X11_lists_111, b_X11_lists_83, b_X11_lists_101, b_X11_lists_102, b_X11_lists_105, i_lit, i_m1, i_31, il_t, il_f, iq_t, iq_f, it_t, it_f, im_e, im_l, im_g, im_g2, nI_add, pk_mul, i_sub, i_div, sdm, i_dec, i_cl, iv_t, bI_or2, bI_t0, bI_one, not_true_eq_false, not_false_eq_true, ↓reduceIte, am_tl, am_tn, am_t0, am_n0, and_true, true_and, List.cons_append, List.nil_append, List.append_nil, c_isTray_y ht, c_hasClass_n ok C.2.1 hc]
      exact k h ⟨0, by omega, gj.rf⟩ T
  · rw [if_neg (fun z => hx z.1)] at k
    simp (disch := first | assumption | omega | (simp only [ya_pi, ya_pj, ya_pa, ya_pr, yo_pi, yo_pj, yo_pa, yf_pi, yf_pj, yf_pa, yh_pi, yh_pj, yh_pa, yt_pi, yt_pj, yt_pa, la_pi, la_pj, la_pa]; assumption)) only [b_X11_lists_0, b_X11_lists_4, b_X11_lists_21, b_X11_lists_7, b_X11_lists_18, b_X11_lists_24, b_X11_lists_30, b_X11_lists_33, b_X11_lists_39, b_X11_lists_36, b_X11_lists_47, b_X11_lists_53, b_X11_lists_50, b_X11_lists_59, b_X11_lists_70, b_X11_lists_111, b_X11_lists_83, b_X11_lists_101, b_X11_lists_102, b_X11_lists_105, i_lit, i_m1, i_31, il_t, il_f, iq_t, iq_f, it_t, it_f, im_e, im_l, im_g, im_g2, nI_add, pk_mul, i_sub, i_div, sdm, i_dec, i_cl, iv_t, bI_or2, bI_t0, bI_one, not_true_eq_false, not_false_eq_true, ↓reduceIte, am_tl, am_tn, am_t0, am_n0, and_true, true_and, List.cons_append, List.nil_append, List.append_nil, c_isTray_n hx]
    exact k h ⟨0, by omega, gj.rf⟩ T
theorem c_rLists {d : Nat} {Q : Option am_V → am_H → Prop} {h : am_H} {f : fa_S} {tr : tr_S} (ok : fa_ok f) (F : rfa h f) (T : rtA h tr) {x c : Int32} {l3 l4 l5 : Option am_V} (k : ∀ h', (∃ t, t < 4 ∧ gj h h' (rP4 t) (rJ4 t) N0) → rtA h' (t_lists f tr x c).2 → Q (some (v_i (t_lists f tr x c).1)) h') : ex_ (d + 4) 371 0 [some (v_r (some 93)), some (v_i x), some (v_i c), l3, l4, l5] [] h Q := by
  have L0 := F.1
  have hn := ok.1
  have F0 : rfa (p_i h 93 0 (nI 0)) f := p0_rfa ok F
  have L1 : Lay (p_i h 93 0 (nI 0)) := L0
  have T0 : rtA (p_i h 93 0 (nI 0)) tr := p0_rtA L0 T
  unfold t_lists at k
  rcases tr_cs x with ⟨t, ht, rfl⟩ | hx
  · rcases fa_cs hn c with ⟨a, ha, rfl⟩ | hc
    · rw [if_pos ⟨tr_y4 ht, (fa_has_iff hn).2 ⟨a, ha, rfl⟩⟩, nI_clamp (by omega), nI_clamp (by omega)] at k
      have oa := fT_ok ok a ha
      by_cases hm : (tr t).1 = mI
      · rw [if_pos hm] at k
        simp (disch := first | assumption | omega | (simp only [ya_pi, ya_pj, ya_pa, ya_pr, yo_pi, yo_pj, yo_pa, yf_pi, yf_pj, yf_pa, yh_pi, yh_pj, yh_pa, yt_pi, yt_pj, yt_pa, la_pi, la_pj, la_pa]; assumption)) only [b_X12_lists_0, b_X12_lists_14, b_X12_lists_26, b_X12_lists_17, b_X12_lists_23, b_X12_lists_29, b_X12_lists_34, b_X12_lists_41, b_X12_lists_39, b_X12_lists_45, b_X12_lists_57, b_X12_lists_54, b_X12_lists_81, b_X12_lists_72, b_X12_lists_130, b_X12_lists_99, i_lit, i_m1, i_31, il_t, il_f, iq_t, iq_f, it_t, it_f, im_e, im_l, im_g, im_g2, nI_add, pk_mul, i_sub, i_div, sdm, i_dec, i_cl, iv_t, bI_or2, bI_t0, bI_one, not_true_eq_false, not_false_eq_true, ↓reduceIte, am_tl, am_tn, am_t0, am_n0, and_true, true_and, List.cons_append, List.nil_append, List.append_nil, nI_l, l_lit, c_within_y, c_isClass_y ok F0 ha, c_noTray L1 T0, tC_m ht hm, nI0_6]
        exact k _ ⟨0, by omega, p0_rP⟩ T0
      · rw [if_neg hm] at k
        simp (disch := first | assumption | omega | (simp only [ya_pi, ya_pj, ya_pa, ya_pr, yo_pi, yo_pj, yo_pa, yf_pi, yf_pj, yf_pa, yh_pi, yh_pj, yh_pa, yt_pi, yt_pj, yt_pa, la_pi, la_pj, la_pa]; assumption)) only [b_X12_lists_0, b_X12_lists_14, b_X12_lists_26, b_X12_lists_17, b_X12_lists_23, b_X12_lists_29, b_X12_lists_34, b_X12_lists_41, b_X12_lists_39, b_X12_lists_45, b_X12_lists_57, b_X12_lists_54, b_X12_lists_81, b_X12_lists_72, b_X12_lists_130, b_X12_lists_99, i_lit, i_m1, i_31, il_t, il_f, iq_t, iq_f, it_t, it_f, im_e, im_l, im_g, im_g2, nI_add, pk_mul, i_sub, i_div, sdm, i_dec, i_cl, iv_t, bI_or2, bI_t0, bI_one, not_true_eq_false, not_false_eq_true, ↓reduceIte, am_tl, am_tn, am_t0, am_n0, and_true, true_and, List.cons_append, List.nil_append, List.append_nil, nI_l, l_lit, c_within_y, c_isClass_y ok F0 ha, c_noTray L1 T0, tC_y ht hm]
        refine c_laysOrders ok F0 (fun h1 fr1 (A1 : ra h1 (fT f) (f_n f)) => ?_)
        have L2 := A1.1
        obtain ⟨ea, e98, r99⟩ := A1.2 a ha
        have g1 : gj h h1 (rP4 t) (rJ4 t) N0 := p0_rP.tr ((fr1.le (fun a k z => Or.inr (Or.inr z.S))).gj)
        have g0 : gj h h1 (rP4 0) (rJ4 0) N0 := p0_rP.tr ((fr1.le (fun a k z => Or.inr (Or.inr z.S))).gj)
        have T1 : rtA h1 tr := fun u hu => (T0 u hu).fr L1 hu (fr1.gj (J := N0) (R := N0)) (by unfold rA; omega) (by unfold rA; omega) (fun _ _ z => z)
        have e116 := (T1 t ht).2.1
        have l40 := (T1 t ht).2.2.1
        have oa1 := oa.1
        by_cases sa : (fT f a).1 = 0
        · rw [if_pos sa] at k
          have ml := mnl_le (a := (tr t).2.length) (b := (fT f a).2.length)
          have main : ∀ n, mnl (tr t).2.length (fT f a).2.length = n → ∀ l3 : Option am_V, ex_ (d + 4) 371 92 [some (v_r (some 93)), some (v_i (nI t)), some (v_i (nI a)), l3, some (v_i (nI n)), some (v_i (nI 0))] [] h1 Q := by
            intro n en l3
            rw [en] at k ml
            refine lp_up n (fun i (_ : Unit) => [some (v_r (some 93)), some (v_i (nI t)), some (v_i (nI a)), l3, some (v_i (nI n)), some (v_i (nI i))]) (fun i _ h' => gj h1 h' (rP4 t) (rJ4 t) N0 ∧ Lay h' ∧ (∀ j, j < (fT f a).2.length → h_i h' 99 (11 * a + j) = nI ((fT f a).2.getD j 0)) ∧ rty h' t (tr t).1 (stl (tr t).2 (fT f a).2 i)) ?_ ?_ (Nat.zero_le _) ⟨gj.rf, L2, r99, T1 t ht⟩ (s := ())
            · rintro i - h2 hi ⟨g2, L3, e99, T2⟩ nx
              have e99i := e99 i (by omega)
              have xi := oa.2.2.2.1 _ (gd_mem (show i < (fT f a).2.length by omega))
              rw [b_X12_lists_92 _ _ _ _ _ _ _]
              simp (disch := first | assumption | omega | (simp only [ya_pi, ya_pj, ya_pa, ya_pr, yo_pi, yo_pj, yo_pa, yf_pi, yf_pj, yf_pa, yh_pi, yh_pj, yh_pa, yt_pi, yt_pj, yt_pa, la_pi, la_pj, la_pa]; assumption)) only [b_X12_lists_0, b_X12_lists_14, b_X12_lists_26, b_X12_lists_17, b_X12_lists_23, b_X12_lists_29, b_X12_lists_34, b_X12_lists_41, b_X12_lists_39, b_X12_lists_45, b_X12_lists_57, b_X12_lists_54, b_X12_lists_81, b_X12_lists_72, b_X12_lists_130, b_X12_lists_99, i_lit, i_m1, i_31, il_t, il_f, iq_t, iq_f, it_t, it_f, im_e, im_l, im_g, im_g2, nI_add, pk_mul, i_sub, i_div, sdm, i_dec, i_cl, iv_t, bI_or2, bI_t0, bI_one, not_true_eq_false, not_false_eq_true, ↓reduceIte, am_tl, am_tn, am_t0, am_n0, and_true, true_and, List.cons_append, List.nil_append, List.append_nil, e99i, nI_l]
              exact nx () _ ⟨g2.tr (gj_pj (by unfold rJ4; omega)), L3, e99, rty_set T2 (by rw [stl_len]; omega)⟩
            · rintro - h2 ⟨g2, L3, e99, T2⟩
              rw [b_X12_lists_92 _ _ _ _ _ _ _]
              simp (disch := first | assumption | omega | (simp only [ya_pi, ya_pj, ya_pa, ya_pr, yo_pi, yo_pj, yo_pa, yf_pi, yf_pj, yf_pa, yh_pi, yh_pj, yh_pa, yt_pi, yt_pj, yt_pa, la_pi, la_pj, la_pa]; assumption)) only [b_X12_lists_0, b_X12_lists_14, b_X12_lists_26, b_X12_lists_17, b_X12_lists_23, b_X12_lists_29, b_X12_lists_34, b_X12_lists_41, b_X12_lists_39, b_X12_lists_45, b_X12_lists_57, b_X12_lists_54, b_X12_lists_81, b_X12_lists_72, b_X12_lists_130, b_X12_lists_99, i_lit, i_m1, i_31, il_t, il_f, iq_t, iq_f, it_t, it_f, im_e, im_l, im_g, im_g2, nI_add, pk_mul, i_sub, i_div, sdm, i_dec, i_cl, iv_t, bI_or2, bI_t0, bI_one, not_true_eq_false, not_false_eq_true, ↓reduceIte, am_tl, am_tn, am_t0, am_n0, and_true, true_and, List.cons_append, List.nil_append, List.append_nil]
              exact k h2 ⟨t, ht, g1.tr g2⟩ (T.up L0 (g1.tr g2) T2)
          by_cases y : (tr t).2.length ≤ (fT f a).2.length
          · simp (disch := first | assumption | omega | (simp only [ya_pi, ya_pj, ya_pa, ya_pr, yo_pi, yo_pj, yo_pa, yf_pi, yf_pj, yf_pa, yh_pi, yh_pj, yh_pa, yt_pi, yt_pj, yt_pa, la_pi, la_pj, la_pa]; assumption)) only [b_X12_lists_0, b_X12_lists_14, b_X12_lists_26, b_X12_lists_17, b_X12_lists_23, b_X12_lists_29, b_X12_lists_34, b_X12_lists_41, b_X12_lists_39, b_X12_lists_45, b_X12_lists_57, b_X12_lists_54, b_X12_lists_81, b_X12_lists_72, b_X12_lists_130, b_X12_lists_99, i_lit, i_m1, i_31, il_t, il_f, iq_t, iq_f, it_t, it_f, im_e, im_l, im_g, im_g2, nI_add, pk_mul, i_sub, i_div, sdm, i_dec, i_cl, iv_t, bI_or2, bI_t0, bI_one, not_true_eq_false, not_false_eq_true, ↓reduceIte, am_tl, am_tn, am_t0, am_n0, and_true, true_and, List.cons_append, List.nil_append, List.append_nil, ea, e98, e116]
            exact main _ (by unfold mnl; rw [if_neg (by omega)]) _
          · simp (disch := first | assumption | omega | (simp only [ya_pi, ya_pj, ya_pa, ya_pr, yo_pi, yo_pj, yo_pa, yf_pi, yf_pj, yf_pa, yh_pi, yh_pj, yh_pa, yt_pi, yt_pj, yt_pa, la_pi, la_pj, la_pa]; assumption)) only [b_X12_lists_0, b_X12_lists_14, b_X12_lists_26, b_X12_lists_17, b_X12_lists_23, b_X12_lists_29, b_X12_lists_34, b_X12_lists_41, b_X12_lists_39, b_X12_lists_45, b_X12_lists_57, b_X12_lists_54, b_X12_lists_81, b_X12_lists_72, b_X12_lists_130, b_X12_lists_99, i_lit, i_m1, i_31, il_t, il_f, iq_t, iq_f, it_t, it_f, im_e, im_l, im_g, im_g2, nI_add, pk_mul, i_sub, i_div, sdm, i_dec, i_cl, iv_t, bI_or2, bI_t0, bI_one, not_true_eq_false, not_false_eq_true, ↓reduceIte, am_tl, am_tn, am_t0, am_n0, and_true, true_and, List.cons_append, List.nil_append, List.append_nil, ea, e98, e116]
            exact main _ (by unfold mnl; rw [if_pos (by omega)]) _
        · rw [if_neg sa] at k
          simp (disch := first | assumption | omega | (simp only [ya_pi, ya_pj, ya_pa, ya_pr, yo_pi, yo_pj, yo_pa, yf_pi, yf_pj, yf_pa, yh_pi, yh_pj, yh_pa, yt_pi, yt_pj, yt_pa, la_pi, la_pj, la_pa]; assumption)) only [b_X12_lists_0, b_X12_lists_14, b_X12_lists_26, b_X12_lists_17, b_X12_lists_23, b_X12_lists_29, b_X12_lists_34, b_X12_lists_41, b_X12_lists_39, b_X12_lists_45, b_X12_lists_57, b_X12_lists_54, b_X12_lists_81, b_X12_lists_72, b_X12_lists_130, b_X12_lists_99, i_lit, i_m1, i_31, il_t, il_f, iq_t, iq_f, it_t, it_f, im_e, im_l, im_g, im_g2, nI_add, pk_mul, i_sub, i_div, sdm, i_dec, i_cl, iv_t, bI_or2, bI_t0, bI_one, not_true_eq_false, not_false_eq_true, ↓reduceIte, am_tl, am_tn, am_t0, am_n0, and_true, true_and, List.cons_append, List.nil_append, List.append_nil, ea]
          exact k h1 ⟨0, by omega, g0⟩ T1
    · rw [if_neg (fun z => hc z.2)] at k
      simp (disch := first | assumption | omega | (simp only [ya_pi, ya_pj, ya_pa, ya_pr, yo_pi, yo_pj, yo_pa, yf_pi, yf_pj, yf_pa, yh_pi, yh_pj, yh_pa, yt_pi, yt_pj, yt_pa, la_pi, la_pj, la_pa]; assumption)) only [b_X12_lists_0, b_X12_lists_14, b_X12_lists_26, b_X12_lists_17, b_X12_lists_23, b_X12_lists_29, b_X12_lists_34, b_X12_lists_41, b_X12_lists_39, b_X12_lists_45, b_X12_lists_57, b_X12_lists_54, b_X12_lists_81, b_X12_lists_72, b_X12_lists_130, b_X12_lists_99, i_lit, i_m1, i_31, il_t, il_f, iq_t, iq_f, it_t, it_f, im_e, im_l, im_g, im_g2, nI_add, pk_mul, i_sub, i_div, sdm, i_dec, i_cl, iv_t, bI_or2, bI_t0, bI_one, not_true_eq_false, not_false_eq_true, ↓reduceIte, am_tl, am_tn, am_t0, am_n0, and_true, true_and, List.cons_append, List.nil_append, List.append_nil, nI_l, l_lit, c_within_y, c_isClass_32 ok F0 hc]
      exact k _ ⟨0, by omega, p0_rP⟩ T0
  · rw [if_neg (fun z => hx z.1)] at k
    have z' : x.toInt64 < lN 0 ∨ lN 3 < x.toInt64 := by
      rw [w3]
      exact fun z => hx (lh_4.1 z)
    simp (disch := first | assumption | omega | (simp only [ya_pi, ya_pj, ya_pa, ya_pr, yo_pi, yo_pj, yo_pa, yf_pi, yf_pj, yf_pa, yh_pi, yh_pj, yh_pa, yt_pi, yt_pj, yt_pa, la_pi, la_pj, la_pa]; assumption)) only [b_X12_lists_0, b_X12_lists_14, b_X12_lists_26, b_X12_lists_17, b_X12_lists_23, b_X12_lists_29, b_X12_lists_34, b_X12_lists_41, b_X12_lists_39, b_X12_lists_45, b_X12_lists_57, b_X12_lists_54, b_X12_lists_81, b_X12_lists_72, b_X12_lists_130, b_X12_lists_99, i_lit, i_m1, i_31, il_t, il_f, iq_t, iq_f, it_t, it_f, im_e, im_l, im_g, im_g2, nI_add, pk_mul, i_sub, i_div, sdm, i_dec, i_cl, iv_t, bI_or2, bI_t0, bI_one, not_true_eq_false, not_false_eq_true, ↓reduceIte, am_tl, am_tn, am_t0, am_n0, and_true, true_and, List.cons_append, List.nil_append, List.append_nil, l_lit, c_within_n z']
    exact k _ ⟨0, by omega, p0_rP⟩ T0
