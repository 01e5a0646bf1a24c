/-! ===== the reference reads laws: if ===== -/
theorem c_rIf {e m : Nat} {Q : Option am_V → am_H → Prop} {h : am_H} {tx : List Nat} {ts : List (Nat × Nat)} {sy : Bool} {i : Nat} {cs : List Nat} (G : gT ts) (hm : m + 1 ≤ 6) (C : rLv tx ts sy m (e + 7)) (S : rgS h tx ts sy i cs) (hc : cs.length ≤ i) (ht : tK ts i = 209) (K : rOK tx ts sy cs (pIf ts (gN ts sy m) (i + 1)) h Q) : ex_ (e + 8) 248 0 [some (v_r (some 93)), some (v_i (nI (6 - (m + 1))))] [] h Q := by
  obtain ⟨CS, CT, -⟩ := C
  have g := gN_g (sy := sy) G m
  have L := S.1.1
  have G3 := G.2.2.1
  have i1 := G.1 i (by omega)
  have dp : nI (6 - (m + 1)) + 1 = nI (6 - m) := by
    rw [show (1 : Int32) = nI 1 from rfl, nI_add]
    congr 1
    omega
  -- when something is wrong
  have x72 : ∀ h1 a b, rgX h1 ts a b → Q none h1 → ex_ (e + 8) 248 72 [some (v_r (some 93)), some (v_i (nI (6 - (m + 1))))] [] h1 Q := fun h1 a b X k => by
    have L1 := X.1
    simp (disch := first | assumption | omega | (simp only [ya_pi, ya_pj, ya_pa, ya_pr, yo_pi, yo_pj, yo_pa, yf_pi, yf_pj, yf_pa, yh_pi, yh_pj, yh_pa, yt_pi, yt_pj, yt_pa, la_pi, la_pj, la_pa]; assumption)) only [b_X12_readIf_72, b_X12_readIf_79, i_lit, i_m1, i_31, il_t, il_f, iq_t, iq_f, it_t, it_f, im_e, im_l, im_g, im_g2, nI_add, pk_mul, i_sub, i_div, sdm, i_dec, i_cl, iv_t, bI_or2, bI_t0, bI_one, not_true_eq_false, not_false_eq_true, ↓reduceIte, am_tl, am_tn, am_t0, am_n0, and_true, true_and, List.cons_append, List.nil_append, List.append_nil, c_codesX X]
    exact k
  have x58 : ∀ h1 a b, rgX h1 ts a b → Q none h1 → ex_ (e + 8) 248 58 [some (v_r (some 93)), some (v_i (nI (6 - (m + 1))))] [] h1 Q := fun h1 a b X k => by
    have L1 := X.1
    simp (disch := first | assumption | omega | (simp only [ya_pi, ya_pj, ya_pa, ya_pr, yo_pi, yo_pj, yo_pa, yf_pi, yf_pj, yf_pa, yh_pi, yh_pj, yh_pa, yt_pi, yt_pj, yt_pa, la_pi, la_pj, la_pa]; assumption)) only [b_X12_readIf_58, b_X12_readIf_64, b_X12_readIf_67, i_lit, i_m1, i_31, il_t, il_f, iq_t, iq_f, it_t, it_f, im_e, im_l, im_g, im_g2, nI_add, pk_mul, i_sub, i_div, sdm, i_dec, i_cl, iv_t, bI_or2, bI_t0, bI_one, not_true_eq_false, not_false_eq_true, ↓reduceIte, am_tl, am_tn, am_t0, am_n0, and_true, true_and, List.cons_append, List.nil_append, List.append_nil, c_eatsX X, c_failsX X]
    exact x72 h1 a b X k
  have x51 : ∀ h1 a b, rgX h1 ts a b → Q none h1 → ex_ (e + 8) 248 51 [some (v_r (some 93)), some (v_i (nI (6 - (m + 1))))] [] h1 Q := fun h1 a b X k => by
    have L1 := X.1
    rw [b_X12_readIf_51 _ _ L1, dp, c_rSumX X]
    exact x58 h1 a b X k
  have x37 : ∀ h1 a b, rgX h1 ts a b → Q none h1 → ex_ (e + 8) 248 37 [some (v_r (some 93)), some (v_i (nI (6 - (m + 1))))] [] h1 Q := fun h1 a b X k => by
    have L1 := X.1
    simp (disch := first | assumption | omega | (simp only [ya_pi, ya_pj, ya_pa, ya_pr, yo_pi, yo_pj, yo_pa, yf_pi, yf_pj, yf_pa, yh_pi, yh_pj, yh_pa, yt_pi, yt_pj, yt_pa, la_pi, la_pj, la_pa]; assumption)) only [b_X12_readIf_37, b_X12_readIf_43, b_X12_readIf_46, i_lit, i_m1, i_31, il_t, il_f, iq_t, iq_f, it_t, it_f, im_e, im_l, im_g, im_g2, nI_add, pk_mul, i_sub, i_div, sdm, i_dec, i_cl, iv_t, bI_or2, bI_t0, bI_one, not_true_eq_false, not_false_eq_true, ↓reduceIte, am_tl, am_tn, am_t0, am_n0, and_true, true_and, List.cons_append, List.nil_append, List.append_nil, c_eatsX X, c_failsX X]
    exact x51 h1 a b X k
  have x30 : ∀ h1 a b, rgX h1 ts a b → Q none h1 → ex_ (e + 8) 248 30 [some (v_r (some 93)), some (v_i (nI (6 - (m + 1))))] [] h1 Q := fun h1 a b X k => by
    have L1 := X.1
    rw [b_X12_readIf_30 _ _ L1, dp, c_rSumX X]
    exact x37 h1 a b X k
  have x16 : ∀ h1 a b, rgX h1 ts a b → Q none h1 → ex_ (e + 8) 248 16 [some (v_r (some 93)), some (v_i (nI (6 - (m + 1))))] [] h1 Q := fun h1 a b X k => by
    have L1 := X.1
    simp (disch := first | assumption | omega | (simp only [ya_pi, ya_pj, ya_pa, ya_pr, yo_pi, yo_pj, yo_pa, yf_pi, yf_pj, yf_pa, yh_pi, yh_pj, yh_pa, yt_pi, yt_pj, yt_pa, la_pi, la_pj, la_pa]; assumption)) only [b_X12_readIf_16, b_X12_readIf_22, b_X12_readIf_25, i_lit, i_m1, i_31, il_t, il_f, iq_t, iq_f, it_t, it_f, im_e, im_l, im_g, im_g2, nI_add, pk_mul, i_sub, i_div, sdm, i_dec, i_cl, iv_t, bI_or2, bI_t0, bI_one, not_true_eq_false, not_false_eq_true, ↓reduceIte, am_tl, am_tn, am_t0, am_n0, and_true, true_and, List.cons_append, List.nil_append, List.append_nil, c_eatsX X, c_failsX X]
    exact x30 h1 a b X k
  have k10 : kT 10 = 210 ∧ kT 11 = 211 ∧ kT 12 = 212 := by decide
  unfold pIf at K
  rw [b_X12_readIf_0 _ _ L]
  refine c_goes_y (d := e + 1) S.1 S.2.2.2 (by omega) (by omega) (by omega) (fun h1 fr1 R1 => ?_)
  have S1 := S.nx fr1 R1
  have L1 := R1.1
  have n1 : ¬ nI 1 = 0 := by decide
  show ex_ (e + 8) 248 5 [some (v_r (some 93)), some (v_i (nI (6 - (m + 1))))] [v_i (nI 1)] h1 Q
  rw [b_X12_readIf_5 _ _ _ _, if_pos n1, b_X12_readIf_9 _ _ L1, dp]
  refine CT _ _ _ _ S1 (by omega) ⟨fun z2 h2 fr2 S2 => ?_, fun z2 h2 fr2 X2 => ?_⟩
  rotate_left
  · exact x16 h2 _ _ X2 (K.stop z2 ((nx_fr fr1).tr fr2) X2)
  have K2 := K.go z2 ((nx_fr fr1).tr fr2)
  have hc2 := len_a (Nat.le_trans hc (Nat.le_succ _)) ((g _ i1).2.1.1 z2).1
  clear K
  generalize ((gN ts sy m).2.1 (i + 1)).2.1 = j2 at S2 K2 hc2
  generalize cs ++ ((gN ts sy m).2.1 (i + 1)).2.2 = c2 at S2 K2 hc2
  have L2 := S2.1.1
  show ex_ (e + 8) 248 16 [some (v_r (some 93)), some (v_i (nI (6 - (m + 1))))] [] h2 Q
  by_cases y2 : tK ts j2 = 210
  rotate_left
  · have n := fun Q => c_eats_n (d := e + 6) (Q := Q) (k := 10) S2.1 S2.2.2.2 (by decide) (by decide) (by rw [k10.1]; exact y2)
    have fl := fun Q => c_fails (d := e + 7) (Q := Q) (k := 2) S2.1 S2.2.2.2 (by decide)
    simp (disch := first | assumption | omega | (simp only [ya_pi, ya_pj, ya_pa, ya_pr, yo_pi, yo_pj, yo_pa, yf_pi, yf_pj, yf_pa, yh_pi, yh_pj, yh_pa, yt_pi, yt_pj, yt_pa, la_pi, la_pj, la_pa]; assumption)) only [b_X12_readIf_16, b_X12_readIf_22, b_X12_readIf_25, i_lit, i_m1, i_31, il_t, il_f, iq_t, iq_f, it_t, it_f, im_e, im_l, im_g, im_g2, nI_add, pk_mul, i_sub, i_div, sdm, i_dec, i_cl, iv_t, bI_or2, bI_t0, bI_one, not_true_eq_false, not_false_eq_true, ↓reduceIte, am_tl, am_tn, am_t0, am_n0, and_true, true_and, List.cons_append, List.nil_append, List.append_nil, n, fl]
    exact x30 _ _ _ (rfR_X S2.1 (by decide) (by decide)) (K2.noX y2 S2.1)
  rw [b_X12_readIf_16 _ _ L2]
  refine c_eats_y (d := e + 1) (k := 10) S2.1 S2.2.2.2 (by decide) (by decide) (by rw [k10.1]; exact y2) (fun h3 fr3 R3 => ?_)
  have K3 := K2.eat y2 (nx_fr fr3)
  have i3 := G.1 j2 (by omega)
  have S3 := S2.nx fr3 R3
  have L3 := R3.1
  show ex_ (e + 8) 248 22 [some (v_r (some 93)), some (v_i (nI (6 - (m + 1))))] [v_i (nI 1)] h3 Q
  rw [b_X12_readIf_22 _ _ _ _, if_pos n1, b_X12_readIf_30 _ _ L3, dp]
  refine CS _ _ _ _ S3 (by omega) ⟨fun z4 h4 fr4 S4 => ?_, fun z4 h4 fr4 X4 => ?_⟩
  rotate_left
  · exact x37 h4 _ _ X4 (K3.stop z4 fr4 X4)
  have K4 := K3.go z4 fr4
  have hc4 := len_a (Nat.le_trans hc2 (Nat.le_succ _)) ((g _ i3).1.1 z4).1
  clear K2 K3
  generalize ((gN ts sy m).1 (j2 + 1)).2.1 = j4 at S4 K4 hc4
  generalize c2 ++ ((gN ts sy m).1 (j2 + 1)).2.2 = c4 at S4 K4 hc4
  have L4 := S4.1.1
  show ex_ (e + 8) 248 37 [some (v_r (some 93)), some (v_i (nI (6 - (m + 1))))] [] h4 Q
  by_cases y4 : tK ts j4 = 211
  rotate_left
  · have n := fun Q => c_eats_n (d := e + 6) (Q := Q) (k := 11) S4.1 S4.2.2.2 (by decide) (by decide) (by rw [k10.2.1]; exact y4)
    have fl := fun Q => c_fails (d := e + 7) (Q := Q) (k := 2) S4.1 S4.2.2.2 (by decide)
    simp (disch := first | assumption | omega | (simp only [ya_pi, ya_pj, ya_pa, ya_pr, yo_pi, yo_pj, yo_pa, yf_pi, yf_pj, yf_pa, yh_pi, yh_pj, yh_pa, yt_pi, yt_pj, yt_pa, la_pi, la_pj, la_pa]; assumption)) only [b_X12_readIf_37, b_X12_readIf_43, b_X12_readIf_46, i_lit, i_m1, i_31, il_t, il_f, iq_t, iq_f, it_t, it_f, im_e, im_l, im_g, im_g2, nI_add, pk_mul, i_sub, i_div, sdm, i_dec, i_cl, iv_t, bI_or2, bI_t0, bI_one, not_true_eq_false, not_false_eq_true, ↓reduceIte, am_tl, am_tn, am_t0, am_n0, and_true, true_and, List.cons_append, List.nil_append, List.append_nil, n, fl]
    exact x51 _ _ _ (rfR_X S4.1 (by decide) (by decide)) (K4.noX y4 S4.1)
  rw [b_X12_readIf_37 _ _ L4]
  refine c_eats_y (d := e + 1) (k := 11) S4.1 S4.2.2.2 (by decide) (by decide) (by rw [k10.2.1]; exact y4) (fun h5 fr5 R5 => ?_)
  have K5 := K4.eat y4 (nx_fr fr5)
  have i5 := G.1 j4 (by omega)
  have S5 := S4.nx fr5 R5
  have L5 := R5.1
  show ex_ (e + 8) 248 43 [some (v_r (some 93)), some (v_i (nI (6 - (m + 1))))] [v_i (nI 1)] h5 Q
  rw [b_X12_readIf_43 _ _ _ _, if_pos n1, b_X12_readIf_51 _ _ L5, dp]
  refine CS _ _ _ _ S5 (by omega) ⟨fun z6 h6 fr6 S6 => ?_, fun z6 h6 fr6 X6 => ?_⟩
  rotate_left
  · exact x58 h6 _ _ X6 (K5.stop z6 fr6 X6)
  have K6 := K5.go z6 fr6
  have hc6 := len_a (Nat.le_trans hc4 (Nat.le_succ _)) ((g _ i5).1.1 z6).1
  clear K4 K5
  generalize ((gN ts sy m).1 (j4 + 1)).2.1 = j6 at S6 K6 hc6
  generalize c4 ++ ((gN ts sy m).1 (j4 + 1)).2.2 = c6 at S6 K6 hc6
  have L6 := S6.1.1
  show ex_ (e + 8) 248 58 [some (v_r (some 93)), some (v_i (nI (6 - (m + 1))))] [] h6 Q
  by_cases y6 : tK ts j6 = 212
  rotate_left
  · have n := fun Q => c_eats_n (d := e + 6) (Q := Q) (k := 12) S6.1 S6.2.2.2 (by decide) (by decide) (by rw [k10.2.2]; exact y6)
    have fl := fun Q => c_fails (d := e + 7) (Q := Q) (k := 2) S6.1 S6.2.2.2 (by decide)
    simp (disch := first | assumption | omega | (simp only [ya_pi, ya_pj, ya_pa, ya_pr, yo_pi, yo_pj, yo_pa, yf_pi, yf_pj, yf_pa, yh_pi, yh_pj, yh_pa, yt_pi, yt_pj, yt_pa, la_pi, la_pj, la_pa]; assumption)) only [b_X12_readIf_58, b_X12_readIf_64, b_X12_readIf_67, i_lit, i_m1, i_31, il_t, il_f, iq_t, iq_f, it_t, it_f, im_e, im_l, im_g, im_g2, nI_add, pk_mul, i_sub, i_div, sdm, i_dec, i_cl, iv_t, bI_or2, bI_t0, bI_one, not_true_eq_false, not_false_eq_true, ↓reduceIte, am_tl, am_tn, am_t0, am_n0, and_true, true_and, List.cons_append, List.nil_append, List.append_nil, n, fl]
    exact x72 _ _ _ (rfR_X S6.1 (by decide) (by decide)) (K6.noX y6 S6.1)
  rw [b_X12_readIf_58 _ _ L6]
  refine c_eats_y (d := e + 1) (k := 12) S6.1 S6.2.2.2 (by decide) (by decide) (by rw [k10.2.2]; exact y6) (fun h7 fr7 R7 => ?_)
  have K7 := K6.eat y6 (nx_fr fr7)
  have i7 := G.1 j6 (by omega)
  have S7 := S6.nx fr7 R7
  have L7 := R7.1
  show ex_ (e + 8) 248 64 [some (v_r (some 93)), some (v_i (nI (6 - (m + 1))))] [v_i (nI 1)] h7 Q
  rw [b_X12_readIf_64 _ _ _ _, if_pos n1, b_X12_readIf_72 _ _ L7]
  refine c_codes (c := 3009) S7 (by omega) (fun h8 fr8 S8 => ?_)
  show ex_ (e + 8) 248 79 [some (v_r (some 93)), some (v_i (nI (6 - (m + 1))))] [] h8 Q
  rw [b_X12_readIf_79 _ _ _]
  exact K7.1 rfl h8 fr8 S8
