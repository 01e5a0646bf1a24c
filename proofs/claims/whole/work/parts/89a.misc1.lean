/-! ===== count, fault, feed ===== -/
def t_count (S : St) (x : Int32) : Int32 := if x = nI 0 then nI (f_n (s_f S)) else if x = nI 1 then nI (f_lk (s_f S)) else if x = nI 2 then nI (ct (f_df (s_f S)) 80) else if x = nI 3 then f_m (s_f S) else if x = nI 4 then nI (bs (bl (fun c => (fT (s_f S) c).1 == 0) (f_n (s_f S)))) else if x = nI 5 then nI (bs (bl (fun c => (fT (s_f S) c).1 == 1) (f_n (s_f S)))) else if x = nI 6 then nI (s_p S).length else if x = nI 7 then nI (s_b S).length else if x = nI 8 then nI (s_H S).2.2.2 else mI
theorem t_cs (x : Int32) : x = nI 0 ∨ x = nI 1 ∨ x = nI 2 ∨ x = nI 3 ∨ x = nI 4 ∨ x = nI 5 ∨ x = nI 6 ∨ x = nI 7 ∨ x = nI 8 ∨ (¬ x = nI 0 ∧ ¬ x = nI 1 ∧ ¬ x = nI 2 ∧ ¬ x = nI 3 ∧ ¬ x = nI 4 ∧ ¬ x = nI 5 ∧ ¬ x = nI 6 ∧ ¬ x = nI 7 ∧ ¬ x = nI 8) := by
  by_cases h0 : x = nI 0
  · exact Or.inl h0
  by_cases h1 : x = nI 1
  · exact Or.inr (Or.inl h1)
  by_cases h2 : x = nI 2
  · exact Or.inr (Or.inr (Or.inl h2))
  by_cases h3 : x = nI 3
  · exact Or.inr (Or.inr (Or.inr (Or.inl h3)))
  by_cases h4 : x = nI 4
  · exact Or.inr (Or.inr (Or.inr (Or.inr (Or.inl h4))))
  by_cases h5 : x = nI 5
  · exact Or.inr (Or.inr (Or.inr (Or.inr (Or.inr (Or.inl h5)))))
  by_cases h6 : x = nI 6
  · exact Or.inr (Or.inr (Or.inr (Or.inr (Or.inr (Or.inr (Or.inl h6))))))
  by_cases h7 : x = nI 7
  · exact Or.inr (Or.inr (Or.inr (Or.inr (Or.inr (Or.inr (Or.inr (Or.inl h7)))))))
  by_cases h8 : x = nI 8
  · exact Or.inr (Or.inr (Or.inr (Or.inr (Or.inr (Or.inr (Or.inr (Or.inr (Or.inl h8))))))))
  exact Or.inr (Or.inr (Or.inr (Or.inr (Or.inr (Or.inr (Or.inr (Or.inr (Or.inr ⟨h0, h1, h2, h3, h4, h5, h6, h7, h8⟩))))))))
theorem c_count {d : Nat} {Q : Option am_V → am_H → Prop} {h : am_H} {S : St} {x : Int32} {l2 : Option am_V} (ok : St_ok S) (C : cI h S) : ex_ (d + 3) 228 0 [some (v_r (some 0)), some (v_i x), l2] [] h Q ↔ Q (some (v_i (t_count S x))) h := by
  have L := C.1
  have gd : fa_gd (s_f S) := ok.1.1.1
  have F := C.cQ.2.1
  have F0 := F.1
  have e0 := F.2.1
  have e1 := F.2.2.1
  have O := C.2.1
  have O0 := O.1
  have n10 := gd.1.1
  have okT := fT_ok gd.1
  have et := C.2.2.2.2.1.1
  have ep : h_i h 25 2 = nI (s_p S).length := by obtain ⟨-, -, ⟨W, e, -, P, -⟩, -⟩ := C; exact P.2.2.1
  have el : h_i h 10 3 = nI (s_H S).2.2.2 := by obtain ⟨-, -, ⟨W, e, H, -, -⟩, -⟩ := C; exact H.2.2.2.2
  unfold t_count
  rcases t_cs x with rfl | rfl | rfl | rfl | rfl | rfl | rfl | rfl | rfl | ⟨z0, z1, z2, z3, z4, z5, z6, z7, z8⟩
  · simp (disch := first | assumption | omega | (simp only [ya_pi, ya_pj, ya_pa, ya_pr, yo_pi, yo_pj, yo_pa, yf_pi, yf_pj, yf_pa, yh_pi, yh_pj, yh_pa, yt_pi, yt_pj, yt_pa, la_pi, la_pj, la_pa]; assumption)) only [b_X11_count_0, b_X11_count_127, b_X11_count_60, b_X11_count_65, b_X11_count_70, b_X11_count_75, b_X11_count_80, b_X11_count_93, b_X11_count_106, b_X11_count_114, b_X11_count_119, b_X11_count_61, b_X11_count_66, b_X11_count_71, b_X11_count_76, b_X11_count_86, b_X11_count_99, b_X11_count_69, b_X11_count_74, b_X11_count_92, b_X11_count_105, i_lit, i_m1, i_31, il_t, il_f, iq_t, iq_f, it_t, it_f, im_e, im_l, im_g, im_g2, nI_add, pk_mul, i_sub, i_div, sdm, i_dec, i_cl, iv_t, bI_or2, bI_t0, bI_one, not_true_eq_false, not_false_eq_true, ↓reduceIte, am_tl, am_tn, am_t0, am_n0, and_true, true_and, List.cons_append, List.nil_append, List.append_nil, e0]
  · simp (disch := first | assumption | omega | (simp only [ya_pi, ya_pj, ya_pa, ya_pr, yo_pi, yo_pj, yo_pa, yf_pi, yf_pj, yf_pa, yh_pi, yh_pj, yh_pa, yt_pi, yt_pj, yt_pa, la_pi, la_pj, la_pa]; assumption)) only [b_X11_count_0, b_X11_count_127, b_X11_count_60, b_X11_count_65, b_X11_count_70, b_X11_count_75, b_X11_count_80, b_X11_count_93, b_X11_count_106, b_X11_count_114, b_X11_count_119, b_X11_count_61, b_X11_count_66, b_X11_count_71, b_X11_count_76, b_X11_count_86, b_X11_count_99, b_X11_count_69, b_X11_count_74, b_X11_count_92, b_X11_count_105, i_lit, i_m1, i_31, il_t, il_f, iq_t, iq_f, it_t, it_f, im_e, im_l, im_g, im_g2, nI_add, pk_mul, i_sub, i_div, sdm, i_dec, i_cl, iv_t, bI_or2, bI_t0, bI_one, not_true_eq_false, not_false_eq_true, ↓reduceIte, am_tl, am_tn, am_t0, am_n0, and_true, true_and, List.cons_append, List.nil_append, List.append_nil, c_links gd.1 F]
  · simp (disch := first | assumption | omega | (simp only [ya_pi, ya_pj, ya_pa, ya_pr, yo_pi, yo_pj, yo_pa, yf_pi, yf_pj, yf_pa, yh_pi, yh_pj, yh_pa, yt_pi, yt_pj, yt_pa, la_pi, la_pj, la_pa]; assumption)) only [b_X11_count_0, b_X11_count_127, b_X11_count_60, b_X11_count_65, b_X11_count_70, b_X11_count_75, b_X11_count_80, b_X11_count_93, b_X11_count_106, b_X11_count_114, b_X11_count_119, b_X11_count_61, b_X11_count_66, b_X11_count_71, b_X11_count_76, b_X11_count_86, b_X11_count_99, b_X11_count_69, b_X11_count_74, b_X11_count_92, b_X11_count_105, i_lit, i_m1, i_31, il_t, il_f, iq_t, iq_f, it_t, it_f, im_e, im_l, im_g, im_g2, nI_add, pk_mul, i_sub, i_div, sdm, i_dec, i_cl, iv_t, bI_or2, bI_t0, bI_one, not_true_eq_false, not_false_eq_true, ↓reduceIte, am_tl, am_tn, am_t0, am_n0, and_true, true_and, List.cons_append, List.nil_append, List.append_nil, c_definitionCount F]
  · simp (disch := first | assumption | omega | (simp only [ya_pi, ya_pj, ya_pa, ya_pr, yo_pi, yo_pj, yo_pa, yf_pi, yf_pj, yf_pa, yh_pi, yh_pj, yh_pa, yt_pi, yt_pj, yt_pa, la_pi, la_pj, la_pa]; assumption)) only [b_X11_count_0, b_X11_count_127, b_X11_count_60, b_X11_count_65, b_X11_count_70, b_X11_count_75, b_X11_count_80, b_X11_count_93, b_X11_count_106, b_X11_count_114, b_X11_count_119, b_X11_count_61, b_X11_count_66, b_X11_count_71, b_X11_count_76, b_X11_count_86, b_X11_count_99, b_X11_count_69, b_X11_count_74, b_X11_count_92, b_X11_count_105, i_lit, i_m1, i_31, il_t, il_f, iq_t, iq_f, it_t, it_f, im_e, im_l, im_g, im_g2, nI_add, pk_mul, i_sub, i_div, sdm, i_dec, i_cl, iv_t, bI_or2, bI_t0, bI_one, not_true_eq_false, not_false_eq_true, ↓reduceIte, am_tl, am_tn, am_t0, am_n0, and_true, true_and, List.cons_append, List.nil_append, List.append_nil, e1]
  · simp (disch := first | assumption | omega | (simp only [ya_pi, ya_pj, ya_pa, ya_pr, yo_pi, yo_pj, yo_pa, yf_pi, yf_pj, yf_pa, yh_pi, yh_pj, yh_pa, yt_pi, yt_pj, yt_pa, la_pi, la_pj, la_pa]; assumption)) only [b_X11_count_0, b_X11_count_127, b_X11_count_60, b_X11_count_65, b_X11_count_70, b_X11_count_75, b_X11_count_80, b_X11_count_93, b_X11_count_106, b_X11_count_114, b_X11_count_119, b_X11_count_61, b_X11_count_66, b_X11_count_71, b_X11_count_76, b_X11_count_86, b_X11_count_99, b_X11_count_69, b_X11_count_74, b_X11_count_92, b_X11_count_105, i_lit, i_m1, i_31, il_t, il_f, iq_t, iq_f, it_t, it_f, im_e, im_l, im_g, im_g2, nI_add, pk_mul, i_sub, i_div, sdm, i_dec, i_cl, iv_t, bI_or2, bI_t0, bI_one, not_true_eq_false, not_false_eq_true, ↓reduceIte, am_tl, am_tn, am_t0, am_n0, and_true, true_and, List.cons_append, List.nil_append, List.append_nil, e0, c_bitsOf O n10 (show 0 < 10 by omega) okT]
  · simp (disch := first | assumption | omega | (simp only [ya_pi, ya_pj, ya_pa, ya_pr, yo_pi, yo_pj, yo_pa, yf_pi, yf_pj, yf_pa, yh_pi, yh_pj, yh_pa, yt_pi, yt_pj, yt_pa, la_pi, la_pj, la_pa]; assumption)) only [b_X11_count_0, b_X11_count_127, b_X11_count_60, b_X11_count_65, b_X11_count_70, b_X11_count_75, b_X11_count_80, b_X11_count_93, b_X11_count_106, b_X11_count_114, b_X11_count_119, b_X11_count_61, b_X11_count_66, b_X11_count_71, b_X11_count_76, b_X11_count_86, b_X11_count_99, b_X11_count_69, b_X11_count_74, b_X11_count_92, b_X11_count_105, i_lit, i_m1, i_31, il_t, il_f, iq_t, iq_f, it_t, it_f, im_e, im_l, im_g, im_g2, nI_add, pk_mul, i_sub, i_div, sdm, i_dec, i_cl, iv_t, bI_or2, bI_t0, bI_one, not_true_eq_false, not_false_eq_true, ↓reduceIte, am_tl, am_tn, am_t0, am_n0, and_true, true_and, List.cons_append, List.nil_append, List.append_nil, e0, c_bitsOf O n10 (show 1 < 10 by omega) okT]
  · simp (disch := first | assumption | omega | (simp only [ya_pi, ya_pj, ya_pa, ya_pr, yo_pi, yo_pj, yo_pa, yf_pi, yf_pj, yf_pa, yh_pi, yh_pj, yh_pa, yt_pi, yt_pj, yt_pa, la_pi, la_pj, la_pa]; assumption)) only [b_X11_count_0, b_X11_count_127, b_X11_count_60, b_X11_count_65, b_X11_count_70, b_X11_count_75, b_X11_count_80, b_X11_count_93, b_X11_count_106, b_X11_count_114, b_X11_count_119, b_X11_count_61, b_X11_count_66, b_X11_count_71, b_X11_count_76, b_X11_count_86, b_X11_count_99, b_X11_count_69, b_X11_count_74, b_X11_count_92, b_X11_count_105, i_lit, i_m1, i_31, il_t, il_f, iq_t, iq_f, it_t, it_f, im_e, im_l, im_g, im_g2, nI_add, pk_mul, i_sub, i_div, sdm, i_dec, i_cl, iv_t, bI_or2, bI_t0, bI_one, not_true_eq_false, not_false_eq_true, ↓reduceIte, am_tl, am_tn, am_t0, am_n0, and_true, true_and, List.cons_append, List.nil_append, List.append_nil, ep]
  · simp (disch := first | assumption | omega | (simp only [ya_pi, ya_pj, ya_pa, ya_pr, yo_pi, yo_pj, yo_pa, yf_pi, yf_pj, yf_pa, yh_pi, yh_pj, yh_pa, yt_pi, yt_pj, yt_pa, la_pi, la_pj, la_pa]; assumption)) only [b_X11_count_0, b_X11_count_127, b_X11_count_60, b_X11_count_65, b_X11_count_70, b_X11_count_75, b_X11_count_80, b_X11_count_93, b_X11_count_106, b_X11_count_114, b_X11_count_119, b_X11_count_61, b_X11_count_66, b_X11_count_71, b_X11_count_76, b_X11_count_86, b_X11_count_99, b_X11_count_69, b_X11_count_74, b_X11_count_92, b_X11_count_105, i_lit, i_m1, i_31, il_t, il_f, iq_t, iq_f, it_t, it_f, im_e, im_l, im_g, im_g2, nI_add, pk_mul, i_sub, i_div, sdm, i_dec, i_cl, iv_t, bI_or2, bI_t0, bI_one, not_true_eq_false, not_false_eq_true, ↓reduceIte, am_tl, am_tn, am_t0, am_n0, and_true, true_and, List.cons_append, List.nil_append, List.append_nil, et]
  · simp (disch := first | assumption | omega | (simp only [ya_pi, ya_pj, ya_pa, ya_pr, yo_pi, yo_pj, yo_pa, yf_pi, yf_pj, yf_pa, yh_pi, yh_pj, yh_pa, yt_pi, yt_pj, yt_pa, la_pi, la_pj, la_pa]; assumption)) only [b_X11_count_0, b_X11_count_127, b_X11_count_60, b_X11_count_65, b_X11_count_70, b_X11_count_75, b_X11_count_80, b_X11_count_93, b_X11_count_106, b_X11_count_114, b_X11_count_119, b_X11_count_61, b_X11_count_66, b_X11_count_71, b_X11_count_76, b_X11_count_86, b_X11_count_99, b_X11_count_69, b_X11_count_74, b_X11_count_92, b_X11_count_105, i_lit, i_m1, i_31, il_t, il_f, iq_t, iq_f, it_t, it_f, im_e, im_l, im_g, im_g2, nI_add, pk_mul, i_sub, i_div, sdm, i_dec, i_cl, iv_t, bI_or2, bI_t0, bI_one, not_true_eq_false, not_false_eq_true, ↓reduceIte, am_tl, am_tn, am_t0, am_n0, and_true, true_and, List.cons_append, List.nil_append, List.append_nil, el]
  · simp (disch := first | assumption | omega | (simp only [ya_pi, ya_pj, ya_pa, ya_pr, yo_pi, yo_pj, yo_pa, yf_pi, yf_pj, yf_pa, yh_pi, yh_pj, yh_pa, yt_pi, yt_pj, yt_pa, la_pi, la_pj, la_pa]; assumption)) only [b_X11_count_0, b_X11_count_127, b_X11_count_60, b_X11_count_65, b_X11_count_70, b_X11_count_75, b_X11_count_80, b_X11_count_93, b_X11_count_106, b_X11_count_114, b_X11_count_119, b_X11_count_61, b_X11_count_66, b_X11_count_71, b_X11_count_76, b_X11_count_86, b_X11_count_99, b_X11_count_69, b_X11_count_74, b_X11_count_92, b_X11_count_105, i_lit, i_m1, i_31, il_t, il_f, iq_t, iq_f, it_t, it_f, im_e, im_l, im_g, im_g2, nI_add, pk_mul, i_sub, i_div, sdm, i_dec, i_cl, iv_t, bI_or2, bI_t0, bI_one, not_true_eq_false, not_false_eq_true, ↓reduceIte, am_tl, am_tn, am_t0, am_n0, and_true, true_and, List.cons_append, List.nil_append, List.append_nil, z0, z1, z2, z3, z4, z5, z6, z7, z8]
theorem c_rCount {d : Nat} {Q : Option am_V → am_H → Prop} {h : am_H} {S : St} {x : Int32} (ok : St_ok S) (C : rI h S) (k : ∀ h', am_fr h h' rS → rI h' S → Q (some (v_i (t_count S x))) h') : ex_ (d + 4) 375 0 [some (v_r (some 93)), some (v_i x)] [] h Q := by
  have L := C.1
  have gd : fa_gd (s_f S) := ok.1.1.1
  have n10 := gd.1.1
  have fr0 : am_fr h (p_i h 93 0 (nI 0)) rS := am_fr_pi (by unfold rS; omega)
  have C0 := C.q ok fr0
  have L0 := C0.1
  simp (disch := first | assumption | omega | (simp only [ya_pi, ya_pj, ya_pa, ya_pr, yo_pi, yo_pj, yo_pa, yf_pi, yf_pj, yf_pa, yh_pi, yh_pj, yh_pa, yt_pi, yt_pj, yt_pa, la_pi, la_pj, la_pa]; assumption)) only [b_X12_count_0, i_lit, i_m1, i_31, il_t, il_f, iq_t, iq_f, it_t, it_f, im_e, im_l, im_g, im_g2, nI_add, pk_mul, i_sub, i_div, sdm, i_dec, i_cl, iv_t, bI_or2, bI_t0, bI_one, not_true_eq_false, not_false_eq_true, ↓reduceIte, am_tl, am_tn, am_t0, am_n0, and_true, true_and, List.cons_append, List.nil_append, List.append_nil]
  refine c_laysOrders gd.1 C0.rfa (fun h1 fr1 (A1 : ra h1 (fT (s_f S)) (f_n (s_f S))) => ?_)
  have fr : am_fr h h1 rS := fr0.tr (fr1.le (fun a k z => z.S))
  have C1 := C.q ok fr
  have L1 := C1.1
  have F1 := C1.rfa
  have okT := fT_ok gd.1
  have e1 := F1.2.1
  have e138 : h_i h1 94 138 = f_m (s_f S) := F1.2.2.2.2.2
  have e139 := C1.2.2.1.1
  have e5 := C1.2.2.2.2.2.1.1
  have e0 : h_i h1 94 0 = nI (s_H S).2.2.2 := C1.2.1.1
  have fin := k h1 fr C1
  unfold t_count at fin
  rcases t_cs x with rfl | rfl | rfl | rfl | rfl | rfl | rfl | rfl | rfl | ⟨z0, z1, z2, z3, z4, z5, z6, z7, z8⟩
  · simp (disch := first | assumption | omega | (simp only [ya_pi, ya_pj, ya_pa, ya_pr, yo_pi, yo_pj, yo_pa, yf_pi, yf_pj, yf_pa, yh_pi, yh_pj, yh_pa, yt_pi, yt_pj, yt_pa, la_pi, la_pj, la_pa]; assumption)) only [b_X12_count_0, b_X12_count_9, b_X12_count_119, b_X12_count_60, b_X12_count_67, b_X12_count_72, b_X12_count_77, b_X12_count_86, b_X12_count_92, b_X12_count_98, b_X12_count_107, b_X12_count_112, b_X12_count_71, b_X12_count_76, b_X12_count_91, b_X12_count_97, i_lit, i_m1, i_31, il_t, il_f, iq_t, iq_f, it_t, it_f, im_e, im_l, im_g, im_g2, nI_add, pk_mul, i_sub, i_div, sdm, i_dec, i_cl, iv_t, bI_or2, bI_t0, bI_one, not_true_eq_false, not_false_eq_true, ↓reduceIte, am_tl, am_tn, am_t0, am_n0, and_true, true_and, List.cons_append, List.nil_append, List.append_nil, e1]
    exact fin
  · simp (disch := first | assumption | omega | (simp only [ya_pi, ya_pj, ya_pa, ya_pr, yo_pi, yo_pj, yo_pa, yf_pi, yf_pj, yf_pa, yh_pi, yh_pj, yh_pa, yt_pi, yt_pj, yt_pa, la_pi, la_pj, la_pa]; assumption)) only [b_X12_count_0, b_X12_count_9, b_X12_count_119, b_X12_count_60, b_X12_count_67, b_X12_count_72, b_X12_count_77, b_X12_count_86, b_X12_count_92, b_X12_count_98, b_X12_count_107, b_X12_count_112, b_X12_count_71, b_X12_count_76, b_X12_count_91, b_X12_count_97, i_lit, i_m1, i_31, il_t, il_f, iq_t, iq_f, it_t, it_f, im_e, im_l, im_g, im_g2, nI_add, pk_mul, i_sub, i_div, sdm, i_dec, i_cl, iv_t, bI_or2, bI_t0, bI_one, not_true_eq_false, not_false_eq_true, ↓reduceIte, am_tl, am_tn, am_t0, am_n0, and_true, true_and, List.cons_append, List.nil_append, List.append_nil, c_rLinks gd.1 F1]
    exact fin
  · simp (disch := first | assumption | omega | (simp only [ya_pi, ya_pj, ya_pa, ya_pr, yo_pi, yo_pj, yo_pa, yf_pi, yf_pj, yf_pa, yh_pi, yh_pj, yh_pa, yt_pi, yt_pj, yt_pa, la_pi, la_pj, la_pa]; assumption)) only [b_X12_count_0, b_X12_count_9, b_X12_count_119, b_X12_count_60, b_X12_count_67, b_X12_count_72, b_X12_count_77, b_X12_count_86, b_X12_count_92, b_X12_count_98, b_X12_count_107, b_X12_count_112, b_X12_count_71, b_X12_count_76, b_X12_count_91, b_X12_count_97, i_lit, i_m1, i_31, il_t, il_f, iq_t, iq_f, it_t, it_f, im_e, im_l, im_g, im_g2, nI_add, pk_mul, i_sub, i_div, sdm, i_dec, i_cl, iv_t, bI_or2, bI_t0, bI_one, not_true_eq_false, not_false_eq_true, ↓reduceIte, am_tl, am_tn, am_t0, am_n0, and_true, true_and, List.cons_append, List.nil_append, List.append_nil, c_definitions gd F1]
    exact fin
  · simp (disch := first | assumption | omega | (simp only [ya_pi, ya_pj, ya_pa, ya_pr, yo_pi, yo_pj, yo_pa, yf_pi, yf_pj, yf_pa, yh_pi, yh_pj, yh_pa, yt_pi, yt_pj, yt_pa, la_pi, la_pj, la_pa]; assumption)) only [b_X12_count_0, b_X12_count_9, b_X12_count_119, b_X12_count_60, b_X12_count_67, b_X12_count_72, b_X12_count_77, b_X12_count_86, b_X12_count_92, b_X12_count_98, b_X12_count_107, b_X12_count_112, b_X12_count_71, b_X12_count_76, b_X12_count_91, b_X12_count_97, i_lit, i_m1, i_31, il_t, il_f, iq_t, iq_f, it_t, it_f, im_e, im_l, im_g, im_g2, nI_add, pk_mul, i_sub, i_div, sdm, i_dec, i_cl, iv_t, bI_or2, bI_t0, bI_one, not_true_eq_false, not_false_eq_true, ↓reduceIte, am_tl, am_tn, am_t0, am_n0, and_true, true_and, List.cons_append, List.nil_append, List.append_nil, e138]
    exact fin
  · simp (disch := first | assumption | omega | (simp only [ya_pi, ya_pj, ya_pa, ya_pr, yo_pi, yo_pj, yo_pa, yf_pi, yf_pj, yf_pa, yh_pi, yh_pj, yh_pa, yt_pi, yt_pj, yt_pa, la_pi, la_pj, la_pa]; assumption)) only [b_X12_count_0, b_X12_count_9, b_X12_count_119, b_X12_count_60, b_X12_count_67, b_X12_count_72, b_X12_count_77, b_X12_count_86, b_X12_count_92, b_X12_count_98, b_X12_count_107, b_X12_count_112, b_X12_count_71, b_X12_count_76, b_X12_count_91, b_X12_count_97, i_lit, i_m1, i_31, il_t, il_f, iq_t, iq_f, it_t, it_f, im_e, im_l, im_g, im_g2, nI_add, pk_mul, i_sub, i_div, sdm, i_dec, i_cl, iv_t, bI_or2, bI_t0, bI_one, not_true_eq_false, not_false_eq_true, ↓reduceIte, am_tl, am_tn, am_t0, am_n0, and_true, true_and, List.cons_append, List.nil_append, List.append_nil, c_statesOf A1 e1 n10 (show 0 < 10 by omega) okT]
    exact fin
  · simp (disch := first | assumption | omega | (simp only [ya_pi, ya_pj, ya_pa, ya_pr, yo_pi, yo_pj, yo_pa, yf_pi, yf_pj, yf_pa, yh_pi, yh_pj, yh_pa, yt_pi, yt_pj, yt_pa, la_pi, la_pj, la_pa]; assumption)) only [b_X12_count_0, b_X12_count_9, b_X12_count_119, b_X12_count_60, b_X12_count_67, b_X12_count_72, b_X12_count_77, b_X12_count_86, b_X12_count_92, b_X12_count_98, b_X12_count_107, b_X12_count_112, b_X12_count_71, b_X12_count_76, b_X12_count_91, b_X12_count_97, i_lit, i_m1, i_31, il_t, il_f, iq_t, iq_f, it_t, it_f, im_e, im_l, im_g, im_g2, nI_add, pk_mul, i_sub, i_div, sdm, i_dec, i_cl, iv_t, bI_or2, bI_t0, bI_one, not_true_eq_false, not_false_eq_true, ↓reduceIte, am_tl, am_tn, am_t0, am_n0, and_true, true_and, List.cons_append, List.nil_append, List.append_nil, c_statesOf A1 e1 n10 (show 1 < 10 by omega) okT]
    exact fin
  · simp (disch := first | assumption | omega | (simp only [ya_pi, ya_pj, ya_pa, ya_pr, yo_pi, yo_pj, yo_pa, yf_pi, yf_pj, yf_pa, yh_pi, yh_pj, yh_pa, yt_pi, yt_pj, yt_pa, la_pi, la_pj, la_pa]; assumption)) only [b_X12_count_0, b_X12_count_9, b_X12_count_119, b_X12_count_60, b_X12_count_67, b_X12_count_72, b_X12_count_77, b_X12_count_86, b_X12_count_92, b_X12_count_98, b_X12_count_107, b_X12_count_112, b_X12_count_71, b_X12_count_76, b_X12_count_91, b_X12_count_97, i_lit, i_m1, i_31, il_t, il_f, iq_t, iq_f, it_t, it_f, im_e, im_l, im_g, im_g2, nI_add, pk_mul, i_sub, i_div, sdm, i_dec, i_cl, iv_t, bI_or2, bI_t0, bI_one, not_true_eq_false, not_false_eq_true, ↓reduceIte, am_tl, am_tn, am_t0, am_n0, and_true, true_and, List.cons_append, List.nil_append, List.append_nil, e139]
    exact fin
  · simp (disch := first | assumption | omega | (simp only [ya_pi, ya_pj, ya_pa, ya_pr, yo_pi, yo_pj, yo_pa, yf_pi, yf_pj, yf_pa, yh_pi, yh_pj, yh_pa, yt_pi, yt_pj, yt_pa, la_pi, la_pj, la_pa]; assumption)) only [b_X12_count_0, b_X12_count_9, b_X12_count_119, b_X12_count_60, b_X12_count_67, b_X12_count_72, b_X12_count_77, b_X12_count_86, b_X12_count_92, b_X12_count_98, b_X12_count_107, b_X12_count_112, b_X12_count_71, b_X12_count_76, b_X12_count_91, b_X12_count_97, i_lit, i_m1, i_31, il_t, il_f, iq_t, iq_f, it_t, it_f, im_e, im_l, im_g, im_g2, nI_add, pk_mul, i_sub, i_div, sdm, i_dec, i_cl, iv_t, bI_or2, bI_t0, bI_one, not_true_eq_false, not_false_eq_true, ↓reduceIte, am_tl, am_tn, am_t0, am_n0, and_true, true_and, List.cons_append, List.nil_append, List.append_nil, e5]
    exact fin
  · simp (disch := first | assumption | omega | (simp only [ya_pi, ya_pj, ya_pa, ya_pr, yo_pi, yo_pj, yo_pa, yf_pi, yf_pj, yf_pa, yh_pi, yh_pj, yh_pa, yt_pi, yt_pj, yt_pa, la_pi, la_pj, la_pa]; assumption)) only [b_X12_count_0, b_X12_count_9, b_X12_count_119, b_X12_count_60, b_X12_count_67, b_X12_count_72, b_X12_count_77, b_X12_count_86, b_X12_count_92, b_X12_count_98, b_X12_count_107, b_X12_count_112, b_X12_count_71, b_X12_count_76, b_X12_count_91, b_X12_count_97, i_lit, i_m1, i_31, il_t, il_f, iq_t, iq_f, it_t, it_f, im_e, im_l, im_g, im_g2, nI_add, pk_mul, i_sub, i_div, sdm, i_dec, i_cl, iv_t, bI_or2, bI_t0, bI_one, not_true_eq_false, not_false_eq_true, ↓reduceIte, am_tl, am_tn, am_t0, am_n0, and_true, true_and, List.cons_append, List.nil_append, List.append_nil, e0]
    exact fin
  · simp (disch := first | assumption | omega | (simp only [ya_pi, ya_pj, ya_pa, ya_pr, yo_pi, yo_pj, yo_pa, yf_pi, yf_pj, yf_pa, yh_pi, yh_pj, yh_pa, yt_pi, yt_pj, yt_pa, la_pi, la_pj, la_pa]; assumption)) only [i_lit, i_m1, i_31, il_t, il_f, iq_t, iq_f, it_t, it_f, im_e, im_l, im_g, im_g2, nI_add, pk_mul, i_sub, i_div, sdm, i_dec, i_cl, iv_t, bI_or2, bI_t0, bI_one, not_true_eq_false, not_false_eq_true, ↓reduceIte, am_tl, am_tn, am_t0, am_n0, and_true, true_and, List.cons_append, List.nil_append, List.append_nil, z0, z1, z2, z3, z4, z5, z6, z7, z8] at fin
    simp (disch := first | assumption | omega | (simp only [ya_pi, ya_pj, ya_pa, ya_pr, yo_pi, yo_pj, yo_pa, yf_pi, yf_pj, yf_pa, yh_pi, yh_pj, yh_pa, yt_pi, yt_pj, yt_pa, la_pi, la_pj, la_pa]; assumption)) only [b_X12_count_0, b_X12_count_9, b_X12_count_119, b_X12_count_60, b_X12_count_67, b_X12_count_72, b_X12_count_77, b_X12_count_86, b_X12_count_92, b_X12_count_98, b_X12_count_107, b_X12_count_112, b_X12_count_71, b_X12_count_76, b_X12_count_91, b_X12_count_97, i_lit, i_m1, i_31, il_t, il_f, iq_t, iq_f, it_t, it_f, im_e, im_l, im_g, im_g2, nI_add, pk_mul, i_sub, i_div, sdm, i_dec, i_cl, iv_t, bI_or2, bI_t0, bI_one, not_true_eq_false, not_false_eq_true, ↓reduceIte, am_tl, am_tn, am_t0, am_n0, and_true, true_and, List.cons_append, List.nil_append, List.append_nil, z0, z1, z2, z3, z4, z5, z6, z7, z8]
    exact fin
def t_fault (S : St) (x : Int32) : Int32 := if x = nI 0 then (s_e S).1 else if x = nI 1 then (s_e S).2 else mI
theorem c_fault {d : Nat} {Q : Option am_V → am_H → Prop} {h : am_H} {S : St} {x : Int32} (C : cI h S) : ex_ d 166 0 [some (v_r (some 0)), some (v_i x)] [] h Q ↔ Q (some (v_i (t_fault S x))) h := by
  have L := C.1
  have e1 := C.2.2.2.2.2.1.1
  have e2 := C.2.2.2.2.2.1.2
  unfold t_fault
  by_cases z0 : x = nI 0
  · subst z0
    simp (disch := first | assumption | omega | (simp only [ya_pi, ya_pj, ya_pa, ya_pr, yo_pi, yo_pj, yo_pa, yf_pi, yf_pj, yf_pa, yh_pi, yh_pj, yh_pa, yt_pi, yt_pj, yt_pa, la_pi, la_pj, la_pa]; assumption)) only [b_X11_fault_0, b_X11_fault_9, b_X11_fault_4, b_X11_fault_21, b_X11_fault_14, i_lit, i_m1, i_31, il_t, il_f, iq_t, iq_f, it_t, it_f, im_e, im_l, im_g, im_g2, nI_add, pk_mul, i_sub, i_div, sdm, i_dec, i_cl, iv_t, bI_or2, bI_t0, bI_one, not_true_eq_false, not_false_eq_true, ↓reduceIte, am_tl, am_tn, am_t0, am_n0, and_true, true_and, List.cons_append, List.nil_append, List.append_nil, e1]
  · by_cases z1 : x = nI 1
    · subst z1
      simp (disch := first | assumption | omega | (simp only [ya_pi, ya_pj, ya_pa, ya_pr, yo_pi, yo_pj, yo_pa, yf_pi, yf_pj, yf_pa, yh_pi, yh_pj, yh_pa, yt_pi, yt_pj, yt_pa, la_pi, la_pj, la_pa]; assumption)) only [b_X11_fault_0, b_X11_fault_9, b_X11_fault_4, b_X11_fault_21, b_X11_fault_14, i_lit, i_m1, i_31, il_t, il_f, iq_t, iq_f, it_t, it_f, im_e, im_l, im_g, im_g2, nI_add, pk_mul, i_sub, i_div, sdm, i_dec, i_cl, iv_t, bI_or2, bI_t0, bI_one, not_true_eq_false, not_false_eq_true, ↓reduceIte, am_tl, am_tn, am_t0, am_n0, and_true, true_and, List.cons_append, List.nil_append, List.append_nil, e2]
    · simp (disch := first | assumption | omega | (simp only [ya_pi, ya_pj, ya_pa, ya_pr, yo_pi, yo_pj, yo_pa, yf_pi, yf_pj, yf_pa, yh_pi, yh_pj, yh_pa, yt_pi, yt_pj, yt_pa, la_pi, la_pj, la_pa]; assumption)) only [b_X11_fault_0, b_X11_fault_9, b_X11_fault_4, b_X11_fault_21, b_X11_fault_14, i_lit, i_m1, i_31, il_t, il_f, iq_t, iq_f, it_t, it_f, im_e, im_l, im_g, im_g2, nI_add, pk_mul, i_sub, i_div, sdm, i_dec, i_cl, iv_t, bI_or2, bI_t0, bI_one, not_true_eq_false, not_false_eq_true, ↓reduceIte, am_tl, am_tn, am_t0, am_n0, and_true, true_and, List.cons_append, List.nil_append, List.append_nil, z0, z1]
theorem c_rFault {d : Nat} {Q : Option am_V → am_H → Prop} {h : am_H} {S : St} {x : Int32} (ok : St_ok S) (C : rI h S) (k : ∀ h', am_fr h h' rS → rI h' S → Q (some (v_i (t_fault S x))) h') : ex_ d 261 0 [some (v_r (some 93)), some (v_i x)] [] h Q := by
  have fr0 : am_fr h (p_i h 93 0 (nI 0)) rS := am_fr_pi (by unfold rS; omega)
  have L := C.1
  have C0 := C.q ok fr0
  have L0 := C0.1
  have e1 := C0.2.2.2.2.2.2.1
  have e2 := C0.2.2.2.2.2.2.2
  have fin := k _ fr0 C0
  unfold t_fault at fin
  by_cases z0 : x = nI 0
  · subst z0
    simp (disch := first | assumption | omega | (simp only [ya_pi, ya_pj, ya_pa, ya_pr, yo_pi, yo_pj, yo_pa, yf_pi, yf_pj, yf_pa, yh_pi, yh_pj, yh_pa, yt_pi, yt_pj, yt_pa, la_pi, la_pj, la_pa]; assumption)) only [b_X12_fault_0, b_X12_fault_16, b_X12_fault_9, b_X12_fault_28, b_X12_fault_21, i_lit, i_m1, i_31, il_t, il_f, iq_t, iq_f, it_t, it_f, im_e, im_l, im_g, im_g2, nI_add, pk_mul, i_sub, i_div, sdm, i_dec, i_cl, iv_t, bI_or2, bI_t0, bI_one, not_true_eq_false, not_false_eq_true, ↓reduceIte, am_tl, am_tn, am_t0, am_n0, and_true, true_and, List.cons_append, List.nil_append, List.append_nil, e1]
    exact fin
  · by_cases z1 : x = nI 1
    · subst z1
      simp (disch := first | assumption | omega | (simp only [ya_pi, ya_pj, ya_pa, ya_pr, yo_pi, yo_pj, yo_pa, yf_pi, yf_pj, yf_pa, yh_pi, yh_pj, yh_pa, yt_pi, yt_pj, yt_pa, la_pi, la_pj, la_pa]; assumption)) only [b_X12_fault_0, b_X12_fault_16, b_X12_fault_9, b_X12_fault_28, b_X12_fault_21, i_lit, i_m1, i_31, il_t, il_f, iq_t, iq_f, it_t, it_f, im_e, im_l, im_g, im_g2, nI_add, pk_mul, i_sub, i_div, sdm, i_dec, i_cl, iv_t, bI_or2, bI_t0, bI_one, not_true_eq_false, not_false_eq_true, ↓reduceIte, am_tl, am_tn, am_t0, am_n0, and_true, true_and, List.cons_append, List.nil_append, List.append_nil, e2]
      exact fin
    · simp (disch := first | assumption | omega | (simp only [ya_pi, ya_pj, ya_pa, ya_pr, yo_pi, yo_pj, yo_pa, yf_pi, yf_pj, yf_pa, yh_pi, yh_pj, yh_pa, yt_pi, yt_pj, yt_pa, la_pi, la_pj, la_pa]; assumption)) only [i_lit, i_m1, i_31, il_t, il_f, iq_t, iq_f, it_t, it_f, im_e, im_l, im_g, im_g2, nI_add, pk_mul, i_sub, i_div, sdm, i_dec, i_cl, iv_t, bI_or2, bI_t0, bI_one, not_true_eq_false, not_false_eq_true, ↓reduceIte, am_tl, am_tn, am_t0, am_n0, and_true, true_and, List.cons_append, List.nil_append, List.append_nil, z0, z1] at fin
      simp (disch := first | assumption | omega | (simp only [ya_pi, ya_pj, ya_pa, ya_pr, yo_pi, yo_pj, yo_pa, yf_pi, yf_pj, yf_pa, yh_pi, yh_pj, yh_pa, yt_pi, yt_pj, yt_pa, la_pi, la_pj, la_pa]; assumption)) only [b_X12_fault_0, b_X12_fault_16, b_X12_fault_9, b_X12_fault_28, b_X12_fault_21, i_lit, i_m1, i_31, il_t, il_f, iq_t, iq_f, it_t, it_f, im_e, im_l, im_g, im_g2, nI_add, pk_mul, i_sub, i_div, sdm, i_dec, i_cl, iv_t, bI_or2, bI_t0, bI_one, not_true_eq_false, not_false_eq_true, ↓reduceIte, am_tl, am_tn, am_t0, am_n0, and_true, true_and, List.cons_append, List.nil_append, List.append_nil, z0, z1]
      exact fin
/-! bytes -/
def byN (x : Int32) (s : Nat) : Nat := x.toBitVec.toNat / 2 ^ s % 256
theorem byN_lt {x : Int32} {s : Nat} : byN x s < 256 := Nat.mod_lt _ (by omega)
theorem by_and {x : Int32} {s : Nat} (hs : s ≤ 24) : (x >>> nI s) &&& nI 255 = nI (byN x s) := by
  apply Int32.toBitVec_inj.1
  rw [Int32.toBitVec_and, Int32.toBitVec_shiftRight]
  show BitVec.sshiftRight' x.toBitVec ((nI s).toBitVec.smod 32) &&& BitVec.ofNat 32 255 = BitVec.ofNat 32 (byN x s)
  apply BitVec.eq_of_getLsbD_eq
  intro i hi
  rw [BitVec.getLsbD_and, BitVec.sshiftRight', i_sm s (by omega), BitVec.getLsbD_sshiftRight, BitVec.getLsbD_ofNat, BitVec.getLsbD_ofNat]
  unfold byN
  rw [show (256 : Nat) = 2 ^ 8 from rfl, Nat.testBit_mod_two_pow, Nat.testBit_div_two_pow, show (255 : Nat) = 2 ^ 8 - 1 from rfl, Nat.testBit_two_pow_sub_one]
  by_cases h8 : i < 8
  · rw [if_pos (by omega)]
    simp [h8, hi, BitVec.getLsbD, Nat.add_comm]
  · simp [h8]
theorem i8_and {y : Int32} : y.toInt8 = (y &&& nI 255).toInt8 := by
  apply Int8.toBitVec_inj.1
  rw [Int32.toBitVec_toInt8, Int32.toBitVec_toInt8, Int32.toBitVec_and]
  apply BitVec.eq_of_getLsbD_eq
  intro i hi
  rw [BitVec.signExtend_eq_setWidth_of_le _ (by omega), BitVec.signExtend_eq_setWidth_of_le _ (by omega), BitVec.getLsbD_setWidth, BitVec.getLsbD_setWidth, BitVec.getLsbD_and]
  show _ = (decide (i < 8) && (y.toBitVec.getLsbD i && (BitVec.ofNat 32 255).getLsbD i))
  rw [BitVec.getLsbD_ofNat, show (255 : Nat) = 2 ^ 8 - 1 from rfl, Nat.testBit_two_pow_sub_one]
  simp [hi]
  intro
  omega
theorem by_nar {x : Int32} {s : Nat} (hs : s ≤ 24) : vp_nar .byte (Int8.toInt32 (Int32.toInt8 (x >>> nI s))) = b8 (byN x s) := by
  have h1 : ∀ y : Int32, vp_nar .byte y = y.toInt8.toInt32 := fun y => rfl
  rw [h1, i8_and (y := x >>> nI s), by_and hs]
  unfold b8
  rw [show ∀ z : Int8, z.toInt32.toInt8 = z from fun z => by simp]
def by4 (x : Int32) : List Nat := [byN x 24, byN x 16, byN x 8, byN x 0]
def fd (a b c d e : Int32) : List Nat := by4 a ++ by4 b ++ by4 c ++ by4 d ++ by4 e
def setB (S : St) (b : List Nat) : St := (S.1, S.2.1, S.2.2.1, S.2.2.2.1, b, S.2.2.2.2.2)
def t_feed (S : St) (a b c d e : Int32) : Int32 × St := if (s_b S).length + 20 ≤ 900 then (nI ((s_b S).length + 20), setB S (s_b S ++ fd a b c d e)) else (-5, S)
theorem gdN_app {l l' : List Nat} {k : Nat} : (l ++ l').getD k 0 = if k < l.length then l.getD k 0 else l'.getD (k - l.length) 0 := by
  rw [List.getD_eq_getElem?_getD, List.getElem?_append]
  split
  · rw [List.getD_eq_getElem?_getD]
  · rw [List.getD_eq_getElem?_getD]
theorem tpA_app {h : am_H} {b : List Nat} {v : Nat} (A : tpA h b) : tpA (p_i (p_i h 1 b.length (b8 v)) 0 1 (nI (b.length + 1))) (b ++ [v]) := by
  refine ⟨by rw [hi_s, List.length_append, List.length_singleton], fun k hk => ?_⟩
  rw [List.length_append, List.length_singleton] at hk
  rw [hi_o (by omega), gd_app, hi_if]
  by_cases z : k < b.length
  · rw [if_neg (by omega), if_pos z]
    exact A.2 k z
  · have : k = b.length := by omega
    rw [if_pos ⟨rfl, this⟩, if_neg z, if_pos this]
def pT (a k : Nat) : Prop := (a = 0 ∧ k = 1) ∨ a = 1
theorem c_put1 {d : Nat} {Q : Option am_V → am_H → Prop} {h : am_H} {b : List Nat} {x : Int32} {s : Nat} (hs : s ≤ 24) (L : Lay h) (A : tpA h b) (hb : b.length < 900) (k : ∀ h', am_fr h h' pT → tpA h' (b ++ [byN x s]) → ex_ d 162 3 [some (v_r (some 0)), some (v_i x), some (v_i (nI s + -(nI 8)))] [] h' Q) : ex_ d 162 3 [some (v_r (some 0)), some (v_i x), some (v_i (nI s))] [] h Q := by
  have e1 := A.1
  have A2 := tpA_app (v := byN x s) A
  have e1' : h_i (p_i h 1 b.length (b8 (byN x s))) 0 1 = nI b.length := by rw [hi_o (by omega)]; exact e1
  rw [b_X11_putBytes_3 _ _ _ _]
  simp (disch := first | assumption | omega | (simp only [ya_pi, ya_pj, ya_pa, ya_pr, yo_pi, yo_pj, yo_pa, yf_pi, yf_pj, yf_pa, yh_pi, yh_pj, yh_pa, yt_pi, yt_pj, yt_pa, la_pi, la_pj, la_pa]; assumption)) only [b_X11_putBytes_0, b_X11_putBytes_46, b_X11_putBytes_7, b_X11_putBytes_17, i_lit, i_m1, i_31, il_t, il_f, iq_t, iq_f, it_t, it_f, im_e, im_l, im_g, im_g2, nI_add, pk_mul, i_sub, i_div, sdm, i_dec, i_cl, iv_t, bI_or2, bI_t0, bI_one, not_true_eq_false, not_false_eq_true, ↓reduceIte, am_tl, am_tn, am_t0, am_n0, and_true, true_and, List.cons_append, List.nil_append, List.append_nil, e1, i_31, by_nar, e1']
  exact k _ ((am_fr_pi (by unfold pT; omega)).pi (by unfold pT; omega)) A2
theorem c_putBytes {d : Nat} {Q : Option am_V → am_H → Prop} {h : am_H} {b : List Nat} {x : Int32} {l2 : Option am_V} (L : Lay h) (A : tpA h b) (hb : b.length + 4 ≤ 900) (k : ∀ h', am_fr h h' pT → tpA h' (b ++ by4 x) → Q none h') : ex_ d 162 0 [some (v_r (some 0)), some (v_i x), l2] [] h Q := by
  have s1 : nI 24 + -(nI 8) = nI 16 := by decide
  have s2 : nI 16 + -(nI 8) = nI 8 := by decide
  have s3 : nI 8 + -(nI 8) = nI 0 := by decide
  have s4 : nI 0 + -(nI 8) < nI 0 := by decide
  simp (disch := first | assumption | omega | (simp only [ya_pi, ya_pj, ya_pa, ya_pr, yo_pi, yo_pj, yo_pa, yf_pi, yf_pj, yf_pa, yh_pi, yh_pj, yh_pa, yt_pi, yt_pj, yt_pa, la_pi, la_pj, la_pa]; assumption)) only [b_X11_putBytes_0, i_lit, i_m1, i_31, il_t, il_f, iq_t, iq_f, it_t, it_f, im_e, im_l, im_g, im_g2, nI_add, pk_mul, i_sub, i_div, sdm, i_dec, i_cl, iv_t, bI_or2, bI_t0, bI_one, not_true_eq_false, not_false_eq_true, ↓reduceIte, am_tl, am_tn, am_t0, am_n0, and_true, true_and, List.cons_append, List.nil_append, List.append_nil]
  refine c_put1 (by omega) L A (by omega) (fun h1 fr1 A1 => ?_)
  rw [s1]
  refine c_put1 (by omega) (fr1.lay L) A1 (by rw [List.length_append, List.length_singleton]; omega) (fun h2 fr2 A2 => ?_)
  rw [s2]
  refine c_put1 (by omega) (fr2.lay (fr1.lay L)) A2 (by rw [List.length_append, List.length_append, List.length_singleton, List.length_singleton]; omega) (fun h3 fr3 A3 => ?_)
  rw [s3]
  refine c_put1 (by omega) (fr3.lay (fr2.lay (fr1.lay L))) A3 (by rw [List.length_append, List.length_append, List.length_append, List.length_singleton, List.length_singleton, List.length_singleton]; omega) (fun h4 fr4 A4 => ?_)
  rw [b_X11_putBytes_3 _ _ _ _]
  simp only [i_lit, s4, ↓reduceIte]
  rw [b_X11_putBytes_46]
  refine k h4 (((fr1.tr fr2).tr fr3).tr fr4) ?_
  rw [List.append_assoc, List.append_assoc, List.append_assoc] at A4
  exact A4
theorem c_feed {d : Nat} {Q : Option am_V → am_H → Prop} {h : am_H} {S : St} {x1 x2 x3 x4 x5 : Int32} (ok : St_ok S) (C : cI h S) (k : ∀ h', gC h h' → cI h' (t_feed S x1 x2 x3 x4 x5).2 → Q (some (v_i (t_feed S x1 x2 x3 x4 x5).1)) h') : ex_ (d + 1) 163 0 [some (v_r (some 0)), some (v_i x1), some (v_i x2), some (v_i x3), some (v_i x4), some (v_i x5)] [] h Q := by
  have L := C.1
  have A := C.2.2.2.2.1
  have e1 := A.1
  have l9 := ok.2.2.2.1
  have l4 : ∀ x, (by4 x).length = 4 := fun x => rfl
  unfold t_feed at k
  by_cases z : (s_b S).length + 20 ≤ 900
  · rw [if_pos z] at k
    simp (disch := first | assumption | omega | (simp only [ya_pi, ya_pj, ya_pa, ya_pr, yo_pi, yo_pj, yo_pa, yf_pi, yf_pj, yf_pa, yh_pi, yh_pj, yh_pa, yt_pi, yt_pj, yt_pa, la_pi, la_pj, la_pa]; assumption)) only [b_X11_feed_0, b_X11_feed_16, b_X11_feed_13, b_X11_feed_21, b_X11_feed_26, b_X11_feed_31, b_X11_feed_37, b_X11_feed_43, i_lit, i_m1, i_31, il_t, il_f, iq_t, iq_f, it_t, it_f, im_e, im_l, im_g, im_g2, nI_add, pk_mul, i_sub, i_div, sdm, i_dec, i_cl, iv_t, bI_or2, bI_t0, bI_one, not_true_eq_false, not_false_eq_true, ↓reduceIte, am_tl, am_tn, am_t0, am_n0, and_true, true_and, List.cons_append, List.nil_append, List.append_nil, e1]
    refine c_putBytes L A (by omega) (fun h1 fr1 A1 => ?_)
    have L1 := fr1.lay L
    simp (disch := first | assumption | omega | (simp only [ya_pi, ya_pj, ya_pa, ya_pr, yo_pi, yo_pj, yo_pa, yf_pi, yf_pj, yf_pa, yh_pi, yh_pj, yh_pa, yt_pi, yt_pj, yt_pa, la_pi, la_pj, la_pa]; assumption)) only [b_X11_feed_0, b_X11_feed_16, b_X11_feed_13, b_X11_feed_21, b_X11_feed_26, b_X11_feed_31, b_X11_feed_37, b_X11_feed_43, i_lit, i_m1, i_31, il_t, il_f, iq_t, iq_f, it_t, it_f, im_e, im_l, im_g, im_g2, nI_add, pk_mul, i_sub, i_div, sdm, i_dec, i_cl, iv_t, bI_or2, bI_t0, bI_one, not_true_eq_false, not_false_eq_true, ↓reduceIte, am_tl, am_tn, am_t0, am_n0, and_true, true_and, List.cons_append, List.nil_append, List.append_nil]
    refine c_putBytes L1 A1 (by rw [List.length_append, l4]; omega) (fun h2 fr2 A2 => ?_)
    have L2 := fr2.lay L1
    simp (disch := first | assumption | omega | (simp only [ya_pi, ya_pj, ya_pa, ya_pr, yo_pi, yo_pj, yo_pa, yf_pi, yf_pj, yf_pa, yh_pi, yh_pj, yh_pa, yt_pi, yt_pj, yt_pa, la_pi, la_pj, la_pa]; assumption)) only [b_X11_feed_0, b_X11_feed_16, b_X11_feed_13, b_X11_feed_21, b_X11_feed_26, b_X11_feed_31, b_X11_feed_37, b_X11_feed_43, i_lit, i_m1, i_31, il_t, il_f, iq_t, iq_f, it_t, it_f, im_e, im_l, im_g, im_g2, nI_add, pk_mul, i_sub, i_div, sdm, i_dec, i_cl, iv_t, bI_or2, bI_t0, bI_one, not_true_eq_false, not_false_eq_true, ↓reduceIte, am_tl, am_tn, am_t0, am_n0, and_true, true_and, List.cons_append, List.nil_append, List.append_nil]
    refine c_putBytes L2 A2 (by rw [List.length_append, List.length_append, l4, l4]; omega) (fun h3 fr3 A3 => ?_)
    have L3 := fr3.lay L2
    simp (disch := first | assumption | omega | (simp only [ya_pi, ya_pj, ya_pa, ya_pr, yo_pi, yo_pj, yo_pa, yf_pi, yf_pj, yf_pa, yh_pi, yh_pj, yh_pa, yt_pi, yt_pj, yt_pa, la_pi, la_pj, la_pa]; assumption)) only [b_X11_feed_0, b_X11_feed_16, b_X11_feed_13, b_X11_feed_21, b_X11_feed_26, b_X11_feed_31, b_X11_feed_37, b_X11_feed_43, i_lit, i_m1, i_31, il_t, il_f, iq_t, iq_f, it_t, it_f, im_e, im_l, im_g, im_g2, nI_add, pk_mul, i_sub, i_div, sdm, i_dec, i_cl, iv_t, bI_or2, bI_t0, bI_one, not_true_eq_false, not_false_eq_true, ↓reduceIte, am_tl, am_tn, am_t0, am_n0, and_true, true_and, List.cons_append, List.nil_append, List.append_nil]
    refine c_putBytes L3 A3 (by rw [List.length_append, List.length_append, List.length_append, l4, l4, l4]; omega) (fun h4 fr4 A4 => ?_)
    have L4 := fr4.lay L3
    simp (disch := first | assumption | omega | (simp only [ya_pi, ya_pj, ya_pa, ya_pr, yo_pi, yo_pj, yo_pa, yf_pi, yf_pj, yf_pa, yh_pi, yh_pj, yh_pa, yt_pi, yt_pj, yt_pa, la_pi, la_pj, la_pa]; assumption)) only [b_X11_feed_0, b_X11_feed_16, b_X11_feed_13, b_X11_feed_21, b_X11_feed_26, b_X11_feed_31, b_X11_feed_37, b_X11_feed_43, i_lit, i_m1, i_31, il_t, il_f, iq_t, iq_f, it_t, it_f, im_e, im_l, im_g, im_g2, nI_add, pk_mul, i_sub, i_div, sdm, i_dec, i_cl, iv_t, bI_or2, bI_t0, bI_one, not_true_eq_false, not_false_eq_true, ↓reduceIte, am_tl, am_tn, am_t0, am_n0, and_true, true_and, List.cons_append, List.nil_append, List.append_nil]
    refine c_putBytes L4 A4 (by rw [List.length_append, List.length_append, List.length_append, List.length_append, l4, l4, l4, l4]; omega) (fun h5 fr5 A5 => ?_)
    have L5 := fr5.lay L4
    have A6 : tpA h5 (s_b S ++ fd x1 x2 x3 x4 x5) := by
      unfold fd
      rw [← List.append_assoc, ← List.append_assoc, ← List.append_assoc, ← List.append_assoc]
      exact A5
    have e5 : h_i h5 0 1 = nI ((s_b S).length + 20) := by
      have := A6.1
      rw [List.length_append] at this
      exact this
    simp (disch := first | assumption | omega | (simp only [ya_pi, ya_pj, ya_pa, ya_pr, yo_pi, yo_pj, yo_pa, yf_pi, yf_pj, yf_pa, yh_pi, yh_pj, yh_pa, yt_pi, yt_pj, yt_pa, la_pi, la_pj, la_pa]; assumption)) only [b_X11_feed_0, b_X11_feed_16, b_X11_feed_13, b_X11_feed_21, b_X11_feed_26, b_X11_feed_31, b_X11_feed_37, b_X11_feed_43, i_lit, i_m1, i_31, il_t, il_f, iq_t, iq_f, it_t, it_f, im_e, im_l, im_g, im_g2, nI_add, pk_mul, i_sub, i_div, sdm, i_dec, i_cl, iv_t, bI_or2, bI_t0, bI_one, not_true_eq_false, not_false_eq_true, ↓reduceIte, am_tl, am_tn, am_t0, am_n0, and_true, true_and, List.cons_append, List.nil_append, List.append_nil, e5]
    have fr := (((fr1.tr fr2).tr fr3).tr fr4).tr fr5
    have G : gf h h5 pT N0 N0 := fr.g
    refine k h5 (gC.fr fr (fun a k z => by unfold pT at z; unfold pC; omega)) ?_
    obtain ⟨-, O, ⟨W, e, C1, C2, C3⟩, C4, -, C6, C7, C8⟩ := C
    have hf := ok.1.1.1
    exact ⟨L5, G.or O (fT_l11 hf.1) (fun c hc => ⟨by unfold pT; omega, by unfold pT; omega, fun k hk => by unfold pT; omega⟩) (fun k z => z), ⟨W, e, G.hoA ok.1 C1 (fun _ _ _ _ z => z) (fun a k h1 h2 => by unfold pT; omega) (fun a k h1 h2 => by unfold pT; omega), G.paA L (fun q hq => (ok.2.1.2 q hq).1) C2 (by unfold pT; omega) (by unfold pT; omega) (fun k z => z) (fun a k h1 h2 h3 => ⟨by unfold pT; omega, fun z => z⟩), G.imA L ok.2.2.1 C3 (fun k z => z) (fun a k h1 h2 => by unfold pT; omega) (fun a k h1 h2 h3 => ⟨by unfold pT; omega, fun z => z⟩)⟩, G.tyA L C4 (fun a k h1 h2 => by unfold pT; omega) (fun _ _ _ _ z => z), A6, ⟨(fr.i (by unfold pT; omega)).trans C6.1, (fr.i (by unfold pT; omega)).trans C6.2⟩, G.mnA L C7 (fun k _ _ => by unfold pT; omega) (fun k => by unfold pT; omega), G.ltA L C8 (fun k _ => by unfold pT; omega)⟩
  · rw [if_neg z] at k
    simp (disch := first | assumption | omega | (simp only [ya_pi, ya_pj, ya_pa, ya_pr, yo_pi, yo_pj, yo_pa, yf_pi, yf_pj, yf_pa, yh_pi, yh_pj, yh_pa, yt_pi, yt_pj, yt_pa, la_pi, la_pj, la_pa]; assumption)) only [b_X11_feed_0, b_X11_feed_16, b_X11_feed_13, b_X11_feed_21, b_X11_feed_26, b_X11_feed_31, b_X11_feed_37, b_X11_feed_43, i_lit, i_m1, i_31, il_t, il_f, iq_t, iq_f, it_t, it_f, im_e, im_l, im_g, im_g2, nI_add, pk_mul, i_sub, i_div, sdm, i_dec, i_cl, iv_t, bI_or2, bI_t0, bI_one, not_true_eq_false, not_false_eq_true, ↓reduceIte, am_tl, am_tn, am_t0, am_n0, and_true, true_and, List.cons_append, List.nil_append, List.append_nil, e1]
    exact k h gC.rf C
