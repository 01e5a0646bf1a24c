/-! ===== laws run: the class ===== -/
def vw (h : am_H) (sy : Bool) (w : Nat → Int32) : Prop := h_i h 51 8 = w 0 ∧ h_i h 51 9 = w 1 ∧ h_i h 51 10 = w 2 ∧ h_i h 51 11 = w 3 ∧ (sy = true → h_i h 51 12 = w 4 ∧ h_i h 51 13 = w 5)
theorem vw.fr {h h' : am_H} {P : Nat → Nat → Prop} {sy : Bool} {w : Nat → Int32} (V : vw h sy w) (fr : am_fr h h' P) (hp : ∀ k, 8 ≤ k → k ≤ 13 → ¬ P 51 k) : vw h' sy w := by
  obtain ⟨a, b, c, d, e⟩ := V
  refine ⟨?_, ?_, ?_, ?_, fun z => ⟨?_, ?_⟩⟩
  · rw [fr.i (hp _ (by omega) (by omega)), a]
  · rw [fr.i (hp _ (by omega) (by omega)), b]
  · rw [fr.i (hp _ (by omega) (by omega)), c]
  · rw [fr.i (hp _ (by omega) (by omega)), d]
  · rw [fr.i (hp _ (by omega) (by omega)), (e z).1]
  · rw [fr.i (hp _ (by omega) (by omega)), (e z).2]
theorem sp_w {w : Nat → Int32} {code : Nat} {st : List Int32} (h1 : 1000 ≤ code) (h2 : code < 3000) : sp w code st = w (code - 1000) :: st := by
  unfold sp
  rw [if_neg (by omega), if_pos h2]
theorem sp_b {w : Nat → Int32} {code : Nat} {a b : Int32} {r : List Int32} (h1 : 3000 ≤ code) (h2 : code ≤ 3008) (h6 : ¬ code = 3006) : sp w code (b :: a :: r) = btw code a b :: r := by
  unfold sp
  rw [if_neg (by omega), if_neg (by omega), if_neg h6, if_neg (by omega)]
theorem sp_n {w : Nat → Int32} {x : Int32} {r : List Int32} : sp w 3006 (x :: r) = (nI 1 - x) :: r := by
  unfold sp
  rw [if_neg (by omega), if_neg (by omega), if_pos rfl]
theorem sp_i {w : Nat → Int32} {o t c : Int32} {r : List Int32} : sp w 3009 (o :: t :: c :: r) = (if c = nI 1 then t else o) :: r := by
  unfold sp
  rw [if_neg (by omega), if_neg (by omega), if_neg (by omega), if_pos rfl]
theorem tk_b {code : Nat} (h1 : 3000 ≤ code) (h2 : code ≤ 3008) (h6 : ¬ code = 3006) : tk code < 218 ∧ (tk code < 201 ∨ tk code = 215 ∨ tk code = 216) := by
  rcases (show code = 3000 ∨ code = 3001 ∨ code = 3002 ∨ code = 3003 ∨ code = 3004 ∨ code = 3005 ∨ code = 3007 ∨ code = 3008 by omega) with rfl | rfl | rfl | rfl | rfl | rfl | rfl | rfl <;> decide
theorem c_work {d : Nat} {Q : Option am_V → am_H → Prop} {h : am_H} {sy : Bool} {w : Nat → Int32} {code : Nat} {τ τ' : List Bool} {st : List Int32} (L0 : Lay h) (V : vw h sy w) (S : stk h st) (hc : 1000 ≤ code) (ht : tc sy code τ = some τ') (ts : tys τ st) {l2 l3 l4 l5 : Option am_V} (k : ∀ h', am_fr h h' vP → stk h' (sp w code st) → Q none h') : ex_ (d + 1) 153 0 [some (v_r (some 51)), some (v_i (nI (tk code))), l2, l3, l4, l5] [] h Q := by
  have V0 := V
  obtain ⟨w0, w1, w2, w3, w45⟩ := V
  have len := tys_len ts
  rcases tc_cs ht with ⟨h1, h2, rfl⟩ | H
  · rw [sp_w hc (by omega)] at k
    have l100 : st.length < 100 := by omega
    rcases (show code = 1000 ∨ code = 1001 ∨ code = 1002 ∨ code = 1003 ∨ (sy = true ∧ code = 1004) ∨ (sy = true ∧ code = 1005) by
      rcases h1 with q | q | ⟨q1, q⟩
      · omega
      · omega
      · rcases (show code = 1004 ∨ code = 1005 by omega) with y | y
        · exact Or.inr (Or.inr (Or.inr (Or.inr (Or.inl ⟨q1, y⟩))))
        · exact Or.inr (Or.inr (Or.inr (Or.inr (Or.inr ⟨q1, y⟩))))) with rfl | rfl | rfl | rfl | ⟨z, rfl⟩ | ⟨z, rfl⟩
    · have e : tk 1000 = 203 := by decide
      simp (disch := first | assumption | omega | (simp only [ya_pi, ya_pj, ya_pa, ya_pr, yo_pi, yo_pj, yo_pa, yf_pi, yf_pj, yf_pa, yh_pi, yh_pj, yh_pa, yt_pi, yt_pj, yt_pa, la_pi, la_pj, la_pa]; assumption)) only [b_X10_work_0, b_X10_work_192, b_X10_work_117, b_X10_work_84, b_X10_work_95, b_X10_work_128, b_X10_work_163, b_X10_work_106, b_X10_work_139, b_X10_work_150, b_X10_work_196, b_X10_work_125, b_X10_work_92, b_X10_work_103, b_X10_work_136, b_X10_work_167, b_X10_work_114, b_X10_work_147, b_X10_work_156, b_X10_work_202, b_X10_work_172, b_X10_work_160, b_X10_work_215, b_X10_work_178, b_X10_work_218, b_X10_work_185, b_X10_work_181, b_X10_work_221, b_X10_work_189, i_lit, i_m1, i_31, il_t, il_f, iq_t, iq_f, it_t, it_f, im_e, im_l, im_g, im_g2, nI_add, pk_mul, i_sub, i_div, sdm, i_dec, i_cl, iv_t, bI_or2, bI_t0, bI_one, not_true_eq_false, not_false_eq_true, ↓reduceIte, am_tl, am_tn, am_t0, am_n0, and_true, true_and, List.cons_append, List.nil_append, List.append_nil, or_true, true_or, or_false, false_or, eq_self, ior0, iand0, im_e2, oI, e, w0]
      refine c_push L0 S l100 (fun h1 fr1 S1 => ?_)
      simp (disch := first | assumption | omega | (simp only [ya_pi, ya_pj, ya_pa, ya_pr, yo_pi, yo_pj, yo_pa, yf_pi, yf_pj, yf_pa, yh_pi, yh_pj, yh_pa, yt_pi, yt_pj, yt_pa, la_pi, la_pj, la_pa]; assumption)) only [b_X10_work_0, b_X10_work_192, b_X10_work_117, b_X10_work_84, b_X10_work_95, b_X10_work_128, b_X10_work_163, b_X10_work_106, b_X10_work_139, b_X10_work_150, b_X10_work_196, b_X10_work_125, b_X10_work_92, b_X10_work_103, b_X10_work_136, b_X10_work_167, b_X10_work_114, b_X10_work_147, b_X10_work_156, b_X10_work_202, b_X10_work_172, b_X10_work_160, b_X10_work_215, b_X10_work_178, b_X10_work_218, b_X10_work_185, b_X10_work_181, b_X10_work_221, b_X10_work_189, i_lit, i_m1, i_31, il_t, il_f, iq_t, iq_f, it_t, it_f, im_e, im_l, im_g, im_g2, nI_add, pk_mul, i_sub, i_div, sdm, i_dec, i_cl, iv_t, bI_or2, bI_t0, bI_one, not_true_eq_false, not_false_eq_true, ↓reduceIte, am_tl, am_tn, am_t0, am_n0, and_true, true_and, List.cons_append, List.nil_append, List.append_nil, or_true, true_or, or_false, false_or, eq_self, ior0, iand0, im_e2, oI]
      exact k h1 fr1 S1
    · have e : tk 1001 = 204 := by decide
      simp (disch := first | assumption | omega | (simp only [ya_pi, ya_pj, ya_pa, ya_pr, yo_pi, yo_pj, yo_pa, yf_pi, yf_pj, yf_pa, yh_pi, yh_pj, yh_pa, yt_pi, yt_pj, yt_pa, la_pi, la_pj, la_pa]; assumption)) only [b_X10_work_0, b_X10_work_192, b_X10_work_117, b_X10_work_84, b_X10_work_95, b_X10_work_128, b_X10_work_163, b_X10_work_106, b_X10_work_139, b_X10_work_150, b_X10_work_196, b_X10_work_125, b_X10_work_92, b_X10_work_103, b_X10_work_136, b_X10_work_167, b_X10_work_114, b_X10_work_147, b_X10_work_156, b_X10_work_202, b_X10_work_172, b_X10_work_160, b_X10_work_215, b_X10_work_178, b_X10_work_218, b_X10_work_185, b_X10_work_181, b_X10_work_221, b_X10_work_189, i_lit, i_m1, i_31, il_t, il_f, iq_t, iq_f, it_t, it_f, im_e, im_l, im_g, im_g2, nI_add, pk_mul, i_sub, i_div, sdm, i_dec, i_cl, iv_t, bI_or2, bI_t0, bI_one, not_true_eq_false, not_false_eq_true, ↓reduceIte, am_tl, am_tn, am_t0, am_n0, and_true, true_and, List.cons_append, List.nil_append, List.append_nil, or_true, true_or, or_false, false_or, eq_self, ior0, iand0, im_e2, oI, e, w1]
      refine c_push L0 S l100 (fun h1 fr1 S1 => ?_)
      simp (disch := first | assumption | omega | (simp only [ya_pi, ya_pj, ya_pa, ya_pr, yo_pi, yo_pj, yo_pa, yf_pi, yf_pj, yf_pa, yh_pi, yh_pj, yh_pa, yt_pi, yt_pj, yt_pa, la_pi, la_pj, la_pa]; assumption)) only [b_X10_work_0, b_X10_work_192, b_X10_work_117, b_X10_work_84, b_X10_work_95, b_X10_work_128, b_X10_work_163, b_X10_work_106, b_X10_work_139, b_X10_work_150, b_X10_work_196, b_X10_work_125, b_X10_work_92, b_X10_work_103, b_X10_work_136, b_X10_work_167, b_X10_work_114, b_X10_work_147, b_X10_work_156, b_X10_work_202, b_X10_work_172, b_X10_work_160, b_X10_work_215, b_X10_work_178, b_X10_work_218, b_X10_work_185, b_X10_work_181, b_X10_work_221, b_X10_work_189, i_lit, i_m1, i_31, il_t, il_f, iq_t, iq_f, it_t, it_f, im_e, im_l, im_g, im_g2, nI_add, pk_mul, i_sub, i_div, sdm, i_dec, i_cl, iv_t, bI_or2, bI_t0, bI_one, not_true_eq_false, not_false_eq_true, ↓reduceIte, am_tl, am_tn, am_t0, am_n0, and_true, true_and, List.cons_append, List.nil_append, List.append_nil, or_true, true_or, or_false, false_or, eq_self, ior0, iand0, im_e2, oI]
      exact k h1 fr1 S1
    · have e : tk 1002 = 213 := by decide
      simp (disch := first | assumption | omega | (simp only [ya_pi, ya_pj, ya_pa, ya_pr, yo_pi, yo_pj, yo_pa, yf_pi, yf_pj, yf_pa, yh_pi, yh_pj, yh_pa, yt_pi, yt_pj, yt_pa, la_pi, la_pj, la_pa]; assumption)) only [b_X10_work_0, b_X10_work_192, b_X10_work_117, b_X10_work_84, b_X10_work_95, b_X10_work_128, b_X10_work_163, b_X10_work_106, b_X10_work_139, b_X10_work_150, b_X10_work_196, b_X10_work_125, b_X10_work_92, b_X10_work_103, b_X10_work_136, b_X10_work_167, b_X10_work_114, b_X10_work_147, b_X10_work_156, b_X10_work_202, b_X10_work_172, b_X10_work_160, b_X10_work_215, b_X10_work_178, b_X10_work_218, b_X10_work_185, b_X10_work_181, b_X10_work_221, b_X10_work_189, i_lit, i_m1, i_31, il_t, il_f, iq_t, iq_f, it_t, it_f, im_e, im_l, im_g, im_g2, nI_add, pk_mul, i_sub, i_div, sdm, i_dec, i_cl, iv_t, bI_or2, bI_t0, bI_one, not_true_eq_false, not_false_eq_true, ↓reduceIte, am_tl, am_tn, am_t0, am_n0, and_true, true_and, List.cons_append, List.nil_append, List.append_nil, or_true, true_or, or_false, false_or, eq_self, ior0, iand0, im_e2, oI, e, w2]
      refine c_push L0 S l100 (fun h1 fr1 S1 => ?_)
      simp (disch := first | assumption | omega | (simp only [ya_pi, ya_pj, ya_pa, ya_pr, yo_pi, yo_pj, yo_pa, yf_pi, yf_pj, yf_pa, yh_pi, yh_pj, yh_pa, yt_pi, yt_pj, yt_pa, la_pi, la_pj, la_pa]; assumption)) only [b_X10_work_0, b_X10_work_192, b_X10_work_117, b_X10_work_84, b_X10_work_95, b_X10_work_128, b_X10_work_163, b_X10_work_106, b_X10_work_139, b_X10_work_150, b_X10_work_196, b_X10_work_125, b_X10_work_92, b_X10_work_103, b_X10_work_136, b_X10_work_167, b_X10_work_114, b_X10_work_147, b_X10_work_156, b_X10_work_202, b_X10_work_172, b_X10_work_160, b_X10_work_215, b_X10_work_178, b_X10_work_218, b_X10_work_185, b_X10_work_181, b_X10_work_221, b_X10_work_189, i_lit, i_m1, i_31, il_t, il_f, iq_t, iq_f, it_t, it_f, im_e, im_l, im_g, im_g2, nI_add, pk_mul, i_sub, i_div, sdm, i_dec, i_cl, iv_t, bI_or2, bI_t0, bI_one, not_true_eq_false, not_false_eq_true, ↓reduceIte, am_tl, am_tn, am_t0, am_n0, and_true, true_and, List.cons_append, List.nil_append, List.append_nil, or_true, true_or, or_false, false_or, eq_self, ior0, iand0, im_e2, oI]
      exact k h1 fr1 S1
    · have e : tk 1003 = 201 := by decide
      simp (disch := first | assumption | omega | (simp only [ya_pi, ya_pj, ya_pa, ya_pr, yo_pi, yo_pj, yo_pa, yf_pi, yf_pj, yf_pa, yh_pi, yh_pj, yh_pa, yt_pi, yt_pj, yt_pa, la_pi, la_pj, la_pa]; assumption)) only [b_X10_work_0, b_X10_work_192, b_X10_work_117, b_X10_work_84, b_X10_work_95, b_X10_work_128, b_X10_work_163, b_X10_work_106, b_X10_work_139, b_X10_work_150, b_X10_work_196, b_X10_work_125, b_X10_work_92, b_X10_work_103, b_X10_work_136, b_X10_work_167, b_X10_work_114, b_X10_work_147, b_X10_work_156, b_X10_work_202, b_X10_work_172, b_X10_work_160, b_X10_work_215, b_X10_work_178, b_X10_work_218, b_X10_work_185, b_X10_work_181, b_X10_work_221, b_X10_work_189, i_lit, i_m1, i_31, il_t, il_f, iq_t, iq_f, it_t, it_f, im_e, im_l, im_g, im_g2, nI_add, pk_mul, i_sub, i_div, sdm, i_dec, i_cl, iv_t, bI_or2, bI_t0, bI_one, not_true_eq_false, not_false_eq_true, ↓reduceIte, am_tl, am_tn, am_t0, am_n0, and_true, true_and, List.cons_append, List.nil_append, List.append_nil, or_true, true_or, or_false, false_or, eq_self, ior0, iand0, im_e2, oI, e, w3]
      refine c_push L0 S l100 (fun h1 fr1 S1 => ?_)
      simp (disch := first | assumption | omega | (simp only [ya_pi, ya_pj, ya_pa, ya_pr, yo_pi, yo_pj, yo_pa, yf_pi, yf_pj, yf_pa, yh_pi, yh_pj, yh_pa, yt_pi, yt_pj, yt_pa, la_pi, la_pj, la_pa]; assumption)) only [b_X10_work_0, b_X10_work_192, b_X10_work_117, b_X10_work_84, b_X10_work_95, b_X10_work_128, b_X10_work_163, b_X10_work_106, b_X10_work_139, b_X10_work_150, b_X10_work_196, b_X10_work_125, b_X10_work_92, b_X10_work_103, b_X10_work_136, b_X10_work_167, b_X10_work_114, b_X10_work_147, b_X10_work_156, b_X10_work_202, b_X10_work_172, b_X10_work_160, b_X10_work_215, b_X10_work_178, b_X10_work_218, b_X10_work_185, b_X10_work_181, b_X10_work_221, b_X10_work_189, i_lit, i_m1, i_31, il_t, il_f, iq_t, iq_f, it_t, it_f, im_e, im_l, im_g, im_g2, nI_add, pk_mul, i_sub, i_div, sdm, i_dec, i_cl, iv_t, bI_or2, bI_t0, bI_one, not_true_eq_false, not_false_eq_true, ↓reduceIte, am_tl, am_tn, am_t0, am_n0, and_true, true_and, List.cons_append, List.nil_append, List.append_nil, or_true, true_or, or_false, false_or, eq_self, ior0, iand0, im_e2, oI]
      exact k h1 fr1 S1
    · have e : tk 1004 = 206 := by decide
      have w4 := (w45 z).1
      simp (disch := first | assumption | omega | (simp only [ya_pi, ya_pj, ya_pa, ya_pr, yo_pi, yo_pj, yo_pa, yf_pi, yf_pj, yf_pa, yh_pi, yh_pj, yh_pa, yt_pi, yt_pj, yt_pa, la_pi, la_pj, la_pa]; assumption)) only [b_X10_work_0, b_X10_work_192, b_X10_work_117, b_X10_work_84, b_X10_work_95, b_X10_work_128, b_X10_work_163, b_X10_work_106, b_X10_work_139, b_X10_work_150, b_X10_work_196, b_X10_work_125, b_X10_work_92, b_X10_work_103, b_X10_work_136, b_X10_work_167, b_X10_work_114, b_X10_work_147, b_X10_work_156, b_X10_work_202, b_X10_work_172, b_X10_work_160, b_X10_work_215, b_X10_work_178, b_X10_work_218, b_X10_work_185, b_X10_work_181, b_X10_work_221, b_X10_work_189, i_lit, i_m1, i_31, il_t, il_f, iq_t, iq_f, it_t, it_f, im_e, im_l, im_g, im_g2, nI_add, pk_mul, i_sub, i_div, sdm, i_dec, i_cl, iv_t, bI_or2, bI_t0, bI_one, not_true_eq_false, not_false_eq_true, ↓reduceIte, am_tl, am_tn, am_t0, am_n0, and_true, true_and, List.cons_append, List.nil_append, List.append_nil, or_true, true_or, or_false, false_or, eq_self, ior0, iand0, im_e2, oI, e, w4]
      refine c_push L0 S l100 (fun h1 fr1 S1 => ?_)
      simp (disch := first | assumption | omega | (simp only [ya_pi, ya_pj, ya_pa, ya_pr, yo_pi, yo_pj, yo_pa, yf_pi, yf_pj, yf_pa, yh_pi, yh_pj, yh_pa, yt_pi, yt_pj, yt_pa, la_pi, la_pj, la_pa]; assumption)) only [b_X10_work_0, b_X10_work_192, b_X10_work_117, b_X10_work_84, b_X10_work_95, b_X10_work_128, b_X10_work_163, b_X10_work_106, b_X10_work_139, b_X10_work_150, b_X10_work_196, b_X10_work_125, b_X10_work_92, b_X10_work_103, b_X10_work_136, b_X10_work_167, b_X10_work_114, b_X10_work_147, b_X10_work_156, b_X10_work_202, b_X10_work_172, b_X10_work_160, b_X10_work_215, b_X10_work_178, b_X10_work_218, b_X10_work_185, b_X10_work_181, b_X10_work_221, b_X10_work_189, i_lit, i_m1, i_31, il_t, il_f, iq_t, iq_f, it_t, it_f, im_e, im_l, im_g, im_g2, nI_add, pk_mul, i_sub, i_div, sdm, i_dec, i_cl, iv_t, bI_or2, bI_t0, bI_one, not_true_eq_false, not_false_eq_true, ↓reduceIte, am_tl, am_tn, am_t0, am_n0, and_true, true_and, List.cons_append, List.nil_append, List.append_nil, or_true, true_or, or_false, false_or, eq_self, ior0, iand0, im_e2, oI]
      exact k h1 fr1 S1
    · have e : tk 1005 = 214 := by decide
      have w5 := (w45 z).2
      simp (disch := first | assumption | omega | (simp only [ya_pi, ya_pj, ya_pa, ya_pr, yo_pi, yo_pj, yo_pa, yf_pi, yf_pj, yf_pa, yh_pi, yh_pj, yh_pa, yt_pi, yt_pj, yt_pa, la_pi, la_pj, la_pa]; assumption)) only [b_X10_work_0, b_X10_work_192, b_X10_work_117, b_X10_work_84, b_X10_work_95, b_X10_work_128, b_X10_work_163, b_X10_work_106, b_X10_work_139, b_X10_work_150, b_X10_work_196, b_X10_work_125, b_X10_work_92, b_X10_work_103, b_X10_work_136, b_X10_work_167, b_X10_work_114, b_X10_work_147, b_X10_work_156, b_X10_work_202, b_X10_work_172, b_X10_work_160, b_X10_work_215, b_X10_work_178, b_X10_work_218, b_X10_work_185, b_X10_work_181, b_X10_work_221, b_X10_work_189, i_lit, i_m1, i_31, il_t, il_f, iq_t, iq_f, it_t, it_f, im_e, im_l, im_g, im_g2, nI_add, pk_mul, i_sub, i_div, sdm, i_dec, i_cl, iv_t, bI_or2, bI_t0, bI_one, not_true_eq_false, not_false_eq_true, ↓reduceIte, am_tl, am_tn, am_t0, am_n0, and_true, true_and, List.cons_append, List.nil_append, List.append_nil, or_true, true_or, or_false, false_or, eq_self, ior0, iand0, im_e2, oI, e, w5]
      refine c_push L0 S l100 (fun h1 fr1 S1 => ?_)
      simp (disch := first | assumption | omega | (simp only [ya_pi, ya_pj, ya_pa, ya_pr, yo_pi, yo_pj, yo_pa, yf_pi, yf_pj, yf_pa, yh_pi, yh_pj, yh_pa, yt_pi, yt_pj, yt_pa, la_pi, la_pj, la_pa]; assumption)) only [b_X10_work_0, b_X10_work_192, b_X10_work_117, b_X10_work_84, b_X10_work_95, b_X10_work_128, b_X10_work_163, b_X10_work_106, b_X10_work_139, b_X10_work_150, b_X10_work_196, b_X10_work_125, b_X10_work_92, b_X10_work_103, b_X10_work_136, b_X10_work_167, b_X10_work_114, b_X10_work_147, b_X10_work_156, b_X10_work_202, b_X10_work_172, b_X10_work_160, b_X10_work_215, b_X10_work_178, b_X10_work_218, b_X10_work_185, b_X10_work_181, b_X10_work_221, b_X10_work_189, i_lit, i_m1, i_31, il_t, il_f, iq_t, iq_f, it_t, it_f, im_e, im_l, im_g, im_g2, nI_add, pk_mul, i_sub, i_div, sdm, i_dec, i_cl, iv_t, bI_or2, bI_t0, bI_one, not_true_eq_false, not_false_eq_true, ↓reduceIte, am_tl, am_tn, am_t0, am_n0, and_true, true_and, List.cons_append, List.nil_append, List.append_nil, or_true, true_or, or_false, false_or, eq_self, ior0, iand0, im_e2, oI]
      exact k h1 fr1 S1
  · have two : ∀ {t u : Bool} {r : List Bool}, tys (t :: u :: r) st → 3000 ≤ code → code ≤ 3008 → ¬ code = 3006 → (3007 ≤ code → t = true ∧ u = true) → ex_ (d + 1) 153 0 [some (v_r (some 51)), some (v_i (nI (tk code))), l2, l3, l4, l5] [] h Q := by
      intro t u r ts2 c1 c2 c6 htu
      obtain ⟨b, a, s, rfl, hb, ha, hr⟩ := tys2 ts2
      rw [sp_b c1 c2 c6] at k
      have tb := tk_b c1 c2 c6
      have go : ex_ (d + 1) 153 192 [some (v_r (some 51)), some (v_i (nI (tk code))), l2, l3, l4, l5] [] h Q := by
        rw [b_X10_work_192 _ _ _ _ _ _ L0]
        refine c_pop L0 S (fun h1 fr1 S1 => ?_)
        have L1 : Lay h1 := fr1.lay L0
        simp (disch := first | assumption | omega | (simp only [ya_pi, ya_pj, ya_pa, ya_pr, yo_pi, yo_pj, yo_pa, yf_pi, yf_pj, yf_pa, yh_pi, yh_pj, yh_pa, yt_pi, yt_pj, yt_pa, la_pi, la_pj, la_pa]; assumption)) only [b_X10_work_192, b_X10_work_117, b_X10_work_84, b_X10_work_95, b_X10_work_128, b_X10_work_163, b_X10_work_106, b_X10_work_139, b_X10_work_150, b_X10_work_196, b_X10_work_125, b_X10_work_92, b_X10_work_103, b_X10_work_136, b_X10_work_167, b_X10_work_114, b_X10_work_147, b_X10_work_156, b_X10_work_202, b_X10_work_172, b_X10_work_160, b_X10_work_215, b_X10_work_178, b_X10_work_218, b_X10_work_185, b_X10_work_181, b_X10_work_221, b_X10_work_189, i_lit, i_m1, i_31, il_t, il_f, iq_t, iq_f, it_t, it_f, im_e, im_l, im_g, im_g2, nI_add, pk_mul, i_sub, i_div, sdm, i_dec, i_cl, iv_t, bI_or2, bI_t0, bI_one, not_true_eq_false, not_false_eq_true, ↓reduceIte, am_tl, am_tn, am_t0, am_n0, and_true, true_and, List.cons_append, List.nil_append, List.append_nil, or_true, true_or, or_false, false_or, eq_self, ior0, iand0, im_e2, oI]
        refine c_pop L1 S1 (fun h2 fr2 S2 => ?_)
        have L2 : Lay h2 := fr2.lay L1
        simp (disch := first | assumption | omega | (simp only [ya_pi, ya_pj, ya_pa, ya_pr, yo_pi, yo_pj, yo_pa, yf_pi, yf_pj, yf_pa, yh_pi, yh_pj, yh_pa, yt_pi, yt_pj, yt_pa, la_pi, la_pj, la_pa]; assumption)) only [b_X10_work_192, b_X10_work_117, b_X10_work_84, b_X10_work_95, b_X10_work_128, b_X10_work_163, b_X10_work_106, b_X10_work_139, b_X10_work_150, b_X10_work_196, b_X10_work_125, b_X10_work_92, b_X10_work_103, b_X10_work_136, b_X10_work_167, b_X10_work_114, b_X10_work_147, b_X10_work_156, b_X10_work_202, b_X10_work_172, b_X10_work_160, b_X10_work_215, b_X10_work_178, b_X10_work_218, b_X10_work_185, b_X10_work_181, b_X10_work_221, b_X10_work_189, i_lit, i_m1, i_31, il_t, il_f, iq_t, iq_f, it_t, it_f, im_e, im_l, im_g, im_g2, nI_add, pk_mul, i_sub, i_div, sdm, i_dec, i_cl, iv_t, bI_or2, bI_t0, bI_one, not_true_eq_false, not_false_eq_true, ↓reduceIte, am_tl, am_tn, am_t0, am_n0, and_true, true_and, List.cons_append, List.nil_append, List.append_nil, or_true, true_or, or_false, false_or, eq_self, ior0, iand0, im_e2, oI]
        refine c_joined c1 c2 c6 (fun z => ⟨ha (htu z).2, hb (htu z).1⟩) (fun v hv => ?_)
        have sl := S2.2.1
        have sl0 := S.2.1
        simp only [List.length_cons] at sl0
        simp (disch := first | assumption | omega | (simp only [ya_pi, ya_pj, ya_pa, ya_pr, yo_pi, yo_pj, yo_pa, yf_pi, yf_pj, yf_pa, yh_pi, yh_pj, yh_pa, yt_pi, yt_pj, yt_pa, la_pi, la_pj, la_pa]; assumption)) only [b_X10_work_192, b_X10_work_117, b_X10_work_84, b_X10_work_95, b_X10_work_128, b_X10_work_163, b_X10_work_106, b_X10_work_139, b_X10_work_150, b_X10_work_196, b_X10_work_125, b_X10_work_92, b_X10_work_103, b_X10_work_136, b_X10_work_167, b_X10_work_114, b_X10_work_147, b_X10_work_156, b_X10_work_202, b_X10_work_172, b_X10_work_160, b_X10_work_215, b_X10_work_178, b_X10_work_218, b_X10_work_185, b_X10_work_181, b_X10_work_221, b_X10_work_189, i_lit, i_m1, i_31, il_t, il_f, iq_t, iq_f, it_t, it_f, im_e, im_l, im_g, im_g2, nI_add, pk_mul, i_sub, i_div, sdm, i_dec, i_cl, iv_t, bI_or2, bI_t0, bI_one, not_true_eq_false, not_false_eq_true, ↓reduceIte, am_tl, am_tn, am_t0, am_n0, and_true, true_and, List.cons_append, List.nil_append, List.append_nil, or_true, true_or, or_false, false_or, eq_self, ior0, iand0, im_e2, oI, c_keep, hv]
        refine c_push L2 S2 (by omega) (fun h3 fr3 S3 => ?_)
        simp (disch := first | assumption | omega | (simp only [ya_pi, ya_pj, ya_pa, ya_pr, yo_pi, yo_pj, yo_pa, yf_pi, yf_pj, yf_pa, yh_pi, yh_pj, yh_pa, yt_pi, yt_pj, yt_pa, la_pi, la_pj, la_pa]; assumption)) only [b_X10_work_192, b_X10_work_117, b_X10_work_84, b_X10_work_95, b_X10_work_128, b_X10_work_163, b_X10_work_106, b_X10_work_139, b_X10_work_150, b_X10_work_196, b_X10_work_125, b_X10_work_92, b_X10_work_103, b_X10_work_136, b_X10_work_167, b_X10_work_114, b_X10_work_147, b_X10_work_156, b_X10_work_202, b_X10_work_172, b_X10_work_160, b_X10_work_215, b_X10_work_178, b_X10_work_218, b_X10_work_185, b_X10_work_181, b_X10_work_221, b_X10_work_189, i_lit, i_m1, i_31, il_t, il_f, iq_t, iq_f, it_t, it_f, im_e, im_l, im_g, im_g2, nI_add, pk_mul, i_sub, i_div, sdm, i_dec, i_cl, iv_t, bI_or2, bI_t0, bI_one, not_true_eq_false, not_false_eq_true, ↓reduceIte, am_tl, am_tn, am_t0, am_n0, and_true, true_and, List.cons_append, List.nil_append, List.append_nil, or_true, true_or, or_false, false_or, eq_self, ior0, iand0, im_e2, oI]
        exact k h3 ((fr1.tr fr2).tr fr3) S3
      rw [b_X10_work_0 _ _ _ _ _ _ _]
      generalize tk code = t0 at tb go
      simp (disch := first | assumption | omega | (simp only [ya_pi, ya_pj, ya_pa, ya_pr, yo_pi, yo_pj, yo_pa, yf_pi, yf_pj, yf_pa, yh_pi, yh_pj, yh_pa, yt_pi, yt_pj, yt_pa, la_pi, la_pj, la_pa]; assumption)) only [i_lit, i_m1, i_31, il_t, il_f, iq_t, iq_f, it_t, it_f, im_e, im_l, im_g, im_g2, nI_add, pk_mul, i_sub, i_div, sdm, i_dec, i_cl, iv_t, bI_or2, bI_t0, bI_one, not_true_eq_false, not_false_eq_true, ↓reduceIte, am_tl, am_tn, am_t0, am_n0, and_true, true_and, List.cons_append, List.nil_append, List.append_nil]
      rcases (show t0 < 201 ∨ t0 = 215 ∨ t0 = 216 by omega) with y | rfl | rfl
      · simp (disch := first | assumption | omega | (simp only [ya_pi, ya_pj, ya_pa, ya_pr, yo_pi, yo_pj, yo_pa, yf_pi, yf_pj, yf_pa, yh_pi, yh_pj, yh_pa, yt_pi, yt_pj, yt_pa, la_pi, la_pj, la_pa]; assumption)) only [i_lit, i_m1, i_31, il_t, il_f, iq_t, iq_f, it_t, it_f, im_e, im_l, im_g, im_g2, nI_add, pk_mul, i_sub, i_div, sdm, i_dec, i_cl, iv_t, bI_or2, bI_t0, bI_one, not_true_eq_false, not_false_eq_true, ↓reduceIte, am_tl, am_tn, am_t0, am_n0, and_true, true_and, List.cons_append, List.nil_append, List.append_nil]
        exact go
      · simp (disch := first | assumption | omega | (simp only [ya_pi, ya_pj, ya_pa, ya_pr, yo_pi, yo_pj, yo_pa, yf_pi, yf_pj, yf_pa, yh_pi, yh_pj, yh_pa, yt_pi, yt_pj, yt_pa, la_pi, la_pj, la_pa]; assumption)) only [i_lit, i_m1, i_31, il_t, il_f, iq_t, iq_f, it_t, it_f, im_e, im_l, im_g, im_g2, nI_add, pk_mul, i_sub, i_div, sdm, i_dec, i_cl, iv_t, bI_or2, bI_t0, bI_one, not_true_eq_false, not_false_eq_true, ↓reduceIte, am_tl, am_tn, am_t0, am_n0, and_true, true_and, List.cons_append, List.nil_append, List.append_nil]
        exact go
      · simp (disch := first | assumption | omega | (simp only [ya_pi, ya_pj, ya_pa, ya_pr, yo_pi, yo_pj, yo_pa, yf_pi, yf_pj, yf_pa, yh_pi, yh_pj, yh_pa, yt_pi, yt_pj, yt_pa, la_pi, la_pj, la_pa]; assumption)) only [i_lit, i_m1, i_31, il_t, il_f, iq_t, iq_f, it_t, it_f, im_e, im_l, im_g, im_g2, nI_add, pk_mul, i_sub, i_div, sdm, i_dec, i_cl, iv_t, bI_or2, bI_t0, bI_one, not_true_eq_false, not_false_eq_true, ↓reduceIte, am_tl, am_tn, am_t0, am_n0, and_true, true_and, List.cons_append, List.nil_append, List.append_nil]
        exact go
    rcases H with ⟨r, h1, h2, rfl, rfl⟩ | ⟨r, h1, h2, rfl, rfl⟩ | ⟨r, rfl, rfl, rfl⟩ | ⟨r, h1, h2, rfl, rfl⟩ | ⟨r, rfl, rfl, rfl⟩
    · exact two ts h1 (by omega) (by omega) (fun z => by omega)
    · exact two ts (by omega) (by omega) (by omega) (fun z => by omega)
    · match st, ts with
      | x :: s, ts =>
        rw [sp_n] at k
        have e : tk 3006 = 217 := by decide
        have sl0 := S.2.1
        simp only [List.length_cons] at sl0
        simp (disch := first | assumption | omega | (simp only [ya_pi, ya_pj, ya_pa, ya_pr, yo_pi, yo_pj, yo_pa, yf_pi, yf_pj, yf_pa, yh_pi, yh_pj, yh_pa, yt_pi, yt_pj, yt_pa, la_pi, la_pj, la_pa]; assumption)) only [b_X10_work_0, b_X10_work_192, b_X10_work_117, b_X10_work_84, b_X10_work_95, b_X10_work_128, b_X10_work_163, b_X10_work_106, b_X10_work_139, b_X10_work_150, b_X10_work_196, b_X10_work_125, b_X10_work_92, b_X10_work_103, b_X10_work_136, b_X10_work_167, b_X10_work_114, b_X10_work_147, b_X10_work_156, b_X10_work_202, b_X10_work_172, b_X10_work_160, b_X10_work_215, b_X10_work_178, b_X10_work_218, b_X10_work_185, b_X10_work_181, b_X10_work_221, b_X10_work_189, i_lit, i_m1, i_31, il_t, il_f, iq_t, iq_f, it_t, it_f, im_e, im_l, im_g, im_g2, nI_add, pk_mul, i_sub, i_div, sdm, i_dec, i_cl, iv_t, bI_or2, bI_t0, bI_one, not_true_eq_false, not_false_eq_true, ↓reduceIte, am_tl, am_tn, am_t0, am_n0, and_true, true_and, List.cons_append, List.nil_append, List.append_nil, or_true, true_or, or_false, false_or, eq_self, ior0, iand0, im_e2, oI, e]
        refine c_pop L0 S (fun h1 fr1 S1 => ?_)
        have L1 : Lay h1 := fr1.lay L0
        simp (disch := first | assumption | omega | (simp only [ya_pi, ya_pj, ya_pa, ya_pr, yo_pi, yo_pj, yo_pa, yf_pi, yf_pj, yf_pa, yh_pi, yh_pj, yh_pa, yt_pi, yt_pj, yt_pa, la_pi, la_pj, la_pa]; assumption)) only [b_X10_work_0, b_X10_work_192, b_X10_work_117, b_X10_work_84, b_X10_work_95, b_X10_work_128, b_X10_work_163, b_X10_work_106, b_X10_work_139, b_X10_work_150, b_X10_work_196, b_X10_work_125, b_X10_work_92, b_X10_work_103, b_X10_work_136, b_X10_work_167, b_X10_work_114, b_X10_work_147, b_X10_work_156, b_X10_work_202, b_X10_work_172, b_X10_work_160, b_X10_work_215, b_X10_work_178, b_X10_work_218, b_X10_work_185, b_X10_work_181, b_X10_work_221, b_X10_work_189, i_lit, i_m1, i_31, il_t, il_f, iq_t, iq_f, it_t, it_f, im_e, im_l, im_g, im_g2, nI_add, pk_mul, i_sub, i_div, sdm, i_dec, i_cl, iv_t, bI_or2, bI_t0, bI_one, not_true_eq_false, not_false_eq_true, ↓reduceIte, am_tl, am_tn, am_t0, am_n0, and_true, true_and, List.cons_append, List.nil_append, List.append_nil, or_true, true_or, or_false, false_or, eq_self, ior0, iand0, im_e2, oI]
        refine c_push L1 S1 (by omega) (fun h2 fr2 S2 => ?_)
        simp (disch := first | assumption | omega | (simp only [ya_pi, ya_pj, ya_pa, ya_pr, yo_pi, yo_pj, yo_pa, yf_pi, yf_pj, yf_pa, yh_pi, yh_pj, yh_pa, yt_pi, yt_pj, yt_pa, la_pi, la_pj, la_pa]; assumption)) only [b_X10_work_0, b_X10_work_192, b_X10_work_117, b_X10_work_84, b_X10_work_95, b_X10_work_128, b_X10_work_163, b_X10_work_106, b_X10_work_139, b_X10_work_150, b_X10_work_196, b_X10_work_125, b_X10_work_92, b_X10_work_103, b_X10_work_136, b_X10_work_167, b_X10_work_114, b_X10_work_147, b_X10_work_156, b_X10_work_202, b_X10_work_172, b_X10_work_160, b_X10_work_215, b_X10_work_178, b_X10_work_218, b_X10_work_185, b_X10_work_181, b_X10_work_221, b_X10_work_189, i_lit, i_m1, i_31, il_t, il_f, iq_t, iq_f, it_t, it_f, im_e, im_l, im_g, im_g2, nI_add, pk_mul, i_sub, i_div, sdm, i_dec, i_cl, iv_t, bI_or2, bI_t0, bI_one, not_true_eq_false, not_false_eq_true, ↓reduceIte, am_tl, am_tn, am_t0, am_n0, and_true, true_and, List.cons_append, List.nil_append, List.append_nil, or_true, true_or, or_false, false_or, eq_self, ior0, iand0, im_e2, oI]
        exact k h2 (fr1.tr fr2) S2
    · exact two ts (by omega) (by omega) (by omega) (fun z => ⟨rfl, rfl⟩)
    · obtain ⟨o, t, s, rfl, -, -, hr⟩ := tys2 ts
      match s, hr with
      | c :: s, hr =>
        rw [sp_i] at k
        have hc01 := hr.1 rfl
        have e : tk 3009 = 209 := by decide
        have sl0 := S.2.1
        simp only [List.length_cons] at sl0
        simp (disch := first | assumption | omega | (simp only [ya_pi, ya_pj, ya_pa, ya_pr, yo_pi, yo_pj, yo_pa, yf_pi, yf_pj, yf_pa, yh_pi, yh_pj, yh_pa, yt_pi, yt_pj, yt_pa, la_pi, la_pj, la_pa]; assumption)) only [b_X10_work_0, b_X10_work_192, b_X10_work_117, b_X10_work_84, b_X10_work_95, b_X10_work_128, b_X10_work_163, b_X10_work_106, b_X10_work_139, b_X10_work_150, b_X10_work_196, b_X10_work_125, b_X10_work_92, b_X10_work_103, b_X10_work_136, b_X10_work_167, b_X10_work_114, b_X10_work_147, b_X10_work_156, b_X10_work_202, b_X10_work_172, b_X10_work_160, b_X10_work_215, b_X10_work_178, b_X10_work_218, b_X10_work_185, b_X10_work_181, b_X10_work_221, b_X10_work_189, i_lit, i_m1, i_31, il_t, il_f, iq_t, iq_f, it_t, it_f, im_e, im_l, im_g, im_g2, nI_add, pk_mul, i_sub, i_div, sdm, i_dec, i_cl, iv_t, bI_or2, bI_t0, bI_one, not_true_eq_false, not_false_eq_true, ↓reduceIte, am_tl, am_tn, am_t0, am_n0, and_true, true_and, List.cons_append, List.nil_append, List.append_nil, or_true, true_or, or_false, false_or, eq_self, ior0, iand0, im_e2, oI, e]
        refine c_pop L0 S (fun h1 fr1 S1 => ?_)
        have L1 : Lay h1 := fr1.lay L0
        simp (disch := first | assumption | omega | (simp only [ya_pi, ya_pj, ya_pa, ya_pr, yo_pi, yo_pj, yo_pa, yf_pi, yf_pj, yf_pa, yh_pi, yh_pj, yh_pa, yt_pi, yt_pj, yt_pa, la_pi, la_pj, la_pa]; assumption)) only [b_X10_work_0, b_X10_work_192, b_X10_work_117, b_X10_work_84, b_X10_work_95, b_X10_work_128, b_X10_work_163, b_X10_work_106, b_X10_work_139, b_X10_work_150, b_X10_work_196, b_X10_work_125, b_X10_work_92, b_X10_work_103, b_X10_work_136, b_X10_work_167, b_X10_work_114, b_X10_work_147, b_X10_work_156, b_X10_work_202, b_X10_work_172, b_X10_work_160, b_X10_work_215, b_X10_work_178, b_X10_work_218, b_X10_work_185, b_X10_work_181, b_X10_work_221, b_X10_work_189, i_lit, i_m1, i_31, il_t, il_f, iq_t, iq_f, it_t, it_f, im_e, im_l, im_g, im_g2, nI_add, pk_mul, i_sub, i_div, sdm, i_dec, i_cl, iv_t, bI_or2, bI_t0, bI_one, not_true_eq_false, not_false_eq_true, ↓reduceIte, am_tl, am_tn, am_t0, am_n0, and_true, true_and, List.cons_append, List.nil_append, List.append_nil, or_true, true_or, or_false, false_or, eq_self, ior0, iand0, im_e2, oI]
        refine c_pop L1 S1 (fun h2 fr2 S2 => ?_)
        have L2 : Lay h2 := fr2.lay L1
        simp (disch := first | assumption | omega | (simp only [ya_pi, ya_pj, ya_pa, ya_pr, yo_pi, yo_pj, yo_pa, yf_pi, yf_pj, yf_pa, yh_pi, yh_pj, yh_pa, yt_pi, yt_pj, yt_pa, la_pi, la_pj, la_pa]; assumption)) only [b_X10_work_0, b_X10_work_192, b_X10_work_117, b_X10_work_84, b_X10_work_95, b_X10_work_128, b_X10_work_163, b_X10_work_106, b_X10_work_139, b_X10_work_150, b_X10_work_196, b_X10_work_125, b_X10_work_92, b_X10_work_103, b_X10_work_136, b_X10_work_167, b_X10_work_114, b_X10_work_147, b_X10_work_156, b_X10_work_202, b_X10_work_172, b_X10_work_160, b_X10_work_215, b_X10_work_178, b_X10_work_218, b_X10_work_185, b_X10_work_181, b_X10_work_221, b_X10_work_189, i_lit, i_m1, i_31, il_t, il_f, iq_t, iq_f, it_t, it_f, im_e, im_l, im_g, im_g2, nI_add, pk_mul, i_sub, i_div, sdm, i_dec, i_cl, iv_t, bI_or2, bI_t0, bI_one, not_true_eq_false, not_false_eq_true, ↓reduceIte, am_tl, am_tn, am_t0, am_n0, and_true, true_and, List.cons_append, List.nil_append, List.append_nil, or_true, true_or, or_false, false_or, eq_self, ior0, iand0, im_e2, oI]
        refine c_pop L2 S2 (fun h3 fr3 S3 => ?_)
        have L3 : Lay h3 := fr3.lay L2
        rcases hc01 with rfl | rfl
        · rw [if_neg (by decide)] at k
          simp (disch := first | assumption | omega | (simp only [ya_pi, ya_pj, ya_pa, ya_pr, yo_pi, yo_pj, yo_pa, yf_pi, yf_pj, yf_pa, yh_pi, yh_pj, yh_pa, yt_pi, yt_pj, yt_pa, la_pi, la_pj, la_pa]; assumption)) only [b_X10_work_0, b_X10_work_192, b_X10_work_117, b_X10_work_84, b_X10_work_95, b_X10_work_128, b_X10_work_163, b_X10_work_106, b_X10_work_139, b_X10_work_150, b_X10_work_196, b_X10_work_125, b_X10_work_92, b_X10_work_103, b_X10_work_136, b_X10_work_167, b_X10_work_114, b_X10_work_147, b_X10_work_156, b_X10_work_202, b_X10_work_172, b_X10_work_160, b_X10_work_215, b_X10_work_178, b_X10_work_218, b_X10_work_185, b_X10_work_181, b_X10_work_221, b_X10_work_189, i_lit, i_m1, i_31, il_t, il_f, iq_t, iq_f, it_t, it_f, im_e, im_l, im_g, im_g2, nI_add, pk_mul, i_sub, i_div, sdm, i_dec, i_cl, iv_t, bI_or2, bI_t0, bI_one, not_true_eq_false, not_false_eq_true, ↓reduceIte, am_tl, am_tn, am_t0, am_n0, and_true, true_and, List.cons_append, List.nil_append, List.append_nil, or_true, true_or, or_false, false_or, eq_self, ior0, iand0, im_e2, oI]
          refine c_push L3 S3 (by omega) (fun h4 fr4 S4 => ?_)
          simp (disch := first | assumption | omega | (simp only [ya_pi, ya_pj, ya_pa, ya_pr, yo_pi, yo_pj, yo_pa, yf_pi, yf_pj, yf_pa, yh_pi, yh_pj, yh_pa, yt_pi, yt_pj, yt_pa, la_pi, la_pj, la_pa]; assumption)) only [b_X10_work_0, b_X10_work_192, b_X10_work_117, b_X10_work_84, b_X10_work_95, b_X10_work_128, b_X10_work_163, b_X10_work_106, b_X10_work_139, b_X10_work_150, b_X10_work_196, b_X10_work_125, b_X10_work_92, b_X10_work_103, b_X10_work_136, b_X10_work_167, b_X10_work_114, b_X10_work_147, b_X10_work_156, b_X10_work_202, b_X10_work_172, b_X10_work_160, b_X10_work_215, b_X10_work_178, b_X10_work_218, b_X10_work_185, b_X10_work_181, b_X10_work_221, b_X10_work_189, i_lit, i_m1, i_31, il_t, il_f, iq_t, iq_f, it_t, it_f, im_e, im_l, im_g, im_g2, nI_add, pk_mul, i_sub, i_div, sdm, i_dec, i_cl, iv_t, bI_or2, bI_t0, bI_one, not_true_eq_false, not_false_eq_true, ↓reduceIte, am_tl, am_tn, am_t0, am_n0, and_true, true_and, List.cons_append, List.nil_append, List.append_nil, or_true, true_or, or_false, false_or, eq_self, ior0, iand0, im_e2, oI]
          exact k h4 (((fr1.tr fr2).tr fr3).tr fr4) S4
        · rw [if_pos rfl] at k
          simp (disch := first | assumption | omega | (simp only [ya_pi, ya_pj, ya_pa, ya_pr, yo_pi, yo_pj, yo_pa, yf_pi, yf_pj, yf_pa, yh_pi, yh_pj, yh_pa, yt_pi, yt_pj, yt_pa, la_pi, la_pj, la_pa]; assumption)) only [b_X10_work_0, b_X10_work_192, b_X10_work_117, b_X10_work_84, b_X10_work_95, b_X10_work_128, b_X10_work_163, b_X10_work_106, b_X10_work_139, b_X10_work_150, b_X10_work_196, b_X10_work_125, b_X10_work_92, b_X10_work_103, b_X10_work_136, b_X10_work_167, b_X10_work_114, b_X10_work_147, b_X10_work_156, b_X10_work_202, b_X10_work_172, b_X10_work_160, b_X10_work_215, b_X10_work_178, b_X10_work_218, b_X10_work_185, b_X10_work_181, b_X10_work_221, b_X10_work_189, i_lit, i_m1, i_31, il_t, il_f, iq_t, iq_f, it_t, it_f, im_e, im_l, im_g, im_g2, nI_add, pk_mul, i_sub, i_div, sdm, i_dec, i_cl, iv_t, bI_or2, bI_t0, bI_one, not_true_eq_false, not_false_eq_true, ↓reduceIte, am_tl, am_tn, am_t0, am_n0, and_true, true_and, List.cons_append, List.nil_append, List.append_nil, or_true, true_or, or_false, false_or, eq_self, ior0, iand0, im_e2, oI]
          refine c_push L3 S3 (by omega) (fun h4 fr4 S4 => ?_)
          simp (disch := first | assumption | omega | (simp only [ya_pi, ya_pj, ya_pa, ya_pr, yo_pi, yo_pj, yo_pa, yf_pi, yf_pj, yf_pa, yh_pi, yh_pj, yh_pa, yt_pi, yt_pj, yt_pa, la_pi, la_pj, la_pa]; assumption)) only [b_X10_work_0, b_X10_work_192, b_X10_work_117, b_X10_work_84, b_X10_work_95, b_X10_work_128, b_X10_work_163, b_X10_work_106, b_X10_work_139, b_X10_work_150, b_X10_work_196, b_X10_work_125, b_X10_work_92, b_X10_work_103, b_X10_work_136, b_X10_work_167, b_X10_work_114, b_X10_work_147, b_X10_work_156, b_X10_work_202, b_X10_work_172, b_X10_work_160, b_X10_work_215, b_X10_work_178, b_X10_work_218, b_X10_work_185, b_X10_work_181, b_X10_work_221, b_X10_work_189, i_lit, i_m1, i_31, il_t, il_f, iq_t, iq_f, it_t, it_f, im_e, im_l, im_g, im_g2, nI_add, pk_mul, i_sub, i_div, sdm, i_dec, i_cl, iv_t, bI_or2, bI_t0, bI_one, not_true_eq_false, not_false_eq_true, ↓reduceIte, am_tl, am_tn, am_t0, am_n0, and_true, true_and, List.cons_append, List.nil_append, List.append_nil, or_true, true_or, or_false, false_or, eq_self, ior0, iand0, im_e2, oI]
          exact k h4 (((fr1.tr fr2).tr fr3).tr fr4) S4
/-- a law's code in an array of the class -/
def la_at (h : am_H) (q : Nat) (c : List Nat) : Prop := y_arr h q 20 c.length ∧ c.length ≤ 900 ∧ ∀ k, k < c.length → h_i h q k = cT (c.getD k 0)
theorem dr_s {c : List Nat} {i : Nat} (h : i < c.length) : c.drop i = c.getD i 0 :: c.drop (i + 1) := by
  rw [List.drop_eq_getElem_cons h, List.getD_eq_getElem?_getD, List.getElem?_eq_getElem h]
  rfl
theorem cT_lo {code : Nat} (h : code < 1000) : cT code = nI code := if_pos h
theorem cT_hi {code : Nat} (h : 1000 ≤ code) : cT code = -(nI (tk code)) := if_neg (by omega)
theorem tk_pos {sy : Bool} {code : Nat} {τ τ' : List Bool} (ht : tc sy code τ = some τ') (h : 1000 ≤ code) : 0 < tk code ∧ tk code < 218 := by
  have : code = 1000 ∨ code = 1001 ∨ code = 1002 ∨ code = 1003 ∨ code = 1004 ∨ code = 1005 ∨ code = 3000 ∨ code = 3001 ∨ code = 3002 ∨ code = 3003 ∨ code = 3004 ∨ code = 3005 ∨ code = 3006 ∨ code = 3007 ∨ code = 3008 ∨ code = 3009 := by
    rcases tc_cs ht with ⟨h1, h2, -⟩ | ⟨r, h1, h2, -, -⟩ | ⟨r, h1, h2, -, -⟩ | ⟨r, h1, -, -⟩ | ⟨r, h1, h2, -, -⟩ | ⟨r, h1, -, -⟩ <;> omega
  rcases this with rfl | rfl | rfl | rfl | rfl | rfl | rfl | rfl | rfl | rfl | rfl | rfl | rfl | rfl | rfl | rfl <;> decide
theorem neg_lt {n : Nat} (h : 0 < n) (h2 : n < 1000) : (-(nI n) < nI 0) = True := by
  apply eq_true
  have : ∀ n, n < 1000 → 0 < n → -(nI n) < nI 0 := by decide +kernel
  exact this n h2 h
theorem neg_neg {n : Nat} : -(-(nI n)) = nI n := Int32.neg_neg
theorem c_run {d : Nat} {Q : Option am_V → am_H → Prop} {h : am_H} {sy ty : Bool} {w : Nat → Int32} {q : Nat} {c : List Nat} {x : Int32} (L0 : Lay h) (A : la_at h q c) (hq : ¬ q = 51 ∧ ¬ q = 55) (V : vw h sy w) (ht : tcs sy c [] = some [ty]) (hx : ev w c [] = [x]) {l2 l3 l4 l5 : Option am_V} (k : ∀ h', am_fr h h' vP → Q (some (v_i x)) h') : ex_ (d + 2) 154 0 [some (v_r (some 51)), some (v_r (some q)), l2, l3, l4, l5] [] h Q := by
  obtain ⟨A0, hc, A1⟩ := A
  rw [b_X10_run_0 _ _ _ _ _ _ L0 A0]
  refine lp_up c.length (fun i (s : (List Bool × List Int32) × Option am_V) => [some (v_r (some 51)), some (v_r (some q)), some (v_r (some q)), some (v_i (nI c.length)), some (v_i (nI i)), s.2]) (fun i s h' => am_fr h h' vP ∧ stk h' s.1.2 ∧ tys s.1.1 s.1.2 ∧ tcs sy (c.drop i) s.1.1 = some [ty] ∧ ev w (c.drop i) s.1.2 = [x]) ?_ ?_ (Nat.zero_le _) ⟨am_fr_pi (Or.inl ⟨rfl, rfl⟩), ⟨hi_s, Nat.zero_le _, trivial⟩, trivial, ht, hx⟩ (s := (([], []), l5))
  · rintro i ⟨⟨τ, st⟩, l5⟩ h1 hi ⟨fr1, S1, ts1, ht1, hx1⟩ nx
    dsimp only at S1 ts1 ht1 hx1 ⊢
    have L1 : Lay h1 := fr1.lay L0
    have V1 : vw h1 sy w := V.fr fr1 (fun k _ _ => by unfold vP; omega)
    have A01 : y_arr h1 q 20 c.length := fr1.c A0
    have e1 : h_i h1 q i = cT (c.getD i 0) := by rw [fr1.i (by unfold vP; omega)]; exact A1 i hi
    rw [dr_s hi] at ht1 hx1
    generalize c.getD i 0 = code at e1 ht1 hx1
    rw [tcs] at ht1
    cases ht2 : tc sy code τ with
    | none => rw [ht2] at ht1; cases ht1
    | some τ' =>
      rw [ht2] at ht1
      have ts2 := sp_ty (w := w) ht2 ts1
      have len := tys_len ts1
      rw [b_X10_run_13 _ _ _ _ _ _ _]
      by_cases z : code < 1000
      · rw [cT_lo z] at e1
        have e2 : sp w code st = nI code :: st := if_pos z
        simp (disch := first | assumption | omega | (simp only [ya_pi, ya_pj, ya_pa, ya_pr, yo_pi, yo_pj, yo_pa, yf_pi, yf_pj, yf_pa, yh_pi, yh_pj, yh_pa, yt_pi, yt_pj, yt_pa, la_pi, la_pj, la_pa]; assumption)) only [b_X10_run_0, b_X10_run_52, b_X10_run_19, b_X10_run_56, b_X10_run_22, b_X10_run_39, b_X10_run_30, b_X10_run_46, b_X10_run_36, i_lit, i_m1, i_31, il_t, il_f, iq_t, iq_f, it_t, it_f, im_e, im_l, im_g, im_g2, nI_add, pk_mul, i_sub, i_div, sdm, i_dec, i_cl, iv_t, bI_or2, bI_t0, bI_one, not_true_eq_false, not_false_eq_true, ↓reduceIte, am_tl, am_tn, am_t0, am_n0, and_true, true_and, List.cons_append, List.nil_append, List.append_nil, or_true, true_or, or_false, false_or, eq_self, ior0, iand0, im_e2, oI, e1]
        have l100 : st.length < 100 := by
          rcases tc_cs ht2 with ⟨h1, h2, -⟩ | ⟨r, h1, h2, -, -⟩ | ⟨r, h1, h2, -, -⟩ | ⟨r, h1, -, -⟩ | ⟨r, h1, h2, -, -⟩ | ⟨r, h1, -, -⟩ <;> omega
        refine c_push L1 S1 l100 (fun h2 fr2 S2 => ?_)
        simp (disch := first | assumption | omega | (simp only [ya_pi, ya_pj, ya_pa, ya_pr, yo_pi, yo_pj, yo_pa, yf_pi, yf_pj, yf_pa, yh_pi, yh_pj, yh_pa, yt_pi, yt_pj, yt_pa, la_pi, la_pj, la_pa]; assumption)) only [b_X10_run_0, b_X10_run_52, b_X10_run_19, b_X10_run_56, b_X10_run_22, b_X10_run_39, b_X10_run_30, b_X10_run_46, b_X10_run_36, i_lit, i_m1, i_31, il_t, il_f, iq_t, iq_f, it_t, it_f, im_e, im_l, im_g, im_g2, nI_add, pk_mul, i_sub, i_div, sdm, i_dec, i_cl, iv_t, bI_or2, bI_t0, bI_one, not_true_eq_false, not_false_eq_true, ↓reduceIte, am_tl, am_tn, am_t0, am_n0, and_true, true_and, List.cons_append, List.nil_append, List.append_nil, or_true, true_or, or_false, false_or, eq_self, ior0, iand0, im_e2, oI]
        exact nx ((τ', nI code :: st), _) h2 ⟨fr1.tr fr2, S2, e2 ▸ ts2, ht1, by rw [← e2]; exact hx1⟩
      · have tp := tk_pos ht2 (by omega)
        rw [cT_hi (by omega)] at e1
        have ng := neg_lt tp.1 (by omega)
        simp (disch := first | assumption | omega | (simp only [ya_pi, ya_pj, ya_pa, ya_pr, yo_pi, yo_pj, yo_pa, yf_pi, yf_pj, yf_pa, yh_pi, yh_pj, yh_pa, yt_pi, yt_pj, yt_pa, la_pi, la_pj, la_pa]; assumption)) only [b_X10_run_0, b_X10_run_52, b_X10_run_19, b_X10_run_56, b_X10_run_22, b_X10_run_39, b_X10_run_30, b_X10_run_46, b_X10_run_36, i_lit, i_m1, i_31, il_t, il_f, iq_t, iq_f, it_t, it_f, im_e, im_l, im_g, im_g2, nI_add, pk_mul, i_sub, i_div, sdm, i_dec, i_cl, iv_t, bI_or2, bI_t0, bI_one, not_true_eq_false, not_false_eq_true, ↓reduceIte, am_tl, am_tn, am_t0, am_n0, and_true, true_and, List.cons_append, List.nil_append, List.append_nil, or_true, true_or, or_false, false_or, eq_self, ior0, iand0, im_e2, oI, e1, ng, neg_neg]
        refine c_work L1 V1 S1 (by omega) ht2 ts1 (fun h2 fr2 S2 => ?_)
        simp (disch := first | assumption | omega | (simp only [ya_pi, ya_pj, ya_pa, ya_pr, yo_pi, yo_pj, yo_pa, yf_pi, yf_pj, yf_pa, yh_pi, yh_pj, yh_pa, yt_pi, yt_pj, yt_pa, la_pi, la_pj, la_pa]; assumption)) only [b_X10_run_0, b_X10_run_52, b_X10_run_19, b_X10_run_56, b_X10_run_22, b_X10_run_39, b_X10_run_30, b_X10_run_46, b_X10_run_36, i_lit, i_m1, i_31, il_t, il_f, iq_t, iq_f, it_t, it_f, im_e, im_l, im_g, im_g2, nI_add, pk_mul, i_sub, i_div, sdm, i_dec, i_cl, iv_t, bI_or2, bI_t0, bI_one, not_true_eq_false, not_false_eq_true, ↓reduceIte, am_tl, am_tn, am_t0, am_n0, and_true, true_and, List.cons_append, List.nil_append, List.append_nil, or_true, true_or, or_false, false_or, eq_self, ior0, iand0, im_e2, oI]
        exact nx ((τ', sp w code st), _) h2 ⟨fr1.tr fr2, S2, ts2, ht1, hx1⟩
  · rintro ⟨⟨τ, st⟩, l5⟩ h1 ⟨fr1, S1, ts1, ht1, hx1⟩
    dsimp only at S1 ts1 ht1 hx1 ⊢
    have L1 : Lay h1 := fr1.lay L0
    rw [List.drop_length] at hx1
    have e : st = [x] := hx1
    subst e
    rw [b_X10_run_13 _ _ _ _ _ _ _]
    simp (disch := first | assumption | omega | (simp only [ya_pi, ya_pj, ya_pa, ya_pr, yo_pi, yo_pj, yo_pa, yf_pi, yf_pj, yf_pa, yh_pi, yh_pj, yh_pa, yt_pi, yt_pj, yt_pa, la_pi, la_pj, la_pa]; assumption)) only [b_X10_run_0, b_X10_run_52, b_X10_run_19, b_X10_run_56, b_X10_run_22, b_X10_run_39, b_X10_run_30, b_X10_run_46, b_X10_run_36, i_lit, i_m1, i_31, il_t, il_f, iq_t, iq_f, it_t, it_f, im_e, im_l, im_g, im_g2, nI_add, pk_mul, i_sub, i_div, sdm, i_dec, i_cl, iv_t, bI_or2, bI_t0, bI_one, not_true_eq_false, not_false_eq_true, ↓reduceIte, am_tl, am_tn, am_t0, am_n0, and_true, true_and, List.cons_append, List.nil_append, List.append_nil, or_true, true_or, or_false, false_or, eq_self, ior0, iand0, im_e2, oI]
    refine c_pop L1 S1 (fun h2 fr2 S2 => ?_)
    simp (disch := first | assumption | omega | (simp only [ya_pi, ya_pj, ya_pa, ya_pr, yo_pi, yo_pj, yo_pa, yf_pi, yf_pj, yf_pa, yh_pi, yh_pj, yh_pa, yt_pi, yt_pj, yt_pa, la_pi, la_pj, la_pa]; assumption)) only [b_X10_run_0, b_X10_run_52, b_X10_run_19, b_X10_run_56, b_X10_run_22, b_X10_run_39, b_X10_run_30, b_X10_run_46, b_X10_run_36, i_lit, i_m1, i_31, il_t, il_f, iq_t, iq_f, it_t, it_f, im_e, im_l, im_g, im_g2, nI_add, pk_mul, i_sub, i_div, sdm, i_dec, i_cl, iv_t, bI_or2, bI_t0, bI_one, not_true_eq_false, not_false_eq_true, ↓reduceIte, am_tl, am_tn, am_t0, am_n0, and_true, true_and, List.cons_append, List.nil_append, List.append_nil, or_true, true_or, or_false, false_or, eq_self, ior0, iand0, im_e2, oI]
    exact k h2 (fr1.tr fr2)
/-! ===== laws run: the reference ===== -/
def rl_at (h : am_H) (law : Nat) (c : List Nat) : Prop := ∃ s, s + c.length ≤ 900 ∧ h_i h 94 (4 + law) = nI s ∧ h_i h 94 (6 + law) = nI c.length ∧ ∀ k, k < c.length → h_i h 94 (1451 + s + k) = nI (c.getD k 0)
def rK (a k : Nat) : Prop := a = 110
theorem tc_lt {sy : Bool} {code : Nat} {τ τ' : List Bool} (ht : tc sy code τ = some τ') : code < 3010 ∧ (code < 1006 ∨ 3000 ≤ code) := by
  rcases tc_cs ht with ⟨h1, h2, -⟩ | ⟨r, h1, h2, -, -⟩ | ⟨r, h1, h2, -, -⟩ | ⟨r, h1, -, -⟩ | ⟨r, h1, h2, -, -⟩ | ⟨r, h1, -, -⟩ <;> omega
theorem i_m2 {a : Nat} (h : 2 ≤ a) : nI a + -(nI 2) = nI (a - 2) := by
  rw [← i_sub h]
  exact (Int32.sub_eq_add_neg ..).symm
theorem c_reckons {d : Nat} {Q : Option am_V → am_H → Prop} {h : am_H} {sy ty : Bool} {w : Nat → Int32} {law : Nat} {c : List Nat} {x : Int32} (L0 : Lay h) (hlaw : law < 2) (A : rl_at h law c) (W : ∀ k, k < 6 → (k < 4 ∨ sy = true) → h_i h 111 k = w k) (ht : tcs sy c [] = some [ty]) (hx : ev w c [] = [x]) {l2 l3 l4 : Option am_V} (k : ∀ h', am_fr h h' rK → Q (some (v_i x)) h') : ex_ (d + 2) 332 0 [some (v_r (some 93)), some (v_i (nI law)), l2, l3, l4] [] h Q := by
  obtain ⟨s0, hs0, e4, e6, eC⟩ := A
  rw [b_X12_reckons_0 _ _ _ _ _ _]
  refine lp_up c.length (fun i (s : (List Bool × List Int32) × Option am_V) => [some (v_r (some 93)), some (v_i (nI law)), some (v_i (nI s.1.2.length)), some (v_i (nI i)), s.2]) (fun i s h' => am_fr h h' rK ∧ skr (h_i h' 110) s.1.2 ∧ tys s.1.1 s.1.2 ∧ s.1.2.length ≤ i ∧ tcs sy (c.drop i) s.1.1 = some [ty] ∧ ev w (c.drop i) s.1.2 = [x]) ?_ ?_ (Nat.zero_le _) ⟨am_fr.rf, trivial, trivial, Nat.le_refl _, ht, hx⟩ (s := (([], []), l4))
  · rintro i ⟨⟨τ, st⟩, l4⟩ h1 hi ⟨fr1, S1, ts1, hli, ht1, hx1⟩ nx
    dsimp only at S1 ts1 hli ht1 hx1 ⊢
    have L1 : Lay h1 := fr1.lay L0
    have A110 : y_arr h1 110 20 900 := la_y L1 rfl
    have e41 : h_i h1 94 (4 + law) = nI s0 := by rw [fr1.i (by unfold rK; omega), e4]
    have e61 : h_i h1 94 (6 + law) = nI c.length := by rw [fr1.i (by unfold rK; omega), e6]
    have e1 : h_i h1 94 (1451 + s0 + i) = nI (c.getD i 0) := by rw [fr1.i (by unfold rK; omega)]; exact eC i hi
    have W1 : ∀ k, k < 6 → (k < 4 ∨ sy = true) → h_i h1 111 k = w k := fun k h2 h3 => by rw [fr1.i (by unfold rK; omega)]; exact W k h2 h3
    rw [dr_s hi] at ht1 hx1
    generalize c.getD i 0 = code at e1 ht1 hx1
    rw [tcs] at ht1
    cases ht2 : tc sy code τ with
    | none => rw [ht2] at ht1; cases ht1
    | some τ' =>
      rw [ht2] at ht1
      have ts2 := sp_ty (w := w) ht2 ts1
      have len := tys_len ts1
      have clt := tc_lt ht2
      rw [b_X12_reckons_4 _ _ _ _ _ L1]
      rcases tc_cs ht2 with ⟨h1', h2', -⟩ | H
      · by_cases z : code < 1000
        · have e2 : sp w code st = nI code :: st := if_pos z
          simp (disch := first | assumption | omega | (simp only [ya_pi, ya_pj, ya_pa, ya_pr, yo_pi, yo_pj, yo_pa, yf_pi, yf_pj, yf_pa, yh_pi, yh_pj, yh_pa, yt_pi, yt_pj, yt_pa, la_pi, la_pj, la_pa]; assumption)) only [b_X12_reckons_0, b_X12_reckons_198, b_X12_reckons_17, b_X12_reckons_82, b_X12_reckons_46, b_X12_reckons_111, b_X12_reckons_90, b_X12_reckons_64, b_X12_reckons_59, b_X12_reckons_162, b_X12_reckons_119, b_X12_reckons_191, b_X12_reckons_150, b_X12_reckons_141, i_lit, i_m1, i_31, il_t, il_f, iq_t, iq_f, it_t, it_f, im_e, im_l, im_g, im_g2, nI_add, pk_mul, i_sub, i_div, sdm, i_dec, i_cl, iv_t, bI_or2, bI_t0, bI_one, not_true_eq_false, not_false_eq_true, ↓reduceIte, am_tl, am_tn, am_t0, am_n0, and_true, true_and, List.cons_append, List.nil_append, List.append_nil, or_true, true_or, or_false, false_or, eq_self, ior0, iand0, im_e2, oI, e61, e41, e1]
          exact nx ((τ', nI code :: st), _) _ ⟨fr1.pi rfl, ⟨hi_s, skr_ext S1 (fun k hk => hi_k (by omega))⟩, e2 ▸ ts2, by dsimp only; rw [List.length_cons]; omega, ht1, by rw [← e2]; exact hx1⟩
        · have e2 : sp w code st = w (code - 1000) :: st := sp_w (by omega) (by omega)
          have ew := W1 (code - 1000) (by omega) (by
            rcases h1' with q | q | q
            · omega
            · exact Or.inl (by omega)
            · exact Or.inr q.1)
          simp (disch := first | assumption | omega | (simp only [ya_pi, ya_pj, ya_pa, ya_pr, yo_pi, yo_pj, yo_pa, yf_pi, yf_pj, yf_pa, yh_pi, yh_pj, yh_pa, yt_pi, yt_pj, yt_pa, la_pi, la_pj, la_pa]; assumption)) only [b_X12_reckons_0, b_X12_reckons_198, b_X12_reckons_17, b_X12_reckons_82, b_X12_reckons_46, b_X12_reckons_111, b_X12_reckons_90, b_X12_reckons_64, b_X12_reckons_59, b_X12_reckons_162, b_X12_reckons_119, b_X12_reckons_191, b_X12_reckons_150, b_X12_reckons_141, i_lit, i_m1, i_31, il_t, il_f, iq_t, iq_f, it_t, it_f, im_e, im_l, im_g, im_g2, nI_add, pk_mul, i_sub, i_div, sdm, i_dec, i_cl, iv_t, bI_or2, bI_t0, bI_one, not_true_eq_false, not_false_eq_true, ↓reduceIte, am_tl, am_tn, am_t0, am_n0, and_true, true_and, List.cons_append, List.nil_append, List.append_nil, or_true, true_or, or_false, false_or, eq_self, ior0, iand0, im_e2, oI, e61, e41, e1, ew]
          exact nx ((τ', w (code - 1000) :: st), _) _ ⟨fr1.pi rfl, ⟨hi_s, skr_ext S1 (fun k hk => hi_k (by omega))⟩, e2 ▸ ts2, by dsimp only; rw [List.length_cons]; omega, ht1, by rw [← e2]; exact hx1⟩
      · have two : ∀ {t u : Bool} {r : List Bool}, tys (t :: u :: r) st → 3000 ≤ code → code ≤ 3008 → ¬ code = 3006 → ex_ (d + 2) 332 111 [some (v_r (some 93)), some (v_i (nI law)), some (v_i (nI st.length)), some (v_i (nI i)), some (v_i (nI code))] [] h1 Q := by
          intro t u r ts3 c1 c2 c6
          obtain ⟨b, a, s, rfl, -, -, hr⟩ := tys2 ts3
          have e2 := sp_b (w := w) (a := a) (b := b) (r := s) c1 c2 c6
          obtain ⟨sb, sa, ss⟩ := S1
          have sa' : h_i h1 110 s.length = a := sa
          have sb' : h_i h1 110 (s.length + 1) = b := sb
          simp only [List.length_cons] at hli
          simp (disch := first | assumption | omega | (simp only [ya_pi, ya_pj, ya_pa, ya_pr, yo_pi, yo_pj, yo_pa, yf_pi, yf_pj, yf_pa, yh_pi, yh_pj, yh_pa, yt_pi, yt_pj, yt_pa, la_pi, la_pj, la_pa]; assumption)) only [b_X12_reckons_0, b_X12_reckons_198, b_X12_reckons_17, b_X12_reckons_82, b_X12_reckons_46, b_X12_reckons_111, b_X12_reckons_90, b_X12_reckons_64, b_X12_reckons_59, b_X12_reckons_162, b_X12_reckons_119, b_X12_reckons_191, b_X12_reckons_150, b_X12_reckons_141, i_lit, i_m1, i_31, il_t, il_f, iq_t, iq_f, it_t, it_f, im_e, im_l, im_g, im_g2, nI_add, pk_mul, i_sub, i_div, sdm, i_dec, i_cl, iv_t, bI_or2, bI_t0, bI_one, not_true_eq_false, not_false_eq_true, ↓reduceIte, am_tl, am_tn, am_t0, am_n0, and_true, true_and, List.cons_append, List.nil_append, List.append_nil, or_true, true_or, or_false, false_or, eq_self, ior0, iand0, im_e2, oI, List.length_cons, Nat.add_sub_cancel, sa', sb', c_between c1 c2 c6]
          exact nx ((τ', btw code a b :: s), _) _ ⟨fr1.pi rfl, ⟨hi_s, skr_ext ss (fun k hk => hi_k (by omega))⟩, e2 ▸ ts2, by dsimp only; rw [List.length_cons]; omega, ht1, by rw [← e2]; exact hx1⟩
        rcases H with ⟨r, h1', h2', rfl, rfl⟩ | ⟨r, h1', h2', rfl, rfl⟩ | ⟨r, rfl, rfl, rfl⟩ | ⟨r, h1', h2', rfl, rfl⟩ | ⟨r, rfl, rfl, rfl⟩
        · simp (disch := first | assumption | omega | (simp only [ya_pi, ya_pj, ya_pa, ya_pr, yo_pi, yo_pj, yo_pa, yf_pi, yf_pj, yf_pa, yh_pi, yh_pj, yh_pa, yt_pi, yt_pj, yt_pa, la_pi, la_pj, la_pa]; assumption)) only [b_X12_reckons_0, b_X12_reckons_198, b_X12_reckons_17, b_X12_reckons_82, b_X12_reckons_46, b_X12_reckons_90, b_X12_reckons_64, b_X12_reckons_59, b_X12_reckons_162, b_X12_reckons_119, b_X12_reckons_191, b_X12_reckons_150, b_X12_reckons_141, i_lit, i_m1, i_31, il_t, il_f, iq_t, iq_f, it_t, it_f, im_e, im_l, im_g, im_g2, nI_add, pk_mul, i_sub, i_div, sdm, i_dec, i_cl, iv_t, bI_or2, bI_t0, bI_one, not_true_eq_false, not_false_eq_true, ↓reduceIte, am_tl, am_tn, am_t0, am_n0, and_true, true_and, List.cons_append, List.nil_append, List.append_nil, or_true, true_or, or_false, false_or, eq_self, ior0, iand0, im_e2, oI, e61, e41, e1]
          exact two ts1 h1' (by omega) (by omega)
        · simp (disch := first | assumption | omega | (simp only [ya_pi, ya_pj, ya_pa, ya_pr, yo_pi, yo_pj, yo_pa, yf_pi, yf_pj, yf_pa, yh_pi, yh_pj, yh_pa, yt_pi, yt_pj, yt_pa, la_pi, la_pj, la_pa]; assumption)) only [b_X12_reckons_0, b_X12_reckons_198, b_X12_reckons_17, b_X12_reckons_82, b_X12_reckons_46, b_X12_reckons_90, b_X12_reckons_64, b_X12_reckons_59, b_X12_reckons_162, b_X12_reckons_119, b_X12_reckons_191, b_X12_reckons_150, b_X12_reckons_141, i_lit, i_m1, i_31, il_t, il_f, iq_t, iq_f, it_t, it_f, im_e, im_l, im_g, im_g2, nI_add, pk_mul, i_sub, i_div, sdm, i_dec, i_cl, iv_t, bI_or2, bI_t0, bI_one, not_true_eq_false, not_false_eq_true, ↓reduceIte, am_tl, am_tn, am_t0, am_n0, and_true, true_and, List.cons_append, List.nil_append, List.append_nil, or_true, true_or, or_false, false_or, eq_self, ior0, iand0, im_e2, oI, e61, e41, e1]
          exact two ts1 (by omega) (by omega) (by omega)
        · match st, ts1, S1, nx with
          | x0 :: s, ts1, S1, nx =>
            obtain ⟨sb, ss⟩ := S1
            have sb' : h_i h1 110 s.length = x0 := sb
            simp only [List.length_cons] at hli
            simp (disch := first | assumption | omega | (simp only [ya_pi, ya_pj, ya_pa, ya_pr, yo_pi, yo_pj, yo_pa, yf_pi, yf_pj, yf_pa, yh_pi, yh_pj, yh_pa, yt_pi, yt_pj, yt_pa, la_pi, la_pj, la_pa]; assumption)) only [b_X12_reckons_0, b_X12_reckons_198, b_X12_reckons_17, b_X12_reckons_82, b_X12_reckons_46, b_X12_reckons_111, b_X12_reckons_90, b_X12_reckons_64, b_X12_reckons_59, b_X12_reckons_162, b_X12_reckons_119, b_X12_reckons_191, b_X12_reckons_150, b_X12_reckons_141, i_lit, i_m1, i_31, il_t, il_f, iq_t, iq_f, it_t, it_f, im_e, im_l, im_g, im_g2, nI_add, pk_mul, i_sub, i_div, sdm, i_dec, i_cl, iv_t, bI_or2, bI_t0, bI_one, not_true_eq_false, not_false_eq_true, ↓reduceIte, am_tl, am_tn, am_t0, am_n0, and_true, true_and, List.cons_append, List.nil_append, List.append_nil, or_true, true_or, or_false, false_or, eq_self, ior0, iand0, im_e2, oI, e61, e41, e1, List.length_cons, Nat.add_sub_cancel, sb']
            exact nx ((true :: r, (nI 1 - x0) :: s), _) _ ⟨fr1.pi rfl, ⟨hi_s, skr_ext ss (fun k hk => hi_k (by omega))⟩, ⟨fun _ => b01_not (ts1.1 rfl), ts1.2⟩, by dsimp only; rw [List.length_cons]; omega, ht1, by rw [← sp_n (w := w)]; exact hx1⟩
        · simp (disch := first | assumption | omega | (simp only [ya_pi, ya_pj, ya_pa, ya_pr, yo_pi, yo_pj, yo_pa, yf_pi, yf_pj, yf_pa, yh_pi, yh_pj, yh_pa, yt_pi, yt_pj, yt_pa, la_pi, la_pj, la_pa]; assumption)) only [b_X12_reckons_0, b_X12_reckons_198, b_X12_reckons_17, b_X12_reckons_82, b_X12_reckons_46, b_X12_reckons_90, b_X12_reckons_64, b_X12_reckons_59, b_X12_reckons_162, b_X12_reckons_119, b_X12_reckons_191, b_X12_reckons_150, b_X12_reckons_141, i_lit, i_m1, i_31, il_t, il_f, iq_t, iq_f, it_t, it_f, im_e, im_l, im_g, im_g2, nI_add, pk_mul, i_sub, i_div, sdm, i_dec, i_cl, iv_t, bI_or2, bI_t0, bI_one, not_true_eq_false, not_false_eq_true, ↓reduceIte, am_tl, am_tn, am_t0, am_n0, and_true, true_and, List.cons_append, List.nil_append, List.append_nil, or_true, true_or, or_false, false_or, eq_self, ior0, iand0, im_e2, oI, e61, e41, e1]
          exact two ts1 (by omega) (by omega) (by omega)
        · obtain ⟨o, t, s, rfl, -, -, hr⟩ := tys2 ts1
          match s, hr, S1, nx with
          | cc :: s, hr, S1, nx =>
            have hc01 := hr.1 rfl
            obtain ⟨so, st1, sc, ss⟩ := S1
            have so' : h_i h1 110 (s.length + 1 + 1) = o := so
            have st' : h_i h1 110 (s.length + 1) = t := st1
            have sc' : h_i h1 110 s.length = cc := sc
            rw [sp_i] at ts2
            simp only [List.length_cons] at hli
            have e3 : s.length + 1 + 1 + 1 - 2 = s.length + 1 := by omega
            rcases hc01 with rfl | rfl
            · rw [if_neg (by decide)] at ts2
              simp (disch := first | assumption | omega | (simp only [ya_pi, ya_pj, ya_pa, ya_pr, yo_pi, yo_pj, yo_pa, yf_pi, yf_pj, yf_pa, yh_pi, yh_pj, yh_pa, yt_pi, yt_pj, yt_pa, la_pi, la_pj, la_pa]; assumption)) only [b_X12_reckons_0, b_X12_reckons_198, b_X12_reckons_17, b_X12_reckons_82, b_X12_reckons_46, b_X12_reckons_111, b_X12_reckons_90, b_X12_reckons_64, b_X12_reckons_59, b_X12_reckons_162, b_X12_reckons_119, b_X12_reckons_191, b_X12_reckons_150, b_X12_reckons_141, i_lit, i_m1, i_31, il_t, il_f, iq_t, iq_f, it_t, it_f, im_e, im_l, im_g, im_g2, nI_add, pk_mul, i_sub, i_div, sdm, i_dec, i_cl, iv_t, bI_or2, bI_t0, bI_one, not_true_eq_false, not_false_eq_true, ↓reduceIte, am_tl, am_tn, am_t0, am_n0, and_true, true_and, List.cons_append, List.nil_append, List.append_nil, or_true, true_or, or_false, false_or, eq_self, ior0, iand0, im_e2, oI, e61, e41, e1, i_m2, List.length_cons, e3, Nat.add_sub_cancel, sc', st', so']
              exact nx ((false :: r, o :: s), _) _ ⟨fr1.pi rfl, ⟨hi_s, skr_ext ss (fun k hk => hi_k (by omega))⟩, ts2, by dsimp only; rw [List.length_cons]; omega, ht1, by
                have := sp_i (w := w) (o := o) (t := t) (c := nI 0) (r := s)
                rw [if_neg (by decide)] at this
                rw [← this]
                exact hx1⟩
            · rw [if_pos rfl] at ts2
              simp (disch := first | assumption | omega | (simp only [ya_pi, ya_pj, ya_pa, ya_pr, yo_pi, yo_pj, yo_pa, yf_pi, yf_pj, yf_pa, yh_pi, yh_pj, yh_pa, yt_pi, yt_pj, yt_pa, la_pi, la_pj, la_pa]; assumption)) only [b_X12_reckons_0, b_X12_reckons_198, b_X12_reckons_17, b_X12_reckons_82, b_X12_reckons_46, b_X12_reckons_111, b_X12_reckons_90, b_X12_reckons_64, b_X12_reckons_59, b_X12_reckons_162, b_X12_reckons_119, b_X12_reckons_191, b_X12_reckons_150, b_X12_reckons_141, i_lit, i_m1, i_31, il_t, il_f, iq_t, iq_f, it_t, it_f, im_e, im_l, im_g, im_g2, nI_add, pk_mul, i_sub, i_div, sdm, i_dec, i_cl, iv_t, bI_or2, bI_t0, bI_one, not_true_eq_false, not_false_eq_true, ↓reduceIte, am_tl, am_tn, am_t0, am_n0, and_true, true_and, List.cons_append, List.nil_append, List.append_nil, or_true, true_or, or_false, false_or, eq_self, ior0, iand0, im_e2, oI, e61, e41, e1, i_m2, List.length_cons, e3, Nat.add_sub_cancel, sc', st', so']
              exact nx ((false :: r, t :: s), _) _ ⟨fr1.pi rfl, ⟨hi_s, skr_ext ss (fun k hk => hi_k (by omega))⟩, ts2, by dsimp only; rw [List.length_cons]; omega, ht1, by
                have := sp_i (w := w) (o := o) (t := t) (c := nI 1) (r := s)
                rw [if_pos rfl] at this
                rw [← this]
                exact hx1⟩
  · rintro ⟨⟨τ, st⟩, l4⟩ h1 ⟨fr1, S1, ts1, hli, ht1, hx1⟩
    dsimp only at S1 ts1 ht1 hx1 ⊢
    have L1 : Lay h1 := fr1.lay L0
    have e61 : h_i h1 94 (6 + law) = nI c.length := by rw [fr1.i (by unfold rK; omega), e6]
    rw [List.drop_length] at hx1
    have e : st = [x] := hx1
    subst e
    have e0 : h_i h1 110 0 = x := S1.1
    rw [b_X12_reckons_4 _ _ _ _ _ L1]
    simp (disch := first | assumption | omega | (simp only [ya_pi, ya_pj, ya_pa, ya_pr, yo_pi, yo_pj, yo_pa, yf_pi, yf_pj, yf_pa, yh_pi, yh_pj, yh_pa, yt_pi, yt_pj, yt_pa, la_pi, la_pj, la_pa]; assumption)) only [b_X12_reckons_0, b_X12_reckons_198, b_X12_reckons_17, b_X12_reckons_82, b_X12_reckons_46, b_X12_reckons_111, b_X12_reckons_90, b_X12_reckons_64, b_X12_reckons_59, b_X12_reckons_162, b_X12_reckons_119, b_X12_reckons_191, b_X12_reckons_150, b_X12_reckons_141, i_lit, i_m1, i_31, il_t, il_f, iq_t, iq_f, it_t, it_f, im_e, im_l, im_g, im_g2, nI_add, pk_mul, i_sub, i_div, sdm, i_dec, i_cl, iv_t, bI_or2, bI_t0, bI_one, not_true_eq_false, not_false_eq_true, ↓reduceIte, am_tl, am_tn, am_t0, am_n0, and_true, true_and, List.cons_append, List.nil_append, List.append_nil, or_true, true_or, or_false, false_or, eq_self, ior0, iand0, im_e2, oI, e61, e0]
    exact k h1 fr1
