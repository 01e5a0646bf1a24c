/-! ===== tokens: words, numbers ===== -/
def wB (k : Nat) : Nat := ((wds.take k).map (fun w => w.length + 1)).sum
def wL (k : Nat) : Nat := (wds.getD k []).length
theorem w_1 : ∀ k, k < 18 → wB (k + 1) = wB k + wL k + 1 ∧ wB k + wL k < 85 := by decide +kernel
theorem w_2 : ∀ k, k < 18 → ∀ j, j < wL k → (sN 0).getD (wB k + j) 0 = (wds.getD k []).getD j 0 := by decide +kernel
theorem w_3 : ∀ k, k < 18 → ∀ j, j < wL k → ¬ (sN 0).getD (wB k + j) 0 = 32 ∧ (sN 0).getD (wB k + j) 0 < 128 := by decide +kernel
theorem w_4 : ∀ k, k < 18 → (sN 0).getD (wB k + wL k) 0 = 32 := by decide +kernel
theorem w_5 : wB 18 = 85 ∧ (sN 0).length = 85 := by decide +kernel
theorem w_6 : ∀ k, k < 18 → ∀ j, j < wL k → (wds.getD k []).getD j 0 < 256 := by decide +kernel
theorem w_0 : ∀ s, s < 1 → s < 3 := by decide
theorem nI_inj {a b : Nat} (ha : a < 2147483648) (hb : b < 2147483648) (h : nI a = nI b) : a = b := (nI_eq ha hb).1 h
theorem c_isWord {d : Nat} {Q : Option am_V → am_H → Prop} {h : am_H} {tx : List Nat} {p e k : Nat} (L : Lay h) (T : txA h tx) (hp : p ≤ e) (he : e ≤ tx.length) (hk : k < 18) (hl : e - p = wL k) {l4 : Option am_V} : ex_ (d + 4) 95 0 [some (v_r (some 2)), some (v_i (nI p)), some (v_i (nI (wB k))), some (v_i (nI (wB k + wL k))), l4] [] h Q ↔ Q (some (v_i (nI (if wm tx p e (wds.getD k []) = true then 1 else 0)))) h := by
  have t3 := T.2.2.1
  have W1 := (w_1 k hk).2
  apply ex_iff
  simp (disch := first | assumption | omega | (simp only [ya_pi, ya_pj, ya_pa, ya_pr, yo_pi, yo_pj, yo_pa, yf_pi, yf_pj, yf_pa, yh_pi, yh_pj, yh_pa, yt_pi, yt_pj, yt_pa, la_pi, la_pj, la_pa]; assumption)) only [b_X8_isWord_0, i_lit, i_m1, i_31, il_t, il_f, iq_t, iq_f, it_t, it_f, im_e, im_l, im_g, im_g2, nI_add, pk_mul, i_sub, i_div, sdm, i_dec, i_cl, iv_t, bI_or2, bI_t0, bI_one, not_true_eq_false, not_false_eq_true, ↓reduceIte, am_tl, am_tn, am_t0, am_n0, and_true, true_and, List.cons_append, List.nil_append, List.append_nil]
  refine lp_up (d := d + 4) (k := 95) (pc := 3) (wL k) (fun j (_ : Unit) => [some (v_r (some 2)), some (v_i (nI p)), some (v_i (nI (wB k))), some (v_i (nI (wB k + wL k))), some (v_i (nI (wB k + j)))]) (fun j _ h' => h' = h ∧ ∀ i, i < j → (wds.getD k []).getD i 0 = tx.getD (p + i) 0) ?_ ?_ (i := 0) (s := ()) (Nat.zero_le _) ⟨rfl, fun i hi => absurd hi (by omega)⟩
  · rintro j - h' hj ⟨rfl, hm⟩ nx
    have c1 : wB k + j < (sN 0).length := by rw [w_5.2]; omega
    have c2 : p + j < tx.length := by omega
    have bk := T.2.2.2.2 _ (gd_mem c2)
    have wk := w_6 k hk j hj
    have c3 : ¬ wB k + wL k ≤ wB k + j := by omega
    have c4 : ¬ (sN 0).length ≤ wB k + j := by omega
    have c5 : (sN 0).length = 85 := w_5.2
    have c6 : p + (wB k + j) - wB k = p + j := by omega
    rw [c5] at c4
    simp (disch := first | assumption | omega | (simp only [ya_pi, ya_pj, ya_pa, ya_pr, yo_pi, yo_pj, yo_pa, yf_pi, yf_pj, yf_pa, yh_pi, yh_pj, yh_pa, yt_pi, yt_pj, yt_pa, la_pi, la_pj, la_pa]; assumption)) only [b_X8_isWord_3 _ _ _ _ _ _, b_X8_isWord_9, b_X8_isWord_16, b_X8_isWord_19, b_X8_isWord_26, b_X8_isWord_36, i_lit, i_m1, i_31, il_t, il_f, iq_t, iq_f, it_t, it_f, im_e, im_l, im_g, im_g2, nI_add, pk_mul, i_sub, i_div, sdm, i_dec, i_cl, iv_t, bI_or2, bI_t0, bI_one, not_true_eq_false, not_false_eq_true, ↓reduceIte, am_tl, am_tn, am_t0, am_n0, and_true, true_and, List.cons_append, List.nil_append, List.append_nil, c_strlen (show 0 < 3 by decide), c_charAt (show 0 < 3 by decide) c1, w_2 k hk j hj, c6, c_byteAt L T c2, c5]
    by_cases z : (wds.getD k []).getD j 0 = tx.getD (p + j) 0
    · simp (disch := first | assumption | omega | (simp only [ya_pi, ya_pj, ya_pa, ya_pr, yo_pi, yo_pj, yo_pa, yf_pi, yf_pj, yf_pa, yh_pi, yh_pj, yh_pa, yt_pi, yt_pj, yt_pa, la_pi, la_pj, la_pa]; assumption)) only [b_X8_isWord_41, i_lit, i_m1, i_31, il_t, il_f, iq_t, iq_f, it_t, it_f, im_e, im_l, im_g, im_g2, nI_add, pk_mul, i_sub, i_div, sdm, i_dec, i_cl, iv_t, bI_or2, bI_t0, bI_one, not_true_eq_false, not_false_eq_true, ↓reduceIte, am_tl, am_tn, am_t0, am_n0, and_true, true_and, List.cons_append, List.nil_append, List.append_nil, z]
      refine nx () h' ⟨rfl, fun i hi => ?_⟩
      by_cases y : i = j
      · rw [y]; exact z
      · exact hm i (by omega)
    · have z' : ¬ nI ((wds.getD k []).getD j 0) = nI (tx.getD (p + j) 0) := fun y => z (nI_inj (by omega) (by omega) y)
      have nw : ¬ wm tx p e (wds.getD k []) = true := fun y => z ((wm_iff.1 y).2 j hj)
      simp (disch := first | assumption | omega | (simp only [ya_pi, ya_pj, ya_pa, ya_pr, yo_pi, yo_pj, yo_pa, yf_pi, yf_pj, yf_pa, yh_pi, yh_pj, yh_pa, yt_pi, yt_pj, yt_pa, la_pi, la_pj, la_pa]; assumption)) only [b_X8_isWord_39, i_lit, i_m1, i_31, il_t, il_f, iq_t, iq_f, it_t, it_f, im_e, im_l, im_g, im_g2, nI_add, pk_mul, i_sub, i_div, sdm, i_dec, i_cl, iv_t, bI_or2, bI_t0, bI_one, not_true_eq_false, not_false_eq_true, ↓reduceIte, am_tl, am_tn, am_t0, am_n0, and_true, true_and, List.cons_append, List.nil_append, List.append_nil, z', nw, Bool.false_eq_true]
  · rintro - h' ⟨rfl, hm⟩
    have yw : wm tx p e (wds.getD k []) = true := wm_iff.2 ⟨hl, hm⟩
    simp (disch := first | assumption | omega | (simp only [ya_pi, ya_pj, ya_pa, ya_pr, yo_pi, yo_pj, yo_pa, yf_pi, yf_pj, yf_pa, yh_pi, yh_pj, yh_pa, yt_pi, yt_pj, yt_pa, la_pi, la_pj, la_pa]; assumption)) only [b_X8_isWord_3 _ _ _ _ _ _, b_X8_isWord_47, i_lit, i_m1, i_31, il_t, il_f, iq_t, iq_f, it_t, it_f, im_e, im_l, im_g, im_g2, nI_add, pk_mul, i_sub, i_div, sdm, i_dec, i_cl, iv_t, bI_or2, bI_t0, bI_one, not_true_eq_false, not_false_eq_true, ↓reduceIte, am_tl, am_tn, am_t0, am_n0, and_true, true_and, List.cons_append, List.nil_append, List.append_nil, yw]
theorem c_wordToken {d : Nat} {Q : Option am_V → am_H → Prop} {h : am_H} {tx : List Nat} {p e : Nat} (L : Lay h) (T : txA h tx) (hp : p ≤ e) (he : e ≤ tx.length) {l3 l4 l5 : Option am_V} : ex_ (d + 5) 96 0 [some (v_r (some 2)), some (v_i (nI p)), some (v_i (nI e)), l3, l4, l5] [] h Q ↔ Q (some (v_i (nI (wTk tx p e)))) h := by
  have t3 := T.2.2.1
  apply ex_iff
  simp (disch := first | assumption | omega | (simp only [ya_pi, ya_pj, ya_pa, ya_pr, yo_pi, yo_pj, yo_pa, yf_pi, yf_pj, yf_pa, yh_pi, yh_pj, yh_pa, yt_pi, yt_pj, yt_pa, la_pi, la_pj, la_pa]; assumption)) only [b_X8_wordToken_0, i_lit, i_m1, i_31, il_t, il_f, iq_t, iq_f, it_t, it_f, im_e, im_l, im_g, im_g2, nI_add, pk_mul, i_sub, i_div, sdm, i_dec, i_cl, iv_t, bI_or2, bI_t0, bI_one, not_true_eq_false, not_false_eq_true, ↓reduceIte, am_tl, am_tn, am_t0, am_n0, and_true, true_and, List.cons_append, List.nil_append, List.append_nil]
  have st := lp_up (d := d + 5) (k := 96) (pc := 10) (Q := fun r h' => r = some (v_i (nI (wTk tx p e))) ∧ h' = h) 85 (fun i (k : Nat) => [some (v_r (some 2)), some (v_i (nI p)), some (v_i (nI e)), some (v_i (nI (200 + k))), some (v_i (nI (wB k))), some (v_i (nI i))]) (fun i k h' => h' = h ∧ fi (fun k => wm tx p e (wds.getD k [])) 18 0 = fi (fun k => wm tx p e (wds.getD k [])) 18 k ∧ ((k < 18 ∧ wB k ≤ i ∧ i ≤ wB k + wL k) ∨ (k = 18 ∧ i = 85))) ?_ ?_ (i := 0) (s := 0) (h := h) (Nat.zero_le _) ⟨rfl, rfl, Or.inl ⟨by decide, by decide, by decide⟩⟩
  · exact st
  · rintro i k h' hi ⟨rfl, hf, hk⟩ nx
    rcases hk with ⟨hk, h1, h2⟩ | ⟨-, h1⟩
    · have c1 : i < (sN 0).length := by rw [w_5.2]; omega
      have c2 := w_5.2
      have c3 : ¬ 85 ≤ i := by omega
      simp (disch := first | assumption | omega | (simp only [ya_pi, ya_pj, ya_pa, ya_pr, yo_pi, yo_pj, yo_pa, yf_pi, yf_pj, yf_pa, yh_pi, yh_pj, yh_pa, yt_pi, yt_pj, yt_pa, la_pi, la_pj, la_pa]; assumption)) only [b_X8_wordToken_10 _ _ _ _ _ _ _, b_X8_wordToken_17, b_X8_wordToken_20, b_X8_wordToken_27, i_lit, i_m1, i_31, il_t, il_f, iq_t, iq_f, it_t, it_f, im_e, im_l, im_g, im_g2, nI_add, pk_mul, i_sub, i_div, sdm, i_dec, i_cl, iv_t, bI_or2, bI_t0, bI_one, not_true_eq_false, not_false_eq_true, ↓reduceIte, am_tl, am_tn, am_t0, am_n0, and_true, true_and, List.cons_append, List.nil_append, List.append_nil, c_strlen (show 0 < 3 by decide), c_charAt (show 0 < 3 by decide) c1, c2]
      by_cases z : i = wB k + wL k
      · have W1 := w_1 k hk
        have e1 : wB k + wL k + 1 = wB (k + 1) := W1.1.symm
        have e2 : ¬ wm tx p e (wds.getD k []) = true → fi (fun k => wm tx p e (wds.getD k [])) 18 0 = fi (fun k => wm tx p e (wds.getD k [])) 18 (k + 1) := fun y => by rw [hf]; exact fi_no (by simpa using y)
        have nx' : ¬ wm tx p e (wds.getD k []) = true → ex_ (d + 5) 96 10 [some (v_r (some 2)), some (v_i (nI p)), some (v_i (nI e)), some (v_i (nI (200 + k + 1))), some (v_i (nI (wB k + wL k + 1))), some (v_i (nI (wB k + wL k + 1)))] [] h' (fun r h'_1 => r = some (v_i (nI (wTk tx p e))) ∧ h'_1 = h') := fun y => by
          have := nx (k + 1) h' ⟨rfl, e2 y, ?_⟩
          · rw [z] at this
            rw [e1] at this ⊢
            exact this
          · by_cases u : k + 1 < 18
            · exact Or.inl ⟨u, by omega, by omega⟩
            · have : k + 1 = 18 := by omega
              refine Or.inr ⟨this, ?_⟩
              rw [z, e1, this]; exact w_5.1
        subst z
        simp (disch := first | assumption | omega | (simp only [ya_pi, ya_pj, ya_pa, ya_pr, yo_pi, yo_pj, yo_pa, yf_pi, yf_pj, yf_pa, yh_pi, yh_pj, yh_pa, yt_pi, yt_pj, yt_pa, la_pi, la_pj, la_pa]; assumption)) only [w_4 k hk, b_X8_wordToken_32, i_lit, i_m1, i_31, il_t, il_f, iq_t, iq_f, it_t, it_f, im_e, im_l, im_g, im_g2, nI_add, pk_mul, i_sub, i_div, sdm, i_dec, i_cl, iv_t, bI_or2, bI_t0, bI_one, not_true_eq_false, not_false_eq_true, ↓reduceIte, am_tl, am_tn, am_t0, am_n0, and_true, true_and, List.cons_append, List.nil_append, List.append_nil]
        by_cases y : e - p = wL k
        · have c4 : nI (wB k + wL k) - nI (wB k) = nI e - nI p := by
            rw [i_sub (by omega), i_sub (by omega)]
            congr 1
            omega
          simp (disch := first | assumption | omega | (simp only [ya_pi, ya_pj, ya_pa, ya_pr, yo_pi, yo_pj, yo_pa, yf_pi, yf_pj, yf_pa, yh_pi, yh_pj, yh_pa, yt_pi, yt_pj, yt_pa, la_pi, la_pj, la_pa]; assumption)) only [c4, b_X8_wordToken_43, b_X8_wordToken_52, i_lit, i_m1, i_31, il_t, il_f, iq_t, iq_f, it_t, it_f, im_e, im_l, im_g, im_g2, nI_add, pk_mul, i_sub, i_div, sdm, i_dec, i_cl, iv_t, bI_or2, bI_t0, bI_one, not_true_eq_false, not_false_eq_true, ↓reduceIte, am_tl, am_tn, am_t0, am_n0, and_true, true_and, List.cons_append, List.nil_append, List.append_nil, c_isWord L T hp he hk y]
          by_cases u : wm tx p e (wds.getD k []) = true
          · have : wTk tx p e = 200 + k := by unfold wTk; rw [hf, fi_yes hk u]
            simp (disch := first | assumption | omega | (simp only [ya_pi, ya_pj, ya_pa, ya_pr, yo_pi, yo_pj, yo_pa, yf_pi, yf_pj, yf_pa, yh_pi, yh_pj, yh_pa, yt_pi, yt_pj, yt_pa, la_pi, la_pj, la_pa]; assumption)) only [b_X8_wordToken_55, i_lit, i_m1, i_31, il_t, il_f, iq_t, iq_f, it_t, it_f, im_e, im_l, im_g, im_g2, nI_add, pk_mul, i_sub, i_div, sdm, i_dec, i_cl, iv_t, bI_or2, bI_t0, bI_one, not_true_eq_false, not_false_eq_true, ↓reduceIte, am_tl, am_tn, am_t0, am_n0, and_true, true_and, List.cons_append, List.nil_append, List.append_nil, u, this]
          · simp (disch := first | assumption | omega | (simp only [ya_pi, ya_pj, ya_pa, ya_pr, yo_pi, yo_pj, yo_pa, yf_pi, yf_pj, yf_pa, yh_pi, yh_pj, yh_pa, yt_pi, yt_pj, yt_pa, la_pi, la_pj, la_pa]; assumption)) only [b_X8_wordToken_57, i_lit, i_m1, i_31, il_t, il_f, iq_t, iq_f, it_t, it_f, im_e, im_l, im_g, im_g2, nI_add, pk_mul, i_sub, i_div, sdm, i_dec, i_cl, iv_t, bI_or2, bI_t0, bI_one, not_true_eq_false, not_false_eq_true, ↓reduceIte, am_tl, am_tn, am_t0, am_n0, and_true, true_and, List.cons_append, List.nil_append, List.append_nil, u]
            exact nx' u
        · have c4 : ¬ nI (wB k + wL k) - nI (wB k) = nI e - nI p := by
            rw [i_sub (by omega), i_sub (by omega)]
            intro u
            have := nI_inj (by omega) (by omega) u
            omega
          simp (disch := first | assumption | omega | (simp only [ya_pi, ya_pj, ya_pa, ya_pr, yo_pi, yo_pj, yo_pa, yf_pi, yf_pj, yf_pa, yh_pi, yh_pj, yh_pa, yt_pi, yt_pj, yt_pa, la_pi, la_pj, la_pa]; assumption)) only [c4, b_X8_wordToken_57, i_lit, i_m1, i_31, il_t, il_f, iq_t, iq_f, it_t, it_f, im_e, im_l, im_g, im_g2, nI_add, pk_mul, i_sub, i_div, sdm, i_dec, i_cl, iv_t, bI_or2, bI_t0, bI_one, not_true_eq_false, not_false_eq_true, ↓reduceIte, am_tl, am_tn, am_t0, am_n0, and_true, true_and, List.cons_append, List.nil_append, List.append_nil]
          exact nx' (fun u => y (wm_iff.1 u).1)
      · obtain ⟨j, rfl⟩ : ∃ j, i = wB k + j := ⟨i - wB k, by omega⟩
        have w3 := w_3 k hk j (by omega)
        have w3a := w3.1
        have w3b := w3.2
        simp (disch := first | assumption | omega | (simp only [ya_pi, ya_pj, ya_pa, ya_pr, yo_pi, yo_pj, yo_pa, yf_pi, yf_pj, yf_pa, yh_pi, yh_pj, yh_pa, yt_pi, yt_pj, yt_pa, la_pi, la_pj, la_pa]; assumption)) only [b_X8_wordToken_66, i_lit, i_m1, i_31, il_t, il_f, iq_t, iq_f, it_t, it_f, im_e, im_l, im_g, im_g2, nI_add, pk_mul, i_sub, i_div, sdm, i_dec, i_cl, iv_t, bI_or2, bI_t0, bI_one, not_true_eq_false, not_false_eq_true, ↓reduceIte, am_tl, am_tn, am_t0, am_n0, and_true, true_and, List.cons_append, List.nil_append, List.append_nil]
        exact nx k h' ⟨rfl, hf, Or.inl ⟨hk, by omega, by omega⟩⟩
    · omega
  · rintro k h' ⟨rfl, hf, hk⟩
    have c2 := w_5.2
    rcases hk with ⟨hk, h1, h2⟩ | ⟨h0, h1⟩
    · have := (w_1 k hk).2; omega
    · have : wTk tx p e = 3 := by unfold wTk; rw [hf, h0, fi_end (Nat.le_refl _)]
      simp (disch := first | assumption | omega | (simp only [ya_pi, ya_pj, ya_pa, ya_pr, yo_pi, yo_pj, yo_pa, yf_pi, yf_pj, yf_pa, yh_pi, yh_pj, yh_pa, yt_pi, yt_pj, yt_pa, la_pi, la_pj, la_pa]; assumption)) only [b_X8_wordToken_10 _ _ _ _ _ _ _, b_X8_wordToken_17, b_X8_wordToken_72, i_lit, i_m1, i_31, il_t, il_f, iq_t, iq_f, it_t, it_f, im_e, im_l, im_g, im_g2, nI_add, pk_mul, i_sub, i_div, sdm, i_dec, i_cl, iv_t, bI_or2, bI_t0, bI_one, not_true_eq_false, not_false_eq_true, ↓reduceIte, am_tl, am_tn, am_t0, am_n0, and_true, true_and, List.cons_append, List.nil_append, List.append_nil, c_strlen (show 0 < 3 by decide), c2, this]
theorem c_numberToken {d : Nat} {Q : Option am_V → am_H → Prop} {h : am_H} {tx : List Nat} {p e : Nat} (L : Lay h) (T : txA h tx) (hp : p ≤ e) (he : e ≤ tx.length) (hd : ∀ k, k < e - p → isDb (tx.getD (p + k) 0) = true) {l3 l4 : Option am_V} : ex_ (d + 1) 97 0 [some (v_r (some 2)), some (v_i (nI p)), some (v_i (nI e)), l3, l4] [] h Q ↔ Q (some (v_i (nI (if 3 < e - p then 2 else 1000 + nmb tx p (e - p))))) h := by
  have t3 := T.2.2.1
  apply ex_iff
  have e1 : nI e - nI p = nI (e - p) := i_sub (by omega)
  by_cases z : 3 < e - p
  · simp (disch := first | assumption | omega | (simp only [ya_pi, ya_pj, ya_pa, ya_pr, yo_pi, yo_pj, yo_pa, yf_pi, yf_pj, yf_pa, yh_pi, yh_pj, yh_pa, yt_pi, yt_pj, yt_pa, la_pi, la_pj, la_pa]; assumption)) only [b_X8_numberToken_0, b_X8_numberToken_7, i_lit, i_m1, i_31, il_t, il_f, iq_t, iq_f, it_t, it_f, im_e, im_l, im_g, im_g2, nI_add, pk_mul, i_sub, i_div, sdm, i_dec, i_cl, iv_t, bI_or2, bI_t0, bI_one, not_true_eq_false, not_false_eq_true, ↓reduceIte, am_tl, am_tn, am_t0, am_n0, and_true, true_and, List.cons_append, List.nil_append, List.append_nil, e1, if_pos z]
  · simp (disch := first | assumption | omega | (simp only [ya_pi, ya_pj, ya_pa, ya_pr, yo_pi, yo_pj, yo_pa, yf_pi, yf_pj, yf_pa, yh_pi, yh_pj, yh_pa, yt_pi, yt_pj, yt_pa, la_pi, la_pj, la_pa]; assumption)) only [b_X8_numberToken_0, b_X8_numberToken_9, i_lit, i_m1, i_31, il_t, il_f, iq_t, iq_f, it_t, it_f, im_e, im_l, im_g, im_g2, nI_add, pk_mul, i_sub, i_div, sdm, i_dec, i_cl, iv_t, bI_or2, bI_t0, bI_one, not_true_eq_false, not_false_eq_true, ↓reduceIte, am_tl, am_tn, am_t0, am_n0, and_true, true_and, List.cons_append, List.nil_append, List.append_nil, e1, if_neg z]
    have st := lp_up (d := d + 1) (k := 97) (pc := 14) (Q := fun r h' => r = some (v_i (nI (1000 + nmb tx p (e - p)))) ∧ h' = h) (e - p) (fun j (_ : Unit) => [some (v_r (some 2)), some (v_i (nI p)), some (v_i (nI e)), some (v_i (nI (nmb tx p j))), some (v_i (nI (p + j)))]) (fun j _ h' => h' = h) ?_ ?_ (i := 0) (s := ()) (h := h) (Nat.zero_le _) rfl
    · exact st
    · rintro j - h' hj rfl nx
      have c2 : p + j < tx.length := by omega
      have c3 : ¬ e ≤ p + j := by omega
      have b1 := nmb_lt (tx := tx) (p := p) j (fun k hk => hd k (by omega))
      have b2 : 10 ^ j ≤ 10 ^ 3 := Nat.pow_le_pow_right (by omega) (by omega)
      have b3 := hd j hj
      unfold isDb at b3
      rw [Bool.and_eq_true, decide_eq_true_eq, decide_eq_true_eq] at b3
      have c4 : 10 * nmb tx p j + tx.getD (p + j) 0 - 48 = nmb tx p (j + 1) := by
        rw [nmb]
        omega
      rw [b_X8_numberToken_14 _ _ _ _ _ _]
      simp (disch := first | assumption | omega | (simp only [ya_pi, ya_pj, ya_pa, ya_pr, yo_pi, yo_pj, yo_pa, yf_pi, yf_pj, yf_pa, yh_pi, yh_pj, yh_pa, yt_pi, yt_pj, yt_pa, la_pi, la_pj, la_pa]; assumption)) only [b_X8_numberToken_20, b_X8_numberToken_30, i_lit, i_m1, i_31, il_t, il_f, iq_t, iq_f, it_t, it_f, im_e, im_l, im_g, im_g2, nI_add, pk_mul, i_sub, i_div, sdm, i_dec, i_cl, iv_t, bI_or2, bI_t0, bI_one, not_true_eq_false, not_false_eq_true, ↓reduceIte, am_tl, am_tn, am_t0, am_n0, and_true, true_and, List.cons_append, List.nil_append, List.append_nil, c_byteAt L T c2]
      rw [c4]
      exact nx () h' rfl
    · rintro - h' rfl
      have c3 : e ≤ p + (e - p) := by omega
      have b1 := nmb_lt (tx := tx) (p := p) (e - p) (fun k hk => hd k hk)
      have b2 : 10 ^ (e - p) ≤ 10 ^ 3 := Nat.pow_le_pow_right (by omega) (by omega)
      simp (disch := first | assumption | omega | (simp only [ya_pi, ya_pj, ya_pa, ya_pr, yo_pi, yo_pj, yo_pa, yf_pi, yf_pj, yf_pa, yh_pi, yh_pj, yh_pa, yt_pi, yt_pj, yt_pa, la_pi, la_pj, la_pa]; assumption)) only [b_X8_numberToken_14 _ _ _ _ _ _, b_X8_numberToken_41, i_lit, i_m1, i_31, il_t, il_f, iq_t, iq_f, it_t, it_f, im_e, im_l, im_g, im_g2, nI_add, pk_mul, i_sub, i_div, sdm, i_dec, i_cl, iv_t, bI_or2, bI_t0, bI_one, not_true_eq_false, not_false_eq_true, ↓reduceIte, am_tl, am_tn, am_t0, am_n0, and_true, true_and, List.cons_append, List.nil_append, List.append_nil]
theorem ch_256 : ∀ x, x < 256 → ((nI x).toUInt32 % 65536).toInt32 = nI x := by decide +kernel
theorem tE_d {tx : List Nat} {p : Nat} (z1 : ¬ isLb (tx.getD p 0) = true) (z2 : isDb (tx.getD p 0) = true) : ∀ k, k < tE tx p - p → isDb (tx.getD (p + k) 0) = true := fun k hk => by
  have e1 : tE tx p = rn tx isDb (p + 1) := by unfold tE; rw [if_neg z1, if_pos z2]
  by_cases y : k = 0
  · rw [y, Nat.add_zero]; exact z2
  · exact rn_in (tx := tx) (q := isDb) _ (p + 1) (Nat.le_refl _) (p + k) (by omega) (by rw [← e1]; omega)
theorem c_tokenOf {d : Nat} {Q : Option am_V → am_H → Prop} {h : am_H} {tx : List Nat} {p : Nat} (L : Lay h) (T : txA h tx) (hp : p < tx.length) {l3 : Option am_V} : ex_ (d + 6) 113 0 [some (v_r (some 2)), some (v_i (nI p)), some (v_i (nI (tE tx p))), l3] [] h Q ↔ Q (some (v_i (nI (tT tx p)))) h := by
  have b := T.2.2.2.2 _ (gd_mem hp)
  have h1 := tE_gt (tx := tx) (p := p)
  have h2 := tE_le (tx := tx) (p := p) hp
  simp (disch := first | assumption | omega | (simp only [ya_pi, ya_pj, ya_pa, ya_pr, yo_pi, yo_pj, yo_pa, yf_pi, yf_pj, yf_pa, yh_pi, yh_pj, yh_pa, yt_pi, yt_pj, yt_pa, la_pi, la_pj, la_pa]; assumption)) only [b_X8_tokenOf_0, b_X8_tokenOf_5, i_lit, i_m1, i_31, il_t, il_f, iq_t, iq_f, it_t, it_f, im_e, im_l, im_g, im_g2, nI_add, pk_mul, i_sub, i_div, sdm, i_dec, i_cl, iv_t, bI_or2, bI_t0, bI_one, not_true_eq_false, not_false_eq_true, ↓reduceIte, am_tl, am_tn, am_t0, am_n0, and_true, true_and, List.cons_append, List.nil_append, List.append_nil, c_byteAt L T hp, c_isLetter b]
  unfold tT
  by_cases z : isLb (tx.getD p 0) = true
  · simp (disch := first | assumption | omega | (simp only [ya_pi, ya_pj, ya_pa, ya_pr, yo_pi, yo_pj, yo_pa, yf_pi, yf_pj, yf_pa, yh_pi, yh_pj, yh_pa, yt_pi, yt_pj, yt_pa, la_pi, la_pj, la_pa]; assumption)) only [b_X8_tokenOf_10, b_X8_tokenOf_13, b_X8_tokenOf_19, i_lit, i_m1, i_31, il_t, il_f, iq_t, iq_f, it_t, it_f, im_e, im_l, im_g, im_g2, nI_add, pk_mul, i_sub, i_div, sdm, i_dec, i_cl, iv_t, bI_or2, bI_t0, bI_one, not_true_eq_false, not_false_eq_true, ↓reduceIte, am_tl, am_tn, am_t0, am_n0, and_true, true_and, List.cons_append, List.nil_append, List.append_nil, z, c_wordToken L T (by omega : p ≤ tE tx p) h2]
  · by_cases y : isDb (tx.getD p 0) = true
    · simp (disch := first | assumption | omega | (simp only [ya_pi, ya_pj, ya_pa, ya_pr, yo_pi, yo_pj, yo_pa, yf_pi, yf_pj, yf_pa, yh_pi, yh_pj, yh_pa, yt_pi, yt_pj, yt_pa, la_pi, la_pj, la_pa]; assumption)) only [b_X8_tokenOf_10, b_X8_tokenOf_20, b_X8_tokenOf_24, b_X8_tokenOf_27, b_X8_tokenOf_33, i_lit, i_m1, i_31, il_t, il_f, iq_t, iq_f, it_t, it_f, im_e, im_l, im_g, im_g2, nI_add, pk_mul, i_sub, i_div, sdm, i_dec, i_cl, iv_t, bI_or2, bI_t0, bI_one, not_true_eq_false, not_false_eq_true, ↓reduceIte, am_tl, am_tn, am_t0, am_n0, and_true, true_and, List.cons_append, List.nil_append, List.append_nil, z, y, Bool.false_eq_true, c_cDigit b, c_numberToken L T (by omega : p ≤ tE tx p) h2 (tE_d z y)]
    · cases u : sgI (tx.getD p 0) with
      | none => simp (disch := first | assumption | omega | (simp only [ya_pi, ya_pj, ya_pa, ya_pr, yo_pi, yo_pj, yo_pa, yf_pi, yf_pj, yf_pa, yh_pi, yh_pj, yh_pa, yt_pi, yt_pj, yt_pa, la_pi, la_pj, la_pa]; assumption)) only [b_X8_tokenOf_10, b_X8_tokenOf_20, b_X8_tokenOf_24, b_X8_tokenOf_34, b_X8_tokenOf_41, b_X8_tokenOf_48, i_lit, i_m1, i_31, il_t, il_f, iq_t, iq_f, it_t, it_f, im_e, im_l, im_g, im_g2, nI_add, pk_mul, i_sub, i_div, sdm, i_dec, i_cl, iv_t, bI_or2, bI_t0, bI_one, not_true_eq_false, not_false_eq_true, ↓reduceIte, am_tl, am_tn, am_t0, am_n0, and_true, true_and, List.cons_append, List.nil_append, List.append_nil, z, y, c_cDigit b, ch_256 _ b, c_indexOf b, u, oI, Option.isSome, Bool.false_eq_true]
      | some j =>
        have hj : j < 12 := by
          rcases fi_sp (fun k => sgL.getD k 0 == tx.getD p 0) 12 with ⟨i, e, hi, -⟩ | ⟨e, -⟩
          · have := u.symm.trans e
            cases this
            exact hi
          · have := u.symm.trans e
            cases this
        simp (disch := first | assumption | omega | (simp only [ya_pi, ya_pj, ya_pa, ya_pr, yo_pi, yo_pj, yo_pa, yf_pi, yf_pj, yf_pa, yh_pi, yh_pj, yh_pa, yt_pi, yt_pj, yt_pa, la_pi, la_pj, la_pa]; assumption)) only [b_X8_tokenOf_10, b_X8_tokenOf_20, b_X8_tokenOf_24, b_X8_tokenOf_34, b_X8_tokenOf_41, b_X8_tokenOf_44, i_lit, i_m1, i_31, il_t, il_f, iq_t, iq_f, it_t, it_f, im_e, im_l, im_g, im_g2, nI_add, pk_mul, i_sub, i_div, sdm, i_dec, i_cl, iv_t, bI_or2, bI_t0, bI_one, not_true_eq_false, not_false_eq_true, ↓reduceIte, am_tl, am_tn, am_t0, am_n0, and_true, true_and, List.cons_append, List.nil_append, List.append_nil, z, y, c_cDigit b, ch_256 _ b, c_indexOf b, u, oI, Option.isSome, Bool.false_eq_true]
