/-! ===== tokens: the whole text ===== -/
def tK (ts : List (Nat × Nat)) (k : Nat) : Nat := (ts.getD k (1, 0)).1
def tS (ts : List (Nat × Nat)) (k : Nat) : Nat := (ts.getD k (1, 0)).2
theorem gp_app {l : List (Nat × Nat)} {q : Nat × Nat} {k : Nat} : (l ++ [q]).getD k (1, 0) = if k < l.length then l.getD k (1, 0) else if k = l.length then q else (1, 0) := by
  rw [List.getD_eq_getElem?_getD, List.getD_eq_getElem?_getD]
  by_cases h : k < l.length
  · rw [if_pos h, List.getElem?_append_left h]
  · rw [if_neg h, List.getElem?_append_right (by omega)]
    by_cases e : k = l.length
    · rw [if_pos e, e, Nat.sub_self]; rfl
    · rw [if_neg e]
      obtain ⟨m, hm⟩ : ∃ m, k - l.length = m + 1 := ⟨k - l.length - 1, by omega⟩
      rw [hm]; rfl
theorem tk_app {l : List (Nat × Nat)} {q : Nat × Nat} {k : Nat} (h : k < l.length) : tK (l ++ [q]) k = tK l k ∧ tS (l ++ [q]) k = tS l k := by
  unfold tK tS
  rw [gp_app, if_pos h]
  exact ⟨rfl, rfl⟩
theorem tk_last {l : List (Nat × Nat)} {q : Nat × Nat} : tK (l ++ [q]) l.length = q.1 ∧ tS (l ++ [q]) l.length = q.2 := by
  unfold tK tS
  rw [gp_app, if_neg (by omega), if_pos rfl]
  exact ⟨rfl, rfl⟩
def spP (q k : Nat) : Prop := (q = 2 ∧ k = 4) ∨ q = 3 ∨ q = 4
def tkA (h : am_H) (ts : List (Nat × Nat)) : Prop := h_i h 2 4 = nI ts.length ∧ ts.length ≤ 901 ∧ (∀ k, k < ts.length → h_i h 3 k = nI (tK ts k) ∧ h_i h 4 k = nI (tS ts k)) ∧ ∀ k, tK ts k < 2000
theorem tkA.fr {h h' : am_H} {P : Nat → Nat → Prop} {ts : List (Nat × Nat)} (T : tkA h ts) (fr : am_fr h h' P) (h1 : ¬ P 2 4) (h2 : ∀ k, ¬ P 3 k ∧ ¬ P 4 k) : tkA h' ts := ⟨by rw [fr.i h1]; exact T.1, T.2.1, fun k hk => by rw [fr.i (h2 k).1, fr.i (h2 k).2]; exact T.2.2.1 k hk, T.2.2.2⟩
theorem txA.sp {h h' : am_H} {tx : List Nat} (T : txA h tx) (fr : am_fr h h' spP) : txA h' tx := T.fr fr (fun z => by unfold spP at z; omega) (fun k z => by unfold spP at z; omega)
/-- one more token -/
theorem tkA.put {h : am_H} {ts : List (Nat × Nat)} {a b : Nat} (T : tkA h ts) (hl : ts.length ≤ 900) (ha : a < 2000) {h' : am_H} (fr : am_fr h h' spP) (e1 : h_i h' 2 4 = nI (ts.length + 1)) (e2 : ∀ k, h_i h' 3 k = if k = ts.length then nI a else h_i h 3 k) (e3 : ∀ k, h_i h' 4 k = if k = ts.length then nI b else h_i h 4 k) : tkA h' (ts ++ [(a, b)]) := by
  refine ⟨by rw [e1, List.length_append]; rfl, by rw [List.length_append]; show ts.length + 1 ≤ 901; omega, fun k hk => ?_, fun k => ?_⟩
  · rw [List.length_append] at hk
    rw [e2, e3]
    by_cases z : k = ts.length
    · rw [if_pos z, if_pos z, z, tk_last.1, tk_last.2]; exact ⟨rfl, rfl⟩
    · have hk' : k < ts.length := by
        have : k < ts.length + 1 := hk
        omega
      rw [if_neg z, if_neg z, (tk_app hk').1, (tk_app hk').2]
      exact T.2.2.1 k hk'
  · unfold tK
    rw [gp_app]
    split
    · exact T.2.2.2 k
    · split
      · exact ha
      · decide
def en2 (ts : List (Nat × Nat)) : Prop := 0 < ts.length ∧ tK ts (ts.length - 1) = 2
theorem c_splitText {d : Nat} {Q : Option am_V → am_H → Prop} {h : am_H} {tx : List Nat} (L : Lay h) (T : txA h tx) (k : ∀ h', am_fr h h' spP → tkA h' (tz tx 0) → (tz tx 0).length ≤ tx.length + 1 → Q none h') {l1 l2 : Option am_V} : ex_ (d + 7) 114 0 [some (v_r (some 2)), l1, l2] [] h Q := by
  have t3 := T.2.2.1
  simp (disch := first | assumption | omega | (simp only [ya_pi, ya_pj, ya_pa, ya_pr, yo_pi, yo_pj, yo_pa, yf_pi, yf_pj, yf_pa, yh_pi, yh_pj, yh_pa, yt_pi, yt_pj, yt_pa, la_pi, la_pj, la_pa]; assumption)) only [b_X8_splitText_0, i_lit, i_m1, i_31, il_t, il_f, iq_t, iq_f, it_t, it_f, im_e, im_l, im_g, im_g2, nI_add, pk_mul, i_sub, i_div, sdm, i_dec, i_cl, iv_t, bI_or2, bI_t0, bI_one, not_true_eq_false, not_false_eq_true, ↓reduceIte, am_tl, am_tn, am_t0, am_n0, and_true, true_and, List.cons_append, List.nil_append, List.append_nil]
  refine lp_wf (d := d + 7) (k := 114) (pc := 7) (fun s : Nat × List (Nat × Nat) × Option am_V => tx.length - s.1) (fun s => [some (v_r (some 2)), some (v_i (nI s.1)), s.2.2]) (fun s h' => am_fr h h' spP ∧ tkA h' s.2.1 ∧ s.1 ≤ tx.length ∧ s.2.1.length ≤ s.1 ∧ ((en2 s.2.1 ∧ s.2.1 ++ [(1, tx.length)] = tz tx 0) ∨ (¬ en2 s.2.1 ∧ s.2.1 ++ tz tx s.1 = tz tx 0))) ?_ (s := (0, [], l2)) ⟨am_fr_pi (Or.inl ⟨rfl, rfl⟩), ⟨hi_s, (by decide : (0 : Nat) ≤ 901), fun k hk => absurd hk (by simp), fun k => by show (1 : Nat) < 2000; decide⟩, Nat.zero_le _, Nat.le_refl _, Or.inr ⟨fun z => absurd z.1 (by simp), rfl⟩⟩
  rintro ⟨p, acc, l2⟩ h1 ⟨fr, A, hp, hl, hz⟩ nx
  have hp : p ≤ tx.length := hp
  have hl : acc.length ≤ p := hl
  have A : tkA h1 acc := A
  have hz : (en2 acc ∧ acc ++ [(1, tx.length)] = tz tx 0) ∨ (¬ en2 acc ∧ acc ++ tz tx p = tz tx 0) := hz
  have L1 := fr.lay L
  have T1 := T.sp fr
  have t2 := T1.2.1
  have a1 := A.1
  -- the last token
  have fin : acc ++ [(1, tx.length)] = tz tx 0 → ex_ (d + 7) 114 104 [some (v_r (some 2)), some (v_i (nI p)), l2] [] h1 Q := fun z => by
    simp (disch := first | assumption | omega | (simp only [ya_pi, ya_pj, ya_pa, ya_pr, yo_pi, yo_pj, yo_pa, yf_pi, yf_pj, yf_pa, yh_pi, yh_pj, yh_pa, yt_pi, yt_pj, yt_pa, la_pi, la_pj, la_pa]; assumption)) only [b_X8_splitText_104, i_lit, i_m1, i_31, il_t, il_f, iq_t, iq_f, it_t, it_f, im_e, im_l, im_g, im_g2, nI_add, pk_mul, i_sub, i_div, sdm, i_dec, i_cl, iv_t, bI_or2, bI_t0, bI_one, not_true_eq_false, not_false_eq_true, ↓reduceIte, am_tl, am_tn, am_t0, am_n0, and_true, true_and, List.cons_append, List.nil_append, List.append_nil, hi_s, hi_o, hi_k, hr_pi, hj_pi, hn_pi, hi_pas, hi_pao, hr_pa, hj_pa, a1, t2]
    refine k _ (((fr.pi (Or.inr (Or.inr rfl))).pi (Or.inr (Or.inl rfl))).pi (Or.inl ⟨rfl, rfl⟩)) ?_ ?_
    · rw [← z]
      refine A.put (by omega) (by decide) (((am_fr_pi (Or.inr (Or.inr rfl))).pi (Or.inr (Or.inl rfl))).pi (Or.inl ⟨rfl, rfl⟩)) hi_s (fun k => ?_) (fun k => ?_)
      · by_cases y : k = acc.length
        · rw [if_pos y, y]; simp (disch := first | assumption | omega | (simp only [ya_pi, ya_pj, ya_pa, ya_pr, yo_pi, yo_pj, yo_pa, yf_pi, yf_pj, yf_pa, yh_pi, yh_pj, yh_pa, yt_pi, yt_pj, yt_pa, la_pi, la_pj, la_pa]; assumption)) only [hi_s, hi_o, hi_k, hr_pi, hj_pi, hn_pi, hi_pas, hi_pao, hr_pa, hj_pa]
        · rw [if_neg y]; simp (disch := first | assumption | omega | (simp only [ya_pi, ya_pj, ya_pa, ya_pr, yo_pi, yo_pj, yo_pa, yf_pi, yf_pj, yf_pa, yh_pi, yh_pj, yh_pa, yt_pi, yt_pj, yt_pa, la_pi, la_pj, la_pa]; assumption)) only [hi_s, hi_o, hi_k, hr_pi, hj_pi, hn_pi, hi_pas, hi_pao, hr_pa, hj_pa]
      · by_cases y : k = acc.length
        · rw [if_pos y, y]; simp (disch := first | assumption | omega | (simp only [ya_pi, ya_pj, ya_pa, ya_pr, yo_pi, yo_pj, yo_pa, yf_pi, yf_pj, yf_pa, yh_pi, yh_pj, yh_pa, yt_pi, yt_pj, yt_pa, la_pi, la_pj, la_pa]; assumption)) only [hi_s, hi_o, hi_k, hr_pi, hj_pi, hn_pi, hi_pas, hi_pao, hr_pa, hj_pa]
        · rw [if_neg y]; simp (disch := first | assumption | omega | (simp only [ya_pi, ya_pj, ya_pa, ya_pr, yo_pi, yo_pj, yo_pa, yf_pi, yf_pj, yf_pa, yh_pi, yh_pj, yh_pa, yt_pi, yt_pj, yt_pa, la_pi, la_pj, la_pa]; assumption)) only [hi_s, hi_o, hi_k, hr_pi, hj_pi, hn_pi, hi_pas, hi_pao, hr_pa, hj_pa]
    · rw [← z, List.length_append]
      show acc.length + 1 ≤ _
      omega
  rw [b_X8_splitText_7 _ _ _ L1]
  by_cases z : p < tx.length
  · simp (disch := first | assumption | omega | (simp only [ya_pi, ya_pj, ya_pa, ya_pr, yo_pi, yo_pj, yo_pa, yf_pi, yf_pj, yf_pa, yh_pi, yh_pj, yh_pa, yt_pi, yt_pj, yt_pa, la_pi, la_pj, la_pa]; assumption)) only [i_lit, i_m1, i_31, il_t, il_f, iq_t, iq_f, it_t, it_f, im_e, im_l, im_g, im_g2, nI_add, pk_mul, i_sub, i_div, sdm, i_dec, i_cl, iv_t, bI_or2, bI_t0, bI_one, not_true_eq_false, not_false_eq_true, ↓reduceIte, am_tl, am_tn, am_t0, am_n0, and_true, true_and, List.cons_append, List.nil_append, List.append_nil, t2]
    -- the next one
    have go : ¬ en2 acc → acc ++ tz tx p = tz tx 0 → ex_ (d + 7) 114 37 [some (v_r (some 2)), some (v_i (nI p)), l2] [] h1 Q := fun y1 y2 => by
      have c9 : ¬ 900 ≤ acc.length := by omega
      simp (disch := first | assumption | omega | (simp only [ya_pi, ya_pj, ya_pa, ya_pr, yo_pi, yo_pj, yo_pa, yf_pi, yf_pj, yf_pa, yh_pi, yh_pj, yh_pa, yt_pi, yt_pj, yt_pa, la_pi, la_pj, la_pa]; assumption)) only [b_X8_splitText_37, b_X8_splitText_47, b_X8_splitText_52, i_lit, i_m1, i_31, il_t, il_f, iq_t, iq_f, it_t, it_f, im_e, im_l, im_g, im_g2, nI_add, pk_mul, i_sub, i_div, sdm, i_dec, i_cl, iv_t, bI_or2, bI_t0, bI_one, not_true_eq_false, not_false_eq_true, ↓reduceIte, am_tl, am_tn, am_t0, am_n0, and_true, true_and, List.cons_append, List.nil_append, List.append_nil, a1, c_tokenEnd L1 T1 z]
      by_cases u : isBk (tx.getD p 0) = true
      · have n1 : nI p < nI (p + 1) := nI_lt (by omega) (by omega)
        simp (disch := first | assumption | omega | (simp only [ya_pi, ya_pj, ya_pa, ya_pr, yo_pi, yo_pj, yo_pa, yf_pi, yf_pj, yf_pa, yh_pi, yh_pj, yh_pa, yt_pi, yt_pj, yt_pa, la_pi, la_pj, la_pa]; assumption)) only [b_X8_splitText_93, i_lit, i_m1, i_31, il_t, il_f, iq_t, iq_f, it_t, it_f, im_e, im_l, im_g, im_g2, nI_add, pk_mul, i_sub, i_div, sdm, i_dec, i_cl, iv_t, bI_or2, bI_t0, bI_one, not_true_eq_false, not_false_eq_true, ↓reduceIte, am_tl, am_tn, am_t0, am_n0, and_true, true_and, List.cons_append, List.nil_append, List.append_nil, u]
        refine nx (p + 1, acc, _) h1 (by show tx.length - (p + 1) < tx.length - p; omega) ⟨fr, A, z, by show acc.length ≤ p + 1; omega, Or.inr ⟨y1, by rw [← tz_b z u]; exact y2⟩⟩
      · have uf : isBk (tx.getD p 0) = false := by simpa using u
        have g1 := tE_gt (tx := tx) (p := p)
        have g2 := tE_le (tx := tx) (p := p) z
        have n2 : ¬ tE tx p ≤ p := by omega
        have n3 : ¬ tE tx p < p + 1 := by omega
        have T2 : txA (p_i h1 4 acc.length (nI p)) tx := T1.sp (am_fr_pi (Or.inr (Or.inr rfl)))
        have L2 : Lay (p_i h1 4 acc.length (nI p)) := by simp only [ya_pi, ya_pj, ya_pa, ya_pr, yo_pi, yo_pj, yo_pa, yf_pi, yf_pj, yf_pa, yh_pi, yh_pj, yh_pa, yt_pi, yt_pj, yt_pa, la_pi, la_pj, la_pa]; exact L1
        have tl := tT_lt T.2.2.2.2 z
        have A3 : y_arr (p_i h1 4 acc.length (nI p)) 3 20 901 := la_y L2 rfl
        simp (disch := first | assumption | omega | (simp only [ya_pi, ya_pj, ya_pa, ya_pr, yo_pi, yo_pj, yo_pa, yf_pi, yf_pj, yf_pa, yh_pi, yh_pj, yh_pa, yt_pi, yt_pj, yt_pa, la_pi, la_pj, la_pa]; assumption)) only [b_X8_splitText_58, i_lit, i_m1, i_31, il_t, il_f, iq_t, iq_f, it_t, it_f, im_e, im_l, im_g, im_g2, nI_add, pk_mul, i_sub, i_div, sdm, i_dec, i_cl, iv_t, bI_or2, bI_t0, bI_one, not_true_eq_false, not_false_eq_true, ↓reduceIte, am_tl, am_tn, am_t0, am_n0, and_true, true_and, List.cons_append, List.nil_append, List.append_nil, uf, Bool.false_eq_true, a1, c_tokenOf L2 T2 z, b_X8_splitText_82, hi_s, hi_o, hi_k, hr_pi, hj_pi, hn_pi, hi_pas, hi_pao, hr_pa, hj_pa]
        refine nx (tE tx p, acc ++ [(tT tx p, p)], _) _ (by show tx.length - tE tx p < tx.length - p; omega) ⟨((fr.pi (Or.inr (Or.inr rfl))).pi (Or.inr (Or.inl rfl))).pi (Or.inl ⟨rfl, rfl⟩), ?_, g2, by rw [List.length_append]; show acc.length + 1 ≤ tE tx p; omega, ?_⟩
        · refine A.put (by omega) (by omega) (((am_fr_pi (Or.inr (Or.inr rfl))).pi (Or.inr (Or.inl rfl))).pi (Or.inl ⟨rfl, rfl⟩)) hi_s (fun k => ?_) (fun k => ?_)
          · by_cases y : k = acc.length
            · rw [if_pos y, y]; simp (disch := first | assumption | omega | (simp only [ya_pi, ya_pj, ya_pa, ya_pr, yo_pi, yo_pj, yo_pa, yf_pi, yf_pj, yf_pa, yh_pi, yh_pj, yh_pa, yt_pi, yt_pj, yt_pa, la_pi, la_pj, la_pa]; assumption)) only [hi_s, hi_o, hi_k, hr_pi, hj_pi, hn_pi, hi_pas, hi_pao, hr_pa, hj_pa]
            · rw [if_neg y]; simp (disch := first | assumption | omega | (simp only [ya_pi, ya_pj, ya_pa, ya_pr, yo_pi, yo_pj, yo_pa, yf_pi, yf_pj, yf_pa, yh_pi, yh_pj, yh_pa, yt_pi, yt_pj, yt_pa, la_pi, la_pj, la_pa]; assumption)) only [hi_s, hi_o, hi_k, hr_pi, hj_pi, hn_pi, hi_pas, hi_pao, hr_pa, hj_pa]
          · by_cases y : k = acc.length
            · rw [if_pos y, y]; simp (disch := first | assumption | omega | (simp only [ya_pi, ya_pj, ya_pa, ya_pr, yo_pi, yo_pj, yo_pa, yf_pi, yf_pj, yf_pa, yh_pi, yh_pj, yh_pa, yt_pi, yt_pj, yt_pa, la_pi, la_pj, la_pa]; assumption)) only [hi_s, hi_o, hi_k, hr_pi, hj_pi, hn_pi, hi_pas, hi_pao, hr_pa, hj_pa]
            · rw [if_neg y]; simp (disch := first | assumption | omega | (simp only [ya_pi, ya_pj, ya_pa, ya_pr, yo_pi, yo_pj, yo_pa, yf_pi, yf_pj, yf_pa, yh_pi, yh_pj, yh_pa, yt_pi, yt_pj, yt_pa, la_pi, la_pj, la_pa]; assumption)) only [hi_s, hi_o, hi_k, hr_pi, hj_pi, hn_pi, hi_pas, hi_pao, hr_pa, hj_pa]
        · have el : tK (acc ++ [(tT tx p, p)]) ((acc ++ [(tT tx p, p)]).length - 1) = tT tx p := by
            rw [List.length_append]
            exact tk_last.1
          by_cases w : tT tx p = 2
          · refine Or.inl ⟨⟨by rw [List.length_append]; exact Nat.succ_pos _, by rw [el]; exact w⟩, ?_⟩
            rw [← y2, tz_2 z uf w, w, List.append_assoc]; rfl
          · refine Or.inr ⟨fun v => w (by rw [← el]; exact v.2), ?_⟩
            rw [← y2, tz_t z uf w, List.append_assoc]; rfl
    by_cases y : acc.length = 0
    · simp (disch := first | assumption | omega | (simp only [ya_pi, ya_pj, ya_pa, ya_pr, yo_pi, yo_pj, yo_pa, yf_pi, yf_pj, yf_pa, yh_pi, yh_pj, yh_pa, yt_pi, yt_pj, yt_pa, la_pi, la_pj, la_pa]; assumption)) only [b_X8_splitText_15, i_lit, i_m1, i_31, il_t, il_f, iq_t, iq_f, it_t, it_f, im_e, im_l, im_g, im_g2, nI_add, pk_mul, i_sub, i_div, sdm, i_dec, i_cl, iv_t, bI_or2, bI_t0, bI_one, not_true_eq_false, not_false_eq_true, ↓reduceIte, am_tl, am_tn, am_t0, am_n0, and_true, true_and, List.cons_append, List.nil_append, List.append_nil, a1, y]
      have ne : ¬ en2 acc := fun v => by have := v.1; omega
      rcases hz with ⟨v, -⟩ | ⟨-, v⟩
      · exact absurd v ne
      · exact go ne v
    · have b1 := (A.2.2.1 (acc.length - 1) (by omega)).1
      have b2 := A.2.2.2 (acc.length - 1)
      simp (disch := first | assumption | omega | (simp only [ya_pi, ya_pj, ya_pa, ya_pr, yo_pi, yo_pj, yo_pa, yf_pi, yf_pj, yf_pa, yh_pi, yh_pj, yh_pa, yt_pi, yt_pj, yt_pa, la_pi, la_pj, la_pa]; assumption)) only [b_X8_splitText_15, b_X8_splitText_22, i_lit, i_m1, i_31, il_t, il_f, iq_t, iq_f, it_t, it_f, im_e, im_l, im_g, im_g2, nI_add, pk_mul, i_sub, i_div, sdm, i_dec, i_cl, iv_t, bI_or2, bI_t0, bI_one, not_true_eq_false, not_false_eq_true, ↓reduceIte, am_tl, am_tn, am_t0, am_n0, and_true, true_and, List.cons_append, List.nil_append, List.append_nil, a1, b1]
      rcases hz with ⟨v, w⟩ | ⟨v, w⟩
      · have v2 := v.2
        simp (disch := first | assumption | omega | (simp only [ya_pi, ya_pj, ya_pa, ya_pr, yo_pi, yo_pj, yo_pa, yf_pi, yf_pj, yf_pa, yh_pi, yh_pj, yh_pa, yt_pi, yt_pj, yt_pa, la_pi, la_pj, la_pa]; assumption)) only [i_lit, i_m1, i_31, il_t, il_f, iq_t, iq_f, it_t, it_f, im_e, im_l, im_g, im_g2, nI_add, pk_mul, i_sub, i_div, sdm, i_dec, i_cl, iv_t, bI_or2, bI_t0, bI_one, not_true_eq_false, not_false_eq_true, ↓reduceIte, am_tl, am_tn, am_t0, am_n0, and_true, true_and, List.cons_append, List.nil_append, List.append_nil]
        exact fin w
      · have v2 : ¬ tK acc (acc.length - 1) = 2 := fun u => v ⟨by omega, u⟩
        simp (disch := first | assumption | omega | (simp only [ya_pi, ya_pj, ya_pa, ya_pr, yo_pi, yo_pj, yo_pa, yf_pi, yf_pj, yf_pa, yh_pi, yh_pj, yh_pa, yt_pi, yt_pj, yt_pa, la_pi, la_pj, la_pa]; assumption)) only [i_lit, i_m1, i_31, il_t, il_f, iq_t, iq_f, it_t, it_f, im_e, im_l, im_g, im_g2, nI_add, pk_mul, i_sub, i_div, sdm, i_dec, i_cl, iv_t, bI_or2, bI_t0, bI_one, not_true_eq_false, not_false_eq_true, ↓reduceIte, am_tl, am_tn, am_t0, am_n0, and_true, true_and, List.cons_append, List.nil_append, List.append_nil]
        exact go v w
  · simp (disch := first | assumption | omega | (simp only [ya_pi, ya_pj, ya_pa, ya_pr, yo_pi, yo_pj, yo_pa, yf_pi, yf_pj, yf_pa, yh_pi, yh_pj, yh_pa, yt_pi, yt_pj, yt_pa, la_pi, la_pj, la_pa]; assumption)) only [i_lit, i_m1, i_31, il_t, il_f, iq_t, iq_f, it_t, it_f, im_e, im_l, im_g, im_g2, nI_add, pk_mul, i_sub, i_div, sdm, i_dec, i_cl, iv_t, bI_or2, bI_t0, bI_one, not_true_eq_false, not_false_eq_true, ↓reduceIte, am_tl, am_tn, am_t0, am_n0, and_true, true_and, List.cons_append, List.nil_append, List.append_nil, t2]
    rcases hz with ⟨-, w⟩ | ⟨-, w⟩
    · exact fin w
    · refine fin ?_
      rw [tz_e (show tx.length ≤ p by omega)] at w
      exact w
