/-! ===== the reference goes to the next token ===== -/
def nxP (q k : Nat) : Prop := q = 93 ∧ (k = 6 ∨ k = 7 ∨ k = 9 ∨ k = 10)
theorem rtx.fr {h h' : am_H} {P : Nat → Nat → Prop} {tx : List Nat} (T : rtx h tx) (fr : am_fr h h' P) (h1 : ¬ P 93 8) (h2 : ∀ k, ¬ P 96 k) : rtx h' tx := ⟨by rw [fr.i h1]; exact T.1, T.2.1, fun k hk => by rw [fr.i (h2 k)]; exact T.2.2.1 k hk, T.2.2.2⟩
theorem rtx.nx {h h' : am_H} {tx : List Nat} (T : rtx h tx) (fr : am_fr h h' nxP) : rtx h' tx := T.fr fr (fun z => by unfold nxP at z; omega) (fun k z => by unfold nxP at z; omega)
theorem dr_c {ts r : List (Nat × Nat)} {a : Nat × Nat} : ∀ {j : Nat}, ts.drop j = a :: r → j < ts.length ∧ ts.getD j (1, 0) = a ∧ ts.drop (j + 1) = r := by
  intro j h
  have hl : j < ts.length := by
    apply Nat.lt_of_not_le
    intro z
    rw [List.drop_eq_nil_of_le z] at h
    cases h
  rw [List.drop_eq_getElem_cons hl] at h
  cases h
  refine ⟨hl, ?_, rfl⟩
  rw [List.getD_eq_getElem?_getD, List.getElem?_eq_getElem hl]; rfl
/-- the blanks -/
theorem n_blank {d : Nat} {Q : Option am_V → am_H → Prop} {h : am_H} {tx : List Nat} {b : Nat} {l1 : Option am_V} (L : Lay h) (T : rtx h tx) (e7 : h_i h 93 7 = nI b) (hb : b ≤ tx.length) (k : ∀ h', am_fr h h' nxP → h_i h' 93 6 = nI (rn tx isBk b) → h_i h' 93 7 = nI (rn tx isBk b) → (if rn tx isBk b < tx.length then ex_ (d + 1) 237 75 [some (v_r (some 93)), l1] [] h' Q else ex_ (d + 1) 237 66 [some (v_r (some 93)), l1] [] h' Q)) : ex_ (d + 1) 237 0 [some (v_r (some 93)), l1] [] h Q := by
  have t2 := T.2.1
  rw [b_X12_next_0 _ _ L, e7]
  refine lp_wf (d := d + 1) (k := 237) (pc := 8) (fun x : Nat => tx.length - x) (fun _ => [some (v_r (some 93)), l1]) (fun x h1 => am_fr h h1 nxP ∧ h_i h1 93 6 = nI x ∧ x ≤ tx.length ∧ rn tx isBk x = rn tx isBk b) ?_ (s := b) ⟨am_fr_pi ⟨rfl, by omega⟩, hi_s, hb, rfl⟩
  rintro x h1 ⟨fr, e6, hx, er⟩ nx
  have L1 := fr.lay L
  have T1 := T.nx fr
  rw [b_X12_next_8 _ _ L1, e6, c_see L1 T1 (by omega)]
  show ex_ (d + 1) 237 16 [some (v_r (some 93)), l1] [v_i (if x < tx.length then nI (tx.getD x 0) else mI)] h1 Q
  have out : rn tx isBk b = x → ex_ (d + 1) 237 47 [some (v_r (some 93)), l1] [] h1 Q := fun e => by
    have fr2 : am_fr h (p_i h1 93 7 (nI x)) nxP := fr.pi ⟨rfl, by omega⟩
    have u6 : h_i (p_i h1 93 7 (nI x)) 93 6 = nI x := by simp (disch := first | assumption | omega | (simp only [ya_pi, ya_pj, ya_pa, ya_pr, yo_pi, yo_pj, yo_pa, yf_pi, yf_pj, yf_pa, yh_pi, yh_pj, yh_pa, yt_pi, yt_pj, yt_pa, la_pi, la_pj, la_pa]; assumption)) only [hi_s, hi_o, hi_k, hr_pi, hj_pi, hn_pi, hi_pas, hi_pao, hr_pa, hj_pa]; exact e6
    have u8 : h_i (p_i h1 93 7 (nI x)) 93 8 = nI tx.length := (T.nx fr2).1
    have := k _ fr2 (by rw [e]; exact u6) (by rw [e]; exact hi_s)
    rw [b_X12_next_47 _ _ L1, e6, u6, u8]
    rw [e] at this
    by_cases w : x < tx.length
    · rw [if_pos w] at this
      rw [if_pos (nI_lt w (by omega))]
      exact this
    · rw [if_neg w] at this
      rw [if_neg (nI_nlt (by omega) (by omega))]
      exact this
  by_cases z : x < tx.length
  · have bb := T1.2.2.2 _ (gd_mem z)
    rw [if_pos z]
    have go : isBk (tx.getD x 0) = true → ex_ (d + 1) 237 34 [some (v_r (some 93)), l1] [] h1 Q := fun y => by
      rw [b_X12_next_34 _ _ L1, e6, show nI x + 1 = nI (x + 1) from nI_add x 1]
      exact nx (x + 1) _ (by omega) ⟨fr.pi ⟨rfl, by omega⟩, hi_s, by omega, by rw [← er, rn_y z y]⟩
    by_cases y : tx.getD x 0 = 10
    · have : isBk (tx.getD x 0) = true := by rw [y]; rfl
      have g := go this
      simp (disch := first | assumption | omega | (simp only [ya_pi, ya_pj, ya_pa, ya_pr, yo_pi, yo_pj, yo_pa, yf_pi, yf_pj, yf_pa, yh_pi, yh_pj, yh_pa, yt_pi, yt_pj, yt_pa, la_pi, la_pj, la_pa]; assumption)) only [b_X12_next_16, i_lit, i_m1, i_31, il_t, il_f, iq_t, iq_f, it_t, it_f, im_e, im_l, im_g, im_g2, nI_add, pk_mul, i_sub, i_div, sdm, i_dec, i_cl, iv_t, bI_or2, bI_t0, bI_one, not_true_eq_false, not_false_eq_true, ↓reduceIte, am_tl, am_tn, am_t0, am_n0, and_true, true_and, List.cons_append, List.nil_append, List.append_nil, y]
      exact g
    · have y2 : ¬ nI (tx.getD x 0) = 10 := fun w => y (nI_inj (by omega) (by decide) w)
      rw [b_X12_next_16 _ _ _ _, if_neg y2, b_X12_next_21 _ _ L1, e6, c_see L1 T1 (by omega)]
      show ex_ (d + 1) 237 29 [some (v_r (some 93)), l1] [v_i (if x < tx.length then nI (tx.getD x 0) else mI)] h1 Q
      rw [if_pos z]
      by_cases w : tx.getD x 0 = 32
      · have : isBk (tx.getD x 0) = true := by rw [w]; rfl
        have g := go this
        have w2 : ¬ ¬ nI (tx.getD x 0) = 32 := fun u => u (by rw [w]; rfl)
        rw [b_X12_next_29 _ _ _ _, if_neg w2]
        exact g
      · have w2 : ¬ nI (tx.getD x 0) = 32 := fun u => w (nI_inj (by omega) (by decide) u)
        rw [b_X12_next_29 _ _ _ _, if_pos w2]
        refine out ?_
        rw [← er]
        exact rn_n (by unfold isBk; rw [beq_eq_false_iff_ne.2 w, beq_eq_false_iff_ne.2 y]; rfl)
  · rw [if_neg z]
    have m1 : ¬ mI = 10 := by decide
    have m2 : ¬ mI = 32 := by decide
    rw [b_X12_next_16 _ _ _ _, if_neg m1, b_X12_next_21 _ _ L1, e6, c_see L1 T1 (by omega)]
    show ex_ (d + 1) 237 29 [some (v_r (some 93)), l1] [v_i (if x < tx.length then nI (tx.getD x 0) else mI)] h1 Q
    rw [if_neg z, b_X12_next_29 _ _ _ _, if_pos m2]
    refine out ?_
    rw [← er]
    exact rn_e (by omega)
/-- a run of letters -/
theorem n_word {d : Nat} {Q : Option am_V → am_H → Prop} {h : am_H} {tx : List Nat} {p y : Nat} {l1 : Option am_V} (L : Lay h) (T : rtx h tx) (e6 : h_i h 93 6 = nI p) (e7 : h_i h 93 7 = nI y) (hy : y ≤ tx.length) (hp : p < rn tx isLb y) (k : ∀ h', am_fr h h' nxP → h_i h' 93 6 = nI p → h_i h' 93 7 = nI (rn tx isLb y) → h_i h' 93 9 = nI (rkW tx p (rn tx isLb y)) → Q none h') : ex_ (d + 5) 237 89 [some (v_r (some 93)), l1] [] h Q := by
  have t2 := T.2.1
  refine lp_wf (d := d + 5) (k := 237) (pc := 89) (fun x : Nat => tx.length - x) (fun _ => [some (v_r (some 93)), l1]) (fun x h1 => am_fr h h1 nxP ∧ h_i h1 93 6 = nI p ∧ h_i h1 93 7 = nI x ∧ x ≤ tx.length ∧ rn tx isLb x = rn tx isLb y) ?_ (s := y) ⟨am_fr.rf, e6, e7, hy, rfl⟩
  rintro x h1 ⟨fr, e6, e7, hx, er⟩ nx
  have L1 := fr.lay L
  have T1 := T.nx fr
  rw [b_X12_next_89 _ _ L1, e7, c_see L1 T1 (by omega)]
  show ex_ (d + 5) 237 97 [some (v_r (some 93)), l1] [v_i (if x < tx.length then nI (tx.getD x 0) else mI)] h1 Q
  rw [b_X12_next_97 _ _ _ _, c_rSmall T1]
  show ex_ (d + 5) 237 100 [some (v_r (some 93)), l1] [v_i (nI (if atB tx isLb x = true then 1 else 0))] h1 Q
  by_cases z : atB tx isLb x = true
  · have z2 : x < tx.length ∧ isLb (tx.getD x 0) = true := by
      unfold atB at z
      rw [Bool.and_eq_true, decide_eq_true_eq] at z
      exact z
    have n1 : ¬ nI 1 = 0 := by decide
    rw [if_pos z, b_X12_next_100 _ _ _ _, if_neg n1, b_X12_next_103 _ _ L1, e7, show nI x + 1 = nI (x + 1) from nI_add x 1]
    exact nx (x + 1) _ (by omega) ⟨fr.pi ⟨rfl, by omega⟩, by simp (disch := first | assumption | omega | (simp only [ya_pi, ya_pj, ya_pa, ya_pr, yo_pi, yo_pj, yo_pa, yf_pi, yf_pj, yf_pa, yh_pi, yh_pj, yh_pa, yt_pi, yt_pj, yt_pa, la_pi, la_pj, la_pa]; assumption)) only [hi_s, hi_o, hi_k, hr_pi, hj_pi, hn_pi, hi_pas, hi_pao, hr_pa, hj_pa]; exact e6, hi_s, by omega, by rw [← er, rn_y z2.1 z2.2]⟩
  · have ex : rn tx isLb y = x := by
      rw [← er]
      by_cases w : x < tx.length
      · refine rn_n ?_
        unfold atB at z
        rw [decide_eq_true w, Bool.true_and] at z
        simpa using z
      · exact rn_e (by omega)
    have n1 : nI 0 = 0 := rfl
    rw [if_neg z, b_X12_next_100 _ _ _ _, if_pos n1, b_X12_next_116 _ _ L1, c_keyAt L1 T1 e6 e7 (by omega) hx]
    show ex_ (d + 5) 237 121 [some (v_r (some 93)), l1] [v_i (nI (rkW tx p x)), v_r (some 93)] h1 Q
    rw [b_X12_next_121 _ _ _ _ L1]
    exact k _ (fr.pi ⟨rfl, by omega⟩) (by simp (disch := first | assumption | omega | (simp only [ya_pi, ya_pj, ya_pa, ya_pr, yo_pi, yo_pj, yo_pa, yf_pi, yf_pj, yf_pa, yh_pi, yh_pj, yh_pa, yt_pi, yt_pj, yt_pa, la_pi, la_pj, la_pa]; assumption)) only [hi_s, hi_o, hi_k, hr_pi, hj_pi, hn_pi, hi_pas, hi_pao, hr_pa, hj_pa]; exact e6) (by rw [ex]; simp (disch := first | assumption | omega | (simp only [ya_pi, ya_pj, ya_pa, ya_pr, yo_pi, yo_pj, yo_pa, yf_pi, yf_pj, yf_pa, yh_pi, yh_pj, yh_pa, yt_pi, yt_pj, yt_pa, la_pi, la_pj, la_pa]; assumption)) only [hi_s, hi_o, hi_k, hr_pi, hj_pi, hn_pi, hi_pas, hi_pao, hr_pa, hj_pa]; exact e7) (by rw [ex]; exact hi_s)
