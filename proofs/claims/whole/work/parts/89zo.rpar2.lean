/-! ===== the reference reads laws: codes, words, depth; and when something is wrong ===== -/
theorem rTk.fr {h h' : am_H} {P : Nat → Nat → Prop} {tx : List Nat} {ts : List (Nat × Nat)} {i : Nat} (R : rTk h tx ts i) (fr : am_fr h h' P) (h1 : ∀ k, 6 ≤ k → k ≤ 10 → ¬ P 93 k) (h2 : ∀ k, ¬ P 96 k) : rTk h' tx ts i := by
  obtain ⟨L, T, e6, e9, e10, hi, b, e7, hb, hz⟩ := R
  exact ⟨fr.lay L, T.fr fr (h1 8 (by omega) (by omega)) h2, by rw [fr.i (h1 6 (by omega) (by omega))]; exact e6, by rw [fr.i (h1 9 (by omega) (by omega))]; exact e9, fun z => by rw [fr.i (h1 10 (by omega) (by omega))]; exact e10 z, hi, b, by rw [fr.i (h1 7 (by omega) (by omega))]; exact e7, hb, hz⟩
theorem rcA.nx {h h' : am_H} {cs : List Nat} (C : rcA h cs) (fr : am_fr h h' nxP) : rcA h' cs := ⟨by rw [fr.i (fun z => by unfold nxP at z; omega)]; exact C.1, C.2.1, fun k hk => by rw [fr.i (fun z => by unfold nxP at z; omega)]; exact C.2.2 k hk⟩
theorem rgS.nx {h h' : am_H} {tx : List Nat} {ts : List (Nat × Nat)} {sy : Bool} {i j : Nat} {cs : List Nat} (S : rgS h tx ts sy i cs) (fr : am_fr h h' nxP) (R : rTk h' tx ts j) : rgS h' tx ts sy j cs := ⟨R, S.2.1.nx fr, by rw [fr.i (fun z => by unfold nxP at z; omega)]; exact S.2.2.1, by rw [fr.i (fun z => by unfold nxP at z; omega)]; exact S.2.2.2⟩
theorem c_codes {d : Nat} {Q : Option am_V → am_H → Prop} {h : am_H} {tx : List Nat} {ts : List (Nat × Nat)} {sy : Bool} {i c : Nat} {cs : List Nat} (S : rgS h tx ts sy i cs) (hc : cs.length < 900) (k : ∀ h', am_fr h h' rgP → rgS h' tx ts sy i (cs ++ [c]) → Q none h') : ex_ d 244 0 [some (v_r (some 93)), some (v_i (nI c))] [] h Q := by
  obtain ⟨R, ⟨c1, c2, c3⟩, e15, e11⟩ := S
  have L := R.1
  simp (disch := first | assumption | omega | (simp only [ya_pi, ya_pj, ya_pa, ya_pr, yo_pi, yo_pj, yo_pa, yf_pi, yf_pj, yf_pa, yh_pi, yh_pj, yh_pa, yt_pi, yt_pj, yt_pa, la_pi, la_pj, la_pa]; assumption)) only [b_X12_codes_0, b_X12_codes_8, b_X12_codes_7, i_lit, i_m1, i_31, il_t, il_f, iq_t, iq_f, it_t, it_f, im_e, im_l, im_g, im_g2, nI_add, pk_mul, i_sub, i_div, sdm, i_dec, i_cl, iv_t, bI_or2, bI_t0, bI_one, not_true_eq_false, not_false_eq_true, ↓reduceIte, am_tl, am_tn, am_t0, am_n0, and_true, true_and, List.cons_append, List.nil_append, List.append_nil, hi_s, hi_o, hi_k, hr_pi, hj_pi, hn_pi, hi_pas, hi_pao, hr_pa, hj_pa, e11, c1]
  have fr : am_fr h (p_i (p_i h 97 (1451 + cs.length) (nI c)) 97 1450 (nI (cs.length + 1))) (fun q k => q = 97 ∧ 1450 ≤ k) := (am_fr_pi ⟨rfl, by omega⟩).pi ⟨rfl, by omega⟩
  refine k _ (fr.le (fun _ _ z => Or.inr z)) ⟨R.fr fr (fun k h1 h2 => by omega) (fun k => by omega), ⟨by rw [hi_s, List.length_append]; rfl, by rw [List.length_append]; show cs.length + 1 ≤ 900; omega, fun j hj => ?_⟩, by rw [fr.i (by omega)]; exact e15, by rw [fr.i (by omega)]; exact e11⟩
  rw [List.length_append] at hj
  have hj : j < cs.length + 1 := hj
  rw [gd_app]
  by_cases z : j = cs.length
  · rw [if_neg (by omega), if_pos z, z]
    simp (disch := first | assumption | omega | (simp only [ya_pi, ya_pj, ya_pa, ya_pr, yo_pi, yo_pj, yo_pa, yf_pi, yf_pj, yf_pa, yh_pi, yh_pj, yh_pa, yt_pi, yt_pj, yt_pa, la_pi, la_pj, la_pa]; assumption)) only [hi_s, hi_o, hi_k, hr_pi, hj_pi, hn_pi, hi_pas, hi_pao, hr_pa, hj_pa]
  · rw [if_pos (by omega)]
    simp (disch := first | assumption | omega | (simp only [ya_pi, ya_pj, ya_pa, ya_pr, yo_pi, yo_pj, yo_pa, yf_pi, yf_pj, yf_pa, yh_pi, yh_pj, yh_pa, yt_pi, yt_pj, yt_pa, la_pi, la_pj, la_pa]; assumption)) only [hi_s, hi_o, hi_k, hr_pi, hj_pi, hn_pi, hi_pas, hi_pao, hr_pa, hj_pa]
    exact c3 j (by omega)
theorem c_codesX {d : Nat} {Q : Option am_V → am_H → Prop} {h : am_H} {ts : List (Nat × Nat)} {e j : Nat} (X : rgX h ts e j) {v : Int32} : ex_ d 244 0 [some (v_r (some 93)), some (v_i v)] [] h Q ↔ Q none h := by
  have L := X.1
  have w := X.2.1
  have e0 := X.2.2.1
  have e4 := X.2.2.2.1
  simp (disch := first | assumption | omega | (simp only [ya_pi, ya_pj, ya_pa, ya_pr, yo_pi, yo_pj, yo_pa, yf_pi, yf_pj, yf_pa, yh_pi, yh_pj, yh_pa, yt_pi, yt_pj, yt_pa, la_pi, la_pj, la_pa]; assumption)) only [b_X12_codes_0, b_X12_codes_7, i_lit, i_m1, i_31, il_t, il_f, iq_t, iq_f, it_t, it_f, im_e, im_l, im_g, im_g2, nI_add, pk_mul, i_sub, i_div, sdm, i_dec, i_cl, iv_t, bI_or2, bI_t0, bI_one, not_true_eq_false, not_false_eq_true, ↓reduceIte, am_tl, am_tn, am_t0, am_n0, and_true, true_and, List.cons_append, List.nil_append, List.append_nil, w]
theorem c_wordOf {d : Nat} {Q : Option am_V → am_H → Prop} {h : am_H} {ts : List (Nat × Nat)} {sy : Bool} {i : Nat} (L : Lay h) (e15 : h_i h 93 15 = nI (if sy = true then 0 else 1)) : ex_ d 243 0 [some (v_r (some 93)), some (v_i (nI (rk (tK ts i))))] [] h Q ↔ Q (some (v_i (oI (wO sy (tK ts i))))) h := by
  have rb := (rk_25 (t := tK ts i)).2.2.2
  have r1 := rk_k (t := tK ts i) (k := 1) (by decide) (by decide)
  have r3 := rk_k (t := tK ts i) (k := 3) (by decide) (by decide)
  have r4 := rk_k (t := tK ts i) (k := 4) (by decide) (by decide)
  have r6 := rk_k (t := tK ts i) (k := 6) (by decide) (by decide)
  have r13 := rk_k (t := tK ts i) (k := 13) (by decide) (by decide)
  have r14 := rk_k (t := tK ts i) (k := 14) (by decide) (by decide)
  have k1 : kT 1 = 201 ∧ kT 3 = 203 ∧ kT 4 = 204 ∧ kT 6 = 206 ∧ kT 13 = 213 ∧ kT 14 = 214 := by decide
  rw [k1.1] at r1
  rw [k1.2.1] at r3
  rw [k1.2.2.1] at r4
  rw [k1.2.2.2.1] at r6
  rw [k1.2.2.2.2.1] at r13
  rw [k1.2.2.2.2.2] at r14
  generalize rk (tK ts i) = r at *
  generalize tK ts i = t at *
  by_cases a1 : t = 201
  · have b := r1.2 a1
    subst b a1
    simp (disch := first | assumption | omega | (simp only [ya_pi, ya_pj, ya_pa, ya_pr, yo_pi, yo_pj, yo_pa, yf_pi, yf_pj, yf_pa, yh_pi, yh_pj, yh_pa, yt_pi, yt_pj, yt_pa, la_pi, la_pj, la_pa]; assumption)) only [b_X12_wordOf_0, b_X12_wordOf_78, i_lit, i_m1, i_31, il_t, il_f, iq_t, iq_f, it_t, it_f, im_e, im_l, im_g, im_g2, nI_add, pk_mul, i_sub, i_div, sdm, i_dec, i_cl, iv_t, bI_or2, bI_t0, bI_one, not_true_eq_false, not_false_eq_true, ↓reduceIte, am_tl, am_tn, am_t0, am_n0, and_true, true_and, List.cons_append, List.nil_append, List.append_nil]
    cases sy <;> exact Iff.rfl
  · have b1 : ¬ r = 1 := fun u => a1 (r1.1 u)
    by_cases a3 : t = 203
    · have b := r3.2 a3
      subst b a3
      simp (disch := first | assumption | omega | (simp only [ya_pi, ya_pj, ya_pa, ya_pr, yo_pi, yo_pj, yo_pa, yf_pi, yf_pj, yf_pa, yh_pi, yh_pj, yh_pa, yt_pi, yt_pj, yt_pa, la_pi, la_pj, la_pa]; assumption)) only [b_X12_wordOf_0, b_X12_wordOf_72, i_lit, i_m1, i_31, il_t, il_f, iq_t, iq_f, it_t, it_f, im_e, im_l, im_g, im_g2, nI_add, pk_mul, i_sub, i_div, sdm, i_dec, i_cl, iv_t, bI_or2, bI_t0, bI_one, not_true_eq_false, not_false_eq_true, ↓reduceIte, am_tl, am_tn, am_t0, am_n0, and_true, true_and, List.cons_append, List.nil_append, List.append_nil]
      cases sy <;> exact Iff.rfl
    · have b3 : ¬ r = 3 := fun u => a3 (r3.1 u)
      by_cases a4 : t = 204
      · have b := r4.2 a4
        subst b a4
        simp (disch := first | assumption | omega | (simp only [ya_pi, ya_pj, ya_pa, ya_pr, yo_pi, yo_pj, yo_pa, yf_pi, yf_pj, yf_pa, yh_pi, yh_pj, yh_pa, yt_pi, yt_pj, yt_pa, la_pi, la_pj, la_pa]; assumption)) only [b_X12_wordOf_0, b_X12_wordOf_74, i_lit, i_m1, i_31, il_t, il_f, iq_t, iq_f, it_t, it_f, im_e, im_l, im_g, im_g2, nI_add, pk_mul, i_sub, i_div, sdm, i_dec, i_cl, iv_t, bI_or2, bI_t0, bI_one, not_true_eq_false, not_false_eq_true, ↓reduceIte, am_tl, am_tn, am_t0, am_n0, and_true, true_and, List.cons_append, List.nil_append, List.append_nil]
        cases sy <;> exact Iff.rfl
      · have b4 : ¬ r = 4 := fun u => a4 (r4.1 u)
        by_cases a6 : t = 206
        · have b := r6.2 a6
          subst b a6
          cases sy with
          | true =>
            have e15 : h_i h 93 15 = nI 0 := e15
            simp (disch := first | assumption | omega | (simp only [ya_pi, ya_pj, ya_pa, ya_pr, yo_pi, yo_pj, yo_pa, yf_pi, yf_pj, yf_pa, yh_pi, yh_pj, yh_pa, yt_pi, yt_pj, yt_pa, la_pi, la_pj, la_pa]; assumption)) only [b_X12_wordOf_0, b_X12_wordOf_80, b_X12_wordOf_87, i_lit, i_m1, i_31, il_t, il_f, iq_t, iq_f, it_t, it_f, im_e, im_l, im_g, im_g2, nI_add, pk_mul, i_sub, i_div, sdm, i_dec, i_cl, iv_t, bI_or2, bI_t0, bI_one, not_true_eq_false, not_false_eq_true, ↓reduceIte, am_tl, am_tn, am_t0, am_n0, and_true, true_and, List.cons_append, List.nil_append, List.append_nil, e15]
            exact Iff.rfl
          | false =>
            have e15 : h_i h 93 15 = nI 1 := e15
            simp (disch := first | assumption | omega | (simp only [ya_pi, ya_pj, ya_pa, ya_pr, yo_pi, yo_pj, yo_pa, yf_pi, yf_pj, yf_pa, yh_pi, yh_pj, yh_pa, yt_pi, yt_pj, yt_pa, la_pi, la_pj, la_pa]; assumption)) only [b_X12_wordOf_0, b_X12_wordOf_80, b_X12_wordOf_91, i_lit, i_m1, i_31, il_t, il_f, iq_t, iq_f, it_t, it_f, im_e, im_l, im_g, im_g2, nI_add, pk_mul, i_sub, i_div, sdm, i_dec, i_cl, iv_t, bI_or2, bI_t0, bI_one, not_true_eq_false, not_false_eq_true, ↓reduceIte, am_tl, am_tn, am_t0, am_n0, and_true, true_and, List.cons_append, List.nil_append, List.append_nil, e15]
            exact Iff.rfl
        · have b6 : ¬ r = 6 := fun u => a6 (r6.1 u)
          by_cases a13 : t = 213
          · have b := r13.2 a13
            subst b a13
            simp (disch := first | assumption | omega | (simp only [ya_pi, ya_pj, ya_pa, ya_pr, yo_pi, yo_pj, yo_pa, yf_pi, yf_pj, yf_pa, yh_pi, yh_pj, yh_pa, yt_pi, yt_pj, yt_pa, la_pi, la_pj, la_pa]; assumption)) only [b_X12_wordOf_0, b_X12_wordOf_76, i_lit, i_m1, i_31, il_t, il_f, iq_t, iq_f, it_t, it_f, im_e, im_l, im_g, im_g2, nI_add, pk_mul, i_sub, i_div, sdm, i_dec, i_cl, iv_t, bI_or2, bI_t0, bI_one, not_true_eq_false, not_false_eq_true, ↓reduceIte, am_tl, am_tn, am_t0, am_n0, and_true, true_and, List.cons_append, List.nil_append, List.append_nil]
            cases sy <;> exact Iff.rfl
          · have b13 : ¬ r = 13 := fun u => a13 (r13.1 u)
            by_cases a14 : t = 214
            · have b := r14.2 a14
              subst b a14
              cases sy with
              | true =>
                have e15 : h_i h 93 15 = nI 0 := e15
                simp (disch := first | assumption | omega | (simp only [ya_pi, ya_pj, ya_pa, ya_pr, yo_pi, yo_pj, yo_pa, yf_pi, yf_pj, yf_pa, yh_pi, yh_pj, yh_pa, yt_pi, yt_pj, yt_pa, la_pi, la_pj, la_pa]; assumption)) only [b_X12_wordOf_0, b_X12_wordOf_93, b_X12_wordOf_100, i_lit, i_m1, i_31, il_t, il_f, iq_t, iq_f, it_t, it_f, im_e, im_l, im_g, im_g2, nI_add, pk_mul, i_sub, i_div, sdm, i_dec, i_cl, iv_t, bI_or2, bI_t0, bI_one, not_true_eq_false, not_false_eq_true, ↓reduceIte, am_tl, am_tn, am_t0, am_n0, and_true, true_and, List.cons_append, List.nil_append, List.append_nil, e15]
                exact Iff.rfl
              | false =>
                have e15 : h_i h 93 15 = nI 1 := e15
                simp (disch := first | assumption | omega | (simp only [ya_pi, ya_pj, ya_pa, ya_pr, yo_pi, yo_pj, yo_pa, yf_pi, yf_pj, yf_pa, yh_pi, yh_pj, yh_pa, yt_pi, yt_pj, yt_pa, la_pi, la_pj, la_pa]; assumption)) only [b_X12_wordOf_0, b_X12_wordOf_93, b_X12_wordOf_104, i_lit, i_m1, i_31, il_t, il_f, iq_t, iq_f, it_t, it_f, im_e, im_l, im_g, im_g2, nI_add, pk_mul, i_sub, i_div, sdm, i_dec, i_cl, iv_t, bI_or2, bI_t0, bI_one, not_true_eq_false, not_false_eq_true, ↓reduceIte, am_tl, am_tn, am_t0, am_n0, and_true, true_and, List.cons_append, List.nil_append, List.append_nil, e15]
                exact Iff.rfl
            · have b14 : ¬ r = 14 := fun u => a14 (r14.1 u)
              have wn : wO sy t = none := by unfold wO; rw [if_neg a3, if_neg a4, if_neg a13, if_neg a1, if_neg a6, if_neg a14]
              rw [wn]
              simp (disch := first | assumption | omega | (simp only [ya_pi, ya_pj, ya_pa, ya_pr, yo_pi, yo_pj, yo_pa, yf_pi, yf_pj, yf_pa, yh_pi, yh_pj, yh_pa, yt_pi, yt_pj, yt_pa, la_pi, la_pj, la_pa]; assumption)) only [b_X12_wordOf_0, b_X12_wordOf_106, i_lit, i_m1, i_31, il_t, il_f, iq_t, iq_f, it_t, it_f, im_e, im_l, im_g, im_g2, nI_add, pk_mul, i_sub, i_div, sdm, i_dec, i_cl, iv_t, bI_or2, bI_t0, bI_one, not_true_eq_false, not_false_eq_true, ↓reduceIte, am_tl, am_tn, am_t0, am_n0, and_true, true_and, List.cons_append, List.nil_append, List.append_nil, ite_self]
              exact Iff.rfl
theorem c_goesX {d : Nat} {Q : Option am_V → am_H → Prop} {h : am_H} {ts : List (Nat × Nat)} {e j m : Nat} (X : rgX h ts e j) (hm : m < 100) : ex_ (d + 1) 245 0 [some (v_r (some 93)), some (v_i (nI m))] [] h Q ↔ Q (some (v_i (nI 0))) h := by
  have L := X.1
  have w := X.2.1
  have e0 := X.2.2.1
  have e4 := X.2.2.2.1
  by_cases z : m = 6
  · simp (disch := first | assumption | omega | (simp only [ya_pi, ya_pj, ya_pa, ya_pr, yo_pi, yo_pj, yo_pa, yf_pi, yf_pj, yf_pa, yh_pi, yh_pj, yh_pa, yt_pi, yt_pj, yt_pa, la_pi, la_pj, la_pa]; assumption)) only [b_X12_goesIn_0, b_X12_goesIn_11, b_X12_goesIn_6, b_X12_goesIn_22, b_X12_goesIn_18, b_X12_goesIn_33, b_X12_goesIn_29, i_lit, i_m1, i_31, il_t, il_f, iq_t, iq_f, it_t, it_f, im_e, im_l, im_g, im_g2, nI_add, pk_mul, i_sub, i_div, sdm, i_dec, i_cl, iv_t, bI_or2, bI_t0, bI_one, not_true_eq_false, not_false_eq_true, ↓reduceIte, am_tl, am_tn, am_t0, am_n0, and_true, true_and, List.cons_append, List.nil_append, List.append_nil, z, c_failsX X, w]
  · simp (disch := first | assumption | omega | (simp only [ya_pi, ya_pj, ya_pa, ya_pr, yo_pi, yo_pj, yo_pa, yf_pi, yf_pj, yf_pa, yh_pi, yh_pj, yh_pa, yt_pi, yt_pj, yt_pa, la_pi, la_pj, la_pa]; assumption)) only [b_X12_goesIn_0, b_X12_goesIn_11, b_X12_goesIn_6, b_X12_goesIn_22, b_X12_goesIn_18, b_X12_goesIn_33, b_X12_goesIn_29, i_lit, i_m1, i_31, il_t, il_f, iq_t, iq_f, it_t, it_f, im_e, im_l, im_g, im_g2, nI_add, pk_mul, i_sub, i_div, sdm, i_dec, i_cl, iv_t, bI_or2, bI_t0, bI_one, not_true_eq_false, not_false_eq_true, ↓reduceIte, am_tl, am_tn, am_t0, am_n0, and_true, true_and, List.cons_append, List.nil_append, List.append_nil, w]
