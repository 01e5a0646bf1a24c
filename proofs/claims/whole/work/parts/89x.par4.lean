/-! ===== the class reads laws: every reading ===== -/
theorem gR_pos {ts : List (Nat × Nat)} {sy b : Bool} {i s : Nat} {r : pR_} (h : gR ts sy i r 0 0 [] [b] s) (hs : s ≤ 100) (z : r.1 = 0) : i < r.2.1 := by
  obtain ⟨p1, p2, p3, p4⟩ := h.1 z
  have := p4 [] (by show 0 + s ≤ 100; omega)
  cases w : r.2.2 with
  | nil =>
    rw [w] at this
    cases this
  | cons x l =>
    rw [w] at p1
    have : (x :: l).length = l.length + 1 := rfl
    omega
theorem pE_y {ts : List (Nat × Nat)} {t i : Nat} (z : tK ts i = t) : pE ts t i = (0, i + 1, []) := if_pos z
theorem pE_n {ts : List (Nat × Nat)} {t i : Nat} (z : ¬ tK ts i = t) : pE ts t i = pF ts 2 i := if_neg z
theorem cOK.eat {ts : List (Nat × Nat)} {sy : Bool} {nd i t : Nat} {cs : List Nat} {f : Nat → pR_} {h : am_H} {Q : Option am_V → am_H → Prop} (k : cOK ts sy nd cs (pB (pE ts t i) f) h Q) (z : tK ts i = t) : cOK ts sy nd cs (f (i + 1)) (stH h ts i) Q := by
  rw [pE_y z] at k
  have := k.go (h' := stH h ts i) rfl stH_fr
  have e : cs ++ ((0, i + 1, []) : pR_).2.2 = cs := List.append_nil cs
  rw [e] at this
  exact this
theorem cOK.noX {ts : List (Nat × Nat)} {sy : Bool} {nd i t : Nat} {cs : List Nat} {f : Nat → pR_} {h : am_H} {Q : Option am_V → am_H → Prop} (k : cOK ts sy nd cs (pB (pE ts t i) f) h Q) (z : ¬ tK ts i = t) {h2 : am_H} (fr : am_fr (rfH h ts 2 i) h2 rdP) (X : rdX h2 ts (pF ts 2 i).1 i) : Q (some (v_i (nI 0))) h2 := by
  rw [pE_n z] at k
  exact cOK.stop k (pF_ne (by decide)) (rfH_fr.tr fr) X
theorem cOK.put {ts : List (Nat × Nat)} {sy : Bool} {nd i c : Nat} {cs : List Nat} {h h2 : am_H} {Q : Option am_V → am_H → Prop} (k : cOK ts sy nd cs (pO c i) h Q) (fr : am_fr h h2 rdP) (S : rdS h2 ts sy i (cs ++ [c]) nd) : Q (some (v_i (nI 1))) h2 := k.1 rfl h2 fr S
abbrev L2 : List (Option am_V) := [some (v_r (some 2))]
def gN (ts : List (Nat × Nat)) (sy : Bool) (m : Nat) : (Nat → pR_) × (Nat → pR_) × (Nat → pR_) := (pS ts sy (lo ts sy m), pTr ts sy (lo ts sy m), pU ts sy (lo ts sy m))
def cLv (ts : List (Nat × Nat)) (sy : Bool) (m e : Nat) : Prop := cRd 132 [some (v_r (some 2)), none, none, none] e m (gN ts sy m).1 ts sy ∧ cRd 134 [some (v_r (some 2)), none, none] e m (gN ts sy m).2.1 ts sy ∧ cRd 135 [some (v_r (some 2)), none] e m (gN ts sy m).2.2 ts sy
theorem gN_g {ts : List (Nat × Nat)} {sy : Bool} (G : gT ts) (m : Nat) : gL ts sy (gN ts sy m) (7 * (m + 1) + 1) := (g_lo G (m + 1)).2 _ rfl
theorem len_a {cs a : List Nat} {i j : Nat} (h : cs.length ≤ i) (h2 : i + a.length + 0 ≤ j + 0) : (cs ++ a).length ≤ j := by rw [List.length_append]; omega
theorem c_readChoice {e m : Nat} {ts : List (Nat × Nat)} {sy : Bool} (G : gT ts) (C : cLv ts sy m (e + 1)) : cRd 130 [some (v_r (some 2)), none] (e + 2) m (pIf ts (gN ts sy m)) ts sy := by
  intro Q h i cs S hc K
  obtain ⟨CS, CT, -⟩ := C
  have hi := S.1.2.2.2.2
  have g := gN_g (sy := sy) G m
  have L := S.1.1
  have bad : ∀ h1 a b, rdX h1 ts a b → (∀ h2, am_fr h1 h2 rdP → rdX h2 ts a b → Q (some (v_i (nI 0))) h2) → ex_ (e + 2) 130 55 [some (v_r (some 2)), none] [] h1 Q := fun h1 a b X k => by
    have L1 := X.1
    rw [b_X8_readChoice_55 _ _ L1]
    refine c_emitX X (fun h2 fr2 X2 => ?_)
    have L2 := X2.1
    simp (disch := first | assumption | omega | (simp only [ya_pi, ya_pj, ya_pa, ya_pr, yo_pi, yo_pj, yo_pa, yf_pi, yf_pj, yf_pa, yh_pi, yh_pj, yh_pa, yt_pi, yt_pj, yt_pa, la_pi, la_pj, la_pa]; assumption)) only [b_X8_readChoice_64, i_lit, i_m1, i_31, il_t, il_f, iq_t, iq_f, it_t, it_f, im_e, im_l, im_g, im_g2, nI_add, pk_mul, i_sub, i_div, sdm, i_dec, i_cl, iv_t, bI_or2, bI_t0, bI_one, not_true_eq_false, not_false_eq_true, ↓reduceIte, am_tl, am_tn, am_t0, am_n0, and_true, true_and, List.cons_append, List.nil_append, List.append_nil, true_or]
    exact k h2 fr2 X2
  have mt := fun (t : Nat) (ht : ¬ t = 1) (h2 : t < 2000) (h1 : am_H) (j : Nat) (S1 : tkS h1 ts j) Q => c_pass (d := e) (Q := Q) G S1 ht h2
  unfold pIf at K
  simp (disch := first | assumption | omega | (simp only [ya_pi, ya_pj, ya_pa, ya_pr, yo_pi, yo_pj, yo_pa, yf_pi, yf_pj, yf_pa, yh_pi, yh_pj, yh_pa, yt_pi, yt_pj, yt_pa, la_pi, la_pj, la_pa]; assumption)) only [b_X8_readChoice_0, i_lit, i_m1, i_31, il_t, il_f, iq_t, iq_f, it_t, it_f, im_e, im_l, im_g, im_g2, nI_add, pk_mul, i_sub, i_div, sdm, i_dec, i_cl, iv_t, bI_or2, bI_t0, bI_one, not_true_eq_false, not_false_eq_true, ↓reduceIte, am_tl, am_tn, am_t0, am_n0, and_true, true_and, List.cons_append, List.nil_append, List.append_nil]
  refine CT _ _ _ _ S hc ⟨fun z1 h1 fr1 S1 => ?_, fun z1 h1 fr1 X1 => ?_⟩
  · have K1 := K.go z1 fr1
    have hc1 := len_a hc ((g i hi).2.1.1 z1).1
    clear K
    generalize hj : ((gN ts sy m).2.1 i).2.1 = j1 at S1 K1 hc1
    generalize ha : cs ++ ((gN ts sy m).2.1 i).2.2 = c1 at S1 K1 hc1
    have L1 := S1.1.1
    simp (disch := first | assumption | omega | (simp only [ya_pi, ya_pj, ya_pa, ya_pr, yo_pi, yo_pj, yo_pa, yf_pi, yf_pj, yf_pa, yh_pi, yh_pj, yh_pa, yt_pi, yt_pj, yt_pa, la_pi, la_pj, la_pa]; assumption)) only [b_X8_readChoice_4, b_X8_readChoice_7, i_lit, i_m1, i_31, il_t, il_f, iq_t, iq_f, it_t, it_f, im_e, im_l, im_g, im_g2, nI_add, pk_mul, i_sub, i_div, sdm, i_dec, i_cl, iv_t, bI_or2, bI_t0, bI_one, not_true_eq_false, not_false_eq_true, ↓reduceIte, am_tl, am_tn, am_t0, am_n0, and_true, true_and, List.cons_append, List.nil_append, List.append_nil, mt 210 (by decide) (by decide) h1 j1 S1.1]
    by_cases y1 : tK ts j1 = 210
    · rw [if_pos y1]
      have K2 := K1.eat y1
      have i2 := G.1 j1 (by omega)
      have S2 := S1.st i2
      have L2 := S2.1.1
      simp (disch := first | assumption | omega | (simp only [ya_pi, ya_pj, ya_pa, ya_pr, yo_pi, yo_pj, yo_pa, yf_pi, yf_pj, yf_pa, yh_pi, yh_pj, yh_pa, yt_pi, yt_pj, yt_pa, la_pi, la_pj, la_pa]; assumption)) only [b_X8_readChoice_14, b_X8_readChoice_17, i_lit, i_m1, i_31, il_t, il_f, iq_t, iq_f, it_t, it_f, im_e, im_l, im_g, im_g2, nI_add, pk_mul, i_sub, i_div, sdm, i_dec, i_cl, iv_t, bI_or2, bI_t0, bI_one, not_true_eq_false, not_false_eq_true, ↓reduceIte, am_tl, am_tn, am_t0, am_n0, and_true, true_and, List.cons_append, List.nil_append, List.append_nil]
      refine CS _ _ _ _ S2 (by omega) ⟨fun z3 h3 fr3 S3 => ?_, fun z3 h3 fr3 X3 => ?_⟩
      · have K3 := K2.go z3 fr3
        have hc3 := len_a (Nat.le_trans hc1 (Nat.le_succ _)) ((g _ i2).1.1 z3).1
        clear K1 K2
        generalize hj3 : ((gN ts sy m).1 (j1 + 1)).2.1 = j3 at S3 K3 hc3
        generalize ha3 : c1 ++ ((gN ts sy m).1 (j1 + 1)).2.2 = c3 at S3 K3 hc3
        have L3 := S3.1.1
        simp (disch := first | assumption | omega | (simp only [ya_pi, ya_pj, ya_pa, ya_pr, yo_pi, yo_pj, yo_pa, yf_pi, yf_pj, yf_pa, yh_pi, yh_pj, yh_pa, yt_pi, yt_pj, yt_pa, la_pi, la_pj, la_pa]; assumption)) only [b_X8_readChoice_21, b_X8_readChoice_24, i_lit, i_m1, i_31, il_t, il_f, iq_t, iq_f, it_t, it_f, im_e, im_l, im_g, im_g2, nI_add, pk_mul, i_sub, i_div, sdm, i_dec, i_cl, iv_t, bI_or2, bI_t0, bI_one, not_true_eq_false, not_false_eq_true, ↓reduceIte, am_tl, am_tn, am_t0, am_n0, and_true, true_and, List.cons_append, List.nil_append, List.append_nil, mt 211 (by decide) (by decide) h3 j3 S3.1]
        by_cases y3 : tK ts j3 = 211
        · rw [if_pos y3]
          have K4 := K3.eat y3
          have i4 := G.1 j3 (by omega)
          have S4 := S3.st i4
          have L4 := S4.1.1
          simp (disch := first | assumption | omega | (simp only [ya_pi, ya_pj, ya_pa, ya_pr, yo_pi, yo_pj, yo_pa, yf_pi, yf_pj, yf_pa, yh_pi, yh_pj, yh_pa, yt_pi, yt_pj, yt_pa, la_pi, la_pj, la_pa]; assumption)) only [b_X8_readChoice_31, b_X8_readChoice_34, i_lit, i_m1, i_31, il_t, il_f, iq_t, iq_f, it_t, it_f, im_e, im_l, im_g, im_g2, nI_add, pk_mul, i_sub, i_div, sdm, i_dec, i_cl, iv_t, bI_or2, bI_t0, bI_one, not_true_eq_false, not_false_eq_true, ↓reduceIte, am_tl, am_tn, am_t0, am_n0, and_true, true_and, List.cons_append, List.nil_append, List.append_nil]
          refine CS _ _ _ _ S4 (by omega) ⟨fun z5 h5 fr5 S5 => ?_, fun z5 h5 fr5 X5 => ?_⟩
          · have K5 := K4.go z5 fr5
            have hc5 := len_a (Nat.le_trans hc3 (Nat.le_succ _)) ((g _ i4).1.1 z5).1
            clear K3 K4
            generalize hj5 : ((gN ts sy m).1 (j3 + 1)).2.1 = j5 at S5 K5 hc5
            generalize ha5 : c3 ++ ((gN ts sy m).1 (j3 + 1)).2.2 = c5 at S5 K5 hc5
            have L5 := S5.1.1
            simp (disch := first | assumption | omega | (simp only [ya_pi, ya_pj, ya_pa, ya_pr, yo_pi, yo_pj, yo_pa, yf_pi, yf_pj, yf_pa, yh_pi, yh_pj, yh_pa, yt_pi, yt_pj, yt_pa, la_pi, la_pj, la_pa]; assumption)) only [b_X8_readChoice_38, b_X8_readChoice_41, i_lit, i_m1, i_31, il_t, il_f, iq_t, iq_f, it_t, it_f, im_e, im_l, im_g, im_g2, nI_add, pk_mul, i_sub, i_div, sdm, i_dec, i_cl, iv_t, bI_or2, bI_t0, bI_one, not_true_eq_false, not_false_eq_true, ↓reduceIte, am_tl, am_tn, am_t0, am_n0, and_true, true_and, List.cons_append, List.nil_append, List.append_nil, mt 212 (by decide) (by decide) h5 j5 S5.1]
            by_cases y5 : tK ts j5 = 212
            · rw [if_pos y5]
              have K6 := K5.eat y5
              have i6 := G.1 j5 (by omega)
              have S6 := S5.st i6
              have L6 := S6.1.1
              have G3 := G.2.2.1
              simp (disch := first | assumption | omega | (simp only [ya_pi, ya_pj, ya_pa, ya_pr, yo_pi, yo_pj, yo_pa, yf_pi, yf_pj, yf_pa, yh_pi, yh_pj, yh_pa, yt_pi, yt_pj, yt_pa, la_pi, la_pj, la_pa]; assumption)) only [b_X8_readChoice_48, b_X8_readChoice_51, i_lit, i_m1, i_31, il_t, il_f, iq_t, iq_f, it_t, it_f, im_e, im_l, im_g, im_g2, nI_add, pk_mul, i_sub, i_div, sdm, i_dec, i_cl, iv_t, bI_or2, bI_t0, bI_one, not_true_eq_false, not_false_eq_true, ↓reduceIte, am_tl, am_tn, am_t0, am_n0, and_true, true_and, List.cons_append, List.nil_append, List.append_nil]
              refine c_emit S6 (by omega) (c := 3009) (by decide) (fun h7 fr7 S7 => ?_)
              have L7 := S7.1.1
              simp (disch := first | assumption | omega | (simp only [ya_pi, ya_pj, ya_pa, ya_pr, yo_pi, yo_pj, yo_pa, yf_pi, yf_pj, yf_pa, yh_pi, yh_pj, yh_pa, yt_pi, yt_pj, yt_pa, la_pi, la_pj, la_pa]; assumption)) only [b_X8_readChoice_64, i_lit, i_m1, i_31, il_t, il_f, iq_t, iq_f, it_t, it_f, im_e, im_l, im_g, im_g2, nI_add, pk_mul, i_sub, i_div, sdm, i_dec, i_cl, iv_t, bI_or2, bI_t0, bI_one, not_true_eq_false, not_false_eq_true, ↓reduceIte, am_tl, am_tn, am_t0, am_n0, and_true, true_and, List.cons_append, List.nil_append, List.append_nil, or_true, true_or]
              exact K6.put fr7 S7
            · rw [if_neg y5]
              simp (disch := first | assumption | omega | (simp only [ya_pi, ya_pj, ya_pa, ya_pr, yo_pi, yo_pj, yo_pa, yf_pi, yf_pj, yf_pa, yh_pi, yh_pj, yh_pa, yt_pi, yt_pj, yt_pa, la_pi, la_pj, la_pa]; assumption)) only [b_X8_readChoice_48, i_lit, i_m1, i_31, il_t, il_f, iq_t, iq_f, it_t, it_f, im_e, im_l, im_g, im_g2, nI_add, pk_mul, i_sub, i_div, sdm, i_dec, i_cl, iv_t, bI_or2, bI_t0, bI_one, not_true_eq_false, not_false_eq_true, ↓reduceIte, am_tl, am_tn, am_t0, am_n0, and_true, true_and, List.cons_append, List.nil_append, List.append_nil]
              exact bad _ _ _ (rfH_X S5) (fun h2 fr2 X2 => K5.noX y5 fr2 X2)
          · have L5 := X5.1
            simp (disch := first | assumption | omega | (simp only [ya_pi, ya_pj, ya_pa, ya_pr, yo_pi, yo_pj, yo_pa, yf_pi, yf_pj, yf_pa, yh_pi, yh_pj, yh_pa, yt_pi, yt_pj, yt_pa, la_pi, la_pj, la_pa]; assumption)) only [b_X8_readChoice_38, i_lit, i_m1, i_31, il_t, il_f, iq_t, iq_f, it_t, it_f, im_e, im_l, im_g, im_g2, nI_add, pk_mul, i_sub, i_div, sdm, i_dec, i_cl, iv_t, bI_or2, bI_t0, bI_one, not_true_eq_false, not_false_eq_true, ↓reduceIte, am_tl, am_tn, am_t0, am_n0, and_true, true_and, List.cons_append, List.nil_append, List.append_nil]
            exact bad _ _ _ X5 (fun h2 fr2 X2 => K4.stop z5 (fr5.tr fr2) X2)
        · rw [if_neg y3]
          simp (disch := first | assumption | omega | (simp only [ya_pi, ya_pj, ya_pa, ya_pr, yo_pi, yo_pj, yo_pa, yf_pi, yf_pj, yf_pa, yh_pi, yh_pj, yh_pa, yt_pi, yt_pj, yt_pa, la_pi, la_pj, la_pa]; assumption)) only [b_X8_readChoice_31, i_lit, i_m1, i_31, il_t, il_f, iq_t, iq_f, it_t, it_f, im_e, im_l, im_g, im_g2, nI_add, pk_mul, i_sub, i_div, sdm, i_dec, i_cl, iv_t, bI_or2, bI_t0, bI_one, not_true_eq_false, not_false_eq_true, ↓reduceIte, am_tl, am_tn, am_t0, am_n0, and_true, true_and, List.cons_append, List.nil_append, List.append_nil]
          exact bad _ _ _ (rfH_X S3) (fun h2 fr2 X2 => K3.noX y3 fr2 X2)
      · have L3 := X3.1
        simp (disch := first | assumption | omega | (simp only [ya_pi, ya_pj, ya_pa, ya_pr, yo_pi, yo_pj, yo_pa, yf_pi, yf_pj, yf_pa, yh_pi, yh_pj, yh_pa, yt_pi, yt_pj, yt_pa, la_pi, la_pj, la_pa]; assumption)) only [b_X8_readChoice_21, i_lit, i_m1, i_31, il_t, il_f, iq_t, iq_f, it_t, it_f, im_e, im_l, im_g, im_g2, nI_add, pk_mul, i_sub, i_div, sdm, i_dec, i_cl, iv_t, bI_or2, bI_t0, bI_one, not_true_eq_false, not_false_eq_true, ↓reduceIte, am_tl, am_tn, am_t0, am_n0, and_true, true_and, List.cons_append, List.nil_append, List.append_nil]
        exact bad _ _ _ X3 (fun h2 fr2 X2 => K2.stop z3 (fr3.tr fr2) X2)
    · rw [if_neg y1]
      simp (disch := first | assumption | omega | (simp only [ya_pi, ya_pj, ya_pa, ya_pr, yo_pi, yo_pj, yo_pa, yf_pi, yf_pj, yf_pa, yh_pi, yh_pj, yh_pa, yt_pi, yt_pj, yt_pa, la_pi, la_pj, la_pa]; assumption)) only [b_X8_readChoice_14, i_lit, i_m1, i_31, il_t, il_f, iq_t, iq_f, it_t, it_f, im_e, im_l, im_g, im_g2, nI_add, pk_mul, i_sub, i_div, sdm, i_dec, i_cl, iv_t, bI_or2, bI_t0, bI_one, not_true_eq_false, not_false_eq_true, ↓reduceIte, am_tl, am_tn, am_t0, am_n0, and_true, true_and, List.cons_append, List.nil_append, List.append_nil]
      exact bad _ _ _ (rfH_X S1) (fun h2 fr2 X2 => K1.noX y1 fr2 X2)
  · have L1 := X1.1
    simp (disch := first | assumption | omega | (simp only [ya_pi, ya_pj, ya_pa, ya_pr, yo_pi, yo_pj, yo_pa, yf_pi, yf_pj, yf_pa, yh_pi, yh_pj, yh_pa, yt_pi, yt_pj, yt_pa, la_pi, la_pj, la_pa]; assumption)) only [b_X8_readChoice_4, i_lit, i_m1, i_31, il_t, il_f, iq_t, iq_f, it_t, it_f, im_e, im_l, im_g, im_g2, nI_add, pk_mul, i_sub, i_div, sdm, i_dec, i_cl, iv_t, bI_or2, bI_t0, bI_one, not_true_eq_false, not_false_eq_true, ↓reduceIte, am_tl, am_tn, am_t0, am_n0, and_true, true_and, List.cons_append, List.nil_append, List.append_nil]
    exact bad _ _ _ X1 (fun h2 fr2 X2 => K.stop z1 (fr1.tr fr2) X2)
