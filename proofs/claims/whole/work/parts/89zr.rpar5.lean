/-! ===== the reference reads laws: choices ===== -/
theorem c_goes_y {d : Nat} {Q : Option am_V → am_H → Prop} {h : am_H} {tx : List Nat} {ts : List (Nat × Nat)} {i m : Nat} (R : rTk h tx ts i) (w : h_i h 93 11 = nI 0) (hm : m < 6) (h1 : ¬ tK ts i = 1) (h2 : ¬ tK ts i = 2) (k : ∀ h', am_fr h h' nxP → rTk h' tx ts (i + 1) → Q (some (v_i (nI 1))) h') : ex_ (d + 6) 245 0 [some (v_r (some 93)), some (v_i (nI m))] [] h Q := by
  have L := R.1
  have z : ¬ m = 6 := by omega
  simp (disch := first | assumption | omega | (simp only [ya_pi, ya_pj, ya_pa, ya_pr, yo_pi, yo_pj, yo_pa, yf_pi, yf_pj, yf_pa, yh_pi, yh_pj, yh_pa, yt_pi, yt_pj, yt_pa, la_pi, la_pj, la_pa]; assumption)) only [b_X12_goesIn_0, b_X12_goesIn_11, b_X12_goesIn_18, i_lit, i_m1, i_31, il_t, il_f, iq_t, iq_f, it_t, it_f, im_e, im_l, im_g, im_g2, nI_add, pk_mul, i_sub, i_div, sdm, i_dec, i_cl, iv_t, bI_or2, bI_t0, bI_one, not_true_eq_false, not_false_eq_true, ↓reduceIte, am_tl, am_tn, am_t0, am_n0, and_true, true_and, List.cons_append, List.nil_append, List.append_nil, w]
  refine R.next h1 h2 (fun h' fr R' => ?_)
  have L' := R'.1
  have w' : h_i h' 93 11 = nI 0 := by rw [fr.i (fun z => by unfold nxP at z; omega)]; exact w
  simp (disch := first | assumption | omega | (simp only [ya_pi, ya_pj, ya_pa, ya_pr, yo_pi, yo_pj, yo_pa, yf_pi, yf_pj, yf_pa, yh_pi, yh_pj, yh_pa, yt_pi, yt_pj, yt_pa, la_pi, la_pj, la_pa]; assumption)) only [b_X12_goesIn_22, b_X12_goesIn_29, i_lit, i_m1, i_31, il_t, il_f, iq_t, iq_f, it_t, it_f, im_e, im_l, im_g, im_g2, nI_add, pk_mul, i_sub, i_div, sdm, i_dec, i_cl, iv_t, bI_or2, bI_t0, bI_one, not_true_eq_false, not_false_eq_true, ↓reduceIte, am_tl, am_tn, am_t0, am_n0, and_true, true_and, List.cons_append, List.nil_append, List.append_nil, w']
  exact k h' fr R'
theorem c_goes_n {d : Nat} {Q : Option am_V → am_H → Prop} {h : am_H} {tx : List Nat} {ts : List (Nat × Nat)} {i : Nat} (R : rTk h tx ts i) (w : h_i h 93 11 = nI 0) : ex_ (d + 1) 245 0 [some (v_r (some 93)), some (v_i (nI 6))] [] h Q ↔ Q (some (v_i (nI 0))) (rfR h ts 4 i) := by
  have L := R.1
  have X := rfR_X (k := 4) R (by decide) (by decide)
  have L' := X.1
  have w' := X.2.1
  have e0 := X.2.2.1
  have e4 := X.2.2.2.1
  have fl := fun Q => c_fails (d := d) (Q := Q) (k := 4) R w (by decide)
  simp (disch := first | assumption | omega | (simp only [ya_pi, ya_pj, ya_pa, ya_pr, yo_pi, yo_pj, yo_pa, yf_pi, yf_pj, yf_pa, yh_pi, yh_pj, yh_pa, yt_pi, yt_pj, yt_pa, la_pi, la_pj, la_pa]; assumption)) only [b_X12_goesIn_0, b_X12_goesIn_6, b_X12_goesIn_11, b_X12_goesIn_22, b_X12_goesIn_33, i_lit, i_m1, i_31, il_t, il_f, iq_t, iq_f, it_t, it_f, im_e, im_l, im_g, im_g2, nI_add, pk_mul, i_sub, i_div, sdm, i_dec, i_cl, iv_t, bI_or2, bI_t0, bI_one, not_true_eq_false, not_false_eq_true, ↓reduceIte, am_tl, am_tn, am_t0, am_n0, and_true, true_and, List.cons_append, List.nil_append, List.append_nil, fl, w']
abbrev rL1 (n : Nat) : am_L := [some (v_r (some 93)), some (v_i (nI (6 - n)))]
def rLv (tx : List Nat) (ts : List (Nat × Nat)) (sy : Bool) (m e : Nat) : Prop := rRd 249 [some (v_r (some 93)), some (v_i (nI (6 - m))), none] e (gN ts sy m).1 tx ts sy ∧ rRd 251 [some (v_r (some 93)), some (v_i (nI (6 - m)))] e (gN ts sy m).2.1 tx ts sy ∧ rRd 252 [some (v_r (some 93)), some (v_i (nI (6 - m))), none] e (gN ts sy m).2.2 tx ts sy
theorem rOK.eat {tx : List Nat} {ts : List (Nat × Nat)} {sy : Bool} {i t : Nat} {cs : List Nat} {f : Nat → pR_} {h h' : am_H} {Q : Option am_V → am_H → Prop} (k : rOK tx ts sy cs (pB (pE ts t i) f) h Q) (z : tK ts i = t) (fr : am_fr h h' rgP) : rOK tx ts sy cs (f (i + 1)) h' Q := by
  rw [pE_y z] at k
  have := k.go (h' := h') rfl fr
  have e : cs ++ ((0, i + 1, []) : pR_).2.2 = cs := List.append_nil cs
  rw [e] at this
  exact this
theorem rOK.noX {tx : List Nat} {ts : List (Nat × Nat)} {sy : Bool} {i t : Nat} {cs : List Nat} {f : Nat → pR_} {h : am_H} {Q : Option am_V → am_H → Prop} (k : rOK tx ts sy cs (pB (pE ts t i) f) h Q) (z : ¬ tK ts i = t) (R : rTk h tx ts i) : Q none (rfR h ts 2 i) := by
  rw [pE_n z] at k
  exact rOK.stop k (pF_ne (by decide)) rfR_fr (rfR_X R (by decide) (by decide))
