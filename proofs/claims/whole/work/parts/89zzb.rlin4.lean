/-! ===== the reference reads lines: laws, lines ===== -/
theorem rgX.p15 {h : am_H} {ts : List (Nat × Nat)} {e j : Nat} {v : Int32} (X : rgX h ts e j) : rgX (p_i h 93 15 v) ts e j := ⟨(am_fr_pi (P := fun q k => q = 93 ∧ k = 15) ⟨rfl, rfl⟩).lay X.1, by rw [hi_k (by decide)]; exact X.2.1, X.2.2.1, X.2.2.2.1, by rw [hi_k (by decide)]; exact X.2.2.2.2⟩
theorem rlX.p15 {h0 h : am_H} {ts : List (Nat × Nat)} {e j : Nat} {v : Int32} (X : rlX h0 h ts e j) : rlX h0 (p_i h 93 15 v) ts e j := ⟨X.1.p15, X.2.pi (Or.inl ⟨rfl, by omega⟩)⟩
theorem z_of {sy : Bool} : (if sy = true then 0 else 1 : Nat) = 0 ∨ (if sy = true then 0 else 1 : Nat) = 1 := by cases sy <;> simp
/-- the law kept -/
theorem rlS.keep {h0 h h' : am_H} {tx : List Nat} {ts : List (Nat × Nat)} {sy : Bool} {j : Nat} {cs c : List Nat} {H : ho_S} (ok : fa_ok H.1) (R : rTk h tx ts j) (w : h_i h 93 11 = nI 0) (f : am_fr h0 h rlQ) (ln : H.2.2.2 ≤ j) (C : rcA h (cs ++ c)) (lc : (cs ++ c).length ≤ j) (B : rlB h cs H) (fr : am_fr h h' (fun q k => q = 97 ∧ (k = 2 + (if sy = true then 0 else 1) ∨ k = 4 + (if sy = true then 0 else 1) ∨ k = 6 + (if sy = true then 0 else 1)))) (e2 : h_i h' 97 (2 + (if sy = true then 0 else 1)) = nI 1) (e4 : h_i h' 97 (4 + (if sy = true then 0 else 1)) = nI cs.length) (e6 : h_i h' 97 (6 + (if sy = true then 0 else 1)) = nI c.length) : rlS h0 h' tx ts j (zLf sy c H) := by
  obtain ⟨b1, b2, b3, b4, b5, b6⟩ := B
  have ca : cs ++ c = cs ++ (c ++ []) := by rw [List.append_nil]
  unfold zLf
  cases sy with
  | true =>
    have fr : am_fr h h' (fun q k => q = 97 ∧ (k = 2 ∨ k = 4 ∨ k = 6)) := fr
    exact ⟨R.fr fr (fun k _ _ z => by omega) (fun k z => by omega), by rw [fr.i (by omega)]; exact w, f.tr (fr.le (fun q k z => Or.inr z.1)), ln, cs ++ c, C.fr fr (fun k hk z => by omega), lc, by rw [fr.i (by omega)]; exact b1, by rw [fr.i (by omega)]; exact b2, fr.fb (fa4 ok) b3 (fun k h1 h2 z => by omega), ⟨e2, cs, [], ca, e4, e6⟩, (b5.fr fr (by omega) (by omega) (by omega)).app c, by rw [fr.i (by omega)]; exact b6⟩
  | false =>
    have fr : am_fr h h' (fun q k => q = 97 ∧ (k = 3 ∨ k = 5 ∨ k = 7)) := fr
    exact ⟨R.fr fr (fun k _ _ z => by omega) (fun k z => by omega), by rw [fr.i (by omega)]; exact w, f.tr (fr.le (fun q k z => Or.inr z.1)), ln, cs ++ c, C.fr fr (fun k hk z => by omega), lc, by rw [fr.i (by omega)]; exact b1, by rw [fr.i (by omega)]; exact b2, fr.fb (fa4 ok) b3 (fun k h1 h2 z => by omega), (b4.fr fr (by omega) (by omega) (by omega)).app c, ⟨e2, cs, [], ca, e4, e6⟩, by rw [fr.i (by omega)]; exact b6⟩
theorem c_rLaw {d : Nat} {Q : Option am_V → am_H → Prop} {h0 h : am_H} {tx : List Nat} {ts : List (Nat × Nat)} {sy : Bool} {i : Nat} {H : ho_S} (G : gT ts) (okh : okH H) (S : rlS h0 h tx ts i H) (hc : tK ts i = if sy = true then 207 else 208) (K : rlO h0 tx ts (zL ts sy i H) Q) : ex_ (d + 57) 257 0 [some (v_r (some 93)), some (v_i (nI (if sy = true then 0 else 1))), none] [] h Q := by
  have ok := okh.1.1
  have L := S.1.1
  have hsy : tK ts i = 207 ∨ tK ts i = 208 := by rw [hc]; cases sy <;> simp
  have i1 := G.1 i (by omega)
  have G3 := G.2.2.1
  have n1 : ¬ nI 1 = 0 := by decide
  have n0 : nI 0 = 0 := rfl
  have n00 : ¬ ¬ nI 0 = 0 := fun u => u rfl
  have k31 : kT 31 = 58 := by decide
  have Kb : ∀ r : pR_, zLh ts sy i = r → ¬ r.1 = 0 → ∀ h', rlX h0 h' ts r.1 r.2.1 → Q none h' := by
    intro r e z
    unfold zL at K
    rw [e, if_neg z] at K
    exact K.2 z
  have Kg : ∀ j c, zLh ts sy i = (0, j, c) → ∀ h', rlS h0 h' tx ts j (zLf sy c H) → Q none h' := by
    intro j c e
    unfold zL at K
    rw [e, if_pos rfl] at K
    exact K.1 rfl
  have LV := r_level (tx := tx) (sy := sy) G 6 (Nat.le_refl _)
  have x41 : ∀ h1 e j l1 l2, rgX h1 ts e j → Q none h1 → ex_ (d + 57) 257 41 [some (v_r (some 93)), l1, l2] [] h1 Q := fun h1 e j l1 l2 X q => by
    have L1 := X.1
    have wx := X.2.1
    have x0 := X.2.2.1
    have x4 := X.2.2.2.1
    simp (disch := first | assumption | omega | (simp only [ya_pi, ya_pj, ya_pa, ya_pr, yo_pi, yo_pj, yo_pa, yf_pi, yf_pj, yf_pa, yh_pi, yh_pj, yh_pa, yt_pi, yt_pj, yt_pa, la_pi, la_pj, la_pa]; assumption)) only [b_X12_readLaw_41, b_X12_readLaw_56, i_lit, i_m1, i_31, il_t, il_f, iq_t, iq_f, it_t, it_f, im_e, im_l, im_g, im_g2, nI_add, pk_mul, i_sub, i_div, sdm, i_dec, i_cl, iv_t, bI_or2, bI_t0, bI_one, not_true_eq_false, not_false_eq_true, ↓reduceIte, am_tl, am_tn, am_t0, am_n0, and_true, true_and, List.cons_append, List.nil_append, List.append_nil, wx]
    exact q
  have x49 : ∀ h1 e j l1 l2, rgX h1 ts e j → Q none h1 → ex_ (d + 57) 257 49 [some (v_r (some 93)), l1, l2] [] h1 Q := fun h1 e j l1 l2 X q => by
    have L1 := X.1
    have wx := X.2.1
    have x0 := X.2.2.1
    have x4 := X.2.2.2.1
    simp (disch := first | assumption | omega | (simp only [ya_pi, ya_pj, ya_pa, ya_pr, yo_pi, yo_pj, yo_pa, yf_pi, yf_pj, yf_pa, yh_pi, yh_pj, yh_pa, yt_pi, yt_pj, yt_pa, la_pi, la_pj, la_pa]; assumption)) only [b_X12_readLaw_49, b_X12_readLaw_56, i_lit, i_m1, i_31, il_t, il_f, iq_t, iq_f, it_t, it_f, im_e, im_l, im_g, im_g2, nI_add, pk_mul, i_sub, i_div, sdm, i_dec, i_cl, iv_t, bI_or2, bI_t0, bI_one, not_true_eq_false, not_false_eq_true, ↓reduceIte, am_tl, am_tn, am_t0, am_n0, and_true, true_and, List.cons_append, List.nil_append, List.append_nil, wx]
    exact q
  have vp : vp_in (1450 : Int32) 2351 := vp_in_nI (n := 1450) (by omega) (by omega)
  have x18 : ∀ h1 e j, rlX h0 h1 ts e j → (∀ h', rlX h0 h' ts e j → Q none h') → ex_ (d + 57) 257 18 [some (v_r (some 93)), some (v_i (nI (if sy = true then 0 else 1))), none] [] h1 Q := fun h1 e j X q => by
    have L1 := X.1.1
    have Y := X.p15 (v := nI (if sy = true then 0 else 1))
    have LY := Y.1.1
    have sx := fun Q => c_rSumX (d := d + 53) (Q := Q) (m := 0) Y.1
    have rx := fun Q => c_rTruthX (d := d + 50) (Q := Q) (m := 0) Y.1
    rw [b_X12_readLaw_18 _ _ _ L1]
    refine ⟨vp, ?_⟩
    cases sy with
    | true =>
      rw [if_neg (show ¬ ¬ nI (if true = true then 0 else 1) = 0 from n00), b_X12_readLaw_36 _ _ _ LY, show (0 : Int32) = nI 0 from rfl, sx]
      exact x41 _ _ _ _ _ Y.1 (q _ Y)
    | false =>
      rw [if_pos (show ¬ nI (if false = true then 0 else 1) = 0 from n1), b_X12_readLaw_44 _ _ _ LY, show (0 : Int32) = nI 0 from rfl, rx]
      exact x49 _ _ _ _ _ Y.1 (q _ Y)
  rw [b_X12_readLaw_0 _ _ _ L]
  refine S.1.next (d := d + 51) (by omega) (by omega) (fun h1 fr1 R1 => ?_)
  have S1 := S.nx ok fr1 R1 (Nat.le_succ _)
  have L1 := R1.1
  show ex_ (d + 57) 257 4 [some (v_r (some 93)), some (v_i (nI (if sy = true then 0 else 1))), none] [] h1 Q
  rw [b_X12_readLaw_4 _ _ _ L1]
  by_cases y : tK ts (i + 1) = 58
  rotate_left
  · have n := fun Q => c_eats_n (d := d + 55) (Q := Q) (k := 31) R1 S1.2.1 (by decide) (by decide) (by rw [k31]; exact y)
    have fl := fun Q => c_fails (d := d + 56) (Q := Q) (k := 2) R1 S1.2.1 (by decide)
    rw [show (31 : Int32) = nI 31 from rfl, n]
    show ex_ (d + 57) 257 10 [some (v_r (some 93)), some (v_i (nI (if sy = true then 0 else 1))), none] [v_i (nI 0)] h1 Q
    rw [b_X12_readLaw_10 _ _ _ _ _, if_neg n00, b_X12_readLaw_13 _ _ _ L1, show (2 : Int32) = nI 2 from rfl, fl]
    refine x18 _ _ _ (S1.no (k := 2) (by decide) (by decide)) (Kb (pF ts 2 (i + 1)) ?_ (pF_ne (by decide)))
    unfold zLh
    rw [pE_n y, pB_F (by decide)]
  refine c_eats_y (d := d + 50) (k := 31) R1 S1.2.1 (by decide) (by decide) (by rw [k31]; exact y) (fun h2 fr2 R2 => ?_)
  have S2 := S1.nx ok fr2 R2 (Nat.le_succ _)
  have L2 := R2.1
  have zh : zLh ts sy i = zS ts sy (i + 1 + 1) := by
    unfold zLh
    rw [pE_y y, pB_1]
  rw [zh] at Kb Kg
  have i2 : i + 1 + 1 < ts.length := R2.2.2.2.2.2.1
  have gz := g_zS (sy := sy) G i2
  obtain ⟨-, w2, f2, ln, cs, C2, lc, B2⟩ := S2
  show ex_ (d + 57) 257 10 [some (v_r (some 93)), some (v_i (nI (if sy = true then 0 else 1))), none] [v_i (nI 1)] h2 Q
  rw [b_X12_readLaw_10 _ _ _ _ _, if_pos n1, b_X12_readLaw_18 _ _ _ L2]
  refine ⟨vp, ?_⟩
  have b0 : h_i h2 97 (Int32.toNatClampNeg 1450) = nI cs.length := by rw [show (1450 : Int32) = nI 1450 from rfl, i_cl (by omega)]; exact C2.1
  rw [b0]
  -- the reading begins
  have fr3 : am_fr h2 (p_i h2 93 15 (nI (if sy = true then 0 else 1))) (fun q k => q = 93 ∧ k = 15) := am_fr_pi ⟨rfl, rfl⟩
  have e15 : h_i (p_i h2 93 15 (nI (if sy = true then 0 else 1))) 93 15 = nI (if sy = true then 0 else 1) := hi_s
  generalize p_i h2 93 15 (nI (if sy = true then 0 else 1)) = h3 at fr3 e15 ⊢
  have L3 := fr3.lay L2
  have G2 : rgS h3 tx ts sy (i + 1 + 1) cs := ⟨R2.fr fr3 (fun k _ _ z => by omega) (fun k z => by omega), C2.fr fr3 (fun k _ z => by omega), e15, by rw [fr3.i (by omega)]; exact w2⟩
  have B3 : rlB h3 cs H := B2.fr ok fr3 (fun k _ z => by omega)
  have f3 : am_fr h0 h3 rlQ := f2.tr (fr3.le (fun q k z => Or.inl ⟨z.1, by omega⟩))
  -- what stands behind it
  have fin : (zS ts sy (i + 1 + 1)).1 = 0 → ∀ h4, am_fr h3 h4 rgP → rgS h4 tx ts sy (zS ts sy (i + 1 + 1)).2.1 (cs ++ (zS ts sy (i + 1 + 1)).2.2) → ex_ (d + 57) 257 57 [some (v_r (some 93)), some (v_i (nI (if sy = true then 0 else 1))), some (v_i (nI cs.length))] [] h4 Q := by
    intro z h4 fr4 S4
    obtain ⟨p1, p2, p3, -⟩ := gz.1 z
    have Kg := Kg (zS ts sy (i + 1 + 1)).2.1 (zS ts sy (i + 1 + 1)).2.2 (by rw [← z])
    generalize (zS ts sy (i + 1 + 1)).2.1 = j at S4 p1 p2 p3 Kg
    generalize (zS ts sy (i + 1 + 1)).2.2 = c at S4 p1 Kg
    have L4 := S4.1.1
    have c4 := S4.2.1.1
    have hl : (cs ++ c).length = cs.length + c.length := List.length_append
    rw [hl] at c4
    have B4 : rlB h4 cs H := B3.fr ok fr4 (fun k hk z => by unfold rgP at z; omega)
    have f4 : am_fr h0 h4 rlQ := f3.tr (fr4.le (fun _ _ z => rg_rl z))
    have zo := z_of (sy := sy)
    generalize hv : (if sy = true then 0 else 1 : Nat) = v at zo
    have v2 : v < 2 := by omega
    have su : cs.length + c.length - cs.length = c.length := by omega
    simp (disch := first | assumption | omega | (simp only [ya_pi, ya_pj, ya_pa, ya_pr, yo_pi, yo_pj, yo_pa, yf_pi, yf_pj, yf_pa, yh_pi, yh_pj, yh_pa, yt_pi, yt_pj, yt_pa, la_pi, la_pj, la_pa]; assumption)) only [b_X12_readLaw_57, i_lit, i_m1, i_31, il_t, il_f, iq_t, iq_f, it_t, it_f, im_e, im_l, im_g, im_g2, nI_add, pk_mul, i_sub, i_div, sdm, i_dec, i_cl, iv_t, bI_or2, bI_t0, bI_one, not_true_eq_false, not_false_eq_true, ↓reduceIte, am_tl, am_tn, am_t0, am_n0, and_true, true_and, List.cons_append, List.nil_append, List.append_nil, hi_s, hi_o, hi_k, hr_pi, hj_pi, hn_pi, hi_pas, hi_pao, hr_pa, hj_pa, c4, su]
    refine Kg _ (rlS.keep (sy := sy) (cs := cs) ok S4.1 S4.2.2.2 f4 (by omega) S4.2.1 (by rw [hl]; omega) B4 ?_ ?_ ?_ ?_)
    · rw [hv]
      exact ((am_fr_pi ⟨rfl, by omega⟩).pi ⟨rfl, by omega⟩).pi ⟨rfl, by omega⟩
    · rw [hv]; simp (disch := first | assumption | omega | (simp only [ya_pi, ya_pj, ya_pa, ya_pr, yo_pi, yo_pj, yo_pa, yf_pi, yf_pj, yf_pa, yh_pi, yh_pj, yh_pa, yt_pi, yt_pj, yt_pa, la_pi, la_pj, la_pa]; assumption)) only [hi_s, hi_o, hi_k, hr_pi, hj_pi, hn_pi, hi_pas, hi_pao, hr_pa, hj_pa]
    · rw [hv]; simp (disch := first | assumption | omega | (simp only [ya_pi, ya_pj, ya_pa, ya_pr, yo_pi, yo_pj, yo_pa, yf_pi, yf_pj, yf_pa, yh_pi, yh_pj, yh_pa, yt_pi, yt_pj, yt_pa, la_pi, la_pj, la_pa]; assumption)) only [hi_s, hi_o, hi_k, hr_pi, hj_pi, hn_pi, hi_pas, hi_pao, hr_pa, hj_pa]
    · rw [hv]; simp (disch := first | assumption | omega | (simp only [ya_pi, ya_pj, ya_pa, ya_pr, yo_pi, yo_pj, yo_pa, yf_pi, yf_pj, yf_pa, yh_pi, yh_pj, yh_pa, yt_pi, yt_pj, yt_pa, la_pi, la_pj, la_pa]; assumption)) only [hi_s, hi_o, hi_k, hr_pi, hj_pi, hn_pi, hi_pas, hi_pao, hr_pa, hj_pa]
  cases sy with
  | true =>
    rw [if_neg (show ¬ ¬ nI (if true = true then 0 else 1) = 0 from n00), b_X12_readLaw_36 _ _ _ L3]
    refine (LV.1.deep (show 7 * 6 + 14 ≤ d + 56 by omega)) _ _ _ _ G2 lc ⟨fun z h4 fr4 S4 => ?_, fun z h4 fr4 X4 => ?_⟩
    · have w4 : h_i h4 93 11 = 0 := S4.2.2.2
      have L4 := S4.1.1
      show ex_ (d + 57) 257 41 [some (v_r (some 93)), some (v_i (nI (if true = true then 0 else 1))), some (v_i (nI cs.length))] [] h4 Q
      rw [b_X12_readLaw_41 _ _ _ L4, if_pos w4]
      exact fin z h4 fr4 S4
    · exact x41 _ _ _ _ _ X4 (Kb _ rfl z _ ⟨X4, f3.tr (fr4.le (fun _ _ z => rg_rl z))⟩)
  | false =>
    rw [if_pos (show ¬ nI (if false = true then 0 else 1) = 0 from n1), b_X12_readLaw_44 _ _ _ L3]
    refine (LV.2.1.deep (show 7 * 6 + 14 ≤ d + 56 by omega)) _ _ _ _ G2 lc ⟨fun z h4 fr4 S4 => ?_, fun z h4 fr4 X4 => ?_⟩
    · have w4 : h_i h4 93 11 = 0 := S4.2.2.2
      have L4 := S4.1.1
      show ex_ (d + 57) 257 49 [some (v_r (some 93)), some (v_i (nI (if false = true then 0 else 1))), some (v_i (nI cs.length))] [] h4 Q
      rw [b_X12_readLaw_49 _ _ _ L4, if_pos w4]
      exact fin z h4 fr4 S4
    · exact x49 _ _ _ _ _ X4 (Kb _ rfl z _ ⟨X4, f3.tr (fr4.le (fun _ _ z => rg_rl z))⟩)
theorem c_rLine {d : Nat} {Q : Option am_V → am_H → Prop} {h0 h : am_H} {tx : List Nat} {ts : List (Nat × Nat)} {i : Nat} {H : ho_S} (G : gT ts) (okh : okH H) (S : rlS h0 h tx ts i H) (K : rlO h0 tx ts (zI ts i H) Q) : ex_ (d + 58) 258 0 [some (v_r (some 93))] [] h Q := by
  have L := S.1.1
  have w := S.2.1
  have e9 := S.1.2.2.2.1
  have w0 : h_i h 93 11 = 0 := w
  have n1 : ¬ nI 1 = 0 := by decide
  have n0 : nI 0 = 0 := rfl
  have n00 : ¬ ¬ nI 0 = 0 := fun u => u rfl
  have kk : kT 2 = 202 ∧ kT 3 = 203 ∧ kT 7 = 207 ∧ kT 8 = 208 := by decide
  have isk := fun k (hk : k < 100) Q => c_is (d := d + 57) (Q := Q) (k := k) S.1 w hk
  have r2 := rk_k (t := tK ts i) (k := 2) (by decide) (by decide)
  have r3 := rk_k (t := tK ts i) (k := 3) (by decide) (by decide)
  have r7 := rk_k (t := tK ts i) (k := 7) (by decide) (by decide)
  have r8 := rk_k (t := tK ts i) (k := 8) (by decide) (by decide)
  rw [kk.1] at r2
  rw [kk.2.1] at r3
  rw [kk.2.2.1] at r7
  rw [kk.2.2.2] at r8
  have i2 := isk 2 (by decide)
  have i3 := isk 3 (by decide)
  have i7 := isk 7 (by decide)
  have i8 := isk 8 (by decide)
  unfold zI at K
  by_cases a1 : tK ts i = 202
  · rw [if_pos a1] at K
    rw [if_pos (r2.2 a1)] at i2
    simp (disch := first | assumption | omega | (simp only [ya_pi, ya_pj, ya_pa, ya_pr, yo_pi, yo_pj, yo_pa, yf_pi, yf_pj, yf_pa, yh_pi, yh_pj, yh_pa, yt_pi, yt_pj, yt_pa, la_pi, la_pj, la_pa]; assumption)) only [b_X12_readLine_0, b_X12_readLine_8, b_X12_readLine_13, b_X12_readLine_16, i_lit, i_m1, i_31, il_t, il_f, iq_t, iq_f, it_t, it_f, im_e, im_l, im_g, im_g2, nI_add, pk_mul, i_sub, i_div, sdm, i_dec, i_cl, iv_t, bI_or2, bI_t0, bI_one, not_true_eq_false, not_false_eq_true, ↓reduceIte, am_tl, am_tn, am_t0, am_n0, and_true, true_and, List.cons_append, List.nil_append, List.append_nil, w, i2]
    refine c_rClass (d := d + 51) G okh S a1 ⟨fun z h' S' => ?_, fun z h' X' => ?_⟩
    · simp (disch := first | assumption | omega | (simp only [ya_pi, ya_pj, ya_pa, ya_pr, yo_pi, yo_pj, yo_pa, yf_pi, yf_pj, yf_pa, yh_pi, yh_pj, yh_pa, yt_pi, yt_pj, yt_pa, la_pi, la_pj, la_pa]; assumption)) only [b_X12_readLine_20, i_lit, i_m1, i_31, il_t, il_f, iq_t, iq_f, it_t, it_f, im_e, im_l, im_g, im_g2, nI_add, pk_mul, i_sub, i_div, sdm, i_dec, i_cl, iv_t, bI_or2, bI_t0, bI_one, not_true_eq_false, not_false_eq_true, ↓reduceIte, am_tl, am_tn, am_t0, am_n0, and_true, true_and, List.cons_append, List.nil_append, List.append_nil]; exact K.1 z h' S'
    · simp (disch := first | assumption | omega | (simp only [ya_pi, ya_pj, ya_pa, ya_pr, yo_pi, yo_pj, yo_pa, yf_pi, yf_pj, yf_pa, yh_pi, yh_pj, yh_pa, yt_pi, yt_pj, yt_pa, la_pi, la_pj, la_pa]; assumption)) only [b_X12_readLine_20, i_lit, i_m1, i_31, il_t, il_f, iq_t, iq_f, it_t, it_f, im_e, im_l, im_g, im_g2, nI_add, pk_mul, i_sub, i_div, sdm, i_dec, i_cl, iv_t, bI_or2, bI_t0, bI_one, not_true_eq_false, not_false_eq_true, ↓reduceIte, am_tl, am_tn, am_t0, am_n0, and_true, true_and, List.cons_append, List.nil_append, List.append_nil]; exact K.2 z h' X'
  · rw [if_neg a1] at K
    rw [if_neg (fun u => a1 (r2.1 u))] at i2
    by_cases a2 : tK ts i = 203
    · rw [if_pos a2] at K
      rw [if_pos (r3.2 a2)] at i3
      simp (disch := first | assumption | omega | (simp only [ya_pi, ya_pj, ya_pa, ya_pr, yo_pi, yo_pj, yo_pa, yf_pi, yf_pj, yf_pa, yh_pi, yh_pj, yh_pa, yt_pi, yt_pj, yt_pa, la_pi, la_pj, la_pa]; assumption)) only [b_X12_readLine_0, b_X12_readLine_8, b_X12_readLine_13, b_X12_readLine_23, b_X12_readLine_28, b_X12_readLine_31, i_lit, i_m1, i_31, il_t, il_f, iq_t, iq_f, it_t, it_f, im_e, im_l, im_g, im_g2, nI_add, pk_mul, i_sub, i_div, sdm, i_dec, i_cl, iv_t, bI_or2, bI_t0, bI_one, not_true_eq_false, not_false_eq_true, ↓reduceIte, am_tl, am_tn, am_t0, am_n0, and_true, true_and, List.cons_append, List.nil_append, List.append_nil, w, i2, i3]
      refine c_rMeth (d := d + 49) G okh S a2 ⟨fun z h' S' => ?_, fun z h' X' => ?_⟩
      · simp (disch := first | assumption | omega | (simp only [ya_pi, ya_pj, ya_pa, ya_pr, yo_pi, yo_pj, yo_pa, yf_pi, yf_pj, yf_pa, yh_pi, yh_pj, yh_pa, yt_pi, yt_pj, yt_pa, la_pi, la_pj, la_pa]; assumption)) only [b_X12_readLine_35, i_lit, i_m1, i_31, il_t, il_f, iq_t, iq_f, it_t, it_f, im_e, im_l, im_g, im_g2, nI_add, pk_mul, i_sub, i_div, sdm, i_dec, i_cl, iv_t, bI_or2, bI_t0, bI_one, not_true_eq_false, not_false_eq_true, ↓reduceIte, am_tl, am_tn, am_t0, am_n0, and_true, true_and, List.cons_append, List.nil_append, List.append_nil]; exact K.1 z h' S'
      · simp (disch := first | assumption | omega | (simp only [ya_pi, ya_pj, ya_pa, ya_pr, yo_pi, yo_pj, yo_pa, yf_pi, yf_pj, yf_pa, yh_pi, yh_pj, yh_pa, yt_pi, yt_pj, yt_pa, la_pi, la_pj, la_pa]; assumption)) only [b_X12_readLine_35, i_lit, i_m1, i_31, il_t, il_f, iq_t, iq_f, it_t, it_f, im_e, im_l, im_g, im_g2, nI_add, pk_mul, i_sub, i_div, sdm, i_dec, i_cl, iv_t, bI_or2, bI_t0, bI_one, not_true_eq_false, not_false_eq_true, ↓reduceIte, am_tl, am_tn, am_t0, am_n0, and_true, true_and, List.cons_append, List.nil_append, List.append_nil]; exact K.2 z h' X'
    · rw [if_neg a2] at K
      rw [if_neg (fun u => a2 (r3.1 u))] at i3
      by_cases a3 : tK ts i = 207
      · rw [if_pos a3] at K
        have q7 := r7.2 a3
        rw [if_pos q7] at i7
        rw [q7] at e9
        simp (disch := first | assumption | omega | (simp only [ya_pi, ya_pj, ya_pa, ya_pr, yo_pi, yo_pj, yo_pa, yf_pi, yf_pj, yf_pa, yh_pi, yh_pj, yh_pa, yt_pi, yt_pj, yt_pa, la_pi, la_pj, la_pa]; assumption)) only [b_X12_readLine_0, b_X12_readLine_8, b_X12_readLine_13, b_X12_readLine_23, b_X12_readLine_28, b_X12_readLine_38, b_X12_readLine_44, b_X12_readLine_56, i_lit, i_m1, i_31, il_t, il_f, iq_t, iq_f, it_t, it_f, im_e, im_l, im_g, im_g2, nI_add, pk_mul, i_sub, i_div, sdm, i_dec, i_cl, iv_t, bI_or2, bI_t0, bI_one, not_true_eq_false, not_false_eq_true, ↓reduceIte, am_tl, am_tn, am_t0, am_n0, and_true, true_and, List.cons_append, List.nil_append, List.append_nil, w, i2, i3, i7, e9]
        refine c_rLaw (d := d) (sy := true) G okh S a3 ⟨fun z h' S' => ?_, fun z h' X' => ?_⟩
        · simp (disch := first | assumption | omega | (simp only [ya_pi, ya_pj, ya_pa, ya_pr, yo_pi, yo_pj, yo_pa, yf_pi, yf_pj, yf_pa, yh_pi, yh_pj, yh_pa, yt_pi, yt_pj, yt_pa, la_pi, la_pj, la_pa]; assumption)) only [b_X12_readLine_67, i_lit, i_m1, i_31, il_t, il_f, iq_t, iq_f, it_t, it_f, im_e, im_l, im_g, im_g2, nI_add, pk_mul, i_sub, i_div, sdm, i_dec, i_cl, iv_t, bI_or2, bI_t0, bI_one, not_true_eq_false, not_false_eq_true, ↓reduceIte, am_tl, am_tn, am_t0, am_n0, and_true, true_and, List.cons_append, List.nil_append, List.append_nil]; exact K.1 z h' S'
        · simp (disch := first | assumption | omega | (simp only [ya_pi, ya_pj, ya_pa, ya_pr, yo_pi, yo_pj, yo_pa, yf_pi, yf_pj, yf_pa, yh_pi, yh_pj, yh_pa, yt_pi, yt_pj, yt_pa, la_pi, la_pj, la_pa]; assumption)) only [b_X12_readLine_67, i_lit, i_m1, i_31, il_t, il_f, iq_t, iq_f, it_t, it_f, im_e, im_l, im_g, im_g2, nI_add, pk_mul, i_sub, i_div, sdm, i_dec, i_cl, iv_t, bI_or2, bI_t0, bI_one, not_true_eq_false, not_false_eq_true, ↓reduceIte, am_tl, am_tn, am_t0, am_n0, and_true, true_and, List.cons_append, List.nil_append, List.append_nil]; exact K.2 z h' X'
      · rw [if_neg a3] at K
        rw [if_neg (fun u => a3 (r7.1 u))] at i7
        by_cases a4 : tK ts i = 208
        · rw [if_pos a4] at K
          have q8 := r8.2 a4
          rw [if_pos q8] at i8
          rw [q8] at e9
          simp (disch := first | assumption | omega | (simp only [ya_pi, ya_pj, ya_pa, ya_pr, yo_pi, yo_pj, yo_pa, yf_pi, yf_pj, yf_pa, yh_pi, yh_pj, yh_pa, yt_pi, yt_pj, yt_pa, la_pi, la_pj, la_pa]; assumption)) only [b_X12_readLine_0, b_X12_readLine_8, b_X12_readLine_13, b_X12_readLine_23, b_X12_readLine_28, b_X12_readLine_38, b_X12_readLine_44, b_X12_readLine_47, b_X12_readLine_53, b_X12_readLine_56, i_lit, i_m1, i_31, il_t, il_f, iq_t, iq_f, it_t, it_f, im_e, im_l, im_g, im_g2, nI_add, pk_mul, i_sub, i_div, sdm, i_dec, i_cl, iv_t, bI_or2, bI_t0, bI_one, not_true_eq_false, not_false_eq_true, ↓reduceIte, am_tl, am_tn, am_t0, am_n0, and_true, true_and, List.cons_append, List.nil_append, List.append_nil, w, i2, i3, i7, i8, e9]
          refine c_rLaw (d := d) (sy := false) G okh S a4 ⟨fun z h' S' => ?_, fun z h' X' => ?_⟩
          · simp (disch := first | assumption | omega | (simp only [ya_pi, ya_pj, ya_pa, ya_pr, yo_pi, yo_pj, yo_pa, yf_pi, yf_pj, yf_pa, yh_pi, yh_pj, yh_pa, yt_pi, yt_pj, yt_pa, la_pi, la_pj, la_pa]; assumption)) only [b_X12_readLine_67, i_lit, i_m1, i_31, il_t, il_f, iq_t, iq_f, it_t, it_f, im_e, im_l, im_g, im_g2, nI_add, pk_mul, i_sub, i_div, sdm, i_dec, i_cl, iv_t, bI_or2, bI_t0, bI_one, not_true_eq_false, not_false_eq_true, ↓reduceIte, am_tl, am_tn, am_t0, am_n0, and_true, true_and, List.cons_append, List.nil_append, List.append_nil]; exact K.1 z h' S'
          · simp (disch := first | assumption | omega | (simp only [ya_pi, ya_pj, ya_pa, ya_pr, yo_pi, yo_pj, yo_pa, yf_pi, yf_pj, yf_pa, yh_pi, yh_pj, yh_pa, yt_pi, yt_pj, yt_pa, la_pi, la_pj, la_pa]; assumption)) only [b_X12_readLine_67, i_lit, i_m1, i_31, il_t, il_f, iq_t, iq_f, it_t, it_f, im_e, im_l, im_g, im_g2, nI_add, pk_mul, i_sub, i_div, sdm, i_dec, i_cl, iv_t, bI_or2, bI_t0, bI_one, not_true_eq_false, not_false_eq_true, ↓reduceIte, am_tl, am_tn, am_t0, am_n0, and_true, true_and, List.cons_append, List.nil_append, List.append_nil]; exact K.2 z h' X'
        · rw [if_neg a4] at K
          rw [if_neg (fun u => a4 (r8.1 u))] at i8
          have fl := fun Q => c_fails (d := d + 57) (Q := Q) (k := 2) S.1 w (by decide)
          simp (disch := first | assumption | omega | (simp only [ya_pi, ya_pj, ya_pa, ya_pr, yo_pi, yo_pj, yo_pa, yf_pi, yf_pj, yf_pa, yh_pi, yh_pj, yh_pa, yt_pi, yt_pj, yt_pa, la_pi, la_pj, la_pa]; assumption)) only [b_X12_readLine_0, b_X12_readLine_8, b_X12_readLine_13, b_X12_readLine_23, b_X12_readLine_28, b_X12_readLine_38, b_X12_readLine_44, b_X12_readLine_47, b_X12_readLine_53, b_X12_readLine_70, b_X12_readLine_75, i_lit, i_m1, i_31, il_t, il_f, iq_t, iq_f, it_t, it_f, im_e, im_l, im_g, im_g2, nI_add, pk_mul, i_sub, i_div, sdm, i_dec, i_cl, iv_t, bI_or2, bI_t0, bI_one, not_true_eq_false, not_false_eq_true, ↓reduceIte, am_tl, am_tn, am_t0, am_n0, and_true, true_and, List.cons_append, List.nil_append, List.append_nil, w, i2, i3, i7, i8, fl]
          exact K.2 (pF_ne (by decide)) _ (S.no (by decide) (by decide))
