/-! ===== the reference reads lines: methods ===== -/
theorem pB_as {r : pR_} {f g : Nat → pR_} : pB r (fun j => pB (f j) g) = pB (pB r f) g := by
  by_cases z : r.1 = 0
  · have e1 := pB_y (r := r) (f := fun j => pB (f j) g) z
    have e2 := pB_y (r := r) (f := f) z
    by_cases y : (f r.2.1).1 = 0
    · rw [e1, e2, pB_y (show ((f r.2.1).1, (f r.2.1).2.1, r.2.2 ++ (f r.2.1).2.2).1 = 0 from y)]
      show ((pB (f r.2.1) g).1, (pB (f r.2.1) g).2.1, r.2.2 ++ (pB (f r.2.1) g).2.2) = _
      rw [pB_y y]
      simp only [List.append_assoc]
    · rw [e1, e2, pB_n (show ¬ ((f r.2.1).1, (f r.2.1).2.1, r.2.2 ++ (f r.2.1).2.2).1 = 0 from y)]
      show ((pB (f r.2.1) g).1, (pB (f r.2.1) g).2.1, r.2.2 ++ (pB (f r.2.1) g).2.2) = _
      rw [pB_n y]
  · rw [pB_n z, pB_n z, pB_n z]
theorem fb_setd {h : am_H} {a c m : Nat} {f : fa_S} {v : Int32} (h4 : ∀ c, (f_p f c).length ≤ 4) (F : fb h a 8 f) (hc : c < 10) (hm : m < 8) : fb (p_i h a (58 + 8 * c + m) v) a 8 (f_setd f c m v) := by
  obtain ⟨F1, F2, F3, F4⟩ := F
  refine ⟨?_, ?_, ?_, ?_⟩
  · intro q hq
    rw [hi_k (by omega)]
    exact F1 q hq
  · intro q hq j hj
    have hj2 : j < (f_p f q).length := hj
    have h44 := h4 q
    by_cases z : 8 + 10 + 4 * q + j = 58 + 8 * c + m
    · omega
    · rw [hi_k z]
      exact F2 q hq j hj
  · intro q j hq hj
    show _ = if q = c ∧ j = m then v else f_d f q j
    by_cases z : q = c ∧ j = m
    · rw [if_pos z, z.1, z.2, show 8 + 50 + (8 * c + m) = 58 + 8 * c + m from by omega, hi_s]
    · rw [if_neg z, hi_k (by omega)]
      exact F3 q j hq hj
  · rw [hi_k (by omega)]
    exact F4
theorem dd_e {f : fa_S} {c m w : Nat} (hn : f_n f ≤ 10) (hc : c < f_n f) (hm : m < 8) (hw : w < 2) : (d_def f (nI c) (nI m) (nI w)).2 = f_setd f c m (nI (w + 1)) := by
  have a1 : fa_has (f_n f) (nI c) := (fa_has_iff hn).2 ⟨c, hc, rfl⟩
  have a2 : me_ok (nI m) := ⟨nI_pos (by omega), nI_lt hm (by omega)⟩
  have a3 : ∀ w, w < 2 → ¬ nI w < 0 ∧ nI w ≤ nI 2 ∧ ¬ nI w = nI 2 ∧ (w + 1) % 3 = w + 1 := by decide
  obtain ⟨b1, b2, b3, b4⟩ := a3 w hw
  unfold d_def
  rw [if_pos ⟨a1, a2, b1, b2⟩, if_neg (fun z => b3 z.1), nI_clamp (by omega), nI_clamp (by omega), nI_clamp (by omega), b4]
theorem c_rMeth {d : Nat} {Q : Option am_V → am_H → Prop} {h0 h : am_H} {tx : List Nat} {ts : List (Nat × Nat)} {i : Nat} {H : ho_S} (G : gT ts) (okh : okH H) (S : rlS h0 h tx ts i H) (ht : tK ts i = 203) (K : rlO h0 tx ts (zM ts i H) Q) : ex_ (d + 8) 256 0 [some (v_r (some 93)), none, none, none] [] h Q := by
  have ok := okh.1.1
  have L := S.1.1
  have hn := ok.1
  have kk : kT 4 = 204 ∧ kT 5 = 205 ∧ kT 6 = 206 := by decide
  have n1 : ¬ nI 1 = 0 := by decide
  have n0 : nI 0 = 0 := rfl
  have n00 : ¬ ¬ nI 0 = 0 := fun u => u rfl
  have Kb : ∀ q j, zMh ts (f_n H.1) i = pF ts q j → 0 < q → ∀ h', rlX h0 h' ts (pF ts q j).1 j → Q none h' := by
    intro q j e hq h' X
    have z := pF_ne (ts := ts) (i := j) hq
    unfold zM at K
    rw [e, if_neg z] at K
    exact K.2 z h' X
  have Kg : ∀ j, zMh ts (f_n H.1) i = (0, j, []) → ∀ h', rlS h0 h' tx ts j (zMf ts i H.1, H.2) → Q none h' := by
    intro j e
    unfold zM at K
    rw [e, if_pos rfl] at K
    exact K.1 rfl
  have x63 : ∀ h1 e j l1 l2 l3, rgX h1 ts e j → Q none h1 → ex_ (d + 8) 256 63 [some (v_r (some 93)), l1, l2, l3] [] h1 Q := fun h1 e j l1 l2 l3 X q => by
    have L1 := X.1
    have wx := X.2.1
    have x0 := X.2.2.1
    have x4 := X.2.2.2.1
    simp (disch := first | assumption | omega | (simp only [ya_pi, ya_pj, ya_pa, ya_pr, yo_pi, yo_pj, yo_pa, yf_pi, yf_pj, yf_pa, yh_pi, yh_pj, yh_pa, yt_pi, yt_pj, yt_pa, la_pi, la_pj, la_pa]; assumption)) only [b_X12_readMethod_63, b_X12_readMethod_85, i_lit, i_m1, i_31, il_t, il_f, iq_t, iq_f, it_t, it_f, im_e, im_l, im_g, im_g2, nI_add, pk_mul, i_sub, i_div, sdm, i_dec, i_cl, iv_t, bI_or2, bI_t0, bI_one, not_true_eq_false, not_false_eq_true, ↓reduceIte, am_tl, am_tn, am_t0, am_n0, and_true, true_and, List.cons_append, List.nil_append, List.append_nil, wx]
    exact q
  have x26 : ∀ h1 e j l1 v, rgX h1 ts e j → Q none h1 → ex_ (d + 8) 256 26 [some (v_r (some 93)), l1, none, none] [v_i v] h1 Q := fun h1 e j l1 v X q => by
    have L1 := X.1
    simp (disch := first | assumption | omega | (simp only [ya_pi, ya_pj, ya_pa, ya_pr, yo_pi, yo_pj, yo_pa, yf_pi, yf_pj, yf_pa, yh_pi, yh_pj, yh_pa, yt_pi, yt_pj, yt_pa, la_pi, la_pj, la_pa]; assumption)) only [b_X12_readMethod_26, b_X12_readMethod_32, b_X12_readMethod_39, b_X12_readMethod_46, b_X12_readMethod_49, b_X12_readMethod_55, b_X12_readMethod_58, i_lit, i_m1, i_31, il_t, il_f, iq_t, iq_f, it_t, it_f, im_e, im_l, im_g, im_g2, nI_add, pk_mul, i_sub, i_div, sdm, i_dec, i_cl, iv_t, bI_or2, bI_t0, bI_one, not_true_eq_false, not_false_eq_true, ↓reduceIte, am_tl, am_tn, am_t0, am_n0, and_true, true_and, List.cons_append, List.nil_append, List.append_nil, c_isX X, c_eatsX X, c_failsX X]
    exact x63 h1 e j _ _ _ X q
  have x11 : ∀ h1 e j v, rgX h1 ts e j → Q none h1 → ex_ (d + 8) 256 11 [some (v_r (some 93)), none, none, none] [v_i v] h1 Q := fun h1 e j v X q => by
    have L1 := X.1
    rw [b_X12_readMethod_11 _ _ _ _ _ L1, c_namedX (d := d + 5) X]
    exact ⟨vp_in_nI (n := 1) (by omega) (by omega), x26 h1 e j _ _ X q⟩
  rw [b_X12_readMethod_0 _ _ _ _ L]
  refine S.1.next (d := d + 2) (by omega) (by omega) (fun h1 fr1 R1 => ?_)
  have S1 := S.nx ok fr1 R1 (Nat.le_succ _)
  have L1 := R1.1
  show ex_ (d + 8) 256 4 [some (v_r (some 93)), none, none, none] [] h1 Q
  rw [b_X12_readMethod_4 _ _ _ _ L1, show (7 : Int32) = nI 8 - nI 1 from by decide, show (0 : Int32) = nI 0 from rfl]
  refine c_takes (d := d + 1) (b := 8) G R1 S1.2.1 (by omega) (fun a1 a2 h2 fr2 R2 => ?_) (fun q v e hq h4 => ?_)
  rotate_left
  · have X := rlX.rf S1.2.2.1 R1 hq h4
    refine x11 _ _ _ v X.1 (Kb q (i + 1) ?_ hq _ X)
    unfold zMh
    rw [e, pB_F hq]
  have S2 := S1.nx ok fr2 R2 (Nat.le_succ _)
  have L2 := R2.1
  have e1 : h_i h2 97 1 = nI (f_n H.1) := by obtain ⟨cs, -, -, b1, b2, -⟩ := S2.2.2.2.2; exact b2
  show ex_ (d + 8) 256 11 [some (v_r (some 93)), none, none, none] [v_i (nI (tK ts (i + 1) - 1000))] h2 Q
  obtain ⟨mv, hm⟩ : ∃ mv, tK ts (i + 1) - 1000 = mv := ⟨_, rfl⟩
  rw [hm]
  rw [b_X12_readMethod_11 _ _ _ _ _ L2, show (1 : Int32) = nI 1 from rfl, i_cl (by omega), e1, show (4 : Int32) = nI 4 from rfl, show (0 : Int32) = nI 0 from rfl]
  refine ⟨vp_in_nI (by omega) (by omega), ?_⟩
  refine c_named (d := d) (b := f_n H.1) (k := 4) G R2 S2.2.1 (by omega) (by decide) (by decide) (fun a3 a4 a5 h3 fr3 R3 => ?_) (fun q j v h' e hq h4 fr X => ?_)
  rotate_left
  · refine x26 _ _ _ _ v X (Kb q j ?_ hq _ ⟨X, S2.2.2.1.tr (fr.le (fun _ _ z => rg_rl z))⟩)
    unfold zMh
    rw [pN_y a1 a2, pB_1, pB_as, show (204 : Nat) = kT 4 from kk.1.symm, e, pB_F hq]
  have S3 := S2.nx ok fr3 R3 (by omega)
  have L3 := R3.1
  have w3 := S3.2.1
  show ex_ (d + 8) 256 26 [some (v_r (some 93)), some (v_i (nI mv)), none, none] [v_i (nI (tK ts (i + 1 + 1 + 1) - 1000))] h3 Q
  obtain ⟨cv, hcv⟩ : ∃ cv, tK ts (i + 1 + 1 + 1) - 1000 = cv := ⟨_, rfl⟩
  have a5 : tK ts (i + 1 + 1 + 1) - 1000 < f_n H.1 := a5
  have a4 : 1000 ≤ tK ts (i + 1 + 1 + 1) := a4
  rw [kk.1] at a3
  have zh : zMh ts (f_n H.1) i = zW ts (i + 1 + 1 + 1 + 1) := by
    unfold zMh
    rw [pN_y a1 a2, pB_1, pE_y a3, pB_1, pN_y a4 a5, pB_1]
  have R3 : rTk h3 tx ts (i + 1 + 1 + 1 + 1) := R3
  have S3 : rlS h0 h3 tx ts (i + 1 + 1 + 1 + 1) H := S3
  rw [hcv] at a5 ⊢
  have t4 := G.2.1 (i + 1 + 1 + 1 + 1)
  have r5 := rk_k (t := tK ts (i + 1 + 1 + 1 + 1)) (k := 5) (by decide) (by decide)
  rw [kk.2.1] at r5
  have i5 := fun Q => c_is (d := d + 7) (Q := Q) (k := 5) R3 w3 (by decide)
  -- the last step
  have go : ∀ w h4 l2, w < 2 → w = (if tK ts (i + 1 + 1 + 1 + 1) = 205 then 0 else 1) → zMh ts (f_n H.1) i = (0, i + 1 + 1 + 1 + 1 + 1, []) → am_fr h3 h4 nxP → rTk h4 tx ts (i + 1 + 1 + 1 + 1 + 1) → l2 = some (v_i (nI (w + 1))) → ex_ (d + 8) 256 63 [some (v_r (some 93)), some (v_i (nI mv)), some (v_i (nI cv)), l2] [] h4 Q := by
    intro w h4 l2 hw2 hw e fr4 R4 el
    subst el
    have S4 := S3.nx ok fr4 R4 (Nat.le_succ _)
    have L4 := R4.1
    have w4 := S4.2.1
    simp (disch := first | assumption | omega | (simp only [ya_pi, ya_pj, ya_pa, ya_pr, yo_pi, yo_pj, yo_pa, yf_pi, yf_pj, yf_pa, yh_pi, yh_pj, yh_pa, yt_pi, yt_pj, yt_pa, la_pi, la_pj, la_pa]; assumption)) only [b_X12_readMethod_63, b_X12_readMethod_70, i_lit, i_m1, i_31, il_t, il_f, iq_t, iq_f, it_t, it_f, im_e, im_l, im_g, im_g2, nI_add, pk_mul, i_sub, i_div, sdm, i_dec, i_cl, iv_t, bI_or2, bI_t0, bI_one, not_true_eq_false, not_false_eq_true, ↓reduceIte, am_tl, am_tn, am_t0, am_n0, and_true, true_and, List.cons_append, List.nil_append, List.append_nil, w4]
    have F4 : fb h4 97 8 H.1 := by obtain ⟨cs, -, -, b1, b2, b3, -⟩ := S4.2.2.2.2; exact b3
    have ef : zMf ts i H.1 = f_setd H.1 cv mv (nI (w + 1)) := by
      unfold zMf
      show (d_def H.1 (nI (tK ts (i + 1 + 1 + 1) - 1000)) (nI (tK ts (i + 1) - 1000)) (nI (if tK ts (i + 1 + 1 + 1 + 1) = 205 then 0 else 1))).2 = _
      rw [← dd_e hn a5 (by omega) hw2]
      simp only [hm, hcv, hw]
    refine Kg _ e _ ?_
    rw [ef]
    exact S4.upd (am_fr_pi ⟨rfl, by omega, by omega⟩) rfl (fb_setd (fa4 ok) F4 (by omega) (by omega))
  by_cases a6 : tK ts (i + 1 + 1 + 1 + 1) = 205
  · rw [if_pos (r5.2 a6)] at i5
    rw [b_X12_readMethod_26 _ _ _ _ _ L3, show (5 : Int32) = nI 5 from rfl, i5]
    show ex_ (d + 8) 256 32 [some (v_r (some 93)), some (v_i (nI mv)), some (v_i (nI cv)), none] [v_i (nI 1)] h3 Q
    rw [b_X12_readMethod_32 _ _ _ _ _ _, if_neg n1, b_X12_readMethod_35 _ _ _ _ L3]
    refine c_eats_y (d := d + 1) (k := 5) R3 w3 (by decide) (by decide) (by rw [kk.2.1]; exact a6) (fun h4 fr4 R4 => ?_)
    show ex_ (d + 8) 256 46 [some (v_r (some 93)), some (v_i (nI mv)), some (v_i (nI cv)), some (v_i (1 : Int32))] [v_i (nI 1)] h4 Q
    rw [b_X12_readMethod_46 _ _ _ _ _ _, if_pos n1]
    exact go 0 h4 _ (by decide) (by rw [if_pos a6]) (by rw [zh]; unfold zW; rw [if_pos (Or.inl a6)]) fr4 R4 rfl
  · rw [if_neg (fun u => a6 (r5.1 u))] at i5
    have e5 := fun Q => c_eats_n (d := d + 6) (Q := Q) (k := 5) R3 w3 (by decide) (by decide) (by rw [kk.2.1]; exact a6)
    rw [b_X12_readMethod_26 _ _ _ _ _ L3, show (5 : Int32) = nI 5 from rfl, i5]
    show ex_ (d + 8) 256 32 [some (v_r (some 93)), some (v_i (nI mv)), some (v_i (nI cv)), none] [v_i (nI 0)] h3 Q
    rw [b_X12_readMethod_32 _ _ _ _ _ _, if_pos n0, b_X12_readMethod_39 _ _ _ _ L3, show (5 : Int32) = nI 5 from rfl, e5]
    show ex_ (d + 8) 256 46 [some (v_r (some 93)), some (v_i (nI mv)), some (v_i (nI cv)), some (v_i (2 : Int32))] [v_i (nI 0)] h3 Q
    rw [b_X12_readMethod_46 _ _ _ _ _ _, if_neg n00, b_X12_readMethod_49 _ _ _ _ L3]
    by_cases a7 : tK ts (i + 1 + 1 + 1 + 1) = 206
    · refine c_eats_y (d := d + 1) (k := 6) R3 w3 (by decide) (by decide) (by rw [kk.2.2]; exact a7) (fun h4 fr4 R4 => ?_)
      show ex_ (d + 8) 256 55 [some (v_r (some 93)), some (v_i (nI mv)), some (v_i (nI cv)), some (v_i (2 : Int32))] [v_i (nI 1)] h4 Q
      rw [b_X12_readMethod_55 _ _ _ _ _ _, if_pos n1]
      exact go 1 h4 _ (by decide) (by rw [if_neg a6]) (by rw [zh]; unfold zW; rw [if_pos (Or.inr a7)]) fr4 R4 rfl
    · have e6 := fun Q => c_eats_n (d := d + 6) (Q := Q) (k := 6) R3 w3 (by decide) (by decide) (by rw [kk.2.2]; exact a7)
      have fl := fun Q => c_fails (d := d + 7) (Q := Q) (k := 2) R3 w3 (by decide)
      rw [show (6 : Int32) = nI 6 from rfl, e6]
      show ex_ (d + 8) 256 55 [some (v_r (some 93)), some (v_i (nI mv)), some (v_i (nI cv)), some (v_i (2 : Int32))] [v_i (nI 0)] h3 Q
      rw [b_X12_readMethod_55 _ _ _ _ _ _, if_neg n00, b_X12_readMethod_58 _ _ _ _ L3, show (2 : Int32) = nI 2 from rfl, fl]
      have X := S3.no (k := 2) (by decide) (by decide)
      refine x63 _ _ _ _ _ _ X.1 (Kb 2 (i + 1 + 1 + 1 + 1) ?_ (by decide) _ X)
      rw [zh]
      unfold zW
      rw [if_neg (fun k => k.elim a6 a7)]
