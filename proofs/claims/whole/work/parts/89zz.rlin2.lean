/-! ===== the reference reads lines: classes ===== -/
theorem fb_setp {h h' : am_H} {a c : Nat} {f : fa_S} {l : List Nat} (F : fb h a 8 f) (fr : am_fr h h' (fun q k => q = a ∧ (k = 8 + c ∨ (18 + 4 * c ≤ k ∧ k < 18 + 4 * c + 4)))) (h4 : ∀ k, (f_p f k).length ≤ 4) (hc : c < 10) (e1 : h_i h' a (8 + c) = nI l.length) (e2 : ro h' a (18 + 4 * c) l) : fb h' a 8 (f_setp f c l) := by
  obtain ⟨F1, F2, F3, F4⟩ := F
  refine ⟨?_, ?_, ?_, ?_⟩
  · intro q hq
    show h_i h' a (8 + q) = nI (if q = c then l else f_p f q).length
    by_cases z : q = c
    · rw [if_pos z, z, e1]
    · rw [if_neg z, fr.i (by omega), F1 q hq]
  · intro q hq
    show ro h' a (8 + 10 + 4 * q) (if q = c then l else f_p f q)
    by_cases z : q = c
    · rw [if_pos z, z]
      exact e2
    · rw [if_neg z]
      exact fr.ro (F2 q hq) (fun k hk => by have := h4 q; omega)
  · intro q m hq hm
    rw [fr.i (by omega)]
    exact F3 q m hq hm
  · rw [fr.i (by omega)]
    exact F4
theorem c_isUp {d : Nat} {Q : Option am_V → am_H → Prop} {h : am_H} {c p : Nat} {l : List Nat} (L : Lay h) (hc : c < 10) (hp : p < 1000) (e1 : h_i h 97 (8 + c) = nI l.length) (e2 : ro h 97 (18 + 4 * c) l) (pg : pG c l) : ex_ d 254 0 [some (v_r (some 93)), some (v_i (nI c)), some (v_i (nI p)), none] [] h Q ↔ Q (some (v_i (nI (if p ∈ l then 1 else 0)))) h := by
  have h4 := pg.1
  apply ex_iff
  rw [b_X12_isUpAlready_0 _ _ _ _ _]
  refine lp_up l.length (fun i (_ : Unit) => [some (v_r (some 93)), some (v_i (nI c)), some (v_i (nI p)), some (v_i (nI i))]) (fun i _ h' => h' = h ∧ ∀ k, k < i → ¬ l.getD k 0 = p) ?_ ?_ (Nat.zero_le _) ⟨rfl, fun k hk => absurd hk (Nat.not_lt_zero _)⟩ (s := ())
  · rintro i - h' hi ⟨rfl, e⟩ nx
    have hl : l.getD i 0 < 10 := by have := pg.2.1 _ (gd_mem hi); omega
    have e3 : h_i h' 97 (18 + 4 * c + i) = nI (l.getD i 0) := e2 i hi
    rw [b_X12_isUpAlready_2 _ _ _ _ L]
    by_cases he : l.getD i 0 = p
    · have hm : p ∈ l := he ▸ gd_mem hi
      rw [if_pos hm]
      simp (disch := first | assumption | omega | (simp only [ya_pi, ya_pj, ya_pa, ya_pr, yo_pi, yo_pj, yo_pa, yf_pi, yf_pj, yf_pa, yh_pi, yh_pj, yh_pa, yt_pi, yt_pj, yt_pa, la_pi, la_pj, la_pa]; assumption)) only [b_X12_isUpAlready_15, b_X12_isUpAlready_32, i_lit, i_m1, i_31, il_t, il_f, iq_t, iq_f, it_t, it_f, im_e, im_l, im_g, im_g2, nI_add, pk_mul, i_sub, i_div, sdm, i_dec, i_cl, iv_t, bI_or2, bI_t0, bI_one, not_true_eq_false, not_false_eq_true, ↓reduceIte, am_tl, am_tn, am_t0, am_n0, and_true, true_and, List.cons_append, List.nil_append, List.append_nil, e1, e3, he]
    · simp (disch := first | assumption | omega | (simp only [ya_pi, ya_pj, ya_pa, ya_pr, yo_pi, yo_pj, yo_pa, yf_pi, yf_pj, yf_pa, yh_pi, yh_pj, yh_pa, yt_pi, yt_pj, yt_pa, la_pi, la_pj, la_pa]; assumption)) only [b_X12_isUpAlready_15, b_X12_isUpAlready_34, i_lit, i_m1, i_31, il_t, il_f, iq_t, iq_f, it_t, it_f, im_e, im_l, im_g, im_g2, nI_add, pk_mul, i_sub, i_div, sdm, i_dec, i_cl, iv_t, bI_or2, bI_t0, bI_one, not_true_eq_false, not_false_eq_true, ↓reduceIte, am_tl, am_tn, am_t0, am_n0, and_true, true_and, List.cons_append, List.nil_append, List.append_nil, e1, e3]
      refine nx () _ ⟨rfl, fun k hk => ?_⟩
      by_cases z : k = i
      · rw [z]; exact he
      · exact e k (by omega)
  · rintro - h' ⟨rfl, e⟩
    have hm : ¬ p ∈ l := fun u => by
      obtain ⟨k, hk, ek⟩ := List.getElem_of_mem u
      refine e k hk ?_
      rw [List.getD_eq_getElem?_getD, List.getElem?_eq_getElem hk]
      exact ek
    rw [if_neg hm, b_X12_isUpAlready_2 _ _ _ _ L]
    simp (disch := first | assumption | omega | (simp only [ya_pi, ya_pj, ya_pa, ya_pr, yo_pi, yo_pj, yo_pa, yf_pi, yf_pj, yf_pa, yh_pi, yh_pj, yh_pa, yt_pi, yt_pj, yt_pa, la_pi, la_pj, la_pa]; assumption)) only [b_X12_isUpAlready_40, i_lit, i_m1, i_31, il_t, il_f, iq_t, iq_f, it_t, it_f, im_e, im_l, im_g, im_g2, nI_add, pk_mul, i_sub, i_div, sdm, i_dec, i_cl, iv_t, bI_or2, bI_t0, bI_one, not_true_eq_false, not_false_eq_true, ↓reduceIte, am_tl, am_tn, am_t0, am_n0, and_true, true_and, List.cons_append, List.nil_append, List.append_nil, e1]
theorem rc_step {d : Nat} {Q : Option am_V → am_H → Prop} {h0 h1 : am_H} {tx : List Nat} {ts : List (Nat × Nat)} {x m' : Nat} {l : List Nat} {H : ho_S} {R : Nat × Nat × List Nat} {l2 : Option am_V} (G : gT ts) (ok : fa_ok H.1) (z : f_n H.1 < 10) (S : rlS h0 h1 tx ts x (f_setp H.1 (f_n H.1) l, H.2)) (pg : pG (f_n H.1) l) (y : 1000 ≤ tK ts x)
    (E : (if f_n H.1 ≤ tK ts x - 1000 ∨ (tK ts x - 1000) ∈ l then (3, x, l) else if 4 ≤ l.length then (4, x, l) else zc ts (f_n H.1) m' (x + 1) (l ++ [tK ts x - 1000])) = R)
    (Kbad : ∀ e' x' l', (e', x', l') = R → ¬ e' = 0 → ∀ h', rlX h0 h' ts e' x' → Q none h')
    (nx : ∀ h2 l4, rlS h0 h2 tx ts (x + 1) (f_setp H.1 (f_n H.1) (l ++ [tK ts x - 1000]), H.2) → pG (f_n H.1) (l ++ [tK ts x - 1000]) → zc ts (f_n H.1) m' (x + 1) (l ++ [tK ts x - 1000]) = R → ex_ (d + 6) 255 30 [some (v_r (some 93)), some (v_i (nI (f_n H.1))), l4] [] h2 Q) :
    ex_ (d + 6) 255 39 [some (v_r (some 93)), some (v_i (nI (f_n H.1))), l2] [] h1 Q := by
  have okp := ok_setp ok z pg
  have L := S.1.1
  have w := S.2.1
  have e10 := S.1.2.2.2.2.1 y
  have t4 := G.2.1 x
  have lb := pg.1
  have ne : ∀ k, (pF ts k x).1 = k := fun k => if_neg (by omega)
  have X3 := S.no (k := 3) (by decide) (by decide)
  have X4 := S.no (k := 4) (by decide) (by decide)
  rw [ne 3] at X3
  rw [ne 4] at X4
  have fl3 := fun Q => c_fails (d := d + 5) (Q := Q) (k := 3) S.1 w (by decide)
  have fl4 := fun Q => c_fails (d := d + 5) (Q := Q) (k := 4) S.1 w (by decide)
  have B := S.2.2.2.2
  obtain ⟨cs, -, -, b1, b2, b3, -⟩ := B
  have c1 : h_i h1 97 (8 + f_n H.1) = nI l.length := by
    have := b3.1 _ z
    rw [f_setp_c] at this
    exact this
  have c2 : ro h1 97 (18 + 4 * f_n H.1) l := by
    have := b3.2.1 _ z
    rw [f_setp_c] at this
    exact this
  have bad : ∀ e, 0 < e → e ≤ 4 → rlX h0 (rfR h1 ts e x) ts e x → (e, x, l) = R → ∀ l2, ex_ (d + 6) 255 74 [some (v_r (some 93)), some (v_i (nI (f_n H.1))), l2] [] (rfR h1 ts e x) Q := fun e p1 p2 X u l2 => by
    have LX := X.1.1
    have wx := X.1.2.1
    simp (disch := first | assumption | omega | (simp only [ya_pi, ya_pj, ya_pa, ya_pr, yo_pi, yo_pj, yo_pa, yf_pi, yf_pj, yf_pa, yh_pi, yh_pj, yh_pa, yt_pi, yt_pj, yt_pa, la_pi, la_pj, la_pa]; assumption)) only [b_X12_readClass_74, b_X12_readClass_94, i_lit, i_m1, i_31, il_t, il_f, iq_t, iq_f, it_t, it_f, im_e, im_l, im_g, im_g2, nI_add, pk_mul, i_sub, i_div, sdm, i_dec, i_cl, iv_t, bI_or2, bI_t0, bI_one, not_true_eq_false, not_false_eq_true, ↓reduceIte, am_tl, am_tn, am_t0, am_n0, and_true, true_and, List.cons_append, List.nil_append, List.append_nil, wx]
    exact Kbad e x l u (by omega) _ X
  have bad2 : ∀ e, 0 < e → e ≤ 4 → rlX h0 (rfR h1 ts e x) ts e x → (e, x, l) = R → ∀ l2, ex_ (d + 6) 255 87 [some (v_r (some 93)), some (v_i (nI (f_n H.1))), l2] [] (rfR h1 ts e x) Q := fun e p1 p2 X u l2 => by
    have LX := X.1.1
    have wx := X.1.2.1
    simp (disch := first | assumption | omega | (simp only [ya_pi, ya_pj, ya_pa, ya_pr, yo_pi, yo_pj, yo_pa, yf_pi, yf_pj, yf_pa, yh_pi, yh_pj, yh_pa, yt_pi, yt_pj, yt_pa, la_pi, la_pj, la_pa]; assumption)) only [b_X12_readClass_87, b_X12_readClass_94, i_lit, i_m1, i_31, il_t, il_f, iq_t, iq_f, it_t, it_f, im_e, im_l, im_g, im_g2, nI_add, pk_mul, i_sub, i_div, sdm, i_dec, i_cl, iv_t, bI_or2, bI_t0, bI_one, not_true_eq_false, not_false_eq_true, ↓reduceIte, am_tl, am_tn, am_t0, am_n0, and_true, true_and, List.cons_append, List.nil_append, List.append_nil, wx]
    exact Kbad e x l u (by omega) _ X
  obtain ⟨v, hv⟩ : ∃ v, v = tK ts x - 1000 := ⟨_, rfl⟩
  rw [← hv] at E nx e10
  have hv2 : v < 1000 := by omega
  have up := fun Q => c_isUp (d := d + 5) (Q := Q) (p := v) L z hv2 c1 c2 pg
  by_cases w1 : f_n H.1 ≤ v
  · rw [if_pos (Or.inl w1)] at E
    simp (disch := first | assumption | omega | (simp only [ya_pi, ya_pj, ya_pa, ya_pr, yo_pi, yo_pj, yo_pa, yf_pi, yf_pj, yf_pa, yh_pi, yh_pj, yh_pa, yt_pi, yt_pj, yt_pa, la_pi, la_pj, la_pa]; assumption)) only [b_X12_readClass_39, b_X12_readClass_69, i_lit, i_m1, i_31, il_t, il_f, iq_t, iq_f, it_t, it_f, im_e, im_l, im_g, im_g2, nI_add, pk_mul, i_sub, i_div, sdm, i_dec, i_cl, iv_t, bI_or2, bI_t0, bI_one, not_true_eq_false, not_false_eq_true, ↓reduceIte, am_tl, am_tn, am_t0, am_n0, and_true, true_and, List.cons_append, List.nil_append, List.append_nil, c1, e10, fl3]
    exact bad 3 (by decide) (by decide) X3 E _
  · by_cases u : v ∈ l
    · rw [if_pos (Or.inr u)] at E
      rw [if_pos u] at up
      simp (disch := first | assumption | omega | (simp only [ya_pi, ya_pj, ya_pa, ya_pr, yo_pi, yo_pj, yo_pa, yf_pi, yf_pj, yf_pa, yh_pi, yh_pj, yh_pa, yt_pi, yt_pj, yt_pa, la_pi, la_pj, la_pa]; assumption)) only [b_X12_readClass_39, b_X12_readClass_57, b_X12_readClass_66, b_X12_readClass_69, i_lit, i_m1, i_31, il_t, il_f, iq_t, iq_f, it_t, it_f, im_e, im_l, im_g, im_g2, nI_add, pk_mul, i_sub, i_div, sdm, i_dec, i_cl, iv_t, bI_or2, bI_t0, bI_one, not_true_eq_false, not_false_eq_true, ↓reduceIte, am_tl, am_tn, am_t0, am_n0, and_true, true_and, List.cons_append, List.nil_append, List.append_nil, c1, e10, up, fl3]
      exact bad 3 (by decide) (by decide) X3 E _
    · rw [if_neg (fun k => k.elim w1 u)] at E
      rw [if_neg u] at up
      by_cases t : 4 ≤ l.length
      · rw [if_pos t] at E
        have l4 : l.length = 4 := by omega
        simp (disch := first | assumption | omega | (simp only [ya_pi, ya_pj, ya_pa, ya_pr, yo_pi, yo_pj, yo_pa, yf_pi, yf_pj, yf_pa, yh_pi, yh_pj, yh_pa, yt_pi, yt_pj, yt_pa, la_pi, la_pj, la_pa]; assumption)) only [b_X12_readClass_39, b_X12_readClass_57, b_X12_readClass_66, b_X12_readClass_77, b_X12_readClass_82, i_lit, i_m1, i_31, il_t, il_f, iq_t, iq_f, it_t, it_f, im_e, im_l, im_g, im_g2, nI_add, pk_mul, i_sub, i_div, sdm, i_dec, i_cl, iv_t, bI_or2, bI_t0, bI_one, not_true_eq_false, not_false_eq_true, ↓reduceIte, am_tl, am_tn, am_t0, am_n0, and_true, true_and, List.cons_append, List.nil_append, List.append_nil, c1, e10, up, fl4, l4]
        exact bad2 4 (by decide) (by decide) X4 E _
      · rw [if_neg t] at E
        have pg2 : pG (f_n H.1) (l ++ [v]) := ⟨by rw [List.length_append]; show l.length + 1 ≤ 4; omega, fun p hp => by
          rcases List.mem_append.1 hp with h | h
          · exact pg.2.1 p h
          · rw [List.mem_singleton.1 h]; omega, List.nodup_append.2 ⟨pg.2.2, by simp, fun a ha b hb => by
          rw [List.mem_singleton.1 hb]
          intro e
          exact u (e ▸ ha)⟩⟩
        simp (disch := first | assumption | omega | (simp only [ya_pi, ya_pj, ya_pa, ya_pr, yo_pi, yo_pj, yo_pa, yf_pi, yf_pj, yf_pa, yh_pi, yh_pj, yh_pa, yt_pi, yt_pj, yt_pa, la_pi, la_pj, la_pa]; assumption)) only [b_X12_readClass_39, b_X12_readClass_57, b_X12_readClass_66, b_X12_readClass_77, b_X12_readClass_87, b_X12_readClass_95, i_lit, i_m1, i_31, il_t, il_f, iq_t, iq_f, it_t, it_f, im_e, im_l, im_g, im_g2, nI_add, pk_mul, i_sub, i_div, sdm, i_dec, i_cl, iv_t, bI_or2, bI_t0, bI_one, not_true_eq_false, not_false_eq_true, ↓reduceIte, am_tl, am_tn, am_t0, am_n0, and_true, true_and, List.cons_append, List.nil_append, List.append_nil, hi_s, hi_o, hi_k, hr_pi, hj_pi, hn_pi, hi_pas, hi_pao, hr_pa, hj_pa, c1, e10, up, w]
        have fr : am_fr h1 (p_i (p_i h1 97 (18 + 4 * f_n H.1 + l.length) (nI v)) 97 (8 + f_n H.1) (nI (l.length + 1))) (fun q k => q = 97 ∧ (k = 8 + f_n H.1 ∨ (18 + 4 * f_n H.1 ≤ k ∧ k < 18 + 4 * f_n H.1 + 4))) := (am_fr_pi ⟨rfl, by omega⟩).pi ⟨rfl, by omega⟩
        have F2 : fb (p_i (p_i h1 97 (18 + 4 * f_n H.1 + l.length) (nI v)) 97 (8 + f_n H.1) (nI (l.length + 1))) 97 8 (f_setp H.1 (f_n H.1) (l ++ [v])) := by
          have := fb_setp (l := l ++ [v]) b3 fr (fa4 okp) z (by rw [hi_s, List.length_append]; rfl) (by
            intro j hj
            rw [hi_k (by rw [List.length_append, List.length_singleton] at hj; omega)]
            exact ro_app (q := v) c2 j hj)
          rw [f_setp_2] at this
          exact this
        have S2 : rlS h0 (p_i (p_i h1 97 (18 + 4 * f_n H.1 + l.length) (nI v)) 97 (8 + f_n H.1) (nI (l.length + 1))) tx ts x (f_setp H.1 (f_n H.1) (l ++ [v]), H.2) := S.upd (fr.le (fun q k zz => ⟨zz.1, by omega, by omega⟩)) rfl F2
        generalize p_i (p_i h1 97 (18 + 4 * f_n H.1 + l.length) (nI v)) 97 (8 + f_n H.1) (nI (l.length + 1)) = h2 at S2 ⊢
        refine S2.1.next (d := d) (by omega) (by omega) (fun h3 fr3 R3 => ?_)
        have S3 := S2.nx (ok_setp ok z pg2) fr3 R3 (Nat.le_succ _)
        simp (disch := first | assumption | omega | (simp only [ya_pi, ya_pj, ya_pa, ya_pr, yo_pi, yo_pj, yo_pa, yf_pi, yf_pj, yf_pa, yh_pi, yh_pj, yh_pa, yt_pi, yt_pj, yt_pa, la_pi, la_pj, la_pa]; assumption)) only [b_X12_readClass_129, i_lit, i_m1, i_31, il_t, il_f, iq_t, iq_f, it_t, it_f, im_e, im_l, im_g, im_g2, nI_add, pk_mul, i_sub, i_div, sdm, i_dec, i_cl, iv_t, bI_or2, bI_t0, bI_one, not_true_eq_false, not_false_eq_true, ↓reduceIte, am_tl, am_tn, am_t0, am_n0, and_true, true_and, List.cons_append, List.nil_append, List.append_nil]
        exact nx h3 _ S3 pg2 E
theorem c_rClass {d : Nat} {Q : Option am_V → am_H → Prop} {h0 h : am_H} {tx : List Nat} {ts : List (Nat × Nat)} {i : Nat} {H : ho_S} (G : gT ts) (okh : okH H) (S : rlS h0 h tx ts i H) (ht : tK ts i = 202) (K : rlO h0 tx ts (zC ts i H) Q) : ex_ (d + 6) 255 0 [some (v_r (some 93)), none, none] [] h Q := by
  have ok := okh.1.1
  have gd := okh.1
  have L := S.1.1
  have w := S.2.1
  have hn := ok.1
  have i1 := G.1 i (by omega)
  have G3 := G.2.2.1
  have e1 : h_i h 97 1 = nI (f_n H.1) := by obtain ⟨cs, -, -, b1, b2, -⟩ := S.2.2.2.2; exact b2
  unfold zC at K
  by_cases z : 10 ≤ f_n H.1
  · rw [if_pos z] at K
    have n10 : f_n H.1 = 10 := by omega
    have X4 := S.no (k := 4) (by decide) (by decide)
    rw [show (pF ts 4 i).1 = 4 from if_neg (by omega)] at X4
    have LX := X4.1.1
    have wx := X4.1.2.1
    have fl := fun Q => c_fails (d := d + 5) (Q := Q) (k := 4) S.1 w (by decide)
    simp (disch := first | assumption | omega | (simp only [ya_pi, ya_pj, ya_pa, ya_pr, yo_pi, yo_pj, yo_pa, yf_pi, yf_pj, yf_pa, yh_pi, yh_pj, yh_pa, yt_pi, yt_pj, yt_pa, la_pi, la_pj, la_pa]; assumption)) only [b_X12_readClass_0, b_X12_readClass_13, b_X12_readClass_18, b_X12_readClass_25, i_lit, i_m1, i_31, il_t, il_f, iq_t, iq_f, it_t, it_f, im_e, im_l, im_g, im_g2, nI_add, pk_mul, i_sub, i_div, sdm, i_dec, i_cl, iv_t, bI_or2, bI_t0, bI_one, not_true_eq_false, not_false_eq_true, ↓reduceIte, am_tl, am_tn, am_t0, am_n0, and_true, true_and, List.cons_append, List.nil_append, List.append_nil, e1, n10, fl, wx]
    exact K.2 (show ¬ (4 : Nat) = 0 by decide) _ X4
  · rw [if_neg z] at K
    simp (disch := first | assumption | omega | (simp only [ya_pi, ya_pj, ya_pa, ya_pr, yo_pi, yo_pj, yo_pa, yf_pi, yf_pj, yf_pa, yh_pi, yh_pj, yh_pa, yt_pi, yt_pj, yt_pa, la_pi, la_pj, la_pa]; assumption)) only [b_X12_readClass_0, b_X12_readClass_18, b_X12_readClass_26, i_lit, i_m1, i_31, il_t, il_f, iq_t, iq_f, it_t, it_f, im_e, im_l, im_g, im_g2, nI_add, pk_mul, i_sub, i_div, sdm, i_dec, i_cl, iv_t, bI_or2, bI_t0, bI_one, not_true_eq_false, not_false_eq_true, ↓reduceIte, am_tl, am_tn, am_t0, am_n0, and_true, true_and, List.cons_append, List.nil_append, List.append_nil, e1, w]
    refine S.1.next (d := d) (by omega) (by omega) (fun h1 fr1 R1 => ?_)
    have S1 := S.nx ok fr1 R1 (Nat.le_succ _)
    have e0 : f_setp H.1 (f_n H.1) [] = H.1 := f_setp_0 (gd.2.2.2.1 _ (Nat.le_refl _))
    show ex_ (d + 6) 255 30 [some (v_r (some 93)), some (v_i (nI (f_n H.1))), none] [] h1 Q
    generalize hR : zc ts (f_n H.1) 902 (i + 1) [] = R at K
    have Kbad : ∀ e' x' l', (e', x', l') = R → ¬ e' = 0 → ∀ h', rlX h0 h' ts e' x' → Q none h' := by
      rintro e' x' l' rfl u h' X
      have K2 := K
      rw [if_neg (show ¬ ((e', x', l') : Nat × Nat × List Nat).1 = 0 from u)] at K2
      exact K2.2 u h' X
    refine lp_wf (d := d + 6) (k := 255) (pc := 30) (fun s : Nat × Nat × List Nat × Option am_V => ts.length + 1 - s.2.1) (fun s => [some (v_r (some 93)), some (v_i (nI (f_n H.1))), s.2.2.2]) (fun s h1 => rlS h0 h1 tx ts s.2.1 (f_setp H.1 (f_n H.1) s.2.2.1, H.2) ∧ pG (f_n H.1) s.2.2.1 ∧ zc ts (f_n H.1) s.1 s.2.1 s.2.2.1 = R ∧ ts.length < s.1 + s.2.1) ?_ (s := (902, i + 1, [], none)) ⟨by rw [e0]; exact S1, ⟨(show ([] : List Nat).length ≤ 4 by decide), fun p hp => (by cases hp), List.nodup_nil⟩, hR, by show ts.length < 902 + (i + 1); omega⟩
    rintro ⟨mm, x, l, l2⟩ h2 ⟨S2, pg, E, fu⟩ nx
    have S2 : rlS h0 h2 tx ts x (f_setp H.1 (f_n H.1) l, H.2) := S2
    have pg : pG (f_n H.1) l := pg
    have E : zc ts (f_n H.1) mm x l = R := E
    have fu : ts.length < mm + x := fu
    show ex_ (d + 6) 255 30 [some (v_r (some 93)), some (v_i (nI (f_n H.1))), l2] [] h2 Q
    have hx := S2.1.2.2.2.2.2.1
    obtain ⟨m', hm⟩ : ∃ m', mm = m' + 1 := ⟨mm - 1, by omega⟩
    rw [hm] at E
    unfold zc at E
    have L2 := S2.1.1
    have w2 := S2.2.1
    have is23 := fun Q => c_is (d := d + 5) (Q := Q) (k := 23) S2.1 w2 (by decide)
    have r25 := (rk_25 (t := tK ts x)).2.1
    by_cases y : 1000 ≤ tK ts x
    · rw [if_pos y] at E
      rw [if_pos (r25.2 y)] at is23
      have n1 : ¬ nI 1 = 0 := by decide
      rw [b_X12_readClass_30 _ _ _ L2, show (23 : Int32) = nI 23 from rfl, is23]
      show ex_ (d + 6) 255 36 [some (v_r (some 93)), some (v_i (nI (f_n H.1))), l2] [v_i (nI 1)] h2 Q
      rw [b_X12_readClass_36 _ _ _ _ _, if_neg n1]
      refine rc_step G ok (by omega) S2 pg y E Kbad (fun h3 l4 S3 pg3 E3 => ?_)
      exact nx (m', x + 1, _, l4) h3 (by show ts.length + 1 - (x + 1) < ts.length + 1 - x; omega) ⟨S3, pg3, E3, by show ts.length < m' + (x + 1); omega⟩
    · rw [if_neg y] at E
      rw [if_neg (fun u => y (r25.1 u))] at is23
      subst E
      have K2 := K
      rw [if_pos (show ((0, x, l) : Nat × Nat × List Nat).1 = 0 from rfl)] at K2
      obtain ⟨R2, -, f2, ln, cs, C2, lc, b1, b2, b3, b4, b5, b6⟩ := S2
      have b2 : h_i h2 97 1 = nI (f_n H.1) := b2
      rw [b_X12_readClass_30 _ _ _ L2, show (23 : Int32) = nI 23 from rfl, is23]
      show ex_ (d + 6) 255 36 [some (v_r (some 93)), some (v_i (nI (f_n H.1))), l2] [v_i (nI 0)] h2 Q
      simp (disch := first | assumption | omega | (simp only [ya_pi, ya_pj, ya_pa, ya_pr, yo_pi, yo_pj, yo_pa, yf_pi, yf_pj, yf_pa, yh_pi, yh_pj, yh_pa, yt_pi, yt_pj, yt_pa, la_pi, la_pj, la_pa]; assumption)) only [b_X12_readClass_36, b_X12_readClass_132, b_X12_readClass_139, i_lit, i_m1, i_31, il_t, il_f, iq_t, iq_f, it_t, it_f, im_e, im_l, im_g, im_g2, nI_add, pk_mul, i_sub, i_div, sdm, i_dec, i_cl, iv_t, bI_or2, bI_t0, bI_one, not_true_eq_false, not_false_eq_true, ↓reduceIte, am_tl, am_tn, am_t0, am_n0, and_true, true_and, List.cons_append, List.nil_append, List.append_nil, w2, b2]
      have fr : am_fr h2 (p_i h2 97 1 (nI (f_n H.1 + 1))) (fun q k => q = 97 ∧ k = 1) := am_fr_pi ⟨rfl, rfl⟩
      exact K2.1 rfl _ ⟨R2.fr fr (fun k _ _ z => by omega) (fun k z => by omega), by rw [fr.i (by omega)]; exact w2, f2.tr (fr.le (fun q k z => Or.inr z.1)), ln, cs, C2.fr fr (fun k hk z => by omega), lc, by rw [fr.i (by omega)]; exact b1, hi_s, (show fb (p_i h2 97 1 (nI (f_n H.1 + 1))) 97 8 (f_setp H.1 (f_n H.1) l) from fr.fb (fa4 (ok_setp ok (by omega) pg)) b3 (fun k h1 h2 z => by omega)), b4.fr fr (by omega) (by omega) (by omega), b5.fr fr (by omega) (by omega) (by omega), by rw [fr.i (by omega)]; exact b6⟩
