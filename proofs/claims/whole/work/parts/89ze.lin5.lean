/-! ===== the class reads lines: laws, lines, the house's line ===== -/
theorem tkS.g {h h' : am_H} {P J R : Nat → Nat → Prop} {ts : List (Nat × Nat)} {i : Nat} (S : tkS h ts i) (g : gf h h' P J R) (L' : Lay h') (hp : ∀ k, ¬ P 2 k ∧ ¬ P 3 k ∧ ¬ P 4 k) : tkS h' ts i := by
  obtain ⟨L, ⟨t1, t2, t3, t4⟩, s5, s6, hi⟩ := S
  have n2 := la_n L (show 2 < 118 by decide)
  have n3 := la_n L (show 3 < 118 by decide)
  have n4 := la_n L (show 4 < 118 by decide)
  exact ⟨L', ⟨(g.i n2 (hp 4).1).trans t1, t2, fun k hk => ⟨(g.i n3 (hp k).2.1).trans (t3 k hk).1, (g.i n4 (hp k).2.2).trans (t3 k hk).2⟩, t4⟩, (g.i n2 (hp 5).1).trans s5, (g.i n2 (hp 6).1).trans s6, hi⟩
/-- the law kept -/
theorem keepLaw {h0 h : am_H} {ts : List (Nat × Nat)} {sy : Bool} {i j : Nat} {cs : List Nat} {H : ho_S} (ok : fa_ok H.1) (S : tkS h ts j) (C : cdA h cs) (B : clB h0 h H) (rm : rm_ h0 h i) (ln : H.2.2.2 ≤ i) (hj : i + cs.length + 1 ≤ j) : clS h0 (p_r (cpH h cs.length) 2 (if sy = true then 11 else 12) (some (h_n h))) ts j (zLf sy cs H) := by
  have L := S.1
  obtain ⟨b1, b2, b3, b4, b5, b6⟩ := B
  have n2 := la_n L (show 2 < 118 by decide)
  have n5 := la_n L (show 5 < 118 by decide)
  have hge := b5.1
  have g : gf h (p_r (cpH h cs.length) 2 (if sy = true then 11 else 12) (some (h_n h))) N0 N0 (fun q k => q = 2 ∧ k = (if sy = true then 11 else 12)) := (cpH_g.le (fun _ _ z => z) (fun _ _ z => z) (fun _ _ z => z.elim)).tr (gf_pr ⟨rfl, rfl⟩)
  have gR' : gf h (p_r (cpH h cs.length) 2 (if sy = true then 11 else 12) (some (h_n h))) rlP N0 rlR := g.le (fun _ _ z => z.elim) (fun _ _ z => z) (fun q k z => ⟨z.1, by rw [z.2]; split <;> omega⟩)
  have L' : Lay (p_r (cpH h cs.length) 2 (if sy = true then 11 else 12) (some (h_n h))) := gR'.lay rl_ref L
  have la : la_at (p_r (cpH h cs.length) 2 (if sy = true then 11 else 12) (some (h_n h))) (h_n h) cs := by
    refine ⟨?_, C.2.1, fun k hk => ?_⟩
    · show y_c (p_n h 20 cs.length) (h_n h) 20 cs.length
      exact pn_c
    · show h_i (cpH h cs.length) (h_n h) k = _
      unfold cpH
      rw [hi_pas, cpy0 hk, (gf_pn (P := N0) (J := N0) (R := N0)).i (la_n L (by decide)) (fun z => z)]
      exact C.2.2.1 k hk
  have rr : h_r (p_r (cpH h cs.length) 2 (if sy = true then 11 else 12) (some (h_n h))) 2 (if sy = true then 11 else 12) = some (h_n h) := by rw [h_r_pr, if_pos ⟨rfl, rfl⟩]
  have F : fa_at (p_r (cpH h cs.length) 2 (if sy = true then 11 else 12) (some (h_n h))) 5 H.1 := g.fa (fa4 ok) b1 (fun _ _ _ _ z => z) (fun k z => by have := z.1; omega)
  have e10 : h_i (p_r (cpH h cs.length) 2 (if sy = true then 11 else 12) (some (h_n h))) 2 10 = nI H.2.2.2 := (g.i n2 (fun z => z)).trans b4
  have r2 : rm_ h0 (p_r (cpH h cs.length) 2 (if sy = true then 11 else 12) (some (h_n h))) j := by
    have e1 : h_n (p_r (cpH h cs.length) 2 (if sy = true then 11 else 12) (some (h_n h))) = h_n h + 1 := rfl
    have e2 : h_s (p_r (cpH h cs.length) 2 (if sy = true then 11 else 12) (some (h_n h))) = h_s h + cs.length := rfl
    unfold rm_ at rm ⊢
    rw [e1, e2]
    omega
  have fl : f78 (p_r (cpH h cs.length) 2 (if sy = true then 11 else 12) (some (h_n h))) := ⟨(g.i n2 (fun z => z)).trans C.2.2.2.1, (g.i n2 (fun z => z)).trans C.2.2.2.2⟩
  have T := S.g g L' (fun k => ⟨fun z => z, fun z => z, fun z => z⟩)
  unfold zLf
  cases sy with
  | true =>
    exact ⟨T, ⟨F, ⟨h_n h, hge, rr, la⟩, b3.g g b6 n2 (fun z => by have := z.2; simp at this) (fun _ _ _ z => z), e10, b5.tr gR', b6⟩, r2, by show H.2.2.2 ≤ j; omega, fl⟩
  | false =>
    exact ⟨T, ⟨F, b2.g g b6 n2 (fun z => by have := z.2; simp at this) (fun _ _ _ z => z), ⟨h_n h, hge, rr, la⟩, e10, b5.tr gR', b6⟩, r2, by show H.2.2.2 ≤ j; omega, fl⟩
theorem c_readLaw8 {d : Nat} {Q : Option am_V → am_H → Prop} {h0 h : am_H} {ts : List (Nat × Nat)} {sy : Bool} {i : Nat} {H : ho_S} (G : gT ts) (okh : okH H) (S : clS h0 h ts i H) (hc : tK ts i = if sy = true then 207 else 208) (K : lOK h0 ts (zL ts sy i H) Q) : ex_ (d + 60) 137 0 [some (v_r (some 2)), none] [] h Q := by
  have gd := okh.1
  have ok := gd.1
  have L := S.1.1
  have hsy : tK ts i = 207 ∨ tK ts i = 208 := by rw [hc]; cases sy <;> simp
  have i1 := G.1 i (by omega)
  have G3 := G.2.2.1
  have s6 := S.1.2.2.2.1
  have Kb : ∀ r : pR_, zLh ts sy i = r → ¬ r.1 = 0 → ∀ h', clX h0 h' ts r.1 r.2.1 → Q (some (v_i (nI 0))) h' := by
    intro r e z
    unfold zL at K
    rw [e, if_neg z] at K
    exact K.2 z
  have Kg : ∀ j c, zLh ts sy i = (0, j, c) → ∀ h', clS h0 h' ts j (zLf sy c H) → Q (some (v_i (nI 1))) h' := by
    intro j c e
    unfold zL at K
    rw [e, if_pos rfl] at K
    exact K.1 rfl
  clear K
  -- the fresh state
  have fr1 : am_fr h (p_i (p_i (p_i h 2 15 (nI (if sy = true then 1 else 0))) 2 14 (nI 0)) 2 16 (nI 0)) lpP := ((am_fr_pi (Or.inl ⟨rfl, by omega⟩)).pi (Or.inl ⟨rfl, by omega⟩)).pi (Or.inl ⟨rfl, by omega⟩)
  have B1 := S.2.1.fr L ok fr1
  have rm1 := S.2.2.1.fr fr1 (Nat.le_refl _)
  have T1 : tkS (p_i (p_i (p_i h 2 15 (nI (if sy = true then 1 else 0))) 2 14 (nI 0)) 2 16 (nI 0)) ts i := by
    obtain ⟨-, T, s5, s6, hi⟩ := S.1
    exact ⟨fr1.lay L, T.fr fr1 (fun z => by unfold lpP at z; omega) (fun k => ⟨fun z => by unfold lpP at z; omega, fun z => by unfold lpP at z; omega⟩), by simp (disch := first | assumption | omega | (simp only [ya_pi, ya_pj, ya_pa, ya_pr, yo_pi, yo_pj, yo_pa, yf_pi, yf_pj, yf_pa, yh_pi, yh_pj, yh_pa, yt_pi, yt_pj, yt_pa, la_pi, la_pj, la_pa]; assumption)) only [hi_s, hi_o, hi_k, hr_pi, hj_pi, hn_pi, hi_pas, hi_pao, hr_pa, hj_pa]; exact s5, by simp (disch := first | assumption | omega | (simp only [ya_pi, ya_pj, ya_pa, ya_pr, yo_pi, yo_pj, yo_pa, yf_pi, yf_pj, yf_pa, yh_pi, yh_pj, yh_pa, yt_pi, yt_pj, yt_pa, la_pi, la_pj, la_pa]; assumption)) only [hi_s, hi_o, hi_k, hr_pi, hj_pi, hn_pi, hi_pas, hi_pao, hr_pa, hj_pa]; exact s6, hi⟩
  have fl : f78 (p_i (p_i (p_i h 2 15 (nI (if sy = true then 1 else 0))) 2 14 (nI 0)) 2 16 (nI 0)) := ⟨by simp (disch := first | assumption | omega | (simp only [ya_pi, ya_pj, ya_pa, ya_pr, yo_pi, yo_pj, yo_pa, yf_pi, yf_pj, yf_pa, yh_pi, yh_pj, yh_pa, yt_pi, yt_pj, yt_pa, la_pi, la_pj, la_pa]; assumption)) only [hi_s, hi_o, hi_k, hr_pi, hj_pi, hn_pi, hi_pas, hi_pao, hr_pa, hj_pa]; exact S.2.2.2.2.1, by simp (disch := first | assumption | omega | (simp only [ya_pi, ya_pj, ya_pa, ya_pr, yo_pi, yo_pj, yo_pa, yf_pi, yf_pj, yf_pa, yh_pi, yh_pj, yh_pa, yt_pi, yt_pj, yt_pa, la_pi, la_pj, la_pa]; assumption)) only [hi_s, hi_o, hi_k, hr_pi, hj_pi, hn_pi, hi_pas, hi_pao, hr_pa, hj_pa]; exact S.2.2.2.2.2⟩
  have R1 : rdS (p_i (p_i (p_i h 2 15 (nI (if sy = true then 1 else 0))) 2 14 (nI 0)) 2 16 (nI 0)) ts sy i [] 0 := ⟨T1, ⟨by simp (disch := first | assumption | omega | (simp only [ya_pi, ya_pj, ya_pa, ya_pr, yo_pi, yo_pj, yo_pa, yf_pi, yf_pj, yf_pa, yh_pi, yh_pj, yh_pa, yt_pi, yt_pj, yt_pa, la_pi, la_pj, la_pa]; assumption)) only [hi_s, hi_o, hi_k, hr_pi, hj_pi, hn_pi, hi_pas, hi_pao, hr_pa, hj_pa]; rfl, Nat.zero_le _, fun k hk => absurd hk (Nat.not_lt_zero _), fl⟩, by simp (disch := first | assumption | omega | (simp only [ya_pi, ya_pj, ya_pa, ya_pr, yo_pi, yo_pj, yo_pa, yf_pi, yf_pj, yf_pa, yh_pi, yh_pj, yh_pa, yt_pi, yt_pj, yt_pa, la_pi, la_pj, la_pa]; assumption)) only [hi_s, hi_o, hi_k, hr_pi, hj_pi, hn_pi, hi_pas, hi_pao, hr_pa, hj_pa], by simp (disch := first | assumption | omega | (simp only [ya_pi, ya_pj, ya_pa, ya_pr, yo_pi, yo_pj, yo_pa, yf_pi, yf_pj, yf_pa, yh_pi, yh_pj, yh_pa, yt_pi, yt_pj, yt_pa, la_pi, la_pj, la_pa]; assumption)) only [hi_s, hi_o, hi_k, hr_pi, hj_pi, hn_pi, hi_pas, hi_pao, hr_pa, hj_pa]⟩
  have ln := S.2.2.2.1
  have beg : ex_ (d + 60) 137 0 [some (v_r (some 2)), none] [] h Q ↔ ex_ (d + 60) 137 33 [some (v_r (some 2)), none] [] (stH (p_i (p_i (p_i h 2 15 (nI (if sy = true then 1 else 0))) 2 14 (nI 0)) 2 16 (nI 0)) ts i) Q := by
    cases sy with
    | true =>
      have T2 : tkS (p_i (p_i (p_i h 2 15 (nI 1)) 2 14 (nI 0)) 2 16 (nI 0)) ts i := T1
      have hc : tK ts i = 207 := hc
      simp (disch := first | assumption | omega | (simp only [ya_pi, ya_pj, ya_pa, ya_pr, yo_pi, yo_pj, yo_pa, yf_pi, yf_pj, yf_pa, yh_pi, yh_pj, yh_pa, yt_pi, yt_pj, yt_pa, la_pi, la_pj, la_pa]; assumption)) only [b_X8_readLaw_0, b_X8_readLaw_11, i_lit, i_m1, i_31, il_t, il_f, iq_t, iq_f, it_t, it_f, im_e, im_l, im_g, im_g2, nI_add, pk_mul, i_sub, i_div, sdm, i_dec, i_cl, iv_t, bI_or2, bI_t0, bI_one, not_true_eq_false, not_false_eq_true, ↓reduceIte, am_tl, am_tn, am_t0, am_n0, and_true, true_and, List.cons_append, List.nil_append, List.append_nil, s6, hc, c_step8 T2 i1]
    | false =>
      have T2 : tkS (p_i (p_i (p_i h 2 15 (nI 0)) 2 14 (nI 0)) 2 16 (nI 0)) ts i := T1
      have hc : tK ts i = 208 := hc
      simp (disch := first | assumption | omega | (simp only [ya_pi, ya_pj, ya_pa, ya_pr, yo_pi, yo_pj, yo_pa, yf_pi, yf_pj, yf_pa, yh_pi, yh_pj, yh_pa, yt_pi, yt_pj, yt_pa, la_pi, la_pj, la_pa]; assumption)) only [b_X8_readLaw_0, b_X8_readLaw_15, i_lit, i_m1, i_31, il_t, il_f, iq_t, iq_f, it_t, it_f, im_e, im_l, im_g, im_g2, nI_add, pk_mul, i_sub, i_div, sdm, i_dec, i_cl, iv_t, bI_or2, bI_t0, bI_one, not_true_eq_false, not_false_eq_true, ↓reduceIte, am_tl, am_tn, am_t0, am_n0, and_true, true_and, List.cons_append, List.nil_append, List.append_nil, s6, hc, c_step8 T2 i1, Bool.false_eq_true]
  rw [beg]
  generalize (p_i (p_i (p_i h 2 15 (nI (if sy = true then 1 else 0))) 2 14 (nI 0)) 2 16 (nI 0)) = h1 at B1 rm1 T1 R1 fl
  have S2 : clS h0 h1 ts i H := ⟨T1, B1, rm1, ln, fl⟩
  have S3 := S2.st ok i1
  have R3 := R1.st i1
  have L3 := S3.1.1
  rw [b_X8_readLaw_33 _ _ L3]
  by_cases a1 : tK ts (i + 1) = 58
  rotate_left
  · simp (disch := first | assumption | omega | (simp only [ya_pi, ya_pj, ya_pa, ya_pr, yo_pi, yo_pj, yo_pa, yf_pi, yf_pj, yf_pa, yh_pi, yh_pj, yh_pa, yt_pi, yt_pj, yt_pa, la_pi, la_pj, la_pa]; assumption)) only [c_pass_n G S3.1 (show ¬ 58 = 1 by decide) (show 58 < 2000 by decide) a1, b_X8_readLaw_39, b_X8_readLaw_66, i_lit, i_m1, i_31, il_t, il_f, iq_t, iq_f, it_t, it_f, im_e, im_l, im_g, im_g2, nI_add, pk_mul, i_sub, i_div, sdm, i_dec, i_cl, iv_t, bI_or2, bI_t0, bI_one, not_true_eq_false, not_false_eq_true, ↓reduceIte, am_tl, am_tn, am_t0, am_n0, and_true, true_and, List.cons_append, List.nil_append, List.append_nil]
    refine Kb (pF ts 2 (i + 1)) ?_ (pF_ne (by decide)) _ (S3.no G)
    unfold zLh
    rw [pE_n a1, pB_n (pF_ne (by decide))]
  have i2 := G.1 (i + 1) (by omega)
  have S4 := S3.st ok i2
  have R4 := R3.st i2
  have L4 := S4.1.1
  have s15 := R4.2.2.1
  have zh : zLh ts sy i = zS ts sy (i + 1 + 1) := by
    unfold zLh
    rw [pE_y a1, pB_1]
  simp (disch := first | assumption | omega | (simp only [ya_pi, ya_pj, ya_pa, ya_pr, yo_pi, yo_pj, yo_pa, yf_pi, yf_pj, yf_pa, yh_pi, yh_pj, yh_pa, yt_pi, yt_pj, yt_pa, la_pi, la_pj, la_pa]; assumption)) only [c_pass_y G S3.1 (show ¬ 58 = 1 by decide) (show 58 < 2000 by decide) a1, b_X8_readLaw_39, b_X8_readLaw_42, i_lit, i_m1, i_31, il_t, il_f, iq_t, iq_f, it_t, it_f, im_e, im_l, im_g, im_g2, nI_add, pk_mul, i_sub, i_div, sdm, i_dec, i_cl, iv_t, bI_or2, bI_t0, bI_one, not_true_eq_false, not_false_eq_true, ↓reduceIte, am_tl, am_tn, am_t0, am_n0, and_true, true_and, List.cons_append, List.nil_append, List.append_nil]
  have lev := c_level (sy := sy) G 6 (Nat.le_refl _)
  have gz := g_zS (sy := sy) G i2
  -- behind the reading
  have fin : ∀ h5, am_fr (stH (stH h1 ts i) ts (i + 1)) h5 rdP → (zS ts sy (i + 1 + 1)).1 = 0 → rdS h5 ts sy (zS ts sy (i + 1 + 1)).2.1 ([] ++ (zS ts sy (i + 1 + 1)).2.2) 0 → ex_ (d + 60) 137 68 [some (v_r (some 2)), none] [] h5 Q ∧ ex_ (d + 60) 137 56 [some (v_r (some 2)), none] [] h5 Q := by
    intro h5 fr5 z5 R5
    rw [List.nil_append] at R5
    obtain ⟨g1, g2, g3, -⟩ := gz.1 z5
    have e : zLh ts sy i = (0, (zS ts sy (i + 1 + 1)).2.1, (zS ts sy (i + 1 + 1)).2.2) := by
      rw [zh]
      exact Prod.ext z5 (Prod.ext rfl rfl)
    have kg := Kg _ _ e
    generalize (zS ts sy (i + 1 + 1)).2.1 = j at g1 g2 g3 kg R5
    generalize (zS ts sy (i + 1 + 1)).2.2 = cs at g1 g2 g3 kg R5
    have L5 := R5.1.1
    have c14 := R5.2.1.1
    have c9 : cs.length < 900 := by omega
    have s15 := R5.2.2.1
    have B5 := S4.2.1.fr L4 ok (fr5.le (fun _ _ z => rd_lp z))
    have rm5 := ((rm1.fr (stH_fr (ts := ts) (i := i)) (Nat.le_refl _)).fr (stH_fr (ts := ts) (i := i + 1)) (Nat.le_refl _)).fr fr5 (Nat.le_refl _)
    have Z := keepLaw (sy := sy) (i := i) (j := j) ok R5.1 R5.2.1 B5 rm5 ln
    have L6 : Lay (cpH h5 cs.length) := cpH_g.lay (fun q _ z => z) L5
    have s156 : h_i (cpH h5 cs.length) 2 15 = nI (if sy = true then 1 else 0) := (cpH_g.i (la_n L5 (by decide)) (fun z => z)).trans s15
    cases sy with
    | true =>
      have s157 : h_i (cpH h5 cs.length) 2 15 = nI 1 := s156
      have Z := fun x => kg _ (Z x)
      constructor <;> simp (disch := first | assumption | omega | (simp only [ya_pi, ya_pj, ya_pa, ya_pr, yo_pi, yo_pj, yo_pa, yf_pi, yf_pj, yf_pa, yh_pi, yh_pj, yh_pa, yt_pi, yt_pj, yt_pa, la_pi, la_pj, la_pa]; assumption)) only [b_X8_readLaw_68, b_X8_readLaw_56, b_X8_readLaw_87, b_X8_readLaw_95, i_lit, i_m1, i_31, il_t, il_f, iq_t, iq_f, it_t, it_f, im_e, im_l, im_g, im_g2, nI_add, pk_mul, i_sub, i_div, sdm, i_dec, i_cl, iv_t, bI_or2, bI_t0, bI_one, not_true_eq_false, not_false_eq_true, ↓reduceIte, am_tl, am_tn, am_t0, am_n0, and_true, true_and, List.cons_append, List.nil_append, List.append_nil, c14, c_copyOf L5 c9, s157] <;> exact Z (by omega)
    | false =>
      have s157 : h_i (cpH h5 cs.length) 2 15 = nI 0 := s156
      have Z := fun x => kg _ (Z x)
      constructor <;> simp (disch := first | assumption | omega | (simp only [ya_pi, ya_pj, ya_pa, ya_pr, yo_pi, yo_pj, yo_pa, yf_pi, yf_pj, yf_pa, yh_pi, yh_pj, yh_pa, yt_pi, yt_pj, yt_pa, la_pi, la_pj, la_pa]; assumption)) only [b_X8_readLaw_68, b_X8_readLaw_56, b_X8_readLaw_87, b_X8_readLaw_103, i_lit, i_m1, i_31, il_t, il_f, iq_t, iq_f, it_t, it_f, im_e, im_l, im_g, im_g2, nI_add, pk_mul, i_sub, i_div, sdm, i_dec, i_cl, iv_t, bI_or2, bI_t0, bI_one, not_true_eq_false, not_false_eq_true, ↓reduceIte, am_tl, am_tn, am_t0, am_n0, and_true, true_and, List.cons_append, List.nil_append, List.append_nil, c14, c_copyOf L5 c9, s157] <;> exact Z (by omega)
  have bad : ∀ h5, am_fr (stH (stH h1 ts i) ts (i + 1)) h5 rdP → ¬ (zS ts sy (i + 1 + 1)).1 = 0 → rdX h5 ts (zS ts sy (i + 1 + 1)).1 (zS ts sy (i + 1 + 1)).2.1 → Q (some (v_i (nI 0))) h5 := by
    intro h5 fr5 z5 X5
    refine Kb _ zh z5 _ ⟨X5.1, S4.2.1.2.2.2.2.1.tr ((fr5.g (J := N0) (R := rlR)).le (fun q k z => by unfold rdP at z; unfold rlP; omega) (fun _ _ z => z) (fun _ _ z => z)), S4.2.2.1.fr fr5 (by omega), X5.2.1, X5.2.2.1⟩
  cases sy with
  | true =>
    have s15 : h_i (stH (stH h1 ts i) ts (i + 1)) 2 15 = nI 1 := s15
    simp (disch := first | assumption | omega | (simp only [ya_pi, ya_pj, ya_pa, ya_pr, yo_pi, yo_pj, yo_pa, yf_pi, yf_pj, yf_pa, yh_pi, yh_pj, yh_pa, yt_pi, yt_pj, yt_pa, la_pi, la_pj, la_pa]; assumption)) only [b_X8_readLaw_49, i_lit, i_m1, i_31, il_t, il_f, iq_t, iq_f, it_t, it_f, im_e, im_l, im_g, im_g2, nI_add, pk_mul, i_sub, i_div, sdm, i_dec, i_cl, iv_t, bI_or2, bI_t0, bI_one, not_true_eq_false, not_false_eq_true, ↓reduceIte, am_tl, am_tn, am_t0, am_n0, and_true, true_and, List.cons_append, List.nil_append, List.append_nil, s15]
    refine (lev.1.deep (show 8 * 6 + 10 ≤ d + 59 by omega)) _ _ _ _ R4 (Nat.zero_le _) ⟨fun z5 h5 fr5 S5 => ?_, fun z5 h5 fr5 X5 => ?_⟩
    · simp (disch := first | assumption | omega | (simp only [ya_pi, ya_pj, ya_pa, ya_pr, yo_pi, yo_pj, yo_pa, yf_pi, yf_pj, yf_pa, yh_pi, yh_pj, yh_pa, yt_pi, yt_pj, yt_pa, la_pi, la_pj, la_pa]; assumption)) only [b_X8_readLaw_53, i_lit, i_m1, i_31, il_t, il_f, iq_t, iq_f, it_t, it_f, im_e, im_l, im_g, im_g2, nI_add, pk_mul, i_sub, i_div, sdm, i_dec, i_cl, iv_t, bI_or2, bI_t0, bI_one, not_true_eq_false, not_false_eq_true, ↓reduceIte, am_tl, am_tn, am_t0, am_n0, and_true, true_and, List.cons_append, List.nil_append, List.append_nil]
      exact (fin h5 fr5 z5 S5).2
    · simp (disch := first | assumption | omega | (simp only [ya_pi, ya_pj, ya_pa, ya_pr, yo_pi, yo_pj, yo_pa, yf_pi, yf_pj, yf_pa, yh_pi, yh_pj, yh_pa, yt_pi, yt_pj, yt_pa, la_pi, la_pj, la_pa]; assumption)) only [b_X8_readLaw_53, b_X8_readLaw_66, i_lit, i_m1, i_31, il_t, il_f, iq_t, iq_f, it_t, it_f, im_e, im_l, im_g, im_g2, nI_add, pk_mul, i_sub, i_div, sdm, i_dec, i_cl, iv_t, bI_or2, bI_t0, bI_one, not_true_eq_false, not_false_eq_true, ↓reduceIte, am_tl, am_tn, am_t0, am_n0, and_true, true_and, List.cons_append, List.nil_append, List.append_nil]
      exact bad h5 fr5 z5 X5
  | false =>
    have s15 : h_i (stH (stH h1 ts i) ts (i + 1)) 2 15 = nI 0 := s15
    simp (disch := first | assumption | omega | (simp only [ya_pi, ya_pj, ya_pa, ya_pr, yo_pi, yo_pj, yo_pa, yf_pi, yf_pj, yf_pa, yh_pi, yh_pj, yh_pa, yt_pi, yt_pj, yt_pa, la_pi, la_pj, la_pa]; assumption)) only [b_X8_readLaw_59, i_lit, i_m1, i_31, il_t, il_f, iq_t, iq_f, it_t, it_f, im_e, im_l, im_g, im_g2, nI_add, pk_mul, i_sub, i_div, sdm, i_dec, i_cl, iv_t, bI_or2, bI_t0, bI_one, not_true_eq_false, not_false_eq_true, ↓reduceIte, am_tl, am_tn, am_t0, am_n0, and_true, true_and, List.cons_append, List.nil_append, List.append_nil, s15]
    refine (lev.2.1.deep (show 8 * 6 + 10 ≤ d + 59 by omega)) _ _ _ _ R4 (Nat.zero_le _) ⟨fun z5 h5 fr5 S5 => ?_, fun z5 h5 fr5 X5 => ?_⟩
    · simp (disch := first | assumption | omega | (simp only [ya_pi, ya_pj, ya_pa, ya_pr, yo_pi, yo_pj, yo_pa, yf_pi, yf_pj, yf_pa, yh_pi, yh_pj, yh_pa, yt_pi, yt_pj, yt_pa, la_pi, la_pj, la_pa]; assumption)) only [b_X8_readLaw_63, i_lit, i_m1, i_31, il_t, il_f, iq_t, iq_f, it_t, it_f, im_e, im_l, im_g, im_g2, nI_add, pk_mul, i_sub, i_div, sdm, i_dec, i_cl, iv_t, bI_or2, bI_t0, bI_one, not_true_eq_false, not_false_eq_true, ↓reduceIte, am_tl, am_tn, am_t0, am_n0, and_true, true_and, List.cons_append, List.nil_append, List.append_nil]
      exact (fin h5 fr5 z5 S5).1
    · simp (disch := first | assumption | omega | (simp only [ya_pi, ya_pj, ya_pa, ya_pr, yo_pi, yo_pj, yo_pa, yf_pi, yf_pj, yf_pa, yh_pi, yh_pj, yh_pa, yt_pi, yt_pj, yt_pa, la_pi, la_pj, la_pa]; assumption)) only [b_X8_readLaw_63, b_X8_readLaw_66, i_lit, i_m1, i_31, il_t, il_f, iq_t, iq_f, it_t, it_f, im_e, im_l, im_g, im_g2, nI_add, pk_mul, i_sub, i_div, sdm, i_dec, i_cl, iv_t, bI_or2, bI_t0, bI_one, not_true_eq_false, not_false_eq_true, ↓reduceIte, am_tl, am_tn, am_t0, am_n0, and_true, true_and, List.cons_append, List.nil_append, List.append_nil]
      exact bad h5 fr5 z5 X5
theorem c_readLine8 {d : Nat} {Q : Option am_V → am_H → Prop} {h0 h : am_H} {ts : List (Nat × Nat)} {i : Nat} {H : ho_S} (G : gT ts) (okh : okH H) (S : clS h0 h ts i H) (K : lOK h0 ts (zI ts i H) Q) : ex_ (d + 61) 138 0 [some (v_r (some 2))] [] h Q := by
  have L := S.1.1
  have s6 := S.1.2.2.2.1
  have t4 := G.2.1 i
  unfold zI at K
  rw [b_X8_readLine_0 _ L]
  simp only [s6]
  by_cases a1 : tK ts i = 202
  · rw [if_pos a1] at K
    have := c_readClass8 (d := d + 57) (Q := fun r h' => ex_ (d + 61) 138 52 [some (v_r (some 2))] (r.toList ++ []) h' Q) G okh S a1 ⟨fun z h' C => by simp (disch := first | assumption | omega | (simp only [ya_pi, ya_pj, ya_pa, ya_pr, yo_pi, yo_pj, yo_pa, yf_pi, yf_pj, yf_pa, yh_pi, yh_pj, yh_pa, yt_pi, yt_pj, yt_pa, la_pi, la_pj, la_pa]; assumption)) only [b_X8_readLine_52, i_lit, i_m1, i_31, il_t, il_f, iq_t, iq_f, it_t, it_f, im_e, im_l, im_g, im_g2, nI_add, pk_mul, i_sub, i_div, sdm, i_dec, i_cl, iv_t, bI_or2, bI_t0, bI_one, not_true_eq_false, not_false_eq_true, ↓reduceIte, am_tl, am_tn, am_t0, am_n0, and_true, true_and, List.cons_append, List.nil_append, List.append_nil, or_true]; exact K.1 z h' C, fun z h' C => by simp (disch := first | assumption | omega | (simp only [ya_pi, ya_pj, ya_pa, ya_pr, yo_pi, yo_pj, yo_pa, yf_pi, yf_pj, yf_pa, yh_pi, yh_pj, yh_pa, yt_pi, yt_pj, yt_pa, la_pi, la_pj, la_pa]; assumption)) only [b_X8_readLine_52, i_lit, i_m1, i_31, il_t, il_f, iq_t, iq_f, it_t, it_f, im_e, im_l, im_g, im_g2, nI_add, pk_mul, i_sub, i_div, sdm, i_dec, i_cl, iv_t, bI_or2, bI_t0, bI_one, not_true_eq_false, not_false_eq_true, ↓reduceIte, am_tl, am_tn, am_t0, am_n0, and_true, true_and, List.cons_append, List.nil_append, List.append_nil, true_or]; exact K.2 z h' C⟩
    simp (disch := first | assumption | omega | (simp only [ya_pi, ya_pj, ya_pa, ya_pr, yo_pi, yo_pj, yo_pa, yf_pi, yf_pj, yf_pa, yh_pi, yh_pj, yh_pa, yt_pi, yt_pj, yt_pa, la_pi, la_pj, la_pa]; assumption)) only [b_X8_readLine_48, i_lit, i_m1, i_31, il_t, il_f, iq_t, iq_f, it_t, it_f, im_e, im_l, im_g, im_g2, nI_add, pk_mul, i_sub, i_div, sdm, i_dec, i_cl, iv_t, bI_or2, bI_t0, bI_one, not_true_eq_false, not_false_eq_true, ↓reduceIte, am_tl, am_tn, am_t0, am_n0, and_true, true_and, List.cons_append, List.nil_append, List.append_nil, a1]
    simp (disch := first | assumption | omega | (simp only [ya_pi, ya_pj, ya_pa, ya_pr, yo_pi, yo_pj, yo_pa, yf_pi, yf_pj, yf_pa, yh_pi, yh_pj, yh_pa, yt_pi, yt_pj, yt_pa, la_pi, la_pj, la_pa]; assumption)) only [i_lit, i_m1, i_31, il_t, il_f, iq_t, iq_f, it_t, it_f, im_e, im_l, im_g, im_g2, nI_add, pk_mul, i_sub, i_div, sdm, i_dec, i_cl, iv_t, bI_or2, bI_t0, bI_one, not_true_eq_false, not_false_eq_true, ↓reduceIte, am_tl, am_tn, am_t0, am_n0, and_true, true_and, List.cons_append, List.nil_append, List.append_nil] at this
    exact this
  · rw [if_neg a1] at K
    by_cases a2 : tK ts i = 203
    · rw [if_pos a2] at K
      have := c_readMethod8 (d := d + 56) (Q := fun r h' => ex_ (d + 61) 138 57 [some (v_r (some 2))] (r.toList ++ []) h' Q) G okh S a2 ⟨fun z h' C => by simp (disch := first | assumption | omega | (simp only [ya_pi, ya_pj, ya_pa, ya_pr, yo_pi, yo_pj, yo_pa, yf_pi, yf_pj, yf_pa, yh_pi, yh_pj, yh_pa, yt_pi, yt_pj, yt_pa, la_pi, la_pj, la_pa]; assumption)) only [b_X8_readLine_57, i_lit, i_m1, i_31, il_t, il_f, iq_t, iq_f, it_t, it_f, im_e, im_l, im_g, im_g2, nI_add, pk_mul, i_sub, i_div, sdm, i_dec, i_cl, iv_t, bI_or2, bI_t0, bI_one, not_true_eq_false, not_false_eq_true, ↓reduceIte, am_tl, am_tn, am_t0, am_n0, and_true, true_and, List.cons_append, List.nil_append, List.append_nil, or_true]; exact K.1 z h' C, fun z h' C => by simp (disch := first | assumption | omega | (simp only [ya_pi, ya_pj, ya_pa, ya_pr, yo_pi, yo_pj, yo_pa, yf_pi, yf_pj, yf_pa, yh_pi, yh_pj, yh_pa, yt_pi, yt_pj, yt_pa, la_pi, la_pj, la_pa]; assumption)) only [b_X8_readLine_57, i_lit, i_m1, i_31, il_t, il_f, iq_t, iq_f, it_t, it_f, im_e, im_l, im_g, im_g2, nI_add, pk_mul, i_sub, i_div, sdm, i_dec, i_cl, iv_t, bI_or2, bI_t0, bI_one, not_true_eq_false, not_false_eq_true, ↓reduceIte, am_tl, am_tn, am_t0, am_n0, and_true, true_and, List.cons_append, List.nil_append, List.append_nil, true_or]; exact K.2 z h' C⟩
      simp (disch := first | assumption | omega | (simp only [ya_pi, ya_pj, ya_pa, ya_pr, yo_pi, yo_pj, yo_pa, yf_pi, yf_pj, yf_pa, yh_pi, yh_pj, yh_pa, yt_pi, yt_pj, yt_pa, la_pi, la_pj, la_pa]; assumption)) only [b_X8_readLine_53, i_lit, i_m1, i_31, il_t, il_f, iq_t, iq_f, it_t, it_f, im_e, im_l, im_g, im_g2, nI_add, pk_mul, i_sub, i_div, sdm, i_dec, i_cl, iv_t, bI_or2, bI_t0, bI_one, not_true_eq_false, not_false_eq_true, ↓reduceIte, am_tl, am_tn, am_t0, am_n0, and_true, true_and, List.cons_append, List.nil_append, List.append_nil, a2]
      simp (disch := first | assumption | omega | (simp only [ya_pi, ya_pj, ya_pa, ya_pr, yo_pi, yo_pj, yo_pa, yf_pi, yf_pj, yf_pa, yh_pi, yh_pj, yh_pa, yt_pi, yt_pj, yt_pa, la_pi, la_pj, la_pa]; assumption)) only [i_lit, i_m1, i_31, il_t, il_f, iq_t, iq_f, it_t, it_f, im_e, im_l, im_g, im_g2, nI_add, pk_mul, i_sub, i_div, sdm, i_dec, i_cl, iv_t, bI_or2, bI_t0, bI_one, not_true_eq_false, not_false_eq_true, ↓reduceIte, am_tl, am_tn, am_t0, am_n0, and_true, true_and, List.cons_append, List.nil_append, List.append_nil] at this
      exact this
    · rw [if_neg a2] at K
      have lw : ∀ sy : Bool, (tK ts i = if sy = true then 207 else 208) → lOK h0 ts (zL ts sy i H) Q → ex_ (d + 61) 138 58 [some (v_r (some 2))] [] h Q := fun sy hs K => by
        have := c_readLaw8 (d := d) (Q := fun r h' => ex_ (d + 61) 138 62 [some (v_r (some 2))] (r.toList ++ []) h' Q) G okh S hs ⟨fun z h' C => by simp (disch := first | assumption | omega | (simp only [ya_pi, ya_pj, ya_pa, ya_pr, yo_pi, yo_pj, yo_pa, yf_pi, yf_pj, yf_pa, yh_pi, yh_pj, yh_pa, yt_pi, yt_pj, yt_pa, la_pi, la_pj, la_pa]; assumption)) only [b_X8_readLine_62, i_lit, i_m1, i_31, il_t, il_f, iq_t, iq_f, it_t, it_f, im_e, im_l, im_g, im_g2, nI_add, pk_mul, i_sub, i_div, sdm, i_dec, i_cl, iv_t, bI_or2, bI_t0, bI_one, not_true_eq_false, not_false_eq_true, ↓reduceIte, am_tl, am_tn, am_t0, am_n0, and_true, true_and, List.cons_append, List.nil_append, List.append_nil, or_true]; exact K.1 z h' C, fun z h' C => by simp (disch := first | assumption | omega | (simp only [ya_pi, ya_pj, ya_pa, ya_pr, yo_pi, yo_pj, yo_pa, yf_pi, yf_pj, yf_pa, yh_pi, yh_pj, yh_pa, yt_pi, yt_pj, yt_pa, la_pi, la_pj, la_pa]; assumption)) only [b_X8_readLine_62, i_lit, i_m1, i_31, il_t, il_f, iq_t, iq_f, it_t, it_f, im_e, im_l, im_g, im_g2, nI_add, pk_mul, i_sub, i_div, sdm, i_dec, i_cl, iv_t, bI_or2, bI_t0, bI_one, not_true_eq_false, not_false_eq_true, ↓reduceIte, am_tl, am_tn, am_t0, am_n0, and_true, true_and, List.cons_append, List.nil_append, List.append_nil, true_or]; exact K.2 z h' C⟩
        rw [b_X8_readLine_58 _ L]
        exact this
      by_cases a3 : tK ts i = 207
      · rw [if_pos a3] at K
        have := lw true a3 K
        simp (disch := first | assumption | omega | (simp only [ya_pi, ya_pj, ya_pa, ya_pr, yo_pi, yo_pj, yo_pa, yf_pi, yf_pj, yf_pa, yh_pi, yh_pj, yh_pa, yt_pi, yt_pj, yt_pa, la_pi, la_pj, la_pa]; assumption)) only [i_lit, i_m1, i_31, il_t, il_f, iq_t, iq_f, it_t, it_f, im_e, im_l, im_g, im_g2, nI_add, pk_mul, i_sub, i_div, sdm, i_dec, i_cl, iv_t, bI_or2, bI_t0, bI_one, not_true_eq_false, not_false_eq_true, ↓reduceIte, am_tl, am_tn, am_t0, am_n0, and_true, true_and, List.cons_append, List.nil_append, List.append_nil, a3]
        exact this
      · rw [if_neg a3] at K
        by_cases a4 : tK ts i = 208
        · rw [if_pos a4] at K
          have := lw false a4 K
          simp (disch := first | assumption | omega | (simp only [ya_pi, ya_pj, ya_pa, ya_pr, yo_pi, yo_pj, yo_pa, yf_pi, yf_pj, yf_pa, yh_pi, yh_pj, yh_pa, yt_pi, yt_pj, yt_pa, la_pi, la_pj, la_pa]; assumption)) only [i_lit, i_m1, i_31, il_t, il_f, iq_t, iq_f, it_t, it_f, im_e, im_l, im_g, im_g2, nI_add, pk_mul, i_sub, i_div, sdm, i_dec, i_cl, iv_t, bI_or2, bI_t0, bI_one, not_true_eq_false, not_false_eq_true, ↓reduceIte, am_tl, am_tn, am_t0, am_n0, and_true, true_and, List.cons_append, List.nil_append, List.append_nil, a4]
          exact this
        · rw [if_neg a4] at K
          have ref := fun Q => c_refuse (d := d + 60) (Q := Q) (k := 2) S.1
          have X := K.2 (pF_ne (by decide)) _ (S.no G)
          by_cases a5 : tK ts i = 204
          · simp (disch := first | assumption | omega | (simp only [ya_pi, ya_pj, ya_pa, ya_pr, yo_pi, yo_pj, yo_pa, yf_pi, yf_pj, yf_pa, yh_pi, yh_pj, yh_pa, yt_pi, yt_pj, yt_pa, la_pi, la_pj, la_pa]; assumption)) only [b_X8_readLine_63, b_X8_readLine_68, i_lit, i_m1, i_31, il_t, il_f, iq_t, iq_f, it_t, it_f, im_e, im_l, im_g, im_g2, nI_add, pk_mul, i_sub, i_div, sdm, i_dec, i_cl, iv_t, bI_or2, bI_t0, bI_one, not_true_eq_false, not_false_eq_true, ↓reduceIte, am_tl, am_tn, am_t0, am_n0, and_true, true_and, List.cons_append, List.nil_append, List.append_nil, a5, ref, true_or]; exact X
          · by_cases a6 : tK ts i = 205
            · simp (disch := first | assumption | omega | (simp only [ya_pi, ya_pj, ya_pa, ya_pr, yo_pi, yo_pj, yo_pa, yf_pi, yf_pj, yf_pa, yh_pi, yh_pj, yh_pa, yt_pi, yt_pj, yt_pa, la_pi, la_pj, la_pa]; assumption)) only [b_X8_readLine_63, b_X8_readLine_68, i_lit, i_m1, i_31, il_t, il_f, iq_t, iq_f, it_t, it_f, im_e, im_l, im_g, im_g2, nI_add, pk_mul, i_sub, i_div, sdm, i_dec, i_cl, iv_t, bI_or2, bI_t0, bI_one, not_true_eq_false, not_false_eq_true, ↓reduceIte, am_tl, am_tn, am_t0, am_n0, and_true, true_and, List.cons_append, List.nil_append, List.append_nil, a6, ref, true_or]; exact X
            · by_cases a7 : tK ts i = 206
              · simp (disch := first | assumption | omega | (simp only [ya_pi, ya_pj, ya_pa, ya_pr, yo_pi, yo_pj, yo_pa, yf_pi, yf_pj, yf_pa, yh_pi, yh_pj, yh_pa, yt_pi, yt_pj, yt_pa, la_pi, la_pj, la_pa]; assumption)) only [b_X8_readLine_63, b_X8_readLine_68, i_lit, i_m1, i_31, il_t, il_f, iq_t, iq_f, it_t, it_f, im_e, im_l, im_g, im_g2, nI_add, pk_mul, i_sub, i_div, sdm, i_dec, i_cl, iv_t, bI_or2, bI_t0, bI_one, not_true_eq_false, not_false_eq_true, ↓reduceIte, am_tl, am_tn, am_t0, am_n0, and_true, true_and, List.cons_append, List.nil_append, List.append_nil, a7, ref, true_or]; exact X
              · simp (disch := first | assumption | omega | (simp only [ya_pi, ya_pj, ya_pa, ya_pr, yo_pi, yo_pj, yo_pa, yf_pi, yf_pj, yf_pa, yh_pi, yh_pj, yh_pa, yt_pi, yt_pj, yt_pa, la_pi, la_pj, la_pa]; assumption)) only [b_X8_readLine_63, b_X8_readLine_68, i_lit, i_m1, i_31, il_t, il_f, iq_t, iq_f, it_t, it_f, im_e, im_l, im_g, im_g2, nI_add, pk_mul, i_sub, i_div, sdm, i_dec, i_cl, iv_t, bI_or2, bI_t0, bI_one, not_true_eq_false, not_false_eq_true, ↓reduceIte, am_tl, am_tn, am_t0, am_n0, and_true, true_and, List.cons_append, List.nil_append, List.append_nil, ref, true_or]; exact X
