/-! ===== the class reads a text: from the tape ===== -/
theorem c_read {d : Nat} {Q : Option am_V → am_H → Prop} {h : am_H} {tx : List Nat} (L : Lay h) (hb : ∀ x ∈ tx, x < 256) (hl : tx.length ≤ 900) (tp : ∀ k, k < tx.length → h_i h 1 k = b8 (tx.getD k 0)) (K : lOK h (tz tx 0) (zA (tz tx 0)) Q) : ex_ (d + 63) 139 0 [some (v_r (some 2)), some (v_r (some 1)), some (v_i (nI tx.length)), none, none] [] h Q := by
  have G := tz_gT hb hl
  have A1 : y_arr h 1 21 900 := la_y L rfl
  have n2 := la_n L (show 2 < 118 by decide)
  rw [b_X8_read_0 _ _ _ _ _ L A1]
  have en : (if (0 : Int32) < (if nI 900 < nI tx.length then nI 900 else nI tx.length) then (if nI 900 < nI tx.length then nI 900 else nI tx.length) else 0) = nI tx.length := by
    have e1 : ¬ nI 900 < nI tx.length := nI_nlt hl (by omega)
    simp only [if_neg e1]
    by_cases z : tx.length = 0
    · rw [z]; rfl
    · rw [if_pos (show (0 : Int32) < nI tx.length from nI_lt (a := 0) (by omega) (by omega))]
  have e9 : h_r (p_r h 2 0 (some 1)) 2 9 = some 5 := by
    rw [h_r_pr, if_neg (by omega)]
    exact L.2.2 (2, 9, 5) (by decide)
  rw [en, e9]
  have g1 : gf h (p_i (p_i (p_i (p_r h 2 0 (some 1)) 2 1 (nI tx.length)) 2 7 0) 2 8 (-1)) rlP N0 rlR := (((gf_pr ⟨rfl, Or.inl rfl⟩).tr (gf_pi (Or.inl ⟨rfl, by omega⟩))).tr (gf_pi (Or.inl ⟨rfl, by omega⟩))).tr (gf_pi (Or.inl ⟨rfl, by omega⟩))
  have v0 : h_r (p_i (p_i (p_i (p_r h 2 0 (some 1)) 2 1 (nI tx.length)) 2 7 0) 2 8 (-1)) 2 0 = some 1 := by
    show h_r (p_r h 2 0 (some 1)) 2 0 = some 1
    rw [h_r_pr, if_pos ⟨rfl, rfl⟩]
  have v1 : h_i (p_i (p_i (p_i (p_r h 2 0 (some 1)) 2 1 (nI tx.length)) 2 7 0) 2 8 (-1)) 2 1 = nI tx.length := by simp (disch := first | assumption | omega | (simp only [ya_pi, ya_pj, ya_pa, ya_pr, yo_pi, yo_pj, yo_pa, yf_pi, yf_pj, yf_pa, yh_pi, yh_pj, yh_pa, yt_pi, yt_pj, yt_pa, la_pi, la_pj, la_pa]; assumption)) only [hi_s, hi_o, hi_k, hr_pi, hj_pi, hn_pi, hi_pas, hi_pao, hr_pa, hj_pa]
  have v7 : h_i (p_i (p_i (p_i (p_r h 2 0 (some 1)) 2 1 (nI tx.length)) 2 7 0) 2 8 (-1)) 2 7 = nI 0 := by simp (disch := first | assumption | omega | (simp only [ya_pi, ya_pj, ya_pa, ya_pr, yo_pi, yo_pj, yo_pa, yf_pi, yf_pj, yf_pa, yh_pi, yh_pj, yh_pa, yt_pi, yt_pj, yt_pa, la_pi, la_pj, la_pa]; assumption)) only [hi_s, hi_o, hi_k, hr_pi, hj_pi, hn_pi, hi_pas, hi_pao, hr_pa, hj_pa]; rfl
  have v8 : h_i (p_i (p_i (p_i (p_r h 2 0 (some 1)) 2 1 (nI tx.length)) 2 7 0) 2 8 (-1)) 2 8 = mI := by simp (disch := first | assumption | omega | (simp only [ya_pi, ya_pj, ya_pa, ya_pr, yo_pi, yo_pj, yo_pa, yf_pi, yf_pj, yf_pa, yh_pi, yh_pj, yh_pa, yt_pi, yt_pj, yt_pa, la_pi, la_pj, la_pa]; assumption)) only [hi_s, hi_o, hi_k, hr_pi, hj_pi, hn_pi, hi_pas, hi_pao, hr_pa, hj_pa]; rfl
  have vn : h_n (p_i (p_i (p_i (p_r h 2 0 (some 1)) 2 1 (nI tx.length)) 2 7 0) 2 8 (-1)) = h_n h ∧ h_s (p_i (p_i (p_i (p_r h 2 0 (some 1)) 2 1 (nI tx.length)) 2 7 0) 2 8 (-1)) = h_s h := ⟨rfl, rfl⟩
  generalize p_i (p_i (p_i (p_r h 2 0 (some 1)) 2 1 (nI tx.length)) 2 7 0) 2 8 (-1) = h1 at g1 v0 v1 v7 v8 vn ⊢
  have L1 := g1.lay rl_ref L
  have t1 : ∀ k, k < tx.length → h_i h1 1 k = b8 (tx.getD k 0) := fun k hk => (g1.i (la_n L (by decide)) (fun z => by unfold rlP at z; omega)).trans (tp k hk)
  have Y5 : y_Facts h1 5 := y_F L1 (Or.inl rfl)
  rw [b_X8_read_33 _ _ _ _ _ _ _ Y5]
  refine c_clear Y5 (fun h2 fr2 F2 => ?_)
  have L2 := fr2.lay L1
  have ng2 : ∀ k, ¬ fa_P 5 2 k := fun k z => by unfold fa_P at z; omega
  have w0 : h_r h2 2 0 = some 1 := by rw [fr2.r]; exact v0
  have w1 : h_i h2 2 1 = nI tx.length := by rw [fr2.i (ng2 1)]; exact v1
  have w7 : h_i h2 2 7 = nI 0 := by rw [fr2.i (ng2 7)]; exact v7
  have w8 : h_i h2 2 8 = mI := by rw [fr2.i (ng2 8)]; exact v8
  have t2 : ∀ k, k < tx.length → h_i h2 1 k = b8 (tx.getD k 0) := fun k hk => by rw [fr2.i (fun z => by unfold fa_P at z; omega)]; exact t1 k hk
  have g2 : gf h h2 rlP N0 rlR := g1.tr ((fr2.g (J := N0) (R := rlR)).le (fun q k z => by unfold fa_P at z; unfold rlP; omega) (fun _ _ z => z) (fun _ _ z => z))
  have wn : h_n h2 = h_n h ∧ h_s h2 = h_s h := ⟨fr2.n.trans vn.1, (congrArg Prod.snd fr2.1).trans vn.2⟩
  show ex_ (d + 63) 139 36 [some (v_r (some 2)), some (v_r (some 1)), some (v_i (nI tx.length)), none, none] [] h2 Q
  rw [b_X8_read_36 _ _ _ _ _ L2]
  have x0 : h_r (p_r (p_r (p_i h2 2 10 0) 2 11 none) 2 12 none) 2 0 = some 1 := by
    rw [h_r_pr, if_neg (by omega), h_r_pr, if_neg (by omega)]; exact w0
  have x11 : h_r (p_r (p_r (p_i h2 2 10 0) 2 11 none) 2 12 none) 2 11 = none := by
    rw [h_r_pr, if_neg (by omega), h_r_pr, if_pos ⟨rfl, rfl⟩]
  have x12 : h_r (p_r (p_r (p_i h2 2 10 0) 2 11 none) 2 12 none) 2 12 = none := by
    rw [h_r_pr, if_pos ⟨rfl, rfl⟩]
  have x10 : h_i (p_r (p_r (p_i h2 2 10 0) 2 11 none) 2 12 none) 2 10 = nI 0 := by
    show h_i (p_i h2 2 10 0) 2 10 = nI 0
    rw [hi_s]; rfl
  have xo : ∀ a k, ¬ (a = 2 ∧ k = 10) → h_i (p_r (p_r (p_i h2 2 10 0) 2 11 none) 2 12 none) a k = h_i h2 a k := fun a k z => (am_fr_pi (P := fun q k => q = 2 ∧ k = 10) ⟨rfl, rfl⟩).i z
  have g2' : gf h2 (p_r (p_r (p_i h2 2 10 0) 2 11 none) 2 12 none) rlP N0 rlR := ((gf_pi (Or.inl ⟨rfl, by omega⟩)).tr (gf_pr ⟨rfl, by omega⟩)).tr (gf_pr ⟨rfl, by omega⟩)
  have g3 := g2.tr g2'
  have F3 : fa_at (p_r (p_r (p_i h2 2 10 0) 2 11 none) 2 12 none) 5 f_0 := by
    have ga : gf h2 (p_r (p_r (p_i h2 2 10 0) 2 11 none) 2 12 none) (fun q k => q = 2 ∧ k = 10) N0 rlR := ((gf_pi ⟨rfl, rfl⟩).tr (gf_pr ⟨rfl, by omega⟩)).tr (gf_pr ⟨rfl, by omega⟩)
    exact ga.fa (fun c => by show ([] : List Nat).length ≤ 4; decide) F2 (fun a k h1 h2 z => by omega) (fun k z => by have := z.1; omega)
  have xn : h_n (p_r (p_r (p_i h2 2 10 0) 2 11 none) 2 12 none) = h_n h2 ∧ h_s (p_r (p_r (p_i h2 2 10 0) 2 11 none) 2 12 none) = h_s h2 := ⟨rfl, rfl⟩
  generalize p_r (p_r (p_i h2 2 10 0) 2 11 none) 2 12 none = h3 at x0 x11 x12 x10 xo g2' g3 F3 xn ⊢
  have L3 := g2'.lay rl_ref L2
  have T3 : txA h3 tx := ⟨x0, by rw [xo 2 1 (by omega)]; exact w1, hl, fun k hk => by rw [xo 1 k (by omega)]; exact t2 k hk, hb⟩
  refine c_splitText L3 T3 (fun h4 fr4 A4 _ => ?_)
  generalize hts : tz tx 0 = ts at G K A4
  have L4 := fr4.lay L3
  show ex_ (d + 63) 139 55 [some (v_r (some 2)), some (v_r (some 1)), some (v_i (nI tx.length)), none, none] [] h4 Q
  rw [b_X8_read_55 _ _ _ _ _ L4, c_step0 G L4 A4]
  have ns : ∀ k, ¬ k = 4 → ¬ spP 2 k := fun k hk z => by unfold spP at z; omega
  have fr5 : am_fr h4 (p_i (p_i (p_i h4 2 5 (-1 : Int32)) 2 5 (nI 0)) 2 6 (nI (tK ts 0))) (fun q k => q = 2 ∧ (k = 5 ∨ k = 6)) := ((am_fr_pi ⟨rfl, by omega⟩).pi ⟨rfl, by omega⟩).pi ⟨rfl, by omega⟩
  have y5 : h_i (p_i (p_i (p_i h4 2 5 (-1 : Int32)) 2 5 (nI 0)) 2 6 (nI (tK ts 0))) 2 5 = nI 0 := by simp (disch := first | assumption | omega | (simp only [ya_pi, ya_pj, ya_pa, ya_pr, yo_pi, yo_pj, yo_pa, yf_pi, yf_pj, yf_pa, yh_pi, yh_pj, yh_pa, yt_pi, yt_pj, yt_pa, la_pi, la_pj, la_pa]; assumption)) only [hi_s, hi_o, hi_k, hr_pi, hj_pi, hn_pi, hi_pas, hi_pao, hr_pa, hj_pa]
  have y6 : h_i (p_i (p_i (p_i h4 2 5 (-1 : Int32)) 2 5 (nI 0)) 2 6 (nI (tK ts 0))) 2 6 = nI (tK ts 0) := by simp (disch := first | assumption | omega | (simp only [ya_pi, ya_pj, ya_pa, ya_pr, yo_pi, yo_pj, yo_pa, yf_pi, yf_pj, yf_pa, yh_pi, yh_pj, yh_pa, yt_pi, yt_pj, yt_pa, la_pi, la_pj, la_pa]; assumption)) only [hi_s, hi_o, hi_k, hr_pi, hj_pi, hn_pi, hi_pas, hi_pao, hr_pa, hj_pa]
  generalize p_i (p_i (p_i h4 2 5 (-1 : Int32)) 2 5 (nI 0)) 2 6 (nI (tK ts 0)) = h5 at fr5 y5 y6 ⊢
  have S5 : clS h h5 ts 0 ho_0 := by
    refine ⟨⟨fr5.lay L4, A4.fr fr5 (by omega) (fun k => ⟨by omega, by omega⟩), y5, y6, G.2.2.2⟩, ⟨?_, ?_, ?_, ?_, ?_, L.1⟩, ?_, Nat.zero_le _, ?_, ?_⟩
    · exact fr5.fa (fr4.fa F3 (fun q k h1 h2 z => by unfold spP at z; omega)) (fun q k h1 h2 z => by omega)
    · show h_r h5 2 11 = none
      rw [fr5.r, fr4.r]; exact x11
    · show h_r h5 2 12 = none
      rw [fr5.r, fr4.r]; exact x12
    · show h_i h5 2 10 = nI 0
      rw [fr5.i (by omega), fr4.i (ns 10 (by omega))]; exact x10
    · exact g3.tr (((fr4.g (J := N0) (R := rlR)).le (fun q k z => by unfold spP at z; unfold rlP; omega) (fun _ _ z => z) (fun _ _ z => z)).tr ((fr5.g (J := N0) (R := rlR)).le (fun q k z => by unfold rlP; omega) (fun _ _ z => z) (fun _ _ z => z)))
    · have a1 : h_n h5 = h_n h := (((fr5.n).trans fr4.n).trans xn.1).trans wn.1
      have a2 : h_s h5 = h_s h := (((congrArg Prod.snd fr5.1).trans (congrArg Prod.snd fr4.1)).trans xn.2).trans wn.2
      unfold rm_
      omega
    · rw [fr5.i (by omega), fr4.i (ns 7 (by omega)), xo 2 7 (by omega)]; exact w7
    · rw [fr5.i (by omega), fr4.i (ns 8 (by omega)), xo 2 8 (by omega)]; exact w8
  have L5 := S5.1.1
  show ex_ (d + 63) 139 64 [some (v_r (some 2)), some (v_r (some 1)), some (v_i (nI tx.length)), none, none] [] h5 Q
  rw [b_X8_read_64 _ _ _ _ _ L5]
  have gH := g_zH G
  have lp := fun r h6 => c_readLoop (d := d + 1) (n := nI tx.length) (l1 := some (v_r (some 1))) G K r h6
  refine c_readHouse (d := d + 60) G S5 ⟨fun z6 h6 S6 => ?_, fun z6 h6 X6 => ?_⟩
  · obtain ⟨u1, u2, u3⟩ := gH.1 z6
    have L6 := S6.1.1
    have ge := g_zE (i := (zH ts).2.1) G u2 u3
    have eB := zB_y (g := zE ts) z6
    simp (disch := first | assumption | omega | (simp only [ya_pi, ya_pj, ya_pa, ya_pr, yo_pi, yo_pj, yo_pa, yf_pi, yf_pj, yf_pa, yh_pi, yh_pj, yh_pa, yt_pi, yt_pj, yt_pa, la_pi, la_pj, la_pa]; assumption)) only [b_X8_read_68, b_X8_read_71, i_lit, i_m1, i_31, il_t, il_f, iq_t, iq_f, it_t, it_f, im_e, im_l, im_g, im_g2, nI_add, pk_mul, i_sub, i_div, sdm, i_dec, i_cl, iv_t, bI_or2, bI_t0, bI_one, not_true_eq_false, not_false_eq_true, ↓reduceIte, am_tl, am_tn, am_t0, am_n0, and_true, true_and, List.cons_append, List.nil_append, List.append_nil]
    have gB : gZ ts 0 (zE ts (zH ts).2.1 (zH ts).2.2) := ⟨fun y => ⟨by have := (ge.1 y).1; omega, (ge.1 y).2⟩, ge.2⟩
    have eZ : zP ts 902 (zE ts (zH ts).2.1 (zH ts).2.2) = zA ts := by unfold zA; rw [eB]
    refine c_endLine (d := d + 60) G u3.1.1 S6 ⟨fun z7 h7 S7 => ?_, fun z7 h7 X7 => ?_⟩
    · have := lp _ h7 gB (fun _ => S7) (fun y => absurd z7 y) eZ
      rw [if_pos z7] at this
      simp (disch := first | assumption | omega | (simp only [ya_pi, ya_pj, ya_pa, ya_pr, yo_pi, yo_pj, yo_pa, yf_pi, yf_pj, yf_pa, yh_pi, yh_pj, yh_pa, yt_pi, yt_pj, yt_pa, la_pi, la_pj, la_pa]; assumption)) only [b_X8_read_75, b_X8_read_78, i_lit, i_m1, i_31, il_t, il_f, iq_t, iq_f, it_t, it_f, im_e, im_l, im_g, im_g2, nI_add, pk_mul, i_sub, i_div, sdm, i_dec, i_cl, iv_t, bI_or2, bI_t0, bI_one, not_true_eq_false, not_false_eq_true, ↓reduceIte, am_tl, am_tn, am_t0, am_n0, and_true, true_and, List.cons_append, List.nil_append, List.append_nil]
      exact this
    · have := lp _ h7 gB (fun y => absurd y z7) (fun _ => X7) eZ
      rw [if_neg z7] at this
      simp (disch := first | assumption | omega | (simp only [ya_pi, ya_pj, ya_pa, ya_pr, yo_pi, yo_pj, yo_pa, yf_pi, yf_pj, yf_pa, yh_pi, yh_pj, yh_pa, yt_pi, yt_pj, yt_pa, la_pi, la_pj, la_pa]; assumption)) only [b_X8_read_75, b_X8_read_82, i_lit, i_m1, i_31, il_t, il_f, iq_t, iq_f, it_t, it_f, im_e, im_l, im_g, im_g2, nI_add, pk_mul, i_sub, i_div, sdm, i_dec, i_cl, iv_t, bI_or2, bI_t0, bI_one, not_true_eq_false, not_false_eq_true, ↓reduceIte, am_tl, am_tn, am_t0, am_n0, and_true, true_and, List.cons_append, List.nil_append, List.append_nil]
      exact this
  · have eB := zB_n (g := zE ts) z6
    have := lp _ h6 gH (fun y => absurd y z6) (fun _ => X6) (by unfold zA; rw [eB])
    rw [if_neg z6] at this
    simp (disch := first | assumption | omega | (simp only [ya_pi, ya_pj, ya_pa, ya_pr, yo_pi, yo_pj, yo_pa, yf_pi, yf_pj, yf_pa, yh_pi, yh_pj, yh_pa, yt_pi, yt_pj, yt_pa, la_pi, la_pj, la_pa]; assumption)) only [b_X8_read_68, b_X8_read_82, i_lit, i_m1, i_31, il_t, il_f, iq_t, iq_f, it_t, it_f, im_e, im_l, im_g, im_g2, nI_add, pk_mul, i_sub, i_div, sdm, i_dec, i_cl, iv_t, bI_or2, bI_t0, bI_one, not_true_eq_false, not_false_eq_true, ↓reduceIte, am_tl, am_tn, am_t0, am_n0, and_true, true_and, List.cons_append, List.nil_append, List.append_nil]
    exact this
