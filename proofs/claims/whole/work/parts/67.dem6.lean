/-! ===== ways, rank: the calls ===== -/
abbrev fM (f : fa_S) (c : Nat) : Nat := bs (up (f_p f) c)
theorem fM_lt {f : fa_S} (ok : fa_ok f) {c : Nat} (hc : c < f_n f) : fM f c < 1024 := bs_10 (fun k hk => by
  cases z : up (f_p f) c k with
  | false => rfl
  | true =>
    have := up_lt ok z
    have := ok.1
    omega)
theorem fM_tb {f : fa_S} {c x : Nat} (hx : x < 16) : (fM f c).testBit x = up (f_p f) c x := bs_tb hx
theorem fM_D {f : fa_S} (ok : fa_ok f) {c : Nat} (hc : c < f_n f) (a b : Nat) (h : fD f c a b = true) : a < 10 ∧ (fM f c).testBit a = true := by
  have h1 := (dm_up ok hc h).1
  have h2 := up_lt ok h1
  have := ok.1
  exact ⟨by omega, by rw [fM_tb (by omega)]; exact h1⟩
theorem fM_T {f : fa_S} (ok : fa_ok f) {c : Nat} (hc : c < f_n f) : ∀ x ∈ (fT f c).2, x < 10 ∧ (fM f c).testBit x = true := fun x hx => by
  have h1 := (fT_ok ok c hc).2.2.2.1 x hx
  exact ⟨h1, by rw [fM_tb (by omega)]; exact fT_up ok hc hx⟩
noncomputable def a_ways (f : fa_S) (c : Int32) : Int32 := if fa_has (f_n f) c then (if (fT f c.toNatClampNeg).1 = 2 then mI else nI (wy (fD f c.toNatClampNeg) (fM f c.toNatClampNeg) 0)) else -2
noncomputable def a_rank (f : fa_S) (c : Int32) : Int32 := if fa_has (f_n f) c then (if (fT f c.toNatClampNeg).1 = 0 then nI (rkS (fD f c.toNatClampNeg) (fM f c.toNatClampNeg) (fT f c.toNatClampNeg).2 0) else mI) else -2
theorem d6.S {a k : Nat} (z : d6 a k) : cS a k := by unfold d6 at z; unfold cS; omega
theorem r8.S {a k : Nat} (z : r8 a k) : rS a k := by unfold r8 at z; unfold rS; omega
theorem c_ways {d : Nat} {Q : Option am_V → am_H → Prop} {h : am_H} {f : fa_S} (ok : fa_ok f) (C : cQ h f) {c : Int32} {l2 : Option am_V} (k : ∀ h', am_fr h h' cS → Q (some (v_i (a_ways f c))) h') : ex_ (d + 4) 194 0 [some (v_r (some 0)), some (v_i c), l2] [] h Q := by
  have L0 := C.1
  have hn := ok.1
  unfold a_ways at k
  rcases fa_cs hn c with ⟨a, ha, rfl⟩ | hc
  · have hh : fa_has (f_n f) (nI a) := (fa_has_iff hn).2 ⟨a, ha, rfl⟩
    rw [if_pos hh, nI_clamp (by omega)] at k
    by_cases z : (fT f a).1 = 2
    · rw [if_pos z] at k
      simp (disch := first | assumption | omega | (simp only [ya_pi, ya_pj, ya_pa, ya_pr, yo_pi, yo_pj, yo_pa, yf_pi, yf_pj, yf_pa, yh_pi, yh_pj, yh_pa, yt_pi, yt_pj, yt_pa, la_pi, la_pj, la_pa]; assumption)) only [b_X11_ways_0, b_X11_ways_5, b_X11_ways_12, b_X11_ways_10, b_X11_ways_20, b_X11_ways_27, i_lit, i_m1, i_31, il_t, il_f, iq_t, iq_f, it_t, it_f, im_e, im_l, im_g, im_g2, nI_add, pk_mul, i_sub, i_div, sdm, i_dec, i_cl, iv_t, bI_or2, bI_t0, bI_one, not_true_eq_false, not_false_eq_true, ↓reduceIte, am_tl, am_tn, am_t0, am_n0, and_true, true_and, List.cons_append, List.nil_append, List.append_nil, or_true, true_or, or_false, false_or, eq_self, ior0, iand0, im_e2, oI, c_demandsCode_y ok C ha, z]
      exact k h am_fr.rf
    · rw [if_neg z] at k
      simp (disch := first | assumption | omega | (simp only [ya_pi, ya_pj, ya_pa, ya_pr, yo_pi, yo_pj, yo_pa, yf_pi, yf_pj, yf_pa, yh_pi, yh_pj, yh_pa, yt_pi, yt_pj, yt_pa, la_pi, la_pj, la_pa]; assumption)) only [b_X11_ways_0, b_X11_ways_5, b_X11_ways_12, b_X11_ways_10, b_X11_ways_20, b_X11_ways_27, i_lit, i_m1, i_31, il_t, il_f, iq_t, iq_f, it_t, it_f, im_e, im_l, im_g, im_g2, nI_add, pk_mul, i_sub, i_div, sdm, i_dec, i_cl, iv_t, bI_or2, bI_t0, bI_one, not_true_eq_false, not_false_eq_true, ↓reduceIte, am_tl, am_tn, am_t0, am_n0, and_true, true_and, List.cons_append, List.nil_append, List.append_nil, or_true, true_or, or_false, false_or, eq_self, ior0, iand0, im_e2, oI, c_demandsCode_y ok C ha, z]
      refine c_gather L0 ok C.2.1 C.2.2 (fT_ok ok) ha (fun h1 fr1 R1 e1 => ?_)
      have L1 : Lay h1 := fr1.lay L0
      simp (disch := first | assumption | omega | (simp only [ya_pi, ya_pj, ya_pa, ya_pr, yo_pi, yo_pj, yo_pa, yf_pi, yf_pj, yf_pa, yh_pi, yh_pj, yh_pa, yt_pi, yt_pj, yt_pa, la_pi, la_pj, la_pa]; assumption)) only [b_X11_ways_0, b_X11_ways_5, b_X11_ways_12, b_X11_ways_10, b_X11_ways_20, b_X11_ways_27, i_lit, i_m1, i_31, il_t, il_f, iq_t, iq_f, it_t, it_f, im_e, im_l, im_g, im_g2, nI_add, pk_mul, i_sub, i_div, sdm, i_dec, i_cl, iv_t, bI_or2, bI_t0, bI_one, not_true_eq_false, not_false_eq_true, ↓reduceIte, am_tl, am_tn, am_t0, am_n0, and_true, true_and, List.cons_append, List.nil_append, List.append_nil, or_true, true_or, or_false, false_or, eq_self, ior0, iand0, im_e2, oI]
      refine c_rowsThatMeetAll L1 R1 (fM_lt ok ha) e1 (fM_D ok ha) (fun h2 fr2 T2 => ?_)
      simp (disch := first | assumption | omega | (simp only [ya_pi, ya_pj, ya_pa, ya_pr, yo_pi, yo_pj, yo_pa, yf_pi, yf_pj, yf_pa, yh_pi, yh_pj, yh_pa, yt_pi, yt_pj, yt_pa, la_pi, la_pj, la_pa]; assumption)) only [b_X11_ways_0, b_X11_ways_5, b_X11_ways_12, b_X11_ways_10, b_X11_ways_20, b_X11_ways_27, i_lit, i_m1, i_31, il_t, il_f, iq_t, iq_f, it_t, it_f, im_e, im_l, im_g, im_g2, nI_add, pk_mul, i_sub, i_div, sdm, i_dec, i_cl, iv_t, bI_or2, bI_t0, bI_one, not_true_eq_false, not_false_eq_true, ↓reduceIte, am_tl, am_tn, am_t0, am_n0, and_true, true_and, List.cons_append, List.nil_append, List.append_nil, or_true, true_or, or_false, false_or, eq_self, ior0, iand0, im_e2, oI]
      exact k h2 ((fr1.le (fun a k z => z.S)).tr (fr2.le (fun a k z => z.S)))
  · rw [if_neg hc] at k
    simp (disch := first | assumption | omega | (simp only [ya_pi, ya_pj, ya_pa, ya_pr, yo_pi, yo_pj, yo_pa, yf_pi, yf_pj, yf_pa, yh_pi, yh_pj, yh_pa, yt_pi, yt_pj, yt_pa, la_pi, la_pj, la_pa]; assumption)) only [b_X11_ways_0, b_X11_ways_5, b_X11_ways_12, b_X11_ways_10, b_X11_ways_20, b_X11_ways_27, i_lit, i_m1, i_31, il_t, il_f, iq_t, iq_f, it_t, it_f, im_e, im_l, im_g, im_g2, nI_add, pk_mul, i_sub, i_div, sdm, i_dec, i_cl, iv_t, bI_or2, bI_t0, bI_one, not_true_eq_false, not_false_eq_true, ↓reduceIte, am_tl, am_tn, am_t0, am_n0, and_true, true_and, List.cons_append, List.nil_append, List.append_nil, or_true, true_or, or_false, false_or, eq_self, ior0, iand0, im_e2, oI, c_demandsCode_n ok C hc]
    exact k h am_fr.rf
theorem c_rank {d : Nat} {Q : Option am_V → am_H → Prop} {h : am_H} {f : fa_S} (ok : fa_ok f) (C : cQ h f) {c : Int32} (k : ∀ h', am_fr h h' cS → Q (some (v_i (a_rank f c))) h') : ex_ (d + 4) 195 0 [some (v_r (some 0)), some (v_i c)] [] h Q := by
  have L0 := C.1
  have hn := ok.1
  unfold a_rank at k
  rcases fa_cs hn c with ⟨a, ha, rfl⟩ | hc
  · have hh : fa_has (f_n f) (nI a) := (fa_has_iff hn).2 ⟨a, ha, rfl⟩
    have ho := fT_ok ok a ha
    have m0 := C.2.2.2 a ha
    rw [if_pos hh, nI_clamp (by omega)] at k
    by_cases z : (fT f a).1 = 0
    · rw [if_pos z] at k
      have hne := ho.2.1.1 z
      simp (disch := first | assumption | omega | (simp only [ya_pi, ya_pj, ya_pa, ya_pr, yo_pi, yo_pj, yo_pa, yf_pi, yf_pj, yf_pa, yh_pi, yh_pj, yh_pa, yt_pi, yt_pj, yt_pa, la_pi, la_pj, la_pa]; assumption)) only [b_X11_rank_0, b_X11_rank_11, b_X11_rank_17, b_X11_rank_14, b_X11_rank_25, b_X11_rank_30, b_X11_rank_28, b_X11_rank_38, b_X11_rank_46, i_lit, i_m1, i_31, il_t, il_f, iq_t, iq_f, it_t, it_f, im_e, im_l, im_g, im_g2, nI_add, pk_mul, i_sub, i_div, sdm, i_dec, i_cl, iv_t, bI_or2, bI_t0, bI_one, not_true_eq_false, not_false_eq_true, ↓reduceIte, am_tl, am_tn, am_t0, am_n0, and_true, true_and, List.cons_append, List.nil_append, List.append_nil, or_true, true_or, or_false, false_or, eq_self, ior0, iand0, im_e2, oI, c_hasClass_y ok C.2.1 ha, c_hasOrder_y C.2.2.1 m0 (show a < 11 by omega) hne (by omega)]
      refine c_gather L0 ok C.2.1 C.2.2 (fT_ok ok) ha (fun h1 fr1 R1 e1 => ?_)
      have L1 : Lay h1 := fr1.lay L0
      have C1 : cQ h1 f := C.fr ok (fr1.le (fun a k z => z.S))
      simp (disch := first | assumption | omega | (simp only [ya_pi, ya_pj, ya_pa, ya_pr, yo_pi, yo_pj, yo_pa, yf_pi, yf_pj, yf_pa, yh_pi, yh_pj, yh_pa, yt_pi, yt_pj, yt_pa, la_pi, la_pj, la_pa]; assumption)) only [b_X11_rank_0, b_X11_rank_11, b_X11_rank_17, b_X11_rank_14, b_X11_rank_25, b_X11_rank_30, b_X11_rank_28, b_X11_rank_38, b_X11_rank_46, i_lit, i_m1, i_31, il_t, il_f, iq_t, iq_f, it_t, it_f, im_e, im_l, im_g, im_g2, nI_add, pk_mul, i_sub, i_div, sdm, i_dec, i_cl, iv_t, bI_or2, bI_t0, bI_one, not_true_eq_false, not_false_eq_true, ↓reduceIte, am_tl, am_tn, am_t0, am_n0, and_true, true_and, List.cons_append, List.nil_append, List.append_nil, or_true, true_or, or_false, false_or, eq_self, ior0, iand0, im_e2, oI]
      refine c_rowsAheadOfOrder L1 R1 (fM_lt ok ha) e1 (fM_D ok ha) C1.2.2.1 (C1.2.2.2 a ha) (by omega) ho.2.2.2.2 (fM_T ok ha) (fun h2 fr2 => ?_)
      simp (disch := first | assumption | omega | (simp only [ya_pi, ya_pj, ya_pa, ya_pr, yo_pi, yo_pj, yo_pa, yf_pi, yf_pj, yf_pa, yh_pi, yh_pj, yh_pa, yt_pi, yt_pj, yt_pa, la_pi, la_pj, la_pa]; assumption)) only [b_X11_rank_0, b_X11_rank_11, b_X11_rank_17, b_X11_rank_14, b_X11_rank_25, b_X11_rank_30, b_X11_rank_28, b_X11_rank_38, b_X11_rank_46, i_lit, i_m1, i_31, il_t, il_f, iq_t, iq_f, it_t, it_f, im_e, im_l, im_g, im_g2, nI_add, pk_mul, i_sub, i_div, sdm, i_dec, i_cl, iv_t, bI_or2, bI_t0, bI_one, not_true_eq_false, not_false_eq_true, ↓reduceIte, am_tl, am_tn, am_t0, am_n0, and_true, true_and, List.cons_append, List.nil_append, List.append_nil, or_true, true_or, or_false, false_or, eq_self, ior0, iand0, im_e2, oI]
      exact k h2 ((fr1.le (fun a k z => z.S)).tr (fr2.le (fun a k z => z.S)))
    · rw [if_neg z] at k
      have hne : (fT f a).2 = [] := by
        by_cases y : (fT f a).2 = []
        · exact y
        · exact absurd (ho.2.1.2 y) z
      simp (disch := first | assumption | omega | (simp only [ya_pi, ya_pj, ya_pa, ya_pr, yo_pi, yo_pj, yo_pa, yf_pi, yf_pj, yf_pa, yh_pi, yh_pj, yh_pa, yt_pi, yt_pj, yt_pa, la_pi, la_pj, la_pa]; assumption)) only [b_X11_rank_0, b_X11_rank_11, b_X11_rank_17, b_X11_rank_14, b_X11_rank_25, b_X11_rank_30, b_X11_rank_28, b_X11_rank_38, b_X11_rank_46, i_lit, i_m1, i_31, il_t, il_f, iq_t, iq_f, it_t, it_f, im_e, im_l, im_g, im_g2, nI_add, pk_mul, i_sub, i_div, sdm, i_dec, i_cl, iv_t, bI_or2, bI_t0, bI_one, not_true_eq_false, not_false_eq_true, ↓reduceIte, am_tl, am_tn, am_t0, am_n0, and_true, true_and, List.cons_append, List.nil_append, List.append_nil, or_true, true_or, or_false, false_or, eq_self, ior0, iand0, im_e2, oI, c_hasClass_y ok C.2.1 ha, c_hasOrder_n C.2.2.1 m0 (show a < 11 by omega) hne]
      exact k h am_fr.rf
  · rw [if_neg hc] at k
    simp (disch := first | assumption | omega | (simp only [ya_pi, ya_pj, ya_pa, ya_pr, yo_pi, yo_pj, yo_pa, yf_pi, yf_pj, yf_pa, yh_pi, yh_pj, yh_pa, yt_pi, yt_pj, yt_pa, la_pi, la_pj, la_pa]; assumption)) only [b_X11_rank_0, b_X11_rank_11, b_X11_rank_17, b_X11_rank_14, b_X11_rank_25, b_X11_rank_30, b_X11_rank_28, b_X11_rank_38, b_X11_rank_46, i_lit, i_m1, i_31, il_t, il_f, iq_t, iq_f, it_t, it_f, im_e, im_l, im_g, im_g2, nI_add, pk_mul, i_sub, i_div, sdm, i_dec, i_cl, iv_t, bI_or2, bI_t0, bI_one, not_true_eq_false, not_false_eq_true, ↓reduceIte, am_tl, am_tn, am_t0, am_n0, and_true, true_and, List.cons_append, List.nil_append, List.append_nil, or_true, true_or, or_false, false_or, eq_self, ior0, iand0, im_e2, oI, c_hasClass_n ok C.2.1 hc]
    exact k h am_fr.rf
theorem c_rWays {d : Nat} {Q : Option am_V → am_H → Prop} {h : am_H} {f : fa_S} (ok : fa_ok f) (F : rfa h f) {c : Int32} {l2 : Option am_V} (k : ∀ h', am_fr h h' rS → Q (some (v_i (a_ways f c))) h') : ex_ (d + 11) 320 0 [some (v_r (some 93)), some (v_i c), l2] [] h Q := by
  have L0 := F.1
  have hn := ok.1
  have F0 : rfa (p_i h 93 0 (nI 0)) f := p0_rfa ok F
  have fr0 : am_fr h (p_i h 93 0 (nI 0)) rS := am_fr_pi (by unfold rS; omega)
  unfold a_ways at k
  rcases fa_cs hn c with ⟨a, ha, rfl⟩ | hc
  · have hh : fa_has (f_n f) (nI a) := (fa_has_iff hn).2 ⟨a, ha, rfl⟩
    rw [if_pos hh, nI_clamp (by omega)] at k
    simp (disch := first | assumption | omega | (simp only [ya_pi, ya_pj, ya_pa, ya_pr, yo_pi, yo_pj, yo_pa, yf_pi, yf_pj, yf_pa, yh_pi, yh_pj, yh_pa, yt_pi, yt_pj, yt_pa, la_pi, la_pj, la_pa]; assumption)) only [b_X12_ways_0, b_X12_ways_10, b_X12_ways_17, b_X12_ways_15, b_X12_ways_23, b_X12_ways_26, i_lit, i_m1, i_31, il_t, il_f, iq_t, iq_f, it_t, it_f, im_e, im_l, im_g, im_g2, nI_add, pk_mul, i_sub, i_div, sdm, i_dec, i_cl, iv_t, bI_or2, bI_t0, bI_one, not_true_eq_false, not_false_eq_true, ↓reduceIte, am_tl, am_tn, am_t0, am_n0, and_true, true_and, List.cons_append, List.nil_append, List.append_nil, or_true, true_or, or_false, false_or, eq_self, ior0, iand0, im_e2, oI]
    refine c_noDemands_y ok F0 ha (fun z h1 fr1 => ?_) (fun z h1 fr1 A1 q1 => ?_)
    · rw [if_pos z] at k
      simp (disch := first | assumption | omega | (simp only [ya_pi, ya_pj, ya_pa, ya_pr, yo_pi, yo_pj, yo_pa, yf_pi, yf_pj, yf_pa, yh_pi, yh_pj, yh_pa, yt_pi, yt_pj, yt_pa, la_pi, la_pj, la_pa]; assumption)) only [b_X12_ways_0, b_X12_ways_10, b_X12_ways_17, b_X12_ways_15, b_X12_ways_23, b_X12_ways_26, i_lit, i_m1, i_31, il_t, il_f, iq_t, iq_f, it_t, it_f, im_e, im_l, im_g, im_g2, nI_add, pk_mul, i_sub, i_div, sdm, i_dec, i_cl, iv_t, bI_or2, bI_t0, bI_one, not_true_eq_false, not_false_eq_true, ↓reduceIte, am_tl, am_tn, am_t0, am_n0, and_true, true_and, List.cons_append, List.nil_append, List.append_nil, or_true, true_or, or_false, false_or, eq_self, ior0, iand0, im_e2, oI]
      exact k h1 (fr0.tr fr1)
    · rw [if_neg z] at k
      have F1 : rfa h1 f := fr1.rfa ok F0 (fun k _ => by unfold rS; omega)
      have L1 : Lay h1 := F1.1
      simp (disch := first | assumption | omega | (simp only [ya_pi, ya_pj, ya_pa, ya_pr, yo_pi, yo_pj, yo_pa, yf_pi, yf_pj, yf_pa, yh_pi, yh_pj, yh_pa, yt_pi, yt_pj, yt_pa, la_pi, la_pj, la_pa]; assumption)) only [b_X12_ways_0, b_X12_ways_10, b_X12_ways_17, b_X12_ways_15, b_X12_ways_23, b_X12_ways_26, i_lit, i_m1, i_31, il_t, il_f, iq_t, iq_f, it_t, it_f, im_e, im_l, im_g, im_g2, nI_add, pk_mul, i_sub, i_div, sdm, i_dec, i_cl, iv_t, bI_or2, bI_t0, bI_one, not_true_eq_false, not_false_eq_true, ↓reduceIte, am_tl, am_tn, am_t0, am_n0, and_true, true_and, List.cons_append, List.nil_append, List.append_nil, or_true, true_or, or_false, false_or, eq_self, ior0, iand0, im_e2, oI, c_above ok F1 (show a < 10 by omega)]
      refine c_laysWays L1 q1 (fM_lt ok ha) (fun h2 fr2 T2 => ?_)
      have L2 : Lay h2 := fr2.lay L1
      have e0 := T2 0 (Nat.zero_and _) (Nat.le_refl _)
      simp (disch := first | assumption | omega | (simp only [ya_pi, ya_pj, ya_pa, ya_pr, yo_pi, yo_pj, yo_pa, yf_pi, yf_pj, yf_pa, yh_pi, yh_pj, yh_pa, yt_pi, yt_pj, yt_pa, la_pi, la_pj, la_pa]; assumption)) only [b_X12_ways_0, b_X12_ways_10, b_X12_ways_17, b_X12_ways_15, b_X12_ways_23, b_X12_ways_26, i_lit, i_m1, i_31, il_t, il_f, iq_t, iq_f, it_t, it_f, im_e, im_l, im_g, im_g2, nI_add, pk_mul, i_sub, i_div, sdm, i_dec, i_cl, iv_t, bI_or2, bI_t0, bI_one, not_true_eq_false, not_false_eq_true, ↓reduceIte, am_tl, am_tn, am_t0, am_n0, and_true, true_and, List.cons_append, List.nil_append, List.append_nil, or_true, true_or, or_false, false_or, eq_self, ior0, iand0, im_e2, oI, e0]
      exact k h2 ((fr0.tr fr1).tr (fr2.le (fun a k z => z.S)))
  · rw [if_neg hc] at k
    simp (disch := first | assumption | omega | (simp only [ya_pi, ya_pj, ya_pa, ya_pr, yo_pi, yo_pj, yo_pa, yf_pi, yf_pj, yf_pa, yh_pi, yh_pj, yh_pa, yt_pi, yt_pj, yt_pa, la_pi, la_pj, la_pa]; assumption)) only [b_X12_ways_0, b_X12_ways_10, b_X12_ways_17, b_X12_ways_15, b_X12_ways_23, b_X12_ways_26, i_lit, i_m1, i_31, il_t, il_f, iq_t, iq_f, it_t, it_f, im_e, im_l, im_g, im_g2, nI_add, pk_mul, i_sub, i_div, sdm, i_dec, i_cl, iv_t, bI_or2, bI_t0, bI_one, not_true_eq_false, not_false_eq_true, ↓reduceIte, am_tl, am_tn, am_t0, am_n0, and_true, true_and, List.cons_append, List.nil_append, List.append_nil, or_true, true_or, or_false, false_or, eq_self, ior0, iand0, im_e2, oI, c_noDemands_n ok F0 hc]
    rw [if_neg (by decide)]
    exact k _ fr0
theorem c_rRank {d : Nat} {Q : Option am_V → am_H → Prop} {h : am_H} {f : fa_S} (ok : fa_ok f) (F : rfa h f) {c : Int32} {l2 l3 l4 l5 l6 l7 l8 : Option am_V} (k : ∀ h', am_fr h h' rS → Q (some (v_i (a_rank f c))) h') : ex_ (d + 11) 321 0 [some (v_r (some 93)), some (v_i c), l2, l3, l4, l5, l6, l7, l8] [] h Q := by
  have L0 := F.1
  have hn := ok.1
  have F0 : rfa (p_i h 93 0 (nI 0)) f := p0_rfa ok F
  have fr0 : am_fr h (p_i h 93 0 (nI 0)) rS := am_fr_pi (by unfold rS; omega)
  unfold a_rank at k
  rcases fa_cs hn c with ⟨a, ha, rfl⟩ | hc
  · have hh : fa_has (f_n f) (nI a) := (fa_has_iff hn).2 ⟨a, ha, rfl⟩
    have ho := fT_ok ok a ha
    rw [if_pos hh, nI_clamp (by omega)] at k
    simp (disch := first | assumption | omega | (simp only [ya_pi, ya_pj, ya_pa, ya_pr, yo_pi, yo_pj, yo_pa, yf_pi, yf_pj, yf_pa, yh_pi, yh_pj, yh_pa, yt_pi, yt_pj, yt_pa, la_pi, la_pj, la_pa]; assumption)) only [b_X12_rank_0, b_X12_rank_10, b_X12_rank_17, b_X12_rank_15, b_X12_rank_28, b_X12_rank_26, b_X12_rank_33, b_X12_rank_39, b_X12_rank_133, b_X12_rank_59, b_X12_rank_118, b_X12_rank_83, b_X12_rank_92, b_X12_rank_112, b_X12_rank_95, i_lit, i_m1, i_31, il_t, il_f, iq_t, iq_f, it_t, it_f, im_e, im_l, im_g, im_g2, nI_add, pk_mul, i_sub, i_div, sdm, i_dec, i_cl, iv_t, bI_or2, bI_t0, bI_one, not_true_eq_false, not_false_eq_true, ↓reduceIte, am_tl, am_tn, am_t0, am_n0, and_true, true_and, List.cons_append, List.nil_append, List.append_nil, or_true, true_or, or_false, false_or, eq_self, ior0, iand0, im_e2, oI]
    refine c_noDemands_y ok F0 ha (fun z h1 fr1 => ?_) (fun z h1 fr1 A1 q1 => ?_)
    · rw [if_neg (by omega)] at k
      simp (disch := first | assumption | omega | (simp only [ya_pi, ya_pj, ya_pa, ya_pr, yo_pi, yo_pj, yo_pa, yf_pi, yf_pj, yf_pa, yh_pi, yh_pj, yh_pa, yt_pi, yt_pj, yt_pa, la_pi, la_pj, la_pa]; assumption)) only [b_X12_rank_0, b_X12_rank_10, b_X12_rank_17, b_X12_rank_15, b_X12_rank_28, b_X12_rank_26, b_X12_rank_33, b_X12_rank_39, b_X12_rank_133, b_X12_rank_59, b_X12_rank_118, b_X12_rank_83, b_X12_rank_92, b_X12_rank_112, b_X12_rank_95, i_lit, i_m1, i_31, il_t, il_f, iq_t, iq_f, it_t, it_f, im_e, im_l, im_g, im_g2, nI_add, pk_mul, i_sub, i_div, sdm, i_dec, i_cl, iv_t, bI_or2, bI_t0, bI_one, not_true_eq_false, not_false_eq_true, ↓reduceIte, am_tl, am_tn, am_t0, am_n0, and_true, true_and, List.cons_append, List.nil_append, List.append_nil, or_true, true_or, or_false, false_or, eq_self, ior0, iand0, im_e2, oI]
      exact k h1 (fr0.tr fr1)
    · have F1 : rfa h1 f := fr1.rfa ok F0 (fun k _ => by unfold rS; omega)
      have L1 : Lay h1 := F1.1
      have e100 := (A1.2 a ha).1
      by_cases z0 : (fT f a).1 = 0
      · rw [if_pos z0] at k
        have hM := fM_lt ok ha
        simp (disch := first | assumption | omega | (simp only [ya_pi, ya_pj, ya_pa, ya_pr, yo_pi, yo_pj, yo_pa, yf_pi, yf_pj, yf_pa, yh_pi, yh_pj, yh_pa, yt_pi, yt_pj, yt_pa, la_pi, la_pj, la_pa]; assumption)) only [b_X12_rank_0, b_X12_rank_10, b_X12_rank_17, b_X12_rank_15, b_X12_rank_28, b_X12_rank_26, b_X12_rank_33, b_X12_rank_39, b_X12_rank_133, b_X12_rank_59, b_X12_rank_118, b_X12_rank_83, b_X12_rank_92, b_X12_rank_112, b_X12_rank_95, i_lit, i_m1, i_31, il_t, il_f, iq_t, iq_f, it_t, it_f, im_e, im_l, im_g, im_g2, nI_add, pk_mul, i_sub, i_div, sdm, i_dec, i_cl, iv_t, bI_or2, bI_t0, bI_one, not_true_eq_false, not_false_eq_true, ↓reduceIte, am_tl, am_tn, am_t0, am_n0, and_true, true_and, List.cons_append, List.nil_append, List.append_nil, or_true, true_or, or_false, false_or, eq_self, ior0, iand0, im_e2, oI, e100, z0, c_above ok F1 (show a < 10 by omega)]
        refine c_laysWays L1 q1 hM (fun h2 fr2 T2 => ?_)
        have L2 : Lay h2 := fr2.lay L1
        have q2 : dq h2 (fD f a) := fun x hx => by rw [fr2.i (by unfold r8; omega)]; exact q1 x hx
        have m2 : rr h2 a (fT f a) := (A1.2 a ha).fr fr2 (by omega) (by unfold r8; omega) (by unfold r8; omega) (fun k _ => by unfold r8; omega)
        have e98 := m2.2.1
        have hv := fM_T ok ha
        simp (disch := first | assumption | omega | (simp only [ya_pi, ya_pj, ya_pa, ya_pr, yo_pi, yo_pj, yo_pa, yf_pi, yf_pj, yf_pa, yh_pi, yh_pj, yh_pa, yt_pi, yt_pj, yt_pa, la_pi, la_pj, la_pa]; assumption)) only [b_X12_rank_0, b_X12_rank_10, b_X12_rank_17, b_X12_rank_15, b_X12_rank_28, b_X12_rank_26, b_X12_rank_33, b_X12_rank_39, b_X12_rank_133, b_X12_rank_59, b_X12_rank_118, b_X12_rank_83, b_X12_rank_92, b_X12_rank_112, b_X12_rank_95, i_lit, i_m1, i_31, il_t, il_f, iq_t, iq_f, it_t, it_f, im_e, im_l, im_g, im_g2, nI_add, pk_mul, i_sub, i_div, sdm, i_dec, i_cl, iv_t, bI_or2, bI_t0, bI_one, not_true_eq_false, not_false_eq_true, ↓reduceIte, am_tl, am_tn, am_t0, am_n0, and_true, true_and, List.cons_append, List.nil_append, List.append_nil, or_true, true_or, or_false, false_or, eq_self, ior0, iand0, im_e2, oI]
        refine lp_up (fT f a).2.length (fun i (s : Option am_V × Option am_V) => [some (v_r (some 93)), some (v_i (nI a)), some (v_i (nI 0)), some (v_i (nI (fM f a))), some (v_i (nI (mkL ((fT f a).2.take i)))), some (v_i (nI (rkS (fD f a) (fM f a) ((fT f a).2.take i) 0))), some (v_i (nI i)), s.1, s.2]) (fun i _ h' => h' = h2) ?_ ?_ (Nat.zero_le _) rfl (s := (l7, l8))
        · rintro i ⟨l7, l8⟩ h' hi rfl nx
          dsimp only
          have x10 := hv _ (gd_mem hi)
          have e99 := m2.2.2 i hi
          have sb : mkL ((fT f a).2.take i) &&& fM f a = mkL ((fT f a).2.take i) := mk_sub (fun x hx => (hv x (List.mem_of_mem_take hx)).2)
          have nxt := nx (some (v_i (nI ((fT f a).2.getD i 0))), some (v_i (nI ((fT f a).2.getD i 0)))) h' rfl
          dsimp only at nxt
          rw [tk_s hi, mk_app, rk_app] at nxt
          have gl := sub_le sb
          rw [b_X12_rank_48 _ _ _ _ _ _ _ _ _ L2]
          simp (disch := first | assumption | omega | (simp only [ya_pi, ya_pj, ya_pa, ya_pr, yo_pi, yo_pj, yo_pa, yf_pi, yf_pj, yf_pa, yh_pi, yh_pj, yh_pa, yt_pi, yt_pj, yt_pa, la_pi, la_pj, la_pa]; assumption)) only [b_X12_rank_0, b_X12_rank_10, b_X12_rank_17, b_X12_rank_15, b_X12_rank_28, b_X12_rank_26, b_X12_rank_33, b_X12_rank_39, b_X12_rank_133, b_X12_rank_59, b_X12_rank_118, b_X12_rank_83, b_X12_rank_92, b_X12_rank_112, b_X12_rank_95, i_lit, i_m1, i_31, il_t, il_f, iq_t, iq_f, it_t, it_f, im_e, im_l, im_g, im_g2, nI_add, pk_mul, i_sub, i_div, sdm, i_dec, i_cl, iv_t, bI_or2, bI_t0, bI_one, not_true_eq_false, not_false_eq_true, ↓reduceIte, am_tl, am_tn, am_t0, am_n0, and_true, true_and, List.cons_append, List.nil_append, List.append_nil, or_true, true_or, or_false, false_or, eq_self, ior0, iand0, im_e2, oI, e98, e99]
          refine lp_up ((fT f a).2.getD i 0) (fun c (_ : Unit) => [some (v_r (some 93)), some (v_i (nI a)), some (v_i (nI 0)), some (v_i (nI (fM f a))), some (v_i (nI (mkL ((fT f a).2.take i)))), some (v_i (nI (rkS (fD f a) (fM f a) ((fT f a).2.take i) 0 + sm (wyS (fD f a) (fM f a) (mkL ((fT f a).2.take i))) c))), some (v_i (nI i)), some (v_i (nI ((fT f a).2.getD i 0))), some (v_i (nI c))]) (fun c _ h3 => h3 = h') ?_ ?_ (Nat.zero_le _) rfl (s := ())
          · rintro c - h3 hc rfl nx3
            have nxt3 := nx3 () h3 rfl
            rw [sm, ← Nat.add_assoc] at nxt3
            have o1 := or_1024 (g := mkL ((fT f a).2.take i)) (c := c) (by omega) (by omega)
            rw [b_X12_rank_76 _ _ _ _ _ _ _ _ _ _]
            cases z : cs (fD f a) (fM f a) (mkL ((fT f a).2.take i)) c with
            | false =>
              rw [show wyS (fD f a) (fM f a) (mkL ((fT f a).2.take i)) c = 0 from if_neg (by rw [z]; decide), Nat.add_zero] at nxt3
              simp (disch := first | assumption | omega | (simp only [ya_pi, ya_pj, ya_pa, ya_pr, yo_pi, yo_pj, yo_pa, yf_pi, yf_pj, yf_pa, yh_pi, yh_pj, yh_pa, yt_pi, yt_pj, yt_pa, la_pi, la_pj, la_pa]; assumption)) only [b_X12_rank_0, b_X12_rank_10, b_X12_rank_17, b_X12_rank_15, b_X12_rank_28, b_X12_rank_26, b_X12_rank_33, b_X12_rank_39, b_X12_rank_133, b_X12_rank_59, b_X12_rank_118, b_X12_rank_83, b_X12_rank_92, b_X12_rank_112, b_X12_rank_95, i_lit, i_m1, i_31, il_t, il_f, iq_t, iq_f, it_t, it_f, im_e, im_l, im_g, im_g2, nI_add, pk_mul, i_sub, i_div, sdm, i_dec, i_cl, iv_t, bI_or2, bI_t0, bI_one, not_true_eq_false, not_false_eq_true, ↓reduceIte, am_tl, am_tn, am_t0, am_n0, and_true, true_and, List.cons_append, List.nil_append, List.append_nil, or_true, true_or, or_false, false_or, eq_self, ior0, iand0, im_e2, oI, c_canStand L2 q2 hM (show mkL ((fT f a).2.take i) < 1024 by omega) (show c < 10 by omega), z, Bool.false_eq_true]
              exact nxt3
            | true =>
              have z2 := cs_iff.1 z
              have e5 := T2 _ (or_sub sb z2.2.1) (Nat.zero_le _)
              rw [show wyS (fD f a) (fM f a) (mkL ((fT f a).2.take i)) c = wy (fD f a) (fM f a) (mkL ((fT f a).2.take i) ||| 2 ^ c) from if_pos z] at nxt3
              simp (disch := first | assumption | omega | (simp only [ya_pi, ya_pj, ya_pa, ya_pr, yo_pi, yo_pj, yo_pa, yf_pi, yf_pj, yf_pa, yh_pi, yh_pj, yh_pa, yt_pi, yt_pj, yt_pa, la_pi, la_pj, la_pa]; assumption)) only [b_X12_rank_0, b_X12_rank_10, b_X12_rank_17, b_X12_rank_15, b_X12_rank_28, b_X12_rank_26, b_X12_rank_33, b_X12_rank_39, b_X12_rank_133, b_X12_rank_59, b_X12_rank_118, b_X12_rank_83, b_X12_rank_92, b_X12_rank_112, b_X12_rank_95, i_lit, i_m1, i_31, il_t, il_f, iq_t, iq_f, it_t, it_f, im_e, im_l, im_g, im_g2, nI_add, pk_mul, i_sub, i_div, sdm, i_dec, i_cl, iv_t, bI_or2, bI_t0, bI_one, not_true_eq_false, not_false_eq_true, ↓reduceIte, am_tl, am_tn, am_t0, am_n0, and_true, true_and, List.cons_append, List.nil_append, List.append_nil, or_true, true_or, or_false, false_or, eq_self, ior0, iand0, im_e2, oI, c_canStand L2 q2 hM (show mkL ((fT f a).2.take i) < 1024 by omega) (show c < 10 by omega), z, i_31, mI_or2, e5]
              exact nxt3
          · rintro - h3 rfl
            rw [b_X12_rank_76 _ _ _ _ _ _ _ _ _ _]
            simp (disch := first | assumption | omega | (simp only [ya_pi, ya_pj, ya_pa, ya_pr, yo_pi, yo_pj, yo_pa, yf_pi, yf_pj, yf_pa, yh_pi, yh_pj, yh_pa, yt_pi, yt_pj, yt_pa, la_pi, la_pj, la_pa]; assumption)) only [b_X12_rank_0, b_X12_rank_10, b_X12_rank_17, b_X12_rank_15, b_X12_rank_28, b_X12_rank_26, b_X12_rank_33, b_X12_rank_39, b_X12_rank_133, b_X12_rank_59, b_X12_rank_118, b_X12_rank_83, b_X12_rank_92, b_X12_rank_112, b_X12_rank_95, i_lit, i_m1, i_31, il_t, il_f, iq_t, iq_f, it_t, it_f, im_e, im_l, im_g, im_g2, nI_add, pk_mul, i_sub, i_div, sdm, i_dec, i_cl, iv_t, bI_or2, bI_t0, bI_one, not_true_eq_false, not_false_eq_true, ↓reduceIte, am_tl, am_tn, am_t0, am_n0, and_true, true_and, List.cons_append, List.nil_append, List.append_nil, or_true, true_or, or_false, false_or, eq_self, ior0, iand0, im_e2, oI, i_31, mI_or2]
            exact nxt
        · rintro ⟨l7, l8⟩ h' rfl
          dsimp only
          rw [b_X12_rank_48 _ _ _ _ _ _ _ _ _ L2, List.take_length]
          simp (disch := first | assumption | omega | (simp only [ya_pi, ya_pj, ya_pa, ya_pr, yo_pi, yo_pj, yo_pa, yf_pi, yf_pj, yf_pa, yh_pi, yh_pj, yh_pa, yt_pi, yt_pj, yt_pa, la_pi, la_pj, la_pa]; assumption)) only [b_X12_rank_0, b_X12_rank_10, b_X12_rank_17, b_X12_rank_15, b_X12_rank_28, b_X12_rank_26, b_X12_rank_33, b_X12_rank_39, b_X12_rank_133, b_X12_rank_59, b_X12_rank_118, b_X12_rank_83, b_X12_rank_92, b_X12_rank_112, b_X12_rank_95, i_lit, i_m1, i_31, il_t, il_f, iq_t, iq_f, it_t, it_f, im_e, im_l, im_g, im_g2, nI_add, pk_mul, i_sub, i_div, sdm, i_dec, i_cl, iv_t, bI_or2, bI_t0, bI_one, not_true_eq_false, not_false_eq_true, ↓reduceIte, am_tl, am_tn, am_t0, am_n0, and_true, true_and, List.cons_append, List.nil_append, List.append_nil, or_true, true_or, or_false, false_or, eq_self, ior0, iand0, im_e2, oI, e98]
          exact k h' ((fr0.tr fr1).tr (fr2.le (fun a k z => z.S)))
      · rw [if_neg z0] at k
        simp (disch := first | assumption | omega | (simp only [ya_pi, ya_pj, ya_pa, ya_pr, yo_pi, yo_pj, yo_pa, yf_pi, yf_pj, yf_pa, yh_pi, yh_pj, yh_pa, yt_pi, yt_pj, yt_pa, la_pi, la_pj, la_pa]; assumption)) only [b_X12_rank_0, b_X12_rank_10, b_X12_rank_17, b_X12_rank_15, b_X12_rank_28, b_X12_rank_26, b_X12_rank_33, b_X12_rank_39, b_X12_rank_133, b_X12_rank_59, b_X12_rank_118, b_X12_rank_83, b_X12_rank_92, b_X12_rank_112, b_X12_rank_95, i_lit, i_m1, i_31, il_t, il_f, iq_t, iq_f, it_t, it_f, im_e, im_l, im_g, im_g2, nI_add, pk_mul, i_sub, i_div, sdm, i_dec, i_cl, iv_t, bI_or2, bI_t0, bI_one, not_true_eq_false, not_false_eq_true, ↓reduceIte, am_tl, am_tn, am_t0, am_n0, and_true, true_and, List.cons_append, List.nil_append, List.append_nil, or_true, true_or, or_false, false_or, eq_self, ior0, iand0, im_e2, oI, e100]
        exact k h1 (fr0.tr fr1)
  · rw [if_neg hc] at k
    simp (disch := first | assumption | omega | (simp only [ya_pi, ya_pj, ya_pa, ya_pr, yo_pi, yo_pj, yo_pa, yf_pi, yf_pj, yf_pa, yh_pi, yh_pj, yh_pa, yt_pi, yt_pj, yt_pa, la_pi, la_pj, la_pa]; assumption)) only [b_X12_rank_0, b_X12_rank_10, b_X12_rank_17, b_X12_rank_15, b_X12_rank_28, b_X12_rank_26, b_X12_rank_33, b_X12_rank_39, b_X12_rank_133, b_X12_rank_59, b_X12_rank_118, b_X12_rank_83, b_X12_rank_92, b_X12_rank_112, b_X12_rank_95, i_lit, i_m1, i_31, il_t, il_f, iq_t, iq_f, it_t, it_f, im_e, im_l, im_g, im_g2, nI_add, pk_mul, i_sub, i_div, sdm, i_dec, i_cl, iv_t, bI_or2, bI_t0, bI_one, not_true_eq_false, not_false_eq_true, ↓reduceIte, am_tl, am_tn, am_t0, am_n0, and_true, true_and, List.cons_append, List.nil_append, List.append_nil, or_true, true_or, or_false, false_or, eq_self, ior0, iand0, im_e2, oI, c_noDemands_n ok F0 hc]
    rw [if_neg (by decide)]
    exact k _ fr0
