/-! ===== call, through, serves ===== -/
def cH (h : am_H) (f : fa_S) (says seen : Option (List Nat)) : Prop := cQ h f ∧ hsn h 1 says ∧ hsn h 2 seen
def rH (h : am_H) (f : fa_S) (says seen : Option (List Nat)) : Prop := rfa h f ∧ rsn h 0 says ∧ rsn h 1 seen
/-- a house that can be -/
def hk (f : fa_S) (says seen : Option (List Nat)) : Prop := fa_gd f ∧ lk true says ∧ lk false seen
theorem cH.fr {h h' : am_H} {f : fa_S} {says seen : Option (List Nat)} (ok : fa_ok f) (C : cH h f says seen) (fr : am_fr h h' cS) : cH h' f says seen := ⟨C.1.fr ok fr, C.2.1.fr fr (fun a k ha => by unfold cS; omega), C.2.2.fr fr (fun a k ha => by unfold cS; omega)⟩
theorem rH.fr {h h' : am_H} {f : fa_S} {says seen : Option (List Nat)} (ok : fa_ok f) (R : rH h f says seen) (fr : am_fr h h' rS) : rH h' f says seen := ⟨fr.rfa ok R.1 (fun k _ => by unfold rS; omega), R.2.1.fr fr (fun k => by unfold rS; omega), R.2.2.fr fr (fun k => by unfold rS; omega)⟩
theorem c_saysOf {d : Nat} {Q : Option am_V → am_H → Prop} {h : am_H} {f : fa_S} {says seen : Option (List Nat)} {c m : Nat} {md : Int32} (G : hk f says seen) (R : rH h f says seen) (A : ra h (fT f) (f_n f)) (hc : c < f_n f) (hm : m < 8) {l4 l5 : Option am_V} (k : ∀ h', am_fr h h' rV → Q (some (v_i (an f says seen c m md))) h') : ex_ (d + 5) 336 0 [some (v_r (some 93)), some (v_i (nI c)), some (v_i (nI m)), some (v_i md), l4, l5] [] h Q := by
  obtain ⟨gd, K1, K⟩ := G
  have ok := gd.1
  have hn := ok.1
  have L0 := A.1
  have ho := fT_ok ok c hc
  unfold an at k
  simp (disch := first | assumption | omega | (simp only [ya_pi, ya_pj, ya_pa, ya_pr, yo_pi, yo_pj, yo_pa, yf_pi, yf_pj, yf_pa, yh_pi, yh_pj, yh_pa, yt_pi, yt_pj, yt_pa, la_pi, la_pj, la_pa]; assumption)) only [b_X12_saysOf_0, b_X12_saysOf_7, b_X12_saysOf_18, b_X12_saysOf_14, b_X12_saysOf_103, b_X12_saysOf_34, b_X12_saysOf_48, b_X12_saysOf_74, b_X12_saysOf_66, b_X12_saysOf_95, b_X12_saysOf_71, i_lit, i_m1, i_31, il_t, il_f, iq_t, iq_f, it_t, it_f, im_e, im_l, im_g, im_g2, nI_add, pk_mul, i_sub, i_div, sdm, i_dec, i_cl, iv_t, bI_or2, bI_t0, bI_one, not_true_eq_false, not_false_eq_true, ↓reduceIte, am_tl, am_tn, am_t0, am_n0, and_true, true_and, List.cons_append, List.nil_append, List.append_nil, or_true, true_or, or_false, false_or, eq_self, ior0, iand0, im_e2, oI]
  refine c_laysCall gd R.1 A R.2.2 K hc hm (fun h1 fr1 e35 r112 => ?_)
  have hlt := fun {x} => trl_lt (f := f) (seen := seen) (c := c) (m := m) (md := md) (x := x)
  have hlen : (trl f seen c m md).length ≤ 10 := Nat.le_trans trc_len ho.2.2.2.2
  generalize trl f seen c m md = ks at k e35 r112 hlt hlen
  have L1 : Lay h1 := fr1.lay L0
  cases hks : ks with
  | nil =>
    rw [hks] at e35
    rw [if_pos hks] at k
    simp (disch := first | assumption | omega | (simp only [ya_pi, ya_pj, ya_pa, ya_pr, yo_pi, yo_pj, yo_pa, yf_pi, yf_pj, yf_pa, yh_pi, yh_pj, yh_pa, yt_pi, yt_pj, yt_pa, la_pi, la_pj, la_pa]; assumption)) only [b_X12_saysOf_0, b_X12_saysOf_7, b_X12_saysOf_18, b_X12_saysOf_14, b_X12_saysOf_103, b_X12_saysOf_34, b_X12_saysOf_48, b_X12_saysOf_74, b_X12_saysOf_66, b_X12_saysOf_95, b_X12_saysOf_71, i_lit, i_m1, i_31, il_t, il_f, iq_t, iq_f, it_t, it_f, im_e, im_l, im_g, im_g2, nI_add, pk_mul, i_sub, i_div, sdm, i_dec, i_cl, iv_t, bI_or2, bI_t0, bI_one, not_true_eq_false, not_false_eq_true, ↓reduceIte, am_tl, am_tn, am_t0, am_n0, and_true, true_and, List.cons_append, List.nil_append, List.append_nil, or_true, true_or, or_false, false_or, eq_self, ior0, iand0, im_e2, oI, e35, List.length_nil]
    exact k h1 fr1
  | cons x0 xs =>
    have hne : ¬ ks = [] := by rw [hks]; exact List.cons_ne_nil _ _
    have hpos : 0 < ks.length := by rw [hks]; exact Nat.succ_pos _
    rw [if_neg hne] at k
    simp (disch := first | assumption | omega | (simp only [ya_pi, ya_pj, ya_pa, ya_pr, yo_pi, yo_pj, yo_pa, yf_pi, yf_pj, yf_pa, yh_pi, yh_pj, yh_pa, yt_pi, yt_pj, yt_pa, la_pi, la_pj, la_pa]; assumption)) only [b_X12_saysOf_0, b_X12_saysOf_7, b_X12_saysOf_18, b_X12_saysOf_14, b_X12_saysOf_103, b_X12_saysOf_34, b_X12_saysOf_48, b_X12_saysOf_74, b_X12_saysOf_66, b_X12_saysOf_95, b_X12_saysOf_71, i_lit, i_m1, i_31, il_t, il_f, iq_t, iq_f, it_t, it_f, im_e, im_l, im_g, im_g2, nI_add, pk_mul, i_sub, i_div, sdm, i_dec, i_cl, iv_t, bI_or2, bI_t0, bI_one, not_true_eq_false, not_false_eq_true, ↓reduceIte, am_tl, am_tn, am_t0, am_n0, and_true, true_and, List.cons_append, List.nil_append, List.append_nil, or_true, true_or, or_false, false_or, eq_self, ior0, iand0, im_e2, oI, hi_s, hi_o, hi_k, hr_pi, hj_pi, hn_pi, hi_pas, hi_pao, hr_pa, hj_pa, e35]
    rw [show nI (ks.length - 1) = lfL ks.length 0 from by rw [← lfL_0, i_sub (by omega)]]
    refine lp_up ks.length (fun t (its : Int32) => [some (v_r (some 93)), some (v_i (nI c)), some (v_i (nI m)), some (v_i md), some (v_i its), some (v_i (lfL ks.length t))]) (fun t its h' => am_fr h h' rV ∧ ro h' 112 0 ks ∧ its = (ks.drop (ks.length - t)).foldr (anS f says c m md) (nI 0)) ?_ ?_ (Nat.zero_le _) ⟨fr1, r112, by rw [Nat.sub_zero, List.drop_length]; rfl⟩
    · rintro t its h2 ht ⟨fr2, g112, ei⟩ nx
      have L2 : Lay h2 := fr2.lay L0
      have A2 : ra h2 (fT f) (f_n f) := A.fr (fT_ok ok) fr2 (fun a k _ _ => by unfold rV; omega)
      have ht2 : ks.length - 1 - t < ks.length := by omega
      have e112 := g112 _ ht2
      rw [Nat.zero_add] at e112
      have kl := hlt (gd_mem ht2)
      have es := fold_s (g := anS f says c m md) ht
      rw [← ei] at es
      generalize ks.getD (ks.length - 1 - t) 0 = kk at e112 kl es
      have hA : anS f says c m md kk its = anX says (nI m) (nI ((fT f c).2.getD kk 0)) (nI c) md its (nI kk) := rfl
      rw [b_X12_saysOf_29 _ _ _ _ _ _ _, lfL_y ht]
      simp (disch := first | assumption | omega | (simp only [ya_pi, ya_pj, ya_pa, ya_pr, yo_pi, yo_pj, yo_pa, yf_pi, yf_pj, yf_pa, yh_pi, yh_pj, yh_pa, yt_pi, yt_pj, yt_pa, la_pi, la_pj, la_pa]; assumption)) only [b_X12_saysOf_0, b_X12_saysOf_7, b_X12_saysOf_18, b_X12_saysOf_14, b_X12_saysOf_103, b_X12_saysOf_34, b_X12_saysOf_48, b_X12_saysOf_74, b_X12_saysOf_66, b_X12_saysOf_95, b_X12_saysOf_71, i_lit, i_m1, i_31, il_t, il_f, iq_t, iq_f, it_t, it_f, im_e, im_l, im_g, im_g2, nI_add, pk_mul, i_sub, i_div, sdm, i_dec, i_cl, iv_t, bI_or2, bI_t0, bI_one, not_true_eq_false, not_false_eq_true, ↓reduceIte, am_tl, am_tn, am_t0, am_n0, and_true, true_and, List.cons_append, List.nil_append, List.append_nil, or_true, true_or, or_false, false_or, eq_self, ior0, iand0, im_e2, oI, e112]
      refine c_laysWords L2 (A2.2 c hc) (by omega) kl ho.2.2.2.2 (fun h3 fr3 w3 w5 => ?_)
      have L3 : Lay h3 := fr3.lay L2
      have fr3' : am_fr h h3 rV := fr2.tr (fr3.le (fun a k z => by unfold rV; omega))
      have R3 : rsn h3 0 says := R.2.1.fr fr3' (fun k => by unfold rV; omega)
      have r3 : ro h3 112 0 ks := fr3.ro g112 (fun j _ => by omega)
      have L4 : Lay (p_i h3 111 4 its) := L3
      obtain ⟨g0, g1, g2, g3⟩ := w3
      generalize (fT f c).2.getD kk 0 = x at g1 hA
      cases hs : says with
      | none =>
        rw [hs] at R3 hA
        have e : h_i h3 94 2 = nI 0 := R3
        simp (disch := first | assumption | omega | (simp only [ya_pi, ya_pj, ya_pa, ya_pr, yo_pi, yo_pj, yo_pa, yf_pi, yf_pj, yf_pa, yh_pi, yh_pj, yh_pa, yt_pi, yt_pj, yt_pa, la_pi, la_pj, la_pa]; assumption)) only [b_X12_saysOf_0, b_X12_saysOf_7, b_X12_saysOf_18, b_X12_saysOf_14, b_X12_saysOf_103, b_X12_saysOf_34, b_X12_saysOf_48, b_X12_saysOf_74, b_X12_saysOf_66, b_X12_saysOf_95, b_X12_saysOf_71, i_lit, i_m1, i_31, il_t, il_f, iq_t, iq_f, it_t, it_f, im_e, im_l, im_g, im_g2, nI_add, pk_mul, i_sub, i_div, sdm, i_dec, i_cl, iv_t, bI_or2, bI_t0, bI_one, not_true_eq_false, not_false_eq_true, ↓reduceIte, am_tl, am_tn, am_t0, am_n0, and_true, true_and, List.cons_append, List.nil_append, List.append_nil, or_true, true_or, or_false, false_or, eq_self, ior0, iand0, im_e2, oI, hi_s, hi_o, hi_k, hr_pi, hj_pi, hn_pi, hi_pas, hi_pao, hr_pa, hj_pa, e, g1, l_lit, c_keptIn, lfL_s ht]
        refine nx _ _ ⟨fr3'.pi (by unfold rV; omega), fun j hj => by rw [hi_o (by omega)]; exact r3 j hj, ?_⟩
        rw [es, hs]
        exact hA.symm
      | some l =>
        rw [hs] at R3 hA
        obtain ⟨e, la⟩ := R3
        have e' : h_i h3 94 2 = nI 1 := e
        have kl2 := K1 l hs
        have ex := evx_eq (w := wd (nI m) (nI x) (nI c) md its (nI kk)) kl2.1
        have la4 : rl_at (p_i h3 111 4 its) 0 l := by
          obtain ⟨s, q1, q2, q3, q4⟩ := la
          exact ⟨s, q1, by rw [hi_o (by omega), q2], by rw [hi_o (by omega), q3], fun j hj => by rw [hi_o (by omega)]; exact q4 j hj⟩
        simp (disch := first | assumption | omega | (simp only [ya_pi, ya_pj, ya_pa, ya_pr, yo_pi, yo_pj, yo_pa, yf_pi, yf_pj, yf_pa, yh_pi, yh_pj, yh_pa, yt_pi, yt_pj, yt_pa, la_pi, la_pj, la_pa]; assumption)) only [b_X12_saysOf_0, b_X12_saysOf_7, b_X12_saysOf_18, b_X12_saysOf_14, b_X12_saysOf_103, b_X12_saysOf_34, b_X12_saysOf_48, b_X12_saysOf_74, b_X12_saysOf_66, b_X12_saysOf_95, b_X12_saysOf_71, i_lit, i_m1, i_31, il_t, il_f, iq_t, iq_f, it_t, it_f, im_e, im_l, im_g, im_g2, nI_add, pk_mul, i_sub, i_div, sdm, i_dec, i_cl, iv_t, bI_or2, bI_t0, bI_one, not_true_eq_false, not_false_eq_true, ↓reduceIte, am_tl, am_tn, am_t0, am_n0, and_true, true_and, List.cons_append, List.nil_append, List.append_nil, or_true, true_or, or_false, false_or, eq_self, ior0, iand0, im_e2, oI, hi_s, hi_o, hi_k, hr_pi, hj_pi, hn_pi, hi_pas, hi_pao, hr_pa, hj_pa, e']
        refine c_reckons L4 (by omega) la4 (fun j hj _ => ?_) kl2.1 ex.1 (fun h5 fr5 => ?_)
        · rcases (show j = 0 ∨ j = 1 ∨ j = 2 ∨ j = 3 ∨ j = 4 ∨ j = 5 by omega) with rfl | rfl | rfl | rfl | rfl | rfl
          · rw [hi_k (by omega), g0]; rfl
          · rw [hi_k (by omega), g1]; rfl
          · rw [hi_k (by omega), g2]; rfl
          · rw [hi_k (by omega), g3]; rfl
          · rw [hi_s]; rfl
          · rw [hi_k (by omega), w5]; rfl
        · simp (disch := first | assumption | omega | (simp only [ya_pi, ya_pj, ya_pa, ya_pr, yo_pi, yo_pj, yo_pa, yf_pi, yf_pj, yf_pa, yh_pi, yh_pj, yh_pa, yt_pi, yt_pj, yt_pa, la_pi, la_pj, la_pa]; assumption)) only [b_X12_saysOf_0, b_X12_saysOf_7, b_X12_saysOf_18, b_X12_saysOf_14, b_X12_saysOf_103, b_X12_saysOf_34, b_X12_saysOf_48, b_X12_saysOf_74, b_X12_saysOf_66, b_X12_saysOf_95, b_X12_saysOf_71, i_lit, i_m1, i_31, il_t, il_f, iq_t, iq_f, it_t, it_f, im_e, im_l, im_g, im_g2, nI_add, pk_mul, i_sub, i_div, sdm, i_dec, i_cl, iv_t, bI_or2, bI_t0, bI_one, not_true_eq_false, not_false_eq_true, ↓reduceIte, am_tl, am_tn, am_t0, am_n0, and_true, true_and, List.cons_append, List.nil_append, List.append_nil, or_true, true_or, or_false, false_or, eq_self, ior0, iand0, im_e2, oI, lfL_s ht]
          refine nx _ h5 ⟨(fr3'.pi (by unfold rV; omega)).tr (fr5.le (fun a k z => by unfold rK at z; unfold rV; omega)), fun j hj => ?_, ?_⟩
          · rw [fr5.i (by unfold rK; omega), hi_o (by omega)]
            exact r3 j hj
          · rw [es, hs]
            exact hA.symm
    · rintro its h2 ⟨fr2, g112, ei⟩
      rw [Nat.sub_self, List.drop_zero] at ei
      rw [b_X12_saysOf_29 _ _ _ _ _ _ _, lfL_e]
      simp (disch := first | assumption | omega | (simp only [ya_pi, ya_pj, ya_pa, ya_pr, yo_pi, yo_pj, yo_pa, yf_pi, yf_pj, yf_pa, yh_pi, yh_pj, yh_pa, yt_pi, yt_pj, yt_pa, la_pi, la_pj, la_pa]; assumption)) only [b_X12_saysOf_0, b_X12_saysOf_7, b_X12_saysOf_18, b_X12_saysOf_14, b_X12_saysOf_103, b_X12_saysOf_34, b_X12_saysOf_48, b_X12_saysOf_74, b_X12_saysOf_66, b_X12_saysOf_95, b_X12_saysOf_71, i_lit, i_m1, i_31, il_t, il_f, iq_t, iq_f, it_t, it_f, im_e, im_l, im_g, im_g2, nI_add, pk_mul, i_sub, i_div, sdm, i_dec, i_cl, iv_t, bI_or2, bI_t0, bI_one, not_true_eq_false, not_false_eq_true, ↓reduceIte, am_tl, am_tn, am_t0, am_n0, and_true, true_and, List.cons_append, List.nil_append, List.append_nil, or_true, true_or, or_false, false_or, eq_self, ior0, iand0, im_e2, oI, mI_lt0]
      rw [ei]
      exact k h2 fr2
def a_call (f : fa_S) (says seen : Option (List Nat)) (c m : Int32) : Int32 := if fa_has (f_n f) c ∧ me_ok m then (if (fT f c.toNatClampNeg).1 = 0 then an f says seen c.toNatClampNeg m.toNatClampNeg (f_m f) else -99000005) else -99000002
def thr (f : fa_S) (seen : Option (List Nat)) (c m i : Nat) : Option Nat := (trl f seen c m (f_m f))[i]?.map (fun k => (fT f c).2.getD k 0)
def a_through (f : fa_S) (seen : Option (List Nat)) (c m i : Int32) : Int32 := if fa_has (f_n f) c ∧ me_ok m then (if i < 0 then -3 else if (fT f c.toNatClampNeg).1 = 0 then oI (thr f seen c.toNatClampNeg m.toNatClampNeg i.toNatClampNeg) else -5) else -2
def svP (f : fa_S) (seen : Option (List Nat)) (c m k : Nat) : Bool := thr f seen k m 0 == some c
def a_serves (f : fa_S) (seen : Option (List Nat)) (c m : Int32) : Int32 := if fa_has (f_n f) c ∧ me_ok m then nI (bs (bl (svP f seen c.toNatClampNeg m.toNatClampNeg) (f_n f))) else -2
theorem c_call {d : Nat} {Q : Option am_V → am_H → Prop} {h : am_H} {f : fa_S} {says seen : Option (List Nat)} (G : hk f says seen) (C : cH h f says seen) {c m : Int32} (k : ∀ h', am_fr h h' cS → Q (some (v_i (a_call f says seen c m))) h') : ex_ (d + 5) 201 0 [some (v_r (some 0)), some (v_i c), some (v_i m)] [] h Q := by
  have ok := G.1.1
  have L0 := C.1.1
  have hn := ok.1
  unfold a_call at k
  rcases fa_cs hn c with ⟨a, ha, rfl⟩ | hc
  · have hh : fa_has (f_n f) (nI a) := (fa_has_iff hn).2 ⟨a, ha, rfl⟩
    have ho := fT_ok ok a ha
    rcases me_cs m with ⟨j, hj, rfl⟩ | hm
    · rw [if_pos ⟨hh, nI_pos (by omega), nI_lt hj (by omega)⟩, nI_clamp (by omega), nI_clamp (by omega)] at k
      rcases T_st ok ha with ⟨sa, na⟩ | ⟨sa, na⟩
      · rw [if_pos sa] at k
        have em := C.1.2.1.2.2.1
        simp (disch := first | assumption | omega | (simp only [ya_pi, ya_pj, ya_pa, ya_pr, yo_pi, yo_pj, yo_pa, yf_pi, yf_pj, yf_pa, yh_pi, yh_pj, yh_pa, yt_pi, yt_pj, yt_pa, la_pi, la_pj, la_pa]; assumption)) only [b_X11_call_0, b_X11_call_11, b_X11_call_21, b_X11_call_14, b_X11_call_18, b_X11_call_25, b_X11_call_33, b_X11_call_40, b_X11_call_36, b_X11_call_59, i_lit, i_m1, i_31, il_t, il_f, iq_t, iq_f, it_t, it_f, im_e, im_l, im_g, im_g2, nI_add, pk_mul, i_sub, i_div, sdm, i_dec, i_cl, iv_t, bI_or2, bI_t0, bI_one, not_true_eq_false, not_false_eq_true, ↓reduceIte, am_tl, am_tn, am_t0, am_n0, and_true, true_and, List.cons_append, List.nil_append, List.append_nil, or_true, true_or, or_false, false_or, eq_self, ior0, iand0, im_e2, oI, c_hasClass_y ok C.1.2.1 ha, c_isMethod_y hj, c_hasOrder_y C.1.2.2.1 (C.1.2.2.2 a ha) (show a < 11 by omega) na (by omega), em]
        refine c_answer G.1 C.1 C.2.1 C.2.2 G.2.1 G.2.2 ha hj (fun h1 fr1 => ?_)
        simp (disch := first | assumption | omega | (simp only [ya_pi, ya_pj, ya_pa, ya_pr, yo_pi, yo_pj, yo_pa, yf_pi, yf_pj, yf_pa, yh_pi, yh_pj, yh_pa, yt_pi, yt_pj, yt_pa, la_pi, la_pj, la_pa]; assumption)) only [b_X11_call_0, b_X11_call_11, b_X11_call_21, b_X11_call_14, b_X11_call_18, b_X11_call_25, b_X11_call_33, b_X11_call_40, b_X11_call_36, b_X11_call_59, i_lit, i_m1, i_31, il_t, il_f, iq_t, iq_f, it_t, it_f, im_e, im_l, im_g, im_g2, nI_add, pk_mul, i_sub, i_div, sdm, i_dec, i_cl, iv_t, bI_or2, bI_t0, bI_one, not_true_eq_false, not_false_eq_true, ↓reduceIte, am_tl, am_tn, am_t0, am_n0, and_true, true_and, List.cons_append, List.nil_append, List.append_nil, or_true, true_or, or_false, false_or, eq_self, ior0, iand0, im_e2, oI]
        exact k h1 (fr1.le (fun a k z => z.S))
      · rw [if_neg sa] at k
        simp (disch := first | assumption | omega | (simp only [ya_pi, ya_pj, ya_pa, ya_pr, yo_pi, yo_pj, yo_pa, yf_pi, yf_pj, yf_pa, yh_pi, yh_pj, yh_pa, yt_pi, yt_pj, yt_pa, la_pi, la_pj, la_pa]; assumption)) only [b_X11_call_0, b_X11_call_11, b_X11_call_21, b_X11_call_14, b_X11_call_18, b_X11_call_25, b_X11_call_33, b_X11_call_40, b_X11_call_36, b_X11_call_59, i_lit, i_m1, i_31, il_t, il_f, iq_t, iq_f, it_t, it_f, im_e, im_l, im_g, im_g2, nI_add, pk_mul, i_sub, i_div, sdm, i_dec, i_cl, iv_t, bI_or2, bI_t0, bI_one, not_true_eq_false, not_false_eq_true, ↓reduceIte, am_tl, am_tn, am_t0, am_n0, and_true, true_and, List.cons_append, List.nil_append, List.append_nil, or_true, true_or, or_false, false_or, eq_self, ior0, iand0, im_e2, oI, c_hasClass_y ok C.1.2.1 ha, c_isMethod_y hj, c_hasOrder_n C.1.2.2.1 (C.1.2.2.2 a ha) (show a < 11 by omega) na]
        exact k h am_fr.rf
    · rw [if_neg (fun z => hm z.2)] at k
      simp (disch := first | assumption | omega | (simp only [ya_pi, ya_pj, ya_pa, ya_pr, yo_pi, yo_pj, yo_pa, yf_pi, yf_pj, yf_pa, yh_pi, yh_pj, yh_pa, yt_pi, yt_pj, yt_pa, la_pi, la_pj, la_pa]; assumption)) only [b_X11_call_0, b_X11_call_11, b_X11_call_21, b_X11_call_14, b_X11_call_18, b_X11_call_25, b_X11_call_33, b_X11_call_40, b_X11_call_36, b_X11_call_59, i_lit, i_m1, i_31, il_t, il_f, iq_t, iq_f, it_t, it_f, im_e, im_l, im_g, im_g2, nI_add, pk_mul, i_sub, i_div, sdm, i_dec, i_cl, iv_t, bI_or2, bI_t0, bI_one, not_true_eq_false, not_false_eq_true, ↓reduceIte, am_tl, am_tn, am_t0, am_n0, and_true, true_and, List.cons_append, List.nil_append, List.append_nil, or_true, true_or, or_false, false_or, eq_self, ior0, iand0, im_e2, oI, c_hasClass_y ok C.1.2.1 ha, c_isMethod_n hm]
      exact k h am_fr.rf
  · rw [if_neg (fun z => hc z.1)] at k
    simp (disch := first | assumption | omega | (simp only [ya_pi, ya_pj, ya_pa, ya_pr, yo_pi, yo_pj, yo_pa, yf_pi, yf_pj, yf_pa, yh_pi, yh_pj, yh_pa, yt_pi, yt_pj, yt_pa, la_pi, la_pj, la_pa]; assumption)) only [b_X11_call_0, b_X11_call_11, b_X11_call_21, b_X11_call_14, b_X11_call_18, b_X11_call_25, b_X11_call_33, b_X11_call_40, b_X11_call_36, b_X11_call_59, i_lit, i_m1, i_31, il_t, il_f, iq_t, iq_f, it_t, it_f, im_e, im_l, im_g, im_g2, nI_add, pk_mul, i_sub, i_div, sdm, i_dec, i_cl, iv_t, bI_or2, bI_t0, bI_one, not_true_eq_false, not_false_eq_true, ↓reduceIte, am_tl, am_tn, am_t0, am_n0, and_true, true_and, List.cons_append, List.nil_append, List.append_nil, or_true, true_or, or_false, false_or, eq_self, ior0, iand0, im_e2, oI, c_hasClass_n ok C.1.2.1 hc]
    exact k h am_fr.rf
theorem c_through {d : Nat} {Q : Option am_V → am_H → Prop} {h : am_H} {f : fa_S} {says seen : Option (List Nat)} (G : hk f says seen) (C : cH h f says seen) {c m i : Int32} (k : ∀ h', am_fr h h' cS → Q (some (v_i (a_through f seen c m i))) h') : ex_ (d + 4) 202 0 [some (v_r (some 0)), some (v_i c), some (v_i m), some (v_i i)] [] h Q := by
  have ok := G.1.1
  have L0 := C.1.1
  have hn := ok.1
  unfold a_through at k
  rcases fa_cs hn c with ⟨a, ha, rfl⟩ | hc
  · have hh : fa_has (f_n f) (nI a) := (fa_has_iff hn).2 ⟨a, ha, rfl⟩
    have ho := fT_ok ok a ha
    rcases me_cs m with ⟨j, hj, rfl⟩ | hm
    · rw [if_pos ⟨hh, nI_pos (by omega), nI_lt hj (by omega)⟩, nI_clamp (show a < 2147483648 by omega), nI_clamp (show j < 2147483648 by omega)] at k
      by_cases hi : i < 0
      · rw [if_pos hi] at k
        simp (disch := first | assumption | omega | (simp only [ya_pi, ya_pj, ya_pa, ya_pr, yo_pi, yo_pj, yo_pa, yf_pi, yf_pj, yf_pa, yh_pi, yh_pj, yh_pa, yt_pi, yt_pj, yt_pa, la_pi, la_pj, la_pa]; assumption)) only [b_X11_through_0, b_X11_through_11, b_X11_through_21, b_X11_through_14, b_X11_through_18, b_X11_through_24, b_X11_through_31, b_X11_through_28, b_X11_through_39, b_X11_through_45, b_X11_through_42, b_X11_through_64, b_X11_through_72, i_lit, i_m1, i_31, il_t, il_f, iq_t, iq_f, it_t, it_f, im_e, im_l, im_g, im_g2, nI_add, pk_mul, i_sub, i_div, sdm, i_dec, i_cl, iv_t, bI_or2, bI_t0, bI_one, not_true_eq_false, not_false_eq_true, ↓reduceIte, am_tl, am_tn, am_t0, am_n0, and_true, true_and, List.cons_append, List.nil_append, List.append_nil, or_true, true_or, or_false, false_or, eq_self, ior0, iand0, im_e2, oI, c_hasClass_y ok C.1.2.1 ha, c_isMethod_y hj, ge0 hi]
        exact k h am_fr.rf
      · obtain ⟨i, hi2, rfl⟩ := nI_of hi
        rw [if_neg hi, nI_clamp hi2] at k
        rcases T_st ok ha with ⟨sa, na⟩ | ⟨sa, na⟩
        · rw [if_pos sa] at k
          have em := C.1.2.1.2.2.1
          simp (disch := first | assumption | omega | (simp only [ya_pi, ya_pj, ya_pa, ya_pr, yo_pi, yo_pj, yo_pa, yf_pi, yf_pj, yf_pa, yh_pi, yh_pj, yh_pa, yt_pi, yt_pj, yt_pa, la_pi, la_pj, la_pa]; assumption)) only [b_X11_through_0, b_X11_through_11, b_X11_through_21, b_X11_through_14, b_X11_through_18, b_X11_through_24, b_X11_through_31, b_X11_through_28, b_X11_through_39, b_X11_through_45, b_X11_through_42, b_X11_through_64, b_X11_through_72, i_lit, i_m1, i_31, il_t, il_f, iq_t, iq_f, it_t, it_f, im_e, im_l, im_g, im_g2, nI_add, pk_mul, i_sub, i_div, sdm, i_dec, i_cl, iv_t, bI_or2, bI_t0, bI_one, not_true_eq_false, not_false_eq_true, ↓reduceIte, am_tl, am_tn, am_t0, am_n0, and_true, true_and, List.cons_append, List.nil_append, List.append_nil, or_true, true_or, or_false, false_or, eq_self, ior0, iand0, im_e2, oI, c_hasClass_y ok C.1.2.1 ha, c_isMethod_y hj, c_hasOrder_y C.1.2.2.1 (C.1.2.2.2 a ha) (show a < 11 by omega) na (by omega), em]
          refine c_trace G.1 C.1 C.2.2 G.2.2 ha hj (fun h1 fr1 v1 => ?_)
          have C1 : cQ h1 f := C.1.fr ok (fr1.le (fun a k z => z.S))
          have L1 := C1.1
          simp (disch := first | assumption | omega | (simp only [ya_pi, ya_pj, ya_pa, ya_pr, yo_pi, yo_pj, yo_pa, yf_pi, yf_pj, yf_pa, yh_pi, yh_pj, yh_pa, yt_pi, yt_pj, yt_pa, la_pi, la_pj, la_pa]; assumption)) only [b_X11_through_0, b_X11_through_11, b_X11_through_21, b_X11_through_14, b_X11_through_18, b_X11_through_24, b_X11_through_31, b_X11_through_28, b_X11_through_39, b_X11_through_45, b_X11_through_42, b_X11_through_64, b_X11_through_72, i_lit, i_m1, i_31, il_t, il_f, iq_t, iq_f, it_t, it_f, im_e, im_l, im_g, im_g2, nI_add, pk_mul, i_sub, i_div, sdm, i_dec, i_cl, iv_t, bI_or2, bI_t0, bI_one, not_true_eq_false, not_false_eq_true, ↓reduceIte, am_tl, am_tn, am_t0, am_n0, and_true, true_and, List.cons_append, List.nil_append, List.append_nil, c_passed ok C1 ha v1 (Nat.le_trans trc_len ho.2.2.2.2) (fun x hx => trl_lt hx) hi2]
          exact k h1 (fr1.le (fun a k z => z.S))
        · rw [if_neg sa] at k
          simp (disch := first | assumption | omega | (simp only [ya_pi, ya_pj, ya_pa, ya_pr, yo_pi, yo_pj, yo_pa, yf_pi, yf_pj, yf_pa, yh_pi, yh_pj, yh_pa, yt_pi, yt_pj, yt_pa, la_pi, la_pj, la_pa]; assumption)) only [b_X11_through_0, b_X11_through_11, b_X11_through_21, b_X11_through_14, b_X11_through_18, b_X11_through_24, b_X11_through_31, b_X11_through_28, b_X11_through_39, b_X11_through_45, b_X11_through_42, b_X11_through_64, b_X11_through_72, i_lit, i_m1, i_31, il_t, il_f, iq_t, iq_f, it_t, it_f, im_e, im_l, im_g, im_g2, nI_add, pk_mul, i_sub, i_div, sdm, i_dec, i_cl, iv_t, bI_or2, bI_t0, bI_one, not_true_eq_false, not_false_eq_true, ↓reduceIte, am_tl, am_tn, am_t0, am_n0, and_true, true_and, List.cons_append, List.nil_append, List.append_nil, or_true, true_or, or_false, false_or, eq_self, ior0, iand0, im_e2, oI, c_hasClass_y ok C.1.2.1 ha, c_isMethod_y hj, c_hasOrder_n C.1.2.2.1 (C.1.2.2.2 a ha) (show a < 11 by omega) na]
          exact k h am_fr.rf
    · rw [if_neg (fun z => hm z.2)] at k
      simp (disch := first | assumption | omega | (simp only [ya_pi, ya_pj, ya_pa, ya_pr, yo_pi, yo_pj, yo_pa, yf_pi, yf_pj, yf_pa, yh_pi, yh_pj, yh_pa, yt_pi, yt_pj, yt_pa, la_pi, la_pj, la_pa]; assumption)) only [b_X11_through_0, b_X11_through_11, b_X11_through_21, b_X11_through_14, b_X11_through_18, b_X11_through_24, b_X11_through_31, b_X11_through_28, b_X11_through_39, b_X11_through_45, b_X11_through_42, b_X11_through_64, b_X11_through_72, i_lit, i_m1, i_31, il_t, il_f, iq_t, iq_f, it_t, it_f, im_e, im_l, im_g, im_g2, nI_add, pk_mul, i_sub, i_div, sdm, i_dec, i_cl, iv_t, bI_or2, bI_t0, bI_one, not_true_eq_false, not_false_eq_true, ↓reduceIte, am_tl, am_tn, am_t0, am_n0, and_true, true_and, List.cons_append, List.nil_append, List.append_nil, or_true, true_or, or_false, false_or, eq_self, ior0, iand0, im_e2, oI, c_hasClass_y ok C.1.2.1 ha, c_isMethod_n hm]
      exact k h am_fr.rf
  · rw [if_neg (fun z => hc z.1)] at k
    simp (disch := first | assumption | omega | (simp only [ya_pi, ya_pj, ya_pa, ya_pr, yo_pi, yo_pj, yo_pa, yf_pi, yf_pj, yf_pa, yh_pi, yh_pj, yh_pa, yt_pi, yt_pj, yt_pa, la_pi, la_pj, la_pa]; assumption)) only [b_X11_through_0, b_X11_through_11, b_X11_through_21, b_X11_through_14, b_X11_through_18, b_X11_through_24, b_X11_through_31, b_X11_through_28, b_X11_through_39, b_X11_through_45, b_X11_through_42, b_X11_through_64, b_X11_through_72, i_lit, i_m1, i_31, il_t, il_f, iq_t, iq_f, it_t, it_f, im_e, im_l, im_g, im_g2, nI_add, pk_mul, i_sub, i_div, sdm, i_dec, i_cl, iv_t, bI_or2, bI_t0, bI_one, not_true_eq_false, not_false_eq_true, ↓reduceIte, am_tl, am_tn, am_t0, am_n0, and_true, true_and, List.cons_append, List.nil_append, List.append_nil, or_true, true_or, or_false, false_or, eq_self, ior0, iand0, im_e2, oI, c_hasClass_n ok C.1.2.1 hc]
    exact k h am_fr.rf
theorem thr_lt {f : fa_S} (ok : fa_ok f) {seen : Option (List Nat)} {c m i x : Nat} (hc : c < f_n f) (h : thr f seen c m i = some x) : x < 10 := by
  unfold thr at h
  cases e : (trl f seen c m (f_m f))[i]? with
  | none => rw [e] at h; cases h
  | some j =>
    rw [e] at h
    cases h
    exact (fT_ok ok c hc).2.2.2.1 _ (gd_mem (trl_lt (List.mem_of_getElem? e)))
theorem c_serves {d : Nat} {Q : Option am_V → am_H → Prop} {h : am_H} {f : fa_S} {says seen : Option (List Nat)} (G : hk f says seen) (C : cH h f says seen) {c m : Int32} {l3 l4 : Option am_V} (k : ∀ h', am_fr h h' cS → Q (some (v_i (a_serves f seen c m))) h') : ex_ (d + 4) 203 0 [some (v_r (some 0)), some (v_i c), some (v_i m), l3, l4] [] h Q := by
  have ok := G.1.1
  have L0 := C.1.1
  have hn := ok.1
  unfold a_serves at k
  rcases fa_cs hn c with ⟨a, ha, rfl⟩ | hc
  · have hh : fa_has (f_n f) (nI a) := (fa_has_iff hn).2 ⟨a, ha, rfl⟩
    rcases me_cs m with ⟨j, hj, rfl⟩ | hm
    · rw [if_pos ⟨hh, nI_pos (by omega), nI_lt hj (by omega)⟩, nI_clamp (show a < 2147483648 by omega), nI_clamp (show j < 2147483648 by omega)] at k
      simp (disch := first | assumption | omega | (simp only [ya_pi, ya_pj, ya_pa, ya_pr, yo_pi, yo_pj, yo_pa, yf_pi, yf_pj, yf_pa, yh_pi, yh_pj, yh_pa, yt_pi, yt_pj, yt_pa, la_pi, la_pj, la_pa]; assumption)) only [b_X11_serves_0, b_X11_serves_11, b_X11_serves_21, b_X11_serves_14, b_X11_serves_18, b_X11_serves_24, b_X11_serves_89, b_X11_serves_44, b_X11_serves_64, b_X11_serves_72, b_X11_serves_83, b_X11_serves_76, i_lit, i_m1, i_31, il_t, il_f, iq_t, iq_f, it_t, it_f, im_e, im_l, im_g, im_g2, nI_add, pk_mul, i_sub, i_div, sdm, i_dec, i_cl, iv_t, bI_or2, bI_t0, bI_one, not_true_eq_false, not_false_eq_true, ↓reduceIte, am_tl, am_tn, am_t0, am_n0, and_true, true_and, List.cons_append, List.nil_append, List.append_nil, or_true, true_or, or_false, false_or, eq_self, ior0, iand0, im_e2, oI, c_hasClass_y ok C.1.2.1 ha, c_isMethod_y hj]
      have st := lp_up (d := d + 4) (k := 203) (pc := 29) (Q := Q) (f_n f) (fun i (_ : Unit) => [some (v_r (some 0)), some (v_i (nI a)), some (v_i (nI j)), some (v_i (nI (bs (bl (svP f seen a j) i)))), some (v_i (nI i))]) (fun i _ h' => am_fr h h' cS) ?_ ?_ (Nat.zero_le _) (s := ()) (h := h) am_fr.rf
      · rw [bl_0] at st
        exact st
      · rintro i - h1 hi fr1 nx
        have C1 : cH h1 f says seen := C.fr ok fr1
        have L1 := C1.1.1
        have en := C1.1.2.1.2.1
        have em := C1.1.2.1.2.2.1
        have ho := fT_ok ok i hi
        rw [b_X11_serves_29 _ _ _ _ _ L1]
        simp (disch := first | assumption | omega | (simp only [ya_pi, ya_pj, ya_pa, ya_pr, yo_pi, yo_pj, yo_pa, yf_pi, yf_pj, yf_pa, yh_pi, yh_pj, yh_pa, yt_pi, yt_pj, yt_pa, la_pi, la_pj, la_pa]; assumption)) only [b_X11_serves_0, b_X11_serves_11, b_X11_serves_21, b_X11_serves_14, b_X11_serves_18, b_X11_serves_24, b_X11_serves_89, b_X11_serves_44, b_X11_serves_64, b_X11_serves_72, b_X11_serves_83, b_X11_serves_76, i_lit, i_m1, i_31, il_t, il_f, iq_t, iq_f, it_t, it_f, im_e, im_l, im_g, im_g2, nI_add, pk_mul, i_sub, i_div, sdm, i_dec, i_cl, iv_t, bI_or2, bI_t0, bI_one, not_true_eq_false, not_false_eq_true, ↓reduceIte, am_tl, am_tn, am_t0, am_n0, and_true, true_and, List.cons_append, List.nil_append, List.append_nil, or_true, true_or, or_false, false_or, eq_self, ior0, iand0, im_e2, oI, en, em]
        refine c_trace G.1 C1.1 C1.2.2 G.2.2 hi hj (fun h2 fr2 v2 => ?_)
        have C2 : cQ h2 f := C1.1.fr ok (fr2.le (fun a k z => z.S))
        have L2 := C2.1
        have nxt := nx () h2 (fr1.tr (fr2.le (fun a k z => z.S)))
        have cp := fun {d} {Q} => c_passed (d := d) (Q := Q) ok C2 hi v2 (Nat.le_trans trc_len ho.2.2.2.2) (fun x hx => trl_lt hx) (show 0 < 2147483648 by omega)
        cases e : thr f seen i j 0 with
        | none =>
          rw [show (trl f seen i j (f_m f))[0]?.map (fun k => (fT f i).2.getD k 0) = none from e] at cp
          rw [bl_n (show svP f seen a j i = false by unfold svP; rw [e]; rfl)] at nxt
          simp (disch := first | assumption | omega | (simp only [ya_pi, ya_pj, ya_pa, ya_pr, yo_pi, yo_pj, yo_pa, yf_pi, yf_pj, yf_pa, yh_pi, yh_pj, yh_pa, yt_pi, yt_pj, yt_pa, la_pi, la_pj, la_pa]; assumption)) only [b_X11_serves_0, b_X11_serves_11, b_X11_serves_21, b_X11_serves_14, b_X11_serves_18, b_X11_serves_24, b_X11_serves_89, b_X11_serves_44, b_X11_serves_64, b_X11_serves_72, b_X11_serves_83, b_X11_serves_76, i_lit, i_m1, i_31, il_t, il_f, iq_t, iq_f, it_t, it_f, im_e, im_l, im_g, im_g2, nI_add, pk_mul, i_sub, i_div, sdm, i_dec, i_cl, iv_t, bI_or2, bI_t0, bI_one, not_true_eq_false, not_false_eq_true, ↓reduceIte, am_tl, am_tn, am_t0, am_n0, and_true, true_and, List.cons_append, List.nil_append, List.append_nil, or_true, true_or, or_false, false_or, eq_self, ior0, iand0, im_e2, oI, cp]
          exact nxt
        | some x =>
          have x10 := thr_lt ok hi e
          rw [show (trl f seen i j (f_m f))[0]?.map (fun k => (fT f i).2.getD k 0) = some x from e] at cp
          by_cases z : x = a
          · rw [bl_y (show svP f seen a j i = true by unfold svP; rw [e, z]; exact beq_iff_eq.2 rfl)] at nxt
            simp (disch := first | assumption | omega | (simp only [ya_pi, ya_pj, ya_pa, ya_pr, yo_pi, yo_pj, yo_pa, yf_pi, yf_pj, yf_pa, yh_pi, yh_pj, yh_pa, yt_pi, yt_pj, yt_pa, la_pi, la_pj, la_pa]; assumption)) only [b_X11_serves_0, b_X11_serves_11, b_X11_serves_21, b_X11_serves_14, b_X11_serves_18, b_X11_serves_24, b_X11_serves_89, b_X11_serves_44, b_X11_serves_64, b_X11_serves_72, b_X11_serves_83, b_X11_serves_76, i_lit, i_m1, i_31, il_t, il_f, iq_t, iq_f, it_t, it_f, im_e, im_l, im_g, im_g2, nI_add, pk_mul, i_sub, i_div, sdm, i_dec, i_cl, iv_t, bI_or2, bI_t0, bI_one, not_true_eq_false, not_false_eq_true, ↓reduceIte, am_tl, am_tn, am_t0, am_n0, and_true, true_and, List.cons_append, List.nil_append, List.append_nil, or_true, true_or, or_false, false_or, eq_self, ior0, iand0, im_e2, oI, cp, i_31]
            exact nxt
          · rw [bl_n (show svP f seen a j i = false by unfold svP; rw [e]; exact beq_eq_false_iff_ne.2 (fun w => z (Option.some.inj w)))] at nxt
            simp (disch := first | assumption | omega | (simp only [ya_pi, ya_pj, ya_pa, ya_pr, yo_pi, yo_pj, yo_pa, yf_pi, yf_pj, yf_pa, yh_pi, yh_pj, yh_pa, yt_pi, yt_pj, yt_pa, la_pi, la_pj, la_pa]; assumption)) only [b_X11_serves_0, b_X11_serves_11, b_X11_serves_21, b_X11_serves_14, b_X11_serves_18, b_X11_serves_24, b_X11_serves_89, b_X11_serves_44, b_X11_serves_64, b_X11_serves_72, b_X11_serves_83, b_X11_serves_76, i_lit, i_m1, i_31, il_t, il_f, iq_t, iq_f, it_t, it_f, im_e, im_l, im_g, im_g2, nI_add, pk_mul, i_sub, i_div, sdm, i_dec, i_cl, iv_t, bI_or2, bI_t0, bI_one, not_true_eq_false, not_false_eq_true, ↓reduceIte, am_tl, am_tn, am_t0, am_n0, and_true, true_and, List.cons_append, List.nil_append, List.append_nil, or_true, true_or, or_false, false_or, eq_self, ior0, iand0, im_e2, oI, cp]
            exact nxt
      · rintro - h1 fr1
        have C1 : cH h1 f says seen := C.fr ok fr1
        have L1 := C1.1.1
        have en := C1.1.2.1.2.1
        rw [b_X11_serves_29 _ _ _ _ _ L1]
        simp (disch := first | assumption | omega | (simp only [ya_pi, ya_pj, ya_pa, ya_pr, yo_pi, yo_pj, yo_pa, yf_pi, yf_pj, yf_pa, yh_pi, yh_pj, yh_pa, yt_pi, yt_pj, yt_pa, la_pi, la_pj, la_pa]; assumption)) only [b_X11_serves_0, b_X11_serves_11, b_X11_serves_21, b_X11_serves_14, b_X11_serves_18, b_X11_serves_24, b_X11_serves_89, b_X11_serves_44, b_X11_serves_64, b_X11_serves_72, b_X11_serves_83, b_X11_serves_76, i_lit, i_m1, i_31, il_t, il_f, iq_t, iq_f, it_t, it_f, im_e, im_l, im_g, im_g2, nI_add, pk_mul, i_sub, i_div, sdm, i_dec, i_cl, iv_t, bI_or2, bI_t0, bI_one, not_true_eq_false, not_false_eq_true, ↓reduceIte, am_tl, am_tn, am_t0, am_n0, and_true, true_and, List.cons_append, List.nil_append, List.append_nil, or_true, true_or, or_false, false_or, eq_self, ior0, iand0, im_e2, oI, en]
        exact k h1 fr1
    · rw [if_neg (fun z => hm z.2)] at k
      simp (disch := first | assumption | omega | (simp only [ya_pi, ya_pj, ya_pa, ya_pr, yo_pi, yo_pj, yo_pa, yf_pi, yf_pj, yf_pa, yh_pi, yh_pj, yh_pa, yt_pi, yt_pj, yt_pa, la_pi, la_pj, la_pa]; assumption)) only [b_X11_serves_0, b_X11_serves_11, b_X11_serves_21, b_X11_serves_14, b_X11_serves_18, b_X11_serves_24, b_X11_serves_89, b_X11_serves_44, b_X11_serves_64, b_X11_serves_72, b_X11_serves_83, b_X11_serves_76, i_lit, i_m1, i_31, il_t, il_f, iq_t, iq_f, it_t, it_f, im_e, im_l, im_g, im_g2, nI_add, pk_mul, i_sub, i_div, sdm, i_dec, i_cl, iv_t, bI_or2, bI_t0, bI_one, not_true_eq_false, not_false_eq_true, ↓reduceIte, am_tl, am_tn, am_t0, am_n0, and_true, true_and, List.cons_append, List.nil_append, List.append_nil, or_true, true_or, or_false, false_or, eq_self, ior0, iand0, im_e2, oI, c_hasClass_y ok C.1.2.1 ha, c_isMethod_n hm]
      exact k h am_fr.rf
  · rw [if_neg (fun z => hc z.1)] at k
    simp (disch := first | assumption | omega | (simp only [ya_pi, ya_pj, ya_pa, ya_pr, yo_pi, yo_pj, yo_pa, yf_pi, yf_pj, yf_pa, yh_pi, yh_pj, yh_pa, yt_pi, yt_pj, yt_pa, la_pi, la_pj, la_pa]; assumption)) only [b_X11_serves_0, b_X11_serves_11, b_X11_serves_21, b_X11_serves_14, b_X11_serves_18, b_X11_serves_24, b_X11_serves_89, b_X11_serves_44, b_X11_serves_64, b_X11_serves_72, b_X11_serves_83, b_X11_serves_76, i_lit, i_m1, i_31, il_t, il_f, iq_t, iq_f, it_t, it_f, im_e, im_l, im_g, im_g2, nI_add, pk_mul, i_sub, i_div, sdm, i_dec, i_cl, iv_t, bI_or2, bI_t0, bI_one, not_true_eq_false, not_false_eq_true, ↓reduceIte, am_tl, am_tn, am_t0, am_n0, and_true, true_and, List.cons_append, List.nil_append, List.append_nil, or_true, true_or, or_false, false_or, eq_self, ior0, iand0, im_e2, oI, c_hasClass_n ok C.1.2.1 hc]
    exact k h am_fr.rf
theorem c_rCall {d : Nat} {Q : Option am_V → am_H → Prop} {h : am_H} {f : fa_S} {says seen : Option (List Nat)} (G : hk f says seen) (R : rH h f says seen) {c m : Int32} (k : ∀ h', am_fr h h' rS → Q (some (v_i (a_call f says seen c m))) h') : ex_ (d + 6) 337 0 [some (v_r (some 93)), some (v_i c), some (v_i m)] [] h Q := by
  have ok := G.1.1
  have L0 := R.1.1
  have hn := ok.1
  have fr0 : am_fr h (p_i h 93 0 (nI 0)) rS := am_fr_pi (by unfold rS; omega)
  have R0 : rH (p_i h 93 0 (nI 0)) f says seen := R.fr ok fr0
  have F0 := R0.1
  unfold a_call at k
  rcases fa_cs hn c with ⟨a, ha, rfl⟩ | hc
  · have hh : fa_has (f_n f) (nI a) := (fa_has_iff hn).2 ⟨a, ha, rfl⟩
    rcases me_cs m with ⟨j, hj, rfl⟩ | hm
    · rw [if_pos ⟨hh, nI_pos (by omega), nI_lt hj (by omega)⟩, nI_clamp (by omega), nI_clamp (by omega)] at k
      simp (disch := first | assumption | omega | (simp only [ya_pi, ya_pj, ya_pa, ya_pr, yo_pi, yo_pj, yo_pa, yf_pi, yf_pj, yf_pa, yh_pi, yh_pj, yh_pa, yt_pi, yt_pj, yt_pa, la_pi, la_pj, la_pa]; assumption)) only [b_X12_call_0, b_X12_call_11, b_X12_call_22, b_X12_call_14, b_X12_call_19, b_X12_call_26, b_X12_call_30, b_X12_call_45, b_X12_call_39, b_X12_call_59, i_lit, i_m1, i_31, il_t, il_f, iq_t, iq_f, it_t, it_f, im_e, im_l, im_g, im_g2, nI_add, pk_mul, i_sub, i_div, sdm, i_dec, i_cl, iv_t, bI_or2, bI_t0, bI_one, not_true_eq_false, not_false_eq_true, ↓reduceIte, am_tl, am_tn, am_t0, am_n0, and_true, true_and, List.cons_append, List.nil_append, List.append_nil, or_true, true_or, or_false, false_or, eq_self, ior0, iand0, im_e2, oI, nI_l, c_isClass_y ok F0 ha, c_rMethod_y hj]
      refine c_laysOrders ok F0 (fun h1 fr1 (A1 : ra h1 (fT f) (f_n f)) => ?_)
      have fr1' := fr0.tr (fr1.le (fun a k (z : rA a k) => z.S))
      have R1 : rH h1 f says seen := R.fr ok fr1'
      have L1 := A1.1
      have e100 := (A1.2 a ha).1
      have o1 := (fT_ok ok a ha).1
      have em : h_i h1 94 138 = f_m f := R1.1.2.2.2.2.2
      by_cases sa : (fT f a).1 = 0
      · rw [if_pos sa] at k
        simp (disch := first | assumption | omega | (simp only [ya_pi, ya_pj, ya_pa, ya_pr, yo_pi, yo_pj, yo_pa, yf_pi, yf_pj, yf_pa, yh_pi, yh_pj, yh_pa, yt_pi, yt_pj, yt_pa, la_pi, la_pj, la_pa]; assumption)) only [b_X12_call_0, b_X12_call_11, b_X12_call_22, b_X12_call_14, b_X12_call_19, b_X12_call_26, b_X12_call_30, b_X12_call_45, b_X12_call_39, b_X12_call_59, i_lit, i_m1, i_31, il_t, il_f, iq_t, iq_f, it_t, it_f, im_e, im_l, im_g, im_g2, nI_add, pk_mul, i_sub, i_div, sdm, i_dec, i_cl, iv_t, bI_or2, bI_t0, bI_one, not_true_eq_false, not_false_eq_true, ↓reduceIte, am_tl, am_tn, am_t0, am_n0, and_true, true_and, List.cons_append, List.nil_append, List.append_nil, or_true, true_or, or_false, false_or, eq_self, ior0, iand0, im_e2, oI, e100, em]
        refine c_saysOf G R1 A1 ha hj (fun h2 fr2 => ?_)
        simp (disch := first | assumption | omega | (simp only [ya_pi, ya_pj, ya_pa, ya_pr, yo_pi, yo_pj, yo_pa, yf_pi, yf_pj, yf_pa, yh_pi, yh_pj, yh_pa, yt_pi, yt_pj, yt_pa, la_pi, la_pj, la_pa]; assumption)) only [b_X12_call_0, b_X12_call_11, b_X12_call_22, b_X12_call_14, b_X12_call_19, b_X12_call_26, b_X12_call_30, b_X12_call_45, b_X12_call_39, b_X12_call_59, i_lit, i_m1, i_31, il_t, il_f, iq_t, iq_f, it_t, it_f, im_e, im_l, im_g, im_g2, nI_add, pk_mul, i_sub, i_div, sdm, i_dec, i_cl, iv_t, bI_or2, bI_t0, bI_one, not_true_eq_false, not_false_eq_true, ↓reduceIte, am_tl, am_tn, am_t0, am_n0, and_true, true_and, List.cons_append, List.nil_append, List.append_nil, or_true, true_or, or_false, false_or, eq_self, ior0, iand0, im_e2, oI]
        exact k h2 (fr1'.tr (fr2.le (fun a k z => z.S)))
      · rw [if_neg sa] at k
        simp (disch := first | assumption | omega | (simp only [ya_pi, ya_pj, ya_pa, ya_pr, yo_pi, yo_pj, yo_pa, yf_pi, yf_pj, yf_pa, yh_pi, yh_pj, yh_pa, yt_pi, yt_pj, yt_pa, la_pi, la_pj, la_pa]; assumption)) only [b_X12_call_0, b_X12_call_11, b_X12_call_22, b_X12_call_14, b_X12_call_19, b_X12_call_26, b_X12_call_30, b_X12_call_45, b_X12_call_39, b_X12_call_59, i_lit, i_m1, i_31, il_t, il_f, iq_t, iq_f, it_t, it_f, im_e, im_l, im_g, im_g2, nI_add, pk_mul, i_sub, i_div, sdm, i_dec, i_cl, iv_t, bI_or2, bI_t0, bI_one, not_true_eq_false, not_false_eq_true, ↓reduceIte, am_tl, am_tn, am_t0, am_n0, and_true, true_and, List.cons_append, List.nil_append, List.append_nil, or_true, true_or, or_false, false_or, eq_self, ior0, iand0, im_e2, oI, e100]
        exact k h1 fr1'
    · rw [if_neg (fun z => hm z.2)] at k
      simp (disch := first | assumption | omega | (simp only [ya_pi, ya_pj, ya_pa, ya_pr, yo_pi, yo_pj, yo_pa, yf_pi, yf_pj, yf_pa, yh_pi, yh_pj, yh_pa, yt_pi, yt_pj, yt_pa, la_pi, la_pj, la_pa]; assumption)) only [b_X12_call_0, b_X12_call_11, b_X12_call_22, b_X12_call_14, b_X12_call_19, b_X12_call_26, b_X12_call_30, b_X12_call_45, b_X12_call_39, b_X12_call_59, i_lit, i_m1, i_31, il_t, il_f, iq_t, iq_f, it_t, it_f, im_e, im_l, im_g, im_g2, nI_add, pk_mul, i_sub, i_div, sdm, i_dec, i_cl, iv_t, bI_or2, bI_t0, bI_one, not_true_eq_false, not_false_eq_true, ↓reduceIte, am_tl, am_tn, am_t0, am_n0, and_true, true_and, List.cons_append, List.nil_append, List.append_nil, or_true, true_or, or_false, false_or, eq_self, ior0, iand0, im_e2, oI, nI_l, c_isClass_y ok F0 ha, c_rMethod_n (lh_8 hm)]
      exact k _ fr0
  · rw [if_neg (fun z => hc z.1)] at k
    simp (disch := first | assumption | omega | (simp only [ya_pi, ya_pj, ya_pa, ya_pr, yo_pi, yo_pj, yo_pa, yf_pi, yf_pj, yf_pa, yh_pi, yh_pj, yh_pa, yt_pi, yt_pj, yt_pa, la_pi, la_pj, la_pa]; assumption)) only [b_X12_call_0, b_X12_call_11, b_X12_call_22, b_X12_call_14, b_X12_call_19, b_X12_call_26, b_X12_call_30, b_X12_call_45, b_X12_call_39, b_X12_call_59, i_lit, i_m1, i_31, il_t, il_f, iq_t, iq_f, it_t, it_f, im_e, im_l, im_g, im_g2, nI_add, pk_mul, i_sub, i_div, sdm, i_dec, i_cl, iv_t, bI_or2, bI_t0, bI_one, not_true_eq_false, not_false_eq_true, ↓reduceIte, am_tl, am_tn, am_t0, am_n0, and_true, true_and, List.cons_append, List.nil_append, List.append_nil, or_true, true_or, or_false, false_or, eq_self, ior0, iand0, im_e2, oI, c_isClass_32 ok F0 hc]
    exact k _ fr0
theorem c_rThrough {d : Nat} {Q : Option am_V → am_H → Prop} {h : am_H} {f : fa_S} {says seen : Option (List Nat)} (G : hk f says seen) (R : rH h f says seen) {c m i : Int32} (k : ∀ h', am_fr h h' rS → Q (some (v_i (a_through f seen c m i))) h') : ex_ (d + 6) 338 0 [some (v_r (some 93)), some (v_i c), some (v_i m), some (v_i i)] [] h Q := by
  have ok := G.1.1
  have L0 := R.1.1
  have hn := ok.1
  have fr0 : am_fr h (p_i h 93 0 (nI 0)) rS := am_fr_pi (by unfold rS; omega)
  have R0 : rH (p_i h 93 0 (nI 0)) f says seen := R.fr ok fr0
  have F0 := R0.1
  unfold a_through at k
  rcases fa_cs hn c with ⟨a, ha, rfl⟩ | hc
  · have hh : fa_has (f_n f) (nI a) := (fa_has_iff hn).2 ⟨a, ha, rfl⟩
    rcases me_cs m with ⟨j, hj, rfl⟩ | hm
    · rw [if_pos ⟨hh, nI_pos (by omega), nI_lt hj (by omega)⟩, nI_clamp (show a < 2147483648 by omega), nI_clamp (show j < 2147483648 by omega)] at k
      by_cases hi : i < 0
      · rw [if_pos hi] at k
        simp (disch := first | assumption | omega | (simp only [ya_pi, ya_pj, ya_pa, ya_pr, yo_pi, yo_pj, yo_pa, yf_pi, yf_pj, yf_pa, yh_pi, yh_pj, yh_pa, yt_pi, yt_pj, yt_pa, la_pi, la_pj, la_pa]; assumption)) only [b_X12_through_0, b_X12_through_11, b_X12_through_22, b_X12_through_14, b_X12_through_19, b_X12_through_25, b_X12_through_32, b_X12_through_29, b_X12_through_36, b_X12_through_48, b_X12_through_45, b_X12_through_62, b_X12_through_89, b_X12_through_70, i_lit, i_m1, i_31, il_t, il_f, iq_t, iq_f, it_t, it_f, im_e, im_l, im_g, im_g2, nI_add, pk_mul, i_sub, i_div, sdm, i_dec, i_cl, iv_t, bI_or2, bI_t0, bI_one, not_true_eq_false, not_false_eq_true, ↓reduceIte, am_tl, am_tn, am_t0, am_n0, and_true, true_and, List.cons_append, List.nil_append, List.append_nil, or_true, true_or, or_false, false_or, eq_self, ior0, iand0, im_e2, oI, nI_l, c_isClass_y ok F0 ha, c_rMethod_y hj, ge0 hi]
        exact k _ fr0
      · obtain ⟨i, hi2, rfl⟩ := nI_of hi
        rw [if_neg hi, nI_clamp hi2] at k
        simp (disch := first | assumption | omega | (simp only [ya_pi, ya_pj, ya_pa, ya_pr, yo_pi, yo_pj, yo_pa, yf_pi, yf_pj, yf_pa, yh_pi, yh_pj, yh_pa, yt_pi, yt_pj, yt_pa, la_pi, la_pj, la_pa]; assumption)) only [b_X12_through_0, b_X12_through_11, b_X12_through_22, b_X12_through_14, b_X12_through_19, b_X12_through_25, b_X12_through_32, b_X12_through_29, b_X12_through_36, b_X12_through_48, b_X12_through_45, b_X12_through_62, b_X12_through_89, b_X12_through_70, i_lit, i_m1, i_31, il_t, il_f, iq_t, iq_f, it_t, it_f, im_e, im_l, im_g, im_g2, nI_add, pk_mul, i_sub, i_div, sdm, i_dec, i_cl, iv_t, bI_or2, bI_t0, bI_one, not_true_eq_false, not_false_eq_true, ↓reduceIte, am_tl, am_tn, am_t0, am_n0, and_true, true_and, List.cons_append, List.nil_append, List.append_nil, or_true, true_or, or_false, false_or, eq_self, ior0, iand0, im_e2, oI, nI_l, c_isClass_y ok F0 ha, c_rMethod_y hj]
        refine c_laysOrders ok F0 (fun h1 fr1 (A1 : ra h1 (fT f) (f_n f)) => ?_)
        have fr1' := fr0.tr (fr1.le (fun a k (z : rA a k) => z.S))
        have R1 : rH h1 f says seen := R.fr ok fr1'
        have L1 := A1.1
        have e100 := (A1.2 a ha).1
        have o1 := fT_ok ok a ha
        have o11 := o1.1
        have em : h_i h1 94 138 = f_m f := R1.1.2.2.2.2.2
        by_cases sa : (fT f a).1 = 0
        · rw [if_pos sa] at k
          simp (disch := first | assumption | omega | (simp only [ya_pi, ya_pj, ya_pa, ya_pr, yo_pi, yo_pj, yo_pa, yf_pi, yf_pj, yf_pa, yh_pi, yh_pj, yh_pa, yt_pi, yt_pj, yt_pa, la_pi, la_pj, la_pa]; assumption)) only [b_X12_through_0, b_X12_through_11, b_X12_through_22, b_X12_through_14, b_X12_through_19, b_X12_through_25, b_X12_through_32, b_X12_through_29, b_X12_through_36, b_X12_through_48, b_X12_through_45, b_X12_through_62, b_X12_through_89, b_X12_through_70, i_lit, i_m1, i_31, il_t, il_f, iq_t, iq_f, it_t, it_f, im_e, im_l, im_g, im_g2, nI_add, pk_mul, i_sub, i_div, sdm, i_dec, i_cl, iv_t, bI_or2, bI_t0, bI_one, not_true_eq_false, not_false_eq_true, ↓reduceIte, am_tl, am_tn, am_t0, am_n0, and_true, true_and, List.cons_append, List.nil_append, List.append_nil, or_true, true_or, or_false, false_or, eq_self, ior0, iand0, im_e2, oI, e100, em]
          refine c_laysCall G.1 R1.1 A1 R1.2.2 G.2.2 ha hj (fun h2 fr2 e35 r112 => ?_)
          have L2 : Lay h2 := fr2.lay L1
          have A2 : ra h2 (fT f) (f_n f) := A1.fr (fT_ok ok) fr2 (fun a k _ _ => by unfold rV; omega)
          have fin := k h2 (fr1'.tr (fr2.le (fun a k z => z.S)))
          unfold thr at fin
          have hlen : (trl f seen a j (f_m f)).length ≤ 10 := Nat.le_trans trc_len o1.2.2.2.2
          by_cases z : i < (trl f seen a j (f_m f)).length
          · have e112 := r112 i z
            rw [Nat.zero_add] at e112
            have kl := trl_lt (gd_mem z)
            have e99 := (A2.2 a ha).2.2 _ kl
            rw [List.getElem?_eq_getElem z] at fin
            rw [List.getD_eq_getElem?_getD (l := trl f seen a j (f_m f)), List.getElem?_eq_getElem z] at e112 e99 kl
            have l10 := o1.2.2.2.2
            simp (disch := first | assumption | omega | (simp only [ya_pi, ya_pj, ya_pa, ya_pr, yo_pi, yo_pj, yo_pa, yf_pi, yf_pj, yf_pa, yh_pi, yh_pj, yh_pa, yt_pi, yt_pj, yt_pa, la_pi, la_pj, la_pa]; assumption)) only [b_X12_through_0, b_X12_through_11, b_X12_through_22, b_X12_through_14, b_X12_through_19, b_X12_through_25, b_X12_through_32, b_X12_through_29, b_X12_through_36, b_X12_through_48, b_X12_through_45, b_X12_through_62, b_X12_through_89, b_X12_through_70, i_lit, i_m1, i_31, il_t, il_f, iq_t, iq_f, it_t, it_f, im_e, im_l, im_g, im_g2, nI_add, pk_mul, i_sub, i_div, sdm, i_dec, i_cl, iv_t, bI_or2, bI_t0, bI_one, not_true_eq_false, not_false_eq_true, ↓reduceIte, am_tl, am_tn, am_t0, am_n0, and_true, true_and, List.cons_append, List.nil_append, List.append_nil, or_true, true_or, or_false, false_or, eq_self, ior0, iand0, im_e2, oI, e35, e112, Option.getD_some] at e99 kl ⊢
            simp (disch := first | assumption | omega | (simp only [ya_pi, ya_pj, ya_pa, ya_pr, yo_pi, yo_pj, yo_pa, yf_pi, yf_pj, yf_pa, yh_pi, yh_pj, yh_pa, yt_pi, yt_pj, yt_pa, la_pi, la_pj, la_pa]; assumption)) only [b_X12_through_0, b_X12_through_11, b_X12_through_22, b_X12_through_14, b_X12_through_19, b_X12_through_25, b_X12_through_32, b_X12_through_29, b_X12_through_36, b_X12_through_48, b_X12_through_45, b_X12_through_62, b_X12_through_89, b_X12_through_70, i_lit, i_m1, i_31, il_t, il_f, iq_t, iq_f, it_t, it_f, im_e, im_l, im_g, im_g2, nI_add, pk_mul, i_sub, i_div, sdm, i_dec, i_cl, iv_t, bI_or2, bI_t0, bI_one, not_true_eq_false, not_false_eq_true, ↓reduceIte, am_tl, am_tn, am_t0, am_n0, and_true, true_and, List.cons_append, List.nil_append, List.append_nil, or_true, true_or, or_false, false_or, eq_self, ior0, iand0, im_e2, oI, e35, e112, e99]
            exact fin
          · rw [List.getElem?_eq_none (by omega)] at fin
            simp (disch := first | assumption | omega | (simp only [ya_pi, ya_pj, ya_pa, ya_pr, yo_pi, yo_pj, yo_pa, yf_pi, yf_pj, yf_pa, yh_pi, yh_pj, yh_pa, yt_pi, yt_pj, yt_pa, la_pi, la_pj, la_pa]; assumption)) only [b_X12_through_0, b_X12_through_11, b_X12_through_22, b_X12_through_14, b_X12_through_19, b_X12_through_25, b_X12_through_32, b_X12_through_29, b_X12_through_36, b_X12_through_48, b_X12_through_45, b_X12_through_62, b_X12_through_89, b_X12_through_70, i_lit, i_m1, i_31, il_t, il_f, iq_t, iq_f, it_t, it_f, im_e, im_l, im_g, im_g2, nI_add, pk_mul, i_sub, i_div, sdm, i_dec, i_cl, iv_t, bI_or2, bI_t0, bI_one, not_true_eq_false, not_false_eq_true, ↓reduceIte, am_tl, am_tn, am_t0, am_n0, and_true, true_and, List.cons_append, List.nil_append, List.append_nil, or_true, true_or, or_false, false_or, eq_self, ior0, iand0, im_e2, oI, e35]
            exact fin
        · rw [if_neg sa] at k
          simp (disch := first | assumption | omega | (simp only [ya_pi, ya_pj, ya_pa, ya_pr, yo_pi, yo_pj, yo_pa, yf_pi, yf_pj, yf_pa, yh_pi, yh_pj, yh_pa, yt_pi, yt_pj, yt_pa, la_pi, la_pj, la_pa]; assumption)) only [b_X12_through_0, b_X12_through_11, b_X12_through_22, b_X12_through_14, b_X12_through_19, b_X12_through_25, b_X12_through_32, b_X12_through_29, b_X12_through_36, b_X12_through_48, b_X12_through_45, b_X12_through_62, b_X12_through_89, b_X12_through_70, i_lit, i_m1, i_31, il_t, il_f, iq_t, iq_f, it_t, it_f, im_e, im_l, im_g, im_g2, nI_add, pk_mul, i_sub, i_div, sdm, i_dec, i_cl, iv_t, bI_or2, bI_t0, bI_one, not_true_eq_false, not_false_eq_true, ↓reduceIte, am_tl, am_tn, am_t0, am_n0, and_true, true_and, List.cons_append, List.nil_append, List.append_nil, or_true, true_or, or_false, false_or, eq_self, ior0, iand0, im_e2, oI, e100]
          exact k h1 fr1'
    · rw [if_neg (fun z => hm z.2)] at k
      simp (disch := first | assumption | omega | (simp only [ya_pi, ya_pj, ya_pa, ya_pr, yo_pi, yo_pj, yo_pa, yf_pi, yf_pj, yf_pa, yh_pi, yh_pj, yh_pa, yt_pi, yt_pj, yt_pa, la_pi, la_pj, la_pa]; assumption)) only [b_X12_through_0, b_X12_through_11, b_X12_through_22, b_X12_through_14, b_X12_through_19, b_X12_through_25, b_X12_through_32, b_X12_through_29, b_X12_through_36, b_X12_through_48, b_X12_through_45, b_X12_through_62, b_X12_through_89, b_X12_through_70, i_lit, i_m1, i_31, il_t, il_f, iq_t, iq_f, it_t, it_f, im_e, im_l, im_g, im_g2, nI_add, pk_mul, i_sub, i_div, sdm, i_dec, i_cl, iv_t, bI_or2, bI_t0, bI_one, not_true_eq_false, not_false_eq_true, ↓reduceIte, am_tl, am_tn, am_t0, am_n0, and_true, true_and, List.cons_append, List.nil_append, List.append_nil, or_true, true_or, or_false, false_or, eq_self, ior0, iand0, im_e2, oI, nI_l, c_isClass_y ok F0 ha, c_rMethod_n (lh_8 hm)]
      exact k _ fr0
  · rw [if_neg (fun z => hc z.1)] at k
    simp (disch := first | assumption | omega | (simp only [ya_pi, ya_pj, ya_pa, ya_pr, yo_pi, yo_pj, yo_pa, yf_pi, yf_pj, yf_pa, yh_pi, yh_pj, yh_pa, yt_pi, yt_pj, yt_pa, la_pi, la_pj, la_pa]; assumption)) only [b_X12_through_0, b_X12_through_11, b_X12_through_22, b_X12_through_14, b_X12_through_19, b_X12_through_25, b_X12_through_32, b_X12_through_29, b_X12_through_36, b_X12_through_48, b_X12_through_45, b_X12_through_62, b_X12_through_89, b_X12_through_70, i_lit, i_m1, i_31, il_t, il_f, iq_t, iq_f, it_t, it_f, im_e, im_l, im_g, im_g2, nI_add, pk_mul, i_sub, i_div, sdm, i_dec, i_cl, iv_t, bI_or2, bI_t0, bI_one, not_true_eq_false, not_false_eq_true, ↓reduceIte, am_tl, am_tn, am_t0, am_n0, and_true, true_and, List.cons_append, List.nil_append, List.append_nil, or_true, true_or, or_false, false_or, eq_self, ior0, iand0, im_e2, oI, c_isClass_32 ok F0 hc]
    exact k _ fr0
