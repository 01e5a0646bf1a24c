/-! ===== what a call says ===== -/
def anX (says : Option (List Nat)) (m x c md its k : Int32) : Int32 := match says with
  | none => kp (lN 10 * x.toInt64 + m.toInt64 + its.toInt64)
  | some l => evx (wd m x c md its k) l
def anS (f : fa_S) (says : Option (List Nat)) (c m : Nat) (md : Int32) (k : Nat) (its : Int32) : Int32 := anX says (nI m) (nI ((fT f c).2.getD k 0)) (nI c) md its (nI k)
def an (f : fa_S) (says seen : Option (List Nat)) (c m : Nat) (md : Int32) : Int32 := if trl f seen c m md = [] then -(nI 99000001) else (trl f seen c m md).foldr (anS f says c m md) (nI 0)
theorem fold_s {g : Nat → Int32 → Int32} {ks : List Nat} {t : Nat} (h : t < ks.length) : (ks.drop (ks.length - (t + 1))).foldr g (nI 0) = g (ks.getD (ks.length - 1 - t) 0) ((ks.drop (ks.length - t)).foldr g (nI 0)) := by
  rw [dr_s (i := ks.length - (t + 1)) (by omega), List.foldr_cons, show ks.length - (t + 1) = ks.length - 1 - t from by omega, show ks.length - 1 - t + 1 = ks.length - t from by omega]
theorem trl_lt {f : fa_S} {seen : Option (List Nat)} {c m : Nat} {md : Int32} {x : Nat} (h : x ∈ trl f seen c m md) : x < (fT f c).2.length := by
  have := trc_lt h
  omega
theorem c_answer {d : Nat} {Q : Option am_V → am_H → Prop} {h : am_H} {f : fa_S} {says seen : Option (List Nat)} {c m : Nat} {md : Int32} (gd : fa_gd f) (C : cQ h f) (H1 : hsn h 1 says) (H : hsn h 2 seen) (K1 : lk true says) (K : lk false seen) (hc : c < f_n f) (hm : m < 8) {l4 : Option am_V} (k : ∀ h', am_fr h h' vF → Q (some (v_i (an f says seen c m md))) h') : ex_ (d + 4) 157 0 [some (v_r (some 51)), some (v_i (nI c)), some (v_i (nI m)), some (v_i md), l4] [] h Q := by
  have ok := gd.1
  have hn := ok.1
  have L0 := C.1
  have ho := fT_ok ok c hc
  have c11 : c < 11 := by omega
  unfold an at k
  simp (disch := first | assumption | omega | (simp only [ya_pi, ya_pj, ya_pa, ya_pr, yo_pi, yo_pj, yo_pa, yf_pi, yf_pj, yf_pa, yh_pi, yh_pj, yh_pa, yt_pi, yt_pj, yt_pa, la_pi, la_pj, la_pa]; assumption)) only [b_X10_answer_0, b_X10_answer_7, b_X10_answer_17, b_X10_answer_14, b_X10_answer_128, b_X10_answer_43, b_X10_answer_67, b_X10_answer_81, b_X10_answer_108, b_X10_answer_105, b_X10_answer_119, i_lit, i_m1, i_31, il_t, il_f, iq_t, iq_f, it_t, it_f, im_e, im_l, im_g, im_g2, nI_add, pk_mul, i_sub, i_div, sdm, i_dec, i_cl, iv_t, bI_or2, bI_t0, bI_one, not_true_eq_false, not_false_eq_true, ↓reduceIte, am_tl, am_tn, am_t0, am_n0, and_true, true_and, List.cons_append, List.nil_append, List.append_nil, or_true, true_or, or_false, false_or, eq_self, ior0, iand0, im_e2, oI]
  refine c_trace gd C H K hc hm (fun h1 fr1 v1 => ?_)
  have hlt := fun {x} => trl_lt (f := f) (seen := seen) (c := c) (m := m) (md := md) (x := x)
  have hlen : (trl f seen c m md).length ≤ 10 := Nat.le_trans trc_len ho.2.2.2.2
  generalize trl f seen c m md = ks at k v1 hlt hlen
  have L1 : Lay h1 := fr1.lay L0
  obtain ⟨e3, r52, e10, e8, e11⟩ := v1
  cases hks : ks with
  | nil =>
    rw [hks] at e3
    rw [if_pos hks] at k
    simp (disch := first | assumption | omega | (simp only [ya_pi, ya_pj, ya_pa, ya_pr, yo_pi, yo_pj, yo_pa, yf_pi, yf_pj, yf_pa, yh_pi, yh_pj, yh_pa, yt_pi, yt_pj, yt_pa, la_pi, la_pj, la_pa]; assumption)) only [b_X10_answer_0, b_X10_answer_7, b_X10_answer_17, b_X10_answer_14, b_X10_answer_128, b_X10_answer_43, b_X10_answer_67, b_X10_answer_81, b_X10_answer_108, b_X10_answer_105, b_X10_answer_119, i_lit, i_m1, i_31, il_t, il_f, iq_t, iq_f, it_t, it_f, im_e, im_l, im_g, im_g2, nI_add, pk_mul, i_sub, i_div, sdm, i_dec, i_cl, iv_t, bI_or2, bI_t0, bI_one, not_true_eq_false, not_false_eq_true, ↓reduceIte, am_tl, am_tn, am_t0, am_n0, and_true, true_and, List.cons_append, List.nil_append, List.append_nil, or_true, true_or, or_false, false_or, eq_self, ior0, iand0, im_e2, oI, e3, List.length_nil]
    exact k h1 fr1
  | cons x0 xs =>
    have hne : ¬ ks = [] := by rw [hks]; exact List.cons_ne_nil _ _
    have hpos : 0 < ks.length := by rw [hks]; exact Nat.succ_pos _
    rw [if_neg hne] at k
    simp (disch := first | assumption | omega | (simp only [ya_pi, ya_pj, ya_pa, ya_pr, yo_pi, yo_pj, yo_pa, yf_pi, yf_pj, yf_pa, yh_pi, yh_pj, yh_pa, yt_pi, yt_pj, yt_pa, la_pi, la_pj, la_pa]; assumption)) only [b_X10_answer_0, b_X10_answer_7, b_X10_answer_17, b_X10_answer_14, b_X10_answer_128, b_X10_answer_43, b_X10_answer_67, b_X10_answer_81, b_X10_answer_108, b_X10_answer_105, b_X10_answer_119, i_lit, i_m1, i_31, il_t, il_f, iq_t, iq_f, it_t, it_f, im_e, im_l, im_g, im_g2, nI_add, pk_mul, i_sub, i_div, sdm, i_dec, i_cl, iv_t, bI_or2, bI_t0, bI_one, not_true_eq_false, not_false_eq_true, ↓reduceIte, am_tl, am_tn, am_t0, am_n0, and_true, true_and, List.cons_append, List.nil_append, List.append_nil, or_true, true_or, or_false, false_or, eq_self, ior0, iand0, im_e2, oI, hi_s, hi_o, hi_k, hr_pi, hj_pi, hn_pi, hi_pas, hi_pao, hr_pa, hj_pa, e3]
    rw [show nI (ks.length - 1) = lfL ks.length 0 from by rw [← lfL_0, i_sub (by omega)]]
    refine lp_up ks.length (fun t (_ : Unit) => [some (v_r (some 51)), some (v_i (nI c)), some (v_i (nI m)), some (v_i md), some (v_i (lfL ks.length t))]) (fun t _ h' => am_fr h h' vF ∧ ro h' 52 0 ks ∧ h_i h' 51 10 = nI c ∧ h_i h' 51 8 = nI m ∧ h_i h' 51 11 = md ∧ h_i h' 51 12 = (ks.drop (ks.length - t)).foldr (anS f says c m md) (nI 0)) ?_ ?_ (Nat.zero_le _) ⟨fr1.pi (Or.inl rfl), fun j hj => by rw [hi_o (by omega)]; exact r52 j hj, by simp (disch := first | assumption | omega | (simp only [ya_pi, ya_pj, ya_pa, ya_pr, yo_pi, yo_pj, yo_pa, yf_pi, yf_pj, yf_pa, yh_pi, yh_pj, yh_pa, yt_pi, yt_pj, yt_pa, la_pi, la_pj, la_pa]; assumption)) only [hi_s, hi_o, hi_k, hr_pi, hj_pi, hn_pi, hi_pas, hi_pao, hr_pa, hj_pa, e10], by simp (disch := first | assumption | omega | (simp only [ya_pi, ya_pj, ya_pa, ya_pr, yo_pi, yo_pj, yo_pa, yf_pi, yf_pj, yf_pa, yh_pi, yh_pj, yh_pa, yt_pi, yt_pj, yt_pa, la_pi, la_pj, la_pa]; assumption)) only [hi_s, hi_o, hi_k, hr_pi, hj_pi, hn_pi, hi_pas, hi_pao, hr_pa, hj_pa, e8], by simp (disch := first | assumption | omega | (simp only [ya_pi, ya_pj, ya_pa, ya_pr, yo_pi, yo_pj, yo_pa, yf_pi, yf_pj, yf_pa, yh_pi, yh_pj, yh_pa, yt_pi, yt_pj, yt_pa, la_pi, la_pj, la_pa]; assumption)) only [hi_s, hi_o, hi_k, hr_pi, hj_pi, hn_pi, hi_pas, hi_pao, hr_pa, hj_pa, e11], by rw [hi_s, Nat.sub_zero, List.drop_length]; rfl⟩ (s := ())
    · rintro t - h2 ht ⟨fr2, g52, g10, g8, g11, g12⟩ nx
      have C2 : cQ h2 f := C.fr ok (fr2.le (fun a k z => z.S))
      have L2 := C2.1
      have ht2 : ks.length - 1 - t < ks.length := by omega
      have e52 := g52 _ ht2
      rw [Nat.zero_add] at e52
      have kl := hlt (gd_mem ht2)
      have es := fold_s (g := anS f says c m md) ht
      generalize hkk : ks.getD (ks.length - 1 - t) 0 = kk at e52 kl es
      have x10 := ho.2.2.2.1 _ (gd_mem kl)
      have fr3 : am_fr h (p_i h2 51 13 (nI kk)) vF := fr2.pi (Or.inl rfl)
      have C3 : cQ (p_i h2 51 13 (nI kk)) f := C.fr ok (fr3.le (fun a k z => z.S))
      have m3 := C3.2.2.2 c hc
      have hA : anS f says c m md kk ((ks.drop (ks.length - t)).foldr (anS f says c m md) (nI 0)) = anX says (nI m) (nI ((fT f c).2.getD kk 0)) (nI c) md ((ks.drop (ks.length - t)).foldr (anS f says c m md) (nI 0)) (nI kk) := rfl
      have cat := fun {d} {Q} => c_at (d := d) (Q := Q) C3.2.2.1 m3 c11 kl (by omega)
      generalize (ks.drop (ks.length - t)).foldr (anS f says c m md) (nI 0) = its at g12 es hA
      generalize (fT f c).2.getD kk 0 = x at x10 hA cat
      have fr4 : am_fr h (p_i (p_i h2 51 13 (nI kk)) 51 9 (nI x)) vF := fr3.pi (Or.inl rfl)
      have L4 : Lay (p_i (p_i h2 51 13 (nI kk)) 51 9 (nI x)) := L2
      have L3 := C3.1
      have fin : ∀ h5 y, am_fr (p_i (p_i h2 51 13 (nI kk)) 51 9 (nI x)) h5 vP → y = anS f says c m md kk its → ex_ (d + 4) 157 38 [some (v_r (some 51)), some (v_i (nI c)), some (v_i (nI m)), some (v_i md), some (v_i (lfL ks.length (t + 1)))] [] (p_i h5 51 12 y) Q := by
        intro h5 y fr5 ey
        refine nx () _ ⟨(fr4.tr (fr5.le (fun a k z => z.F))).pi (Or.inl rfl), fun j hj => ?_, ?_, ?_, ?_, ?_⟩
        · rw [hi_o (by omega), fr5.i (by unfold vP; omega), hi_o (by omega), hi_o (by omega)]
          exact g52 j hj
        · rw [hi_k (by omega), fr5.i (by unfold vP; omega), hi_k (by omega), hi_k (by omega), g10]
        · rw [hi_k (by omega), fr5.i (by unfold vP; omega), hi_k (by omega), hi_k (by omega), g8]
        · rw [hi_k (by omega), fr5.i (by unfold vP; omega), hi_k (by omega), hi_k (by omega), g11]
        · rw [hi_s, es, ey]
      rw [b_X10_answer_38 _ _ _ _ _ _, lfL_y ht]
      cases hs : says with
      | none =>
        rw [hs] at hA
        have hr : h_r h 10 1 = none := by rw [hs] at H1; exact H1
        have r1 : h_r h2 10 1 = none := by rw [fr2.r]; exact hr
        have r1' : (h_r h2 10 1 = none) = True := eq_true r1
        simp (disch := first | assumption | omega | (simp only [ya_pi, ya_pj, ya_pa, ya_pr, yo_pi, yo_pj, yo_pa, yf_pi, yf_pj, yf_pa, yh_pi, yh_pj, yh_pa, yt_pi, yt_pj, yt_pa, la_pi, la_pj, la_pa]; assumption)) only [b_X10_answer_0, b_X10_answer_7, b_X10_answer_17, b_X10_answer_14, b_X10_answer_128, b_X10_answer_43, b_X10_answer_67, b_X10_answer_81, b_X10_answer_108, b_X10_answer_105, b_X10_answer_119, i_lit, i_m1, i_31, il_t, il_f, iq_t, iq_f, it_t, it_f, im_e, im_l, im_g, im_g2, nI_add, pk_mul, i_sub, i_div, sdm, i_dec, i_cl, iv_t, bI_or2, bI_t0, bI_one, not_true_eq_false, not_false_eq_true, ↓reduceIte, am_tl, am_tn, am_t0, am_n0, and_true, true_and, List.cons_append, List.nil_append, List.append_nil, or_true, true_or, or_false, false_or, eq_self, ior0, iand0, im_e2, oI, hi_s, hi_o, hi_k, hr_pi, hj_pi, hn_pi, hi_pas, hi_pao, hr_pa, hj_pa, e52, cat, r1', l_lit, g8, g12, c_keep, lfL_s ht]
        exact fin _ _ am_fr.rf (by rw [hs]; exact hA.symm)
      | some l =>
        rw [hs] at hA
        have H4 : hsn (p_i (p_i h2 51 13 (nI kk)) 51 9 (nI x)) 1 says := H1.fr fr4 (fun a k ha => by unfold vF; omega)
        rw [hs] at H4
        obtain ⟨q, r2, hq, la⟩ := H4
        have r2'' : h_r h2 10 1 = some q := r2
        have r2' : (h_r h2 10 1 = none) = False := eq_false (fun w => by rw [r2''] at w; cases w)
        have kl2 := K1 l hs
        have ex := evx_eq (w := wd (nI m) (nI x) (nI c) md its (nI kk)) kl2.1
        have vw4 : vw (p_i (p_i h2 51 13 (nI kk)) 51 9 (nI x)) true (wd (nI m) (nI x) (nI c) md its (nI kk)) := ⟨by simp (disch := first | assumption | omega | (simp only [ya_pi, ya_pj, ya_pa, ya_pr, yo_pi, yo_pj, yo_pa, yf_pi, yf_pj, yf_pa, yh_pi, yh_pj, yh_pa, yt_pi, yt_pj, yt_pa, la_pi, la_pj, la_pa]; assumption)) only [hi_s, hi_o, hi_k, hr_pi, hj_pi, hn_pi, hi_pas, hi_pao, hr_pa, hj_pa, g8]; rfl, by simp (disch := first | assumption | omega | (simp only [ya_pi, ya_pj, ya_pa, ya_pr, yo_pi, yo_pj, yo_pa, yf_pi, yf_pj, yf_pa, yh_pi, yh_pj, yh_pa, yt_pi, yt_pj, yt_pa, la_pi, la_pj, la_pa]; assumption)) only [hi_s, hi_o, hi_k, hr_pi, hj_pi, hn_pi, hi_pas, hi_pao, hr_pa, hj_pa]; rfl, by simp (disch := first | assumption | omega | (simp only [ya_pi, ya_pj, ya_pa, ya_pr, yo_pi, yo_pj, yo_pa, yf_pi, yf_pj, yf_pa, yh_pi, yh_pj, yh_pa, yt_pi, yt_pj, yt_pa, la_pi, la_pj, la_pa]; assumption)) only [hi_s, hi_o, hi_k, hr_pi, hj_pi, hn_pi, hi_pas, hi_pao, hr_pa, hj_pa, g10]; rfl, by simp (disch := first | assumption | omega | (simp only [ya_pi, ya_pj, ya_pa, ya_pr, yo_pi, yo_pj, yo_pa, yf_pi, yf_pj, yf_pa, yh_pi, yh_pj, yh_pa, yt_pi, yt_pj, yt_pa, la_pi, la_pj, la_pa]; assumption)) only [hi_s, hi_o, hi_k, hr_pi, hj_pi, hn_pi, hi_pas, hi_pao, hr_pa, hj_pa, g11]; rfl, fun _ => ⟨by simp (disch := first | assumption | omega | (simp only [ya_pi, ya_pj, ya_pa, ya_pr, yo_pi, yo_pj, yo_pa, yf_pi, yf_pj, yf_pa, yh_pi, yh_pj, yh_pa, yt_pi, yt_pj, yt_pa, la_pi, la_pj, la_pa]; assumption)) only [hi_s, hi_o, hi_k, hr_pi, hj_pi, hn_pi, hi_pas, hi_pao, hr_pa, hj_pa, g12]; rfl, by simp (disch := first | assumption | omega | (simp only [ya_pi, ya_pj, ya_pa, ya_pr, yo_pi, yo_pj, yo_pa, yf_pi, yf_pj, yf_pa, yh_pi, yh_pj, yh_pa, yt_pi, yt_pj, yt_pa, la_pi, la_pj, la_pa]; assumption)) only [hi_s, hi_o, hi_k, hr_pi, hj_pi, hn_pi, hi_pas, hi_pao, hr_pa, hj_pa]; rfl⟩⟩
        simp (disch := first | assumption | omega | (simp only [ya_pi, ya_pj, ya_pa, ya_pr, yo_pi, yo_pj, yo_pa, yf_pi, yf_pj, yf_pa, yh_pi, yh_pj, yh_pa, yt_pi, yt_pj, yt_pa, la_pi, la_pj, la_pa]; assumption)) only [b_X10_answer_0, b_X10_answer_7, b_X10_answer_17, b_X10_answer_14, b_X10_answer_128, b_X10_answer_43, b_X10_answer_67, b_X10_answer_81, b_X10_answer_108, b_X10_answer_105, b_X10_answer_119, i_lit, i_m1, i_31, il_t, il_f, iq_t, iq_f, it_t, it_f, im_e, im_l, im_g, im_g2, nI_add, pk_mul, i_sub, i_div, sdm, i_dec, i_cl, iv_t, bI_or2, bI_t0, bI_one, not_true_eq_false, not_false_eq_true, ↓reduceIte, am_tl, am_tn, am_t0, am_n0, and_true, true_and, List.cons_append, List.nil_append, List.append_nil, or_true, true_or, or_false, false_or, eq_self, ior0, iand0, im_e2, oI, hi_s, hi_o, hi_k, hr_pi, hj_pi, hn_pi, hi_pas, hi_pao, hr_pa, hj_pa, e52, cat, r2', r2'']
        refine c_run L4 la (by omega) vw4 kl2.1 ex.1 (fun h5 fr5 => ?_)
        have L5 : Lay h5 := fr5.lay L4
        simp (disch := first | assumption | omega | (simp only [ya_pi, ya_pj, ya_pa, ya_pr, yo_pi, yo_pj, yo_pa, yf_pi, yf_pj, yf_pa, yh_pi, yh_pj, yh_pa, yt_pi, yt_pj, yt_pa, la_pi, la_pj, la_pa]; assumption)) only [b_X10_answer_0, b_X10_answer_7, b_X10_answer_17, b_X10_answer_14, b_X10_answer_128, b_X10_answer_43, b_X10_answer_67, b_X10_answer_81, b_X10_answer_108, b_X10_answer_105, b_X10_answer_119, i_lit, i_m1, i_31, il_t, il_f, iq_t, iq_f, it_t, it_f, im_e, im_l, im_g, im_g2, nI_add, pk_mul, i_sub, i_div, sdm, i_dec, i_cl, iv_t, bI_or2, bI_t0, bI_one, not_true_eq_false, not_false_eq_true, ↓reduceIte, am_tl, am_tn, am_t0, am_n0, and_true, true_and, List.cons_append, List.nil_append, List.append_nil, or_true, true_or, or_false, false_or, eq_self, ior0, iand0, im_e2, oI, lfL_s ht]
        exact fin h5 _ fr5 (by rw [hs]; exact hA.symm)
    · rintro - h2 ⟨fr2, g52, g10, g8, g11, g12⟩
      have L2 : Lay h2 := fr2.lay L0
      rw [Nat.sub_self, List.drop_zero] at g12
      rw [b_X10_answer_38 _ _ _ _ _ _, lfL_e]
      simp (disch := first | assumption | omega | (simp only [ya_pi, ya_pj, ya_pa, ya_pr, yo_pi, yo_pj, yo_pa, yf_pi, yf_pj, yf_pa, yh_pi, yh_pj, yh_pa, yt_pi, yt_pj, yt_pa, la_pi, la_pj, la_pa]; assumption)) only [b_X10_answer_0, b_X10_answer_7, b_X10_answer_17, b_X10_answer_14, b_X10_answer_128, b_X10_answer_43, b_X10_answer_67, b_X10_answer_81, b_X10_answer_108, b_X10_answer_105, b_X10_answer_119, i_lit, i_m1, i_31, il_t, il_f, iq_t, iq_f, it_t, it_f, im_e, im_l, im_g, im_g2, nI_add, pk_mul, i_sub, i_div, sdm, i_dec, i_cl, iv_t, bI_or2, bI_t0, bI_one, not_true_eq_false, not_false_eq_true, ↓reduceIte, am_tl, am_tn, am_t0, am_n0, and_true, true_and, List.cons_append, List.nil_append, List.append_nil, or_true, true_or, or_false, false_or, eq_self, ior0, iand0, im_e2, oI, mI_lt0, g12]
      exact k h2 fr2
theorem c_passed {d : Nat} {Q : Option am_V → am_H → Prop} {h : am_H} {f : fa_S} {ks : List Nat} {c m : Nat} {md : Int32} (ok : fa_ok f) (C : cQ h f) (hc : c < f_n f) (V : vt h ks c m md) (hl : ks.length ≤ 10) (hk : ∀ x ∈ ks, x < (fT f c).2.length) {i : Nat} (hi : i < 2147483648) : ex_ (d + 1) 156 0 [some (v_r (some 51)), some (v_i (nI i))] [] h Q ↔ Q (some (v_i (oI (ks[i]?.map (fun k => (fT f c).2.getD k 0))))) h := by
  have L0 := C.1
  have hn := ok.1
  have ho := fT_ok ok c hc
  obtain ⟨e3, r52, e10, e8, e11⟩ := V
  by_cases z : i < ks.length
  · have e := r52 i z
    rw [Nat.zero_add] at e
    have hk2 := hk _ (gd_mem z)
    have eo : (ks[i]?.map (fun k => (fT f c).2.getD k 0)) = some ((fT f c).2.getD (ks.getD i 0) 0) := by
      rw [List.getElem?_eq_getElem z, List.getD_eq_getElem?_getD (l := ks), List.getElem?_eq_getElem z]
      rfl
    rw [eo]
    simp (disch := first | assumption | omega | (simp only [ya_pi, ya_pj, ya_pa, ya_pr, yo_pi, yo_pj, yo_pa, yf_pi, yf_pj, yf_pa, yh_pi, yh_pj, yh_pa, yt_pi, yt_pj, yt_pa, la_pi, la_pj, la_pa]; assumption)) only [b_X10_passed_0, b_X10_passed_41, b_X10_passed_4, b_X10_passed_12, b_X10_passed_21, b_X10_passed_38, i_lit, i_m1, i_31, il_t, il_f, iq_t, iq_f, it_t, it_f, im_e, im_l, im_g, im_g2, nI_add, pk_mul, i_sub, i_div, sdm, i_dec, i_cl, iv_t, bI_or2, bI_t0, bI_one, not_true_eq_false, not_false_eq_true, ↓reduceIte, am_tl, am_tn, am_t0, am_n0, and_true, true_and, List.cons_append, List.nil_append, List.append_nil, or_true, true_or, or_false, false_or, eq_self, ior0, iand0, im_e2, oI, e3, e10, e, c_at C.2.2.1 (C.2.2.2 c hc) (show c < 11 by omega) hk2 (by omega)]
  · rw [List.getElem?_eq_none (by omega)]
    simp (disch := first | assumption | omega | (simp only [ya_pi, ya_pj, ya_pa, ya_pr, yo_pi, yo_pj, yo_pa, yf_pi, yf_pj, yf_pa, yh_pi, yh_pj, yh_pa, yt_pi, yt_pj, yt_pa, la_pi, la_pj, la_pa]; assumption)) only [b_X10_passed_0, b_X10_passed_41, b_X10_passed_4, b_X10_passed_12, b_X10_passed_21, b_X10_passed_38, i_lit, i_m1, i_31, il_t, il_f, iq_t, iq_f, it_t, it_f, im_e, im_l, im_g, im_g2, nI_add, pk_mul, i_sub, i_div, sdm, i_dec, i_cl, iv_t, bI_or2, bI_t0, bI_one, not_true_eq_false, not_false_eq_true, ↓reduceIte, am_tl, am_tn, am_t0, am_n0, and_true, true_and, List.cons_append, List.nil_append, List.append_nil, or_true, true_or, or_false, false_or, eq_self, ior0, iand0, im_e2, oI, e3, Option.map_none]
/-! ===== the reference ===== -/
def rsn (h : am_H) (law : Nat) (o : Option (List Nat)) : Prop := match o with
  | none => h_i h 94 (2 + law) = nI 0
  | some l => h_i h 94 (2 + law) = nI 1 ∧ rl_at h law l
theorem rsn.fr {h h' : am_H} {P : Nat → Nat → Prop} {law : Nat} {o : Option (List Nat)} (R : rsn h law o) (fr : am_fr h h' P) (hp : ∀ k, ¬ P 94 k) : rsn h' law o := by
  cases o with
  | none =>
    show h_i h' 94 (2 + law) = nI 0
    rw [fr.i (hp _)]
    exact R
  | some l =>
    obtain ⟨e, s, h1, h2, h3, h4⟩ := R
    exact ⟨by rw [fr.i (hp _), e], s, h1, by rw [fr.i (hp _), h2], by rw [fr.i (hp _), h3], fun k hk => by rw [fr.i (hp _)]; exact h4 k hk⟩
def rV (a k : Nat) : Prop := 110 ≤ a ∧ a ≤ 112 ∨ (a = 93 ∧ k = 35)
theorem rV.S {a k : Nat} (z : rV a k) : rS a k := by unfold rV at z; unfold rS; omega
def r11 (a k : Nat) : Prop := 110 ≤ a ∧ a ≤ 111
def rW3 (h : am_H) (m x c : Nat) (md : Int32) : Prop := h_i h 111 0 = nI m ∧ h_i h 111 1 = nI x ∧ h_i h 111 2 = nI c ∧ h_i h 111 3 = md
theorem c_laysWords {d : Nat} {Q : Option am_V → am_H → Prop} {h : am_H} {c m i : Nat} {md : Int32} {v : Nat × List Nat} (L0 : Lay h) (r : rr h c v) (hc : c < 10) (hi : i < v.2.length) (hl : v.2.length ≤ 10) (k : ∀ h', am_fr h h' (fun a _ => a = 111) → rW3 h' m (v.2.getD i 0) c md → h_i h' 111 5 = nI i → Q none h') : ex_ d 333 0 [some (v_r (some 93)), some (v_i (nI c)), some (v_i (nI m)), some (v_i (nI i)), some (v_i md)] [] h Q := by
  have e := r.2.2 i hi
  simp (disch := first | assumption | omega | (simp only [ya_pi, ya_pj, ya_pa, ya_pr, yo_pi, yo_pj, yo_pa, yf_pi, yf_pj, yf_pa, yh_pi, yh_pj, yh_pa, yt_pi, yt_pj, yt_pa, la_pi, la_pj, la_pa]; assumption)) only [b_X12_laysWords_0, i_lit, i_m1, i_31, il_t, il_f, iq_t, iq_f, it_t, it_f, im_e, im_l, im_g, im_g2, nI_add, pk_mul, i_sub, i_div, sdm, i_dec, i_cl, iv_t, bI_or2, bI_t0, bI_one, not_true_eq_false, not_false_eq_true, ↓reduceIte, am_tl, am_tn, am_t0, am_n0, and_true, true_and, List.cons_append, List.nil_append, List.append_nil, or_true, true_or, or_false, false_or, eq_self, ior0, iand0, im_e2, oI, hi_s, hi_o, hi_k, hr_pi, hj_pi, hn_pi, hi_pas, hi_pao, hr_pa, hj_pa, e]
  have fr : am_fr h (p_i (p_i (p_i (p_i (p_i h 111 0 (nI m)) 111 1 (nI (v.2.getD i 0))) 111 2 (nI c)) 111 3 md) 111 5 (nI i)) (fun a _ => a = 111) := ((((am_fr_pi (P := fun a _ => a = 111) rfl).pi rfl).pi rfl).pi rfl).pi rfl
  exact k _ fr ⟨by simp (disch := first | assumption | omega | (simp only [ya_pi, ya_pj, ya_pa, ya_pr, yo_pi, yo_pj, yo_pa, yf_pi, yf_pj, yf_pa, yh_pi, yh_pj, yh_pa, yt_pi, yt_pj, yt_pa, la_pi, la_pj, la_pa]; assumption)) only [hi_s, hi_o, hi_k, hr_pi, hj_pi, hn_pi, hi_pas, hi_pao, hr_pa, hj_pa], by simp (disch := first | assumption | omega | (simp only [ya_pi, ya_pj, ya_pa, ya_pr, yo_pi, yo_pj, yo_pa, yf_pi, yf_pj, yf_pa, yh_pi, yh_pj, yh_pa, yt_pi, yt_pj, yt_pa, la_pi, la_pj, la_pa]; assumption)) only [hi_s, hi_o, hi_k, hr_pi, hj_pi, hn_pi, hi_pas, hi_pao, hr_pa, hj_pa], by simp (disch := first | assumption | omega | (simp only [ya_pi, ya_pj, ya_pa, ya_pr, yo_pi, yo_pj, yo_pa, yf_pi, yf_pj, yf_pa, yh_pi, yh_pj, yh_pa, yt_pi, yt_pj, yt_pa, la_pi, la_pj, la_pa]; assumption)) only [hi_s, hi_o, hi_k, hr_pi, hj_pi, hn_pi, hi_pas, hi_pao, hr_pa, hj_pa], by simp (disch := first | assumption | omega | (simp only [ya_pi, ya_pj, ya_pa, ya_pr, yo_pi, yo_pj, yo_pa, yf_pi, yf_pj, yf_pa, yh_pi, yh_pj, yh_pa, yt_pi, yt_pj, yt_pa, la_pi, la_pj, la_pa]; assumption)) only [hi_s, hi_o, hi_k, hr_pi, hj_pi, hn_pi, hi_pas, hi_pao, hr_pa, hj_pa]⟩ (by simp (disch := first | assumption | omega | (simp only [ya_pi, ya_pj, ya_pa, ya_pr, yo_pi, yo_pj, yo_pa, yf_pi, yf_pj, yf_pa, yh_pi, yh_pj, yh_pa, yt_pi, yt_pj, yt_pa, la_pi, la_pj, la_pa]; assumption)) only [hi_s, hi_o, hi_k, hr_pi, hj_pi, hn_pi, hi_pas, hi_pao, hr_pa, hj_pa])
theorem c_isSeen {d : Nat} {Q : Option am_V → am_H → Prop} {h : am_H} {f : fa_S} {seen : Option (List Nat)} {c m i : Nat} {md : Int32} (ok : fa_ok f) (A : ra h (fT f) (f_n f)) (R : rsn h 1 seen) (K : lk false seen) (hc : c < f_n f) (hi : i < (fT f c).2.length) (k : ∀ h', am_fr h h' r11 → Q (some (v_i (nI (if snb seen (nI m) (nI ((fT f c).2.getD i 0)) (nI c) md = true then 1 else 0)))) h') : ex_ (d + 3) 334 0 [some (v_r (some 93)), some (v_i (nI c)), some (v_i (nI m)), some (v_i (nI i)), some (v_i md)] [] h Q := by
  have L0 := A.1
  have hn := ok.1
  have ho := fT_ok ok c hc
  simp (disch := first | assumption | omega | (simp only [ya_pi, ya_pj, ya_pa, ya_pr, yo_pi, yo_pj, yo_pa, yf_pi, yf_pj, yf_pa, yh_pi, yh_pj, yh_pa, yt_pi, yt_pj, yt_pa, la_pi, la_pj, la_pa]; assumption)) only [b_X12_isSeen_0, b_X12_isSeen_9, b_X12_isSeen_27, b_X12_isSeen_18, b_X12_isSeen_23, b_X12_isSeen_31, i_lit, i_m1, i_31, il_t, il_f, iq_t, iq_f, it_t, it_f, im_e, im_l, im_g, im_g2, nI_add, pk_mul, i_sub, i_div, sdm, i_dec, i_cl, iv_t, bI_or2, bI_t0, bI_one, not_true_eq_false, not_false_eq_true, ↓reduceIte, am_tl, am_tn, am_t0, am_n0, and_true, true_and, List.cons_append, List.nil_append, List.append_nil, or_true, true_or, or_false, false_or, eq_self, ior0, iand0, im_e2, oI]
  refine c_laysWords L0 (A.2 c hc) (by omega) hi ho.2.2.2.2 (fun h1 fr1 w1 w5 => ?_)
  have L1 : Lay h1 := fr1.lay L0
  have R1 : rsn h1 1 seen := R.fr fr1 (fun k => by omega)
  have fr1' : am_fr h h1 r11 := fr1.le (fun a k z => by unfold r11; omega)
  cases hs : seen with
  | none =>
    rw [hs] at R1 k
    have e : h_i h1 94 3 = nI 0 := R1
    simp (disch := first | assumption | omega | (simp only [ya_pi, ya_pj, ya_pa, ya_pr, yo_pi, yo_pj, yo_pa, yf_pi, yf_pj, yf_pa, yh_pi, yh_pj, yh_pa, yt_pi, yt_pj, yt_pa, la_pi, la_pj, la_pa]; assumption)) only [b_X12_isSeen_0, b_X12_isSeen_9, b_X12_isSeen_27, b_X12_isSeen_18, b_X12_isSeen_23, b_X12_isSeen_31, i_lit, i_m1, i_31, il_t, il_f, iq_t, iq_f, it_t, it_f, im_e, im_l, im_g, im_g2, nI_add, pk_mul, i_sub, i_div, sdm, i_dec, i_cl, iv_t, bI_or2, bI_t0, bI_one, not_true_eq_false, not_false_eq_true, ↓reduceIte, am_tl, am_tn, am_t0, am_n0, and_true, true_and, List.cons_append, List.nil_append, List.append_nil, or_true, true_or, or_false, false_or, eq_self, ior0, iand0, im_e2, oI, e]
    exact k h1 fr1'
  | some l =>
    rw [hs] at R1 k
    obtain ⟨e, la⟩ := R1
    have e' : h_i h1 94 3 = nI 1 := e
    have kl := K l hs
    have ex := evx_eq (w := wd (nI m) (nI ((fT f c).2.getD i 0)) (nI c) md (nI 0) (nI 0)) kl.1
    simp (disch := first | assumption | omega | (simp only [ya_pi, ya_pj, ya_pa, ya_pr, yo_pi, yo_pj, yo_pa, yf_pi, yf_pj, yf_pa, yh_pi, yh_pj, yh_pa, yt_pi, yt_pj, yt_pa, la_pi, la_pj, la_pa]; assumption)) only [b_X12_isSeen_0, b_X12_isSeen_9, b_X12_isSeen_27, b_X12_isSeen_18, b_X12_isSeen_23, b_X12_isSeen_31, i_lit, i_m1, i_31, il_t, il_f, iq_t, iq_f, it_t, it_f, im_e, im_l, im_g, im_g2, nI_add, pk_mul, i_sub, i_div, sdm, i_dec, i_cl, iv_t, bI_or2, bI_t0, bI_one, not_true_eq_false, not_false_eq_true, ↓reduceIte, am_tl, am_tn, am_t0, am_n0, and_true, true_and, List.cons_append, List.nil_append, List.append_nil, or_true, true_or, or_false, false_or, eq_self, ior0, iand0, im_e2, oI, e']
    refine c_reckons L1 (by omega) la (fun j hj hj2 => ?_) kl.1 ex.1 (fun h2 fr2 => ?_)
    · obtain ⟨w0, w11, w2, w3⟩ := w1
      rcases hj2 with q | q
      · rcases (show j = 0 ∨ j = 1 ∨ j = 2 ∨ j = 3 by omega) with rfl | rfl | rfl | rfl
        · exact w0
        · exact w11
        · exact w2
        · exact w3
      · cases q
    · have fr2' : am_fr h h2 r11 := fr1'.tr (fr2.le (fun a k z => by unfold rK at z; unfold r11; omega))
      rcases ex.2 rfl with w | w
      · have hb : snb (some l) (nI m) (nI ((fT f c).2.getD i 0)) (nI c) md = false := by
          rw [snb, w]
          rfl
        rw [hb] at k
        simp (disch := first | assumption | omega | (simp only [ya_pi, ya_pj, ya_pa, ya_pr, yo_pi, yo_pj, yo_pa, yf_pi, yf_pj, yf_pa, yh_pi, yh_pj, yh_pa, yt_pi, yt_pj, yt_pa, la_pi, la_pj, la_pa]; assumption)) only [b_X12_isSeen_0, b_X12_isSeen_9, b_X12_isSeen_27, b_X12_isSeen_18, b_X12_isSeen_23, b_X12_isSeen_31, i_lit, i_m1, i_31, il_t, il_f, iq_t, iq_f, it_t, it_f, im_e, im_l, im_g, im_g2, nI_add, pk_mul, i_sub, i_div, sdm, i_dec, i_cl, iv_t, bI_or2, bI_t0, bI_one, not_true_eq_false, not_false_eq_true, ↓reduceIte, am_tl, am_tn, am_t0, am_n0, and_true, true_and, List.cons_append, List.nil_append, List.append_nil, or_true, true_or, or_false, false_or, eq_self, ior0, iand0, im_e2, oI, w]
        exact k h2 fr2'
      · have hb : snb (some l) (nI m) (nI ((fT f c).2.getD i 0)) (nI c) md = true := by
          rw [snb, w]
          rfl
        rw [hb] at k
        simp (disch := first | assumption | omega | (simp only [ya_pi, ya_pj, ya_pa, ya_pr, yo_pi, yo_pj, yo_pa, yf_pi, yf_pj, yf_pa, yh_pi, yh_pj, yh_pa, yt_pi, yt_pj, yt_pa, la_pi, la_pj, la_pa]; assumption)) only [b_X12_isSeen_0, b_X12_isSeen_9, b_X12_isSeen_27, b_X12_isSeen_18, b_X12_isSeen_23, b_X12_isSeen_31, i_lit, i_m1, i_31, il_t, il_f, iq_t, iq_f, it_t, it_f, im_e, im_l, im_g, im_g2, nI_add, pk_mul, i_sub, i_div, sdm, i_dec, i_cl, iv_t, bI_or2, bI_t0, bI_one, not_true_eq_false, not_false_eq_true, ↓reduceIte, am_tl, am_tn, am_t0, am_n0, and_true, true_and, List.cons_append, List.nil_append, List.append_nil, or_true, true_or, or_false, false_or, eq_self, ior0, iand0, im_e2, oI, w]
        exact k h2 fr2'
theorem c_laysCall {d : Nat} {Q : Option am_V → am_H → Prop} {h : am_H} {f : fa_S} {seen : Option (List Nat)} {c m : Nat} {md : Int32} (gd : fa_gd f) (F : rfa h f) (A : ra h (fT f) (f_n f)) (R : rsn h 1 seen) (K : lk false seen) (hc : c < f_n f) (hm : m < 8) {l4 l5 : Option am_V} (k : ∀ h', am_fr h h' rV → h_i h' 93 35 = nI (trl f seen c m md).length → ro h' 112 0 (trl f seen c m md) → Q none h') : ex_ (d + 4) 335 0 [some (v_r (some 93)), some (v_i (nI c)), some (v_i (nI m)), some (v_i md), l4, l5] [] h Q := by
  have ok := gd.1
  have hn := ok.1
  have L0 := A.1
  have ho := fT_ok ok c hc
  rw [b_X12_laysCall_0 _ _ _ _ _ _ L0]
  refine lp_up (fT f c).2.length (fun i (s : List Nat × Option am_V) => [some (v_r (some 93)), some (v_i (nI c)), some (v_i (nI m)), some (v_i md), some (v_i (nI i)), s.2]) (fun i s h' => am_fr h h' rV ∧ h_i h' 93 35 = nI s.1.length ∧ ro h' 112 0 s.1 ∧ s.1.length ≤ i ∧ trl f seen c m md = s.1 ++ trc (vPk f seen c m md) (vEk f c m) ((fT f c).2.length - i) i) ?_ ?_ (Nat.zero_le _) ⟨am_fr_pi (Or.inr ⟨rfl, rfl⟩), hi_s, ro_nil, Nat.le_refl _, rfl⟩ (s := ([], l5))
  · rintro i ⟨ks, l5⟩ h1 hi ⟨fr1, e35, r112, hk, eq⟩ nx
    dsimp only at e35 r112 hk eq ⊢
    have F1 : rfa h1 f := fr1.rfa ok F (fun k _ => by unfold rV; omega)
    have L1 := F1.1
    have A1 : ra h1 (fT f) (f_n f) := A.fr (fT_ok ok) fr1 (fun a k _ _ => by unfold rV; omega)
    have R1 : rsn h1 1 seen := R.fr fr1 (fun k => by unfold rV; omega)
    have x10 := ho.2.2.2.1 _ (gd_mem hi)
    rw [show (fT f c).2.length - i = ((fT f c).2.length - (i + 1)) + 1 from by omega, trc] at eq
    obtain ⟨v, hv, ev⟩ := gd.2.1 ((fT f c).2.getD i 0) m
    obtain ⟨e100, e98, r99⟩ := A1.2 c hc
    have e99 := r99 i hi
    have ed := r_def F1 x10 hm
    rw [ev] at ed
    have hV : vPk f seen c m md i = (!(f_d f ((fT f c).2.getD i 0) m == nI 0) && snb seen (nI m) (nI ((fT f c).2.getD i 0)) (nI c) md) := rfl
    have hE : vEk f c m i = (f_d f ((fT f c).2.getD i 0) m == nI 1) := rfl
    rw [ev] at hV hE
    have len10 := ho.2.2.2.2
    rw [b_X12_laysCall_8 _ _ _ _ _ _ L1]
    by_cases z : v = 0
    · have hP : vPk f seen c m md i = false := by rw [hV, z]; rfl
      rw [hP] at eq
      simp (disch := first | assumption | omega | (simp only [ya_pi, ya_pj, ya_pa, ya_pr, yo_pi, yo_pj, yo_pa, yf_pi, yf_pj, yf_pa, yh_pi, yh_pj, yh_pa, yt_pi, yt_pj, yt_pa, la_pi, la_pj, la_pa]; assumption)) only [b_X12_laysCall_0, b_X12_laysCall_100, b_X12_laysCall_19, b_X12_laysCall_94, b_X12_laysCall_51, b_X12_laysCall_60, b_X12_laysCall_66, b_X12_laysCall_63, b_X12_laysCall_93, i_lit, i_m1, i_31, il_t, il_f, iq_t, iq_f, it_t, it_f, im_e, im_l, im_g, im_g2, nI_add, pk_mul, i_sub, i_div, sdm, i_dec, i_cl, iv_t, bI_or2, bI_t0, bI_one, not_true_eq_false, not_false_eq_true, ↓reduceIte, am_tl, am_tn, am_t0, am_n0, and_true, true_and, List.cons_append, List.nil_append, List.append_nil, or_true, true_or, or_false, false_or, eq_self, ior0, iand0, im_e2, oI, e98, e99, ed]
      exact nx (ks, _) h1 ⟨fr1, e35, r112, by dsimp only; omega, eq⟩
    · have nz : (nI v == nI 0) = false := beq_eq_false_iff_ne.2 (fun w => z ((nI_eq (by omega) (by omega)).1 w))
      rw [nz, Bool.not_false, Bool.true_and] at hV
      simp (disch := first | assumption | omega | (simp only [ya_pi, ya_pj, ya_pa, ya_pr, yo_pi, yo_pj, yo_pa, yf_pi, yf_pj, yf_pa, yh_pi, yh_pj, yh_pa, yt_pi, yt_pj, yt_pa, la_pi, la_pj, la_pa]; assumption)) only [b_X12_laysCall_0, b_X12_laysCall_100, b_X12_laysCall_19, b_X12_laysCall_94, b_X12_laysCall_51, b_X12_laysCall_60, b_X12_laysCall_66, b_X12_laysCall_63, b_X12_laysCall_93, i_lit, i_m1, i_31, il_t, il_f, iq_t, iq_f, it_t, it_f, im_e, im_l, im_g, im_g2, nI_add, pk_mul, i_sub, i_div, sdm, i_dec, i_cl, iv_t, bI_or2, bI_t0, bI_one, not_true_eq_false, not_false_eq_true, ↓reduceIte, am_tl, am_tn, am_t0, am_n0, and_true, true_and, List.cons_append, List.nil_append, List.append_nil, or_true, true_or, or_false, false_or, eq_self, ior0, iand0, im_e2, oI, e98, e99, ed]
      refine c_isSeen ok A1 R1 K hc hi (fun h2 fr2 => ?_)
      have L2 : Lay h2 := fr2.lay L1
      have e352 : h_i h2 93 35 = nI ks.length := by rw [fr2.i (by unfold r11; omega), e35]
      have r2 : ro h2 112 0 ks := fr2.ro r112 (fun j _ => by unfold r11; omega)
      have fr2' : am_fr h h2 rV := fr1.tr (fr2.le (fun a k z => by unfold r11 at z; unfold rV; omega))
      rw [← hV]
      cases hP : vPk f seen c m md i with
      | false =>
        rw [hP] at eq
        simp (disch := first | assumption | omega | (simp only [ya_pi, ya_pj, ya_pa, ya_pr, yo_pi, yo_pj, yo_pa, yf_pi, yf_pj, yf_pa, yh_pi, yh_pj, yh_pa, yt_pi, yt_pj, yt_pa, la_pi, la_pj, la_pa]; assumption)) only [b_X12_laysCall_0, b_X12_laysCall_100, b_X12_laysCall_19, b_X12_laysCall_94, b_X12_laysCall_51, b_X12_laysCall_60, b_X12_laysCall_66, b_X12_laysCall_63, b_X12_laysCall_93, i_lit, i_m1, i_31, il_t, il_f, iq_t, iq_f, it_t, it_f, im_e, im_l, im_g, im_g2, nI_add, pk_mul, i_sub, i_div, sdm, i_dec, i_cl, iv_t, bI_or2, bI_t0, bI_one, not_true_eq_false, not_false_eq_true, ↓reduceIte, am_tl, am_tn, am_t0, am_n0, and_true, true_and, List.cons_append, List.nil_append, List.append_nil, or_true, true_or, or_false, false_or, eq_self, ior0, iand0, im_e2, oI, Bool.false_eq_true]
        exact nx (ks, _) h2 ⟨fr2', e352, r2, by dsimp only; omega, eq⟩
      | true =>
        rw [if_pos hP] at eq
        have frn : am_fr h (p_i (p_i h2 112 ks.length (nI i)) 93 35 (nI (ks.length + 1))) rV := (fr2'.pi (by unfold rV; omega)).pi (by unfold rV; omega)
        have en : h_i (p_i (p_i h2 112 ks.length (nI i)) 93 35 (nI (ks.length + 1))) 93 35 = nI (ks ++ [i]).length := by rw [hi_s, List.length_append]; rfl
        have rn : ro (p_i (p_i h2 112 ks.length (nI i)) 93 35 (nI (ks.length + 1))) 112 0 (ks ++ [i]) := fun j hj => by
          have := ro_app (q := i) r2
          rw [Nat.zero_add] at this
          rw [hi_o (by omega)]
          exact this j hj
        by_cases y : v = 1
        · have hE1 : vEk f c m i = true := by rw [hE, y]; rfl
          rw [if_pos hE1] at eq
          rw [eq] at k
          simp (disch := first | assumption | omega | (simp only [ya_pi, ya_pj, ya_pa, ya_pr, yo_pi, yo_pj, yo_pa, yf_pi, yf_pj, yf_pa, yh_pi, yh_pj, yh_pa, yt_pi, yt_pj, yt_pa, la_pi, la_pj, la_pa]; assumption)) only [b_X12_laysCall_0, b_X12_laysCall_100, b_X12_laysCall_19, b_X12_laysCall_94, b_X12_laysCall_51, b_X12_laysCall_60, b_X12_laysCall_66, b_X12_laysCall_63, b_X12_laysCall_93, i_lit, i_m1, i_31, il_t, il_f, iq_t, iq_f, it_t, it_f, im_e, im_l, im_g, im_g2, nI_add, pk_mul, i_sub, i_div, sdm, i_dec, i_cl, iv_t, bI_or2, bI_t0, bI_one, not_true_eq_false, not_false_eq_true, ↓reduceIte, am_tl, am_tn, am_t0, am_n0, and_true, true_and, List.cons_append, List.nil_append, List.append_nil, or_true, true_or, or_false, false_or, eq_self, ior0, iand0, im_e2, oI, hi_s, hi_o, hi_k, hr_pi, hj_pi, hn_pi, hi_pas, hi_pao, hr_pa, hj_pa, e352]
          exact k _ frn en rn
        · have hE1 : vEk f c m i = false := by
            rw [hE]
            exact beq_eq_false_iff_ne.2 (fun w => y ((nI_eq (by omega) (by omega)).1 w))
          rw [hE1] at eq
          simp (disch := first | assumption | omega | (simp only [ya_pi, ya_pj, ya_pa, ya_pr, yo_pi, yo_pj, yo_pa, yf_pi, yf_pj, yf_pa, yh_pi, yh_pj, yh_pa, yt_pi, yt_pj, yt_pa, la_pi, la_pj, la_pa]; assumption)) only [b_X12_laysCall_0, b_X12_laysCall_100, b_X12_laysCall_19, b_X12_laysCall_94, b_X12_laysCall_51, b_X12_laysCall_60, b_X12_laysCall_66, b_X12_laysCall_63, b_X12_laysCall_93, i_lit, i_m1, i_31, il_t, il_f, iq_t, iq_f, it_t, it_f, im_e, im_l, im_g, im_g2, nI_add, pk_mul, i_sub, i_div, sdm, i_dec, i_cl, iv_t, bI_or2, bI_t0, bI_one, not_true_eq_false, not_false_eq_true, ↓reduceIte, am_tl, am_tn, am_t0, am_n0, and_true, true_and, List.cons_append, List.nil_append, List.append_nil, or_true, true_or, or_false, false_or, eq_self, ior0, iand0, im_e2, oI, hi_s, hi_o, hi_k, hr_pi, hj_pi, hn_pi, hi_pas, hi_pao, hr_pa, hj_pa, e352]
          refine nx (ks ++ [i], _) _ ⟨frn, en, rn, by rw [List.length_append, List.length_singleton]; omega, ?_⟩
          dsimp only
          rw [eq, List.append_assoc]
          rfl
  · rintro ⟨ks, l5⟩ h1 ⟨fr1, e35, r112, hk, eq⟩
    dsimp only at e35 r112 hk eq ⊢
    have L1 : Lay h1 := fr1.lay L0
    have A1 : ra h1 (fT f) (f_n f) := A.fr (fT_ok ok) fr1 (fun a k _ _ => by unfold rV; omega)
    obtain ⟨e100, e98, r99⟩ := A1.2 c hc
    rw [Nat.sub_self, trc, List.append_nil] at eq
    rw [eq] at k
    rw [b_X12_laysCall_8 _ _ _ _ _ _ L1]
    simp (disch := first | assumption | omega | (simp only [ya_pi, ya_pj, ya_pa, ya_pr, yo_pi, yo_pj, yo_pa, yf_pi, yf_pj, yf_pa, yh_pi, yh_pj, yh_pa, yt_pi, yt_pj, yt_pa, la_pi, la_pj, la_pa]; assumption)) only [b_X12_laysCall_0, b_X12_laysCall_100, b_X12_laysCall_19, b_X12_laysCall_94, b_X12_laysCall_51, b_X12_laysCall_60, b_X12_laysCall_66, b_X12_laysCall_63, b_X12_laysCall_93, i_lit, i_m1, i_31, il_t, il_f, iq_t, iq_f, it_t, it_f, im_e, im_l, im_g, im_g2, nI_add, pk_mul, i_sub, i_div, sdm, i_dec, i_cl, iv_t, bI_or2, bI_t0, bI_one, not_true_eq_false, not_false_eq_true, ↓reduceIte, am_tl, am_tn, am_t0, am_n0, and_true, true_and, List.cons_append, List.nil_append, List.append_nil, or_true, true_or, or_false, false_or, eq_self, ior0, iand0, im_e2, oI, e98]
    exact k h1 fr1 e35 r112
