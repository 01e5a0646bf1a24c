theorem gC.pre {h h1 h2 : am_H} {P : Nat → Nat → Prop} (fr : am_fr h h1 P) (hp : ∀ q k, P q k → pC q k) (g : gC h1 h2) : gC h h2 := ⟨((fr.le hp).g).tr g.1, by have := g.2.1; rw [fr.n] at this; exact this, by have := g.2.2; have e : h_s h1 = h_s h := congrArg Prod.snd fr.1; rw [e] at this; exact this⟩
theorem fn_add {f : fa_S} {c p : Int32} : f_n (d_add f c p).2 = f_n f := by
  unfold d_add
  split
  · split <;> rfl
  · rfl
theorem fn_rem {f : fa_S} {c p : Int32} : f_n (d_rem f c p).2 = f_n f := by
  unfold d_rem
  split
  · split <;> rfl
  · rfl
theorem fn_swap {f : fa_S} {c p : Int32} : f_n (d_swap f c p).2 = f_n f := by
  unfold d_swap
  split
  · split <;> rfl
  · rfl
theorem fn_def {f : fa_S} {c m w : Int32} : f_n (d_def f c m w).2 = f_n f := by
  unfold d_def
  split
  · split <;> rfl
  · rfl
theorem fn_mood {f : fa_S} {x : Int32} : f_n (d_mood f x).2 = f_n f := by
  unfold d_mood
  split <;> rfl
theorem fn_do {f : fa_S} {v : Int64} : f_n (d_do f v).2 = f_n f := by
  unfold d_do
  split
  · rfl
  · unfold d_doN
    repeat' split
    all_goals first | rfl | exact fn_mood | exact fn_add | exact fn_rem | exact fn_swap | exact fn_def
theorem fn_run {vs : List Int64} : ∀ {f : fa_S}, f_n (d_run f vs).2.2 = f_n f := by
  induction vs with
  | nil => intro f; rfl
  | cons v vs ih =>
    intro f
    rw [d_run]
    split
    · exact ih.trans fn_do
    · rfl
theorem fa27 {a k : Nat} (z : fa_P 27 a k) : cS a k := by unfold fa_P at z; unfold cS; omega
theorem fa27C {a k : Nat} (z : fa_P 27 a k) : pC a k := (fa27 z).C
/-- a deed that tells the state of its class -/
def kS (S : St) (r : Int32 × fa_S) (c : Int32) : Int32 × St := if r.1 = nI 0 then (nI (fT r.2 c.toNatClampNeg).1, deed S r.2) else (-(nI 10) - r.1, S)
theorem c_keptState {d : Nat} {Q : Option am_V → am_H → Prop} {h : am_H} {S : St} {r : Int32 × fa_S} {c : Int32} (ok : St_ok S) (C : cI h S) (gd : fa_gd r.2) (F : fa_at h 27 r.2) (hc : r.1 = nI 0 → ∃ k, c = nI k ∧ k < f_n r.2) (k : ∀ h', gC h h' → cI h' (kS S r c).2 → Q (some (v_i (kS S r c).1)) h') : ex_ (d + 6) 175 0 [some (v_r (some 0)), some (v_i r.1), some (v_i c)] [] h Q := by
  have L := C.1
  unfold kS at k
  by_cases z : r.1 = nI 0
  · obtain ⟨a, rfl, ha⟩ := hc z
    have n10 := gd.1.1
    rw [if_pos z, nI_clamp (by omega)] at k
    simp (disch := first | assumption | omega | (simp only [ya_pi, ya_pj, ya_pa, ya_pr, yo_pi, yo_pj, yo_pa, yf_pi, yf_pj, yf_pa, yh_pi, yh_pj, yh_pa, yt_pi, yt_pj, yt_pa, la_pi, la_pj, la_pa]; assumption)) only [b_X11_keptState_0, b_X11_keptState_9, b_X11_keptState_4, b_X11_keptState_13, b_X11_keptState_21, i_lit, i_m1, i_31, il_t, il_f, iq_t, iq_f, it_t, it_f, im_e, im_l, im_g, im_g2, nI_add, pk_mul, i_sub, i_div, sdm, i_dec, i_cl, iv_t, bI_or2, bI_t0, bI_one, not_true_eq_false, not_false_eq_true, ↓reduceIte, am_tl, am_tn, am_t0, am_n0, and_true, true_and, List.cons_append, List.nil_append, List.append_nil, z]
    refine c_keepTrial ok C gd F (fun h1 g1 C1 => ?_)
    have L1 := C1.1
    simp (disch := first | assumption | omega | (simp only [ya_pi, ya_pj, ya_pa, ya_pr, yo_pi, yo_pj, yo_pa, yf_pi, yf_pj, yf_pa, yh_pi, yh_pj, yh_pa, yt_pi, yt_pj, yt_pa, la_pi, la_pj, la_pa]; assumption)) only [b_X11_keptState_0, b_X11_keptState_9, b_X11_keptState_4, b_X11_keptState_13, b_X11_keptState_21, i_lit, i_m1, i_31, il_t, il_f, iq_t, iq_f, it_t, it_f, im_e, im_l, im_g, im_g2, nI_add, pk_mul, i_sub, i_div, sdm, i_dec, i_cl, iv_t, bI_or2, bI_t0, bI_one, not_true_eq_false, not_false_eq_true, ↓reduceIte, am_tl, am_tn, am_t0, am_n0, and_true, true_and, List.cons_append, List.nil_append, List.append_nil, c_stateOf C1.2.1.1 (C1.2.1.2 a ha) (show a < 11 by omega)]
    exact k h1 g1 C1
  · rw [if_neg z] at k
    simp (disch := first | assumption | omega | (simp only [ya_pi, ya_pj, ya_pa, ya_pr, yo_pi, yo_pj, yo_pa, yf_pi, yf_pj, yf_pa, yh_pi, yh_pj, yh_pa, yt_pi, yt_pj, yt_pa, la_pi, la_pj, la_pa]; assumption)) only [b_X11_keptState_0, b_X11_keptState_9, b_X11_keptState_4, b_X11_keptState_13, b_X11_keptState_21, i_lit, i_m1, i_31, il_t, il_f, iq_t, iq_f, it_t, it_f, im_e, im_l, im_g, im_g2, nI_add, pk_mul, i_sub, i_div, sdm, i_dec, i_cl, iv_t, bI_or2, bI_t0, bI_one, not_true_eq_false, not_false_eq_true, ↓reduceIte, am_tl, am_tn, am_t0, am_n0, and_true, true_and, List.cons_append, List.nil_append, List.append_nil, z]
    exact k h (gC.fr am_fr.rf (P := N0) (fun _ _ z => z.elim)) C
theorem c_give {d : Nat} {Q : Option am_V → am_H → Prop} {h : am_H} {S : St} {c p : Int32} (ok : St_ok S) (C : cI h S) (k : ∀ h', gC h h' → cI h' (kS S (d_add (s_f S) c p) c).2 → Q (some (v_i (kS S (d_add (s_f S) c p) c).1)) h') : ex_ (d + 7) 176 0 [some (v_r (some 0)), some (v_i c), some (v_i p)] [] h Q := by
  have L := C.1
  have gd : fa_gd (s_f S) := ok.1.1.1
  simp (disch := first | assumption | omega | (simp only [ya_pi, ya_pj, ya_pa, ya_pr, yo_pi, yo_pj, yo_pa, yf_pi, yf_pj, yf_pa, yh_pi, yh_pj, yh_pa, yt_pi, yt_pj, yt_pa, la_pi, la_pj, la_pa]; assumption)) only [b_X11_give_0, b_X11_give_14, b_X11_give_24, b_X11_give_28, i_lit, i_m1, i_31, il_t, il_f, iq_t, iq_f, it_t, it_f, im_e, im_l, im_g, im_g2, nI_add, pk_mul, i_sub, i_div, sdm, i_dec, i_cl, iv_t, bI_or2, bI_t0, bI_one, not_true_eq_false, not_false_eq_true, ↓reduceIte, am_tl, am_tn, am_t0, am_n0, and_true, true_and, List.cons_append, List.nil_append, List.append_nil]
  refine c_copyFrom gd.1 (y_F L (by omega)) C.cQ.2.1 (by omega) (fun h1 fr1 F1 => ?_)
  have L1 := fr1.lay L
  simp (disch := first | assumption | omega | (simp only [ya_pi, ya_pj, ya_pa, ya_pr, yo_pi, yo_pj, yo_pa, yf_pi, yf_pj, yf_pa, yh_pi, yh_pj, yh_pa, yt_pi, yt_pj, yt_pa, la_pi, la_pj, la_pa]; assumption)) only [b_X11_give_0, b_X11_give_14, b_X11_give_24, b_X11_give_28, i_lit, i_m1, i_31, il_t, il_f, iq_t, iq_f, it_t, it_f, im_e, im_l, im_g, im_g2, nI_add, pk_mul, i_sub, i_div, sdm, i_dec, i_cl, iv_t, bI_or2, bI_t0, bI_one, not_true_eq_false, not_false_eq_true, ↓reduceIte, am_tl, am_tn, am_t0, am_n0, and_true, true_and, List.cons_append, List.nil_append, List.append_nil]
  refine c_addParent gd.1 F1 (fun h2 fr2 F2 => ?_)
  have fr := fr1.tr fr2
  have C2 := C.q ok (fr.le (fun a k z => fa27 z))
  have L2 := C2.1
  simp (disch := first | assumption | omega | (simp only [ya_pi, ya_pj, ya_pa, ya_pr, yo_pi, yo_pj, yo_pa, yf_pi, yf_pj, yf_pa, yh_pi, yh_pj, yh_pa, yt_pi, yt_pj, yt_pa, la_pi, la_pj, la_pa]; assumption)) only [b_X11_give_0, b_X11_give_14, b_X11_give_24, b_X11_give_28, i_lit, i_m1, i_31, il_t, il_f, iq_t, iq_f, it_t, it_f, im_e, im_l, im_g, im_g2, nI_add, pk_mul, i_sub, i_div, sdm, i_dec, i_cl, iv_t, bI_or2, bI_t0, bI_one, not_true_eq_false, not_false_eq_true, ↓reduceIte, am_tl, am_tn, am_t0, am_n0, and_true, true_and, List.cons_append, List.nil_append, List.append_nil]
  refine c_keptState ok C2 (gd_add gd) F2 (fun z => ?_) (fun h3 g3 C3 => ?_)
  · obtain ⟨a, q, rfl, -, ha, -⟩ := d_add_0 gd.1.1 z
    exact ⟨a, rfl, by rw [fn_add]; exact ha⟩
  · simp (disch := first | assumption | omega | (simp only [ya_pi, ya_pj, ya_pa, ya_pr, yo_pi, yo_pj, yo_pa, yf_pi, yf_pj, yf_pa, yh_pi, yh_pj, yh_pa, yt_pi, yt_pj, yt_pa, la_pi, la_pj, la_pa]; assumption)) only [b_X11_give_0, b_X11_give_14, b_X11_give_24, b_X11_give_28, i_lit, i_m1, i_31, il_t, il_f, iq_t, iq_f, it_t, it_f, im_e, im_l, im_g, im_g2, nI_add, pk_mul, i_sub, i_div, sdm, i_dec, i_cl, iv_t, bI_or2, bI_t0, bI_one, not_true_eq_false, not_false_eq_true, ↓reduceIte, am_tl, am_tn, am_t0, am_n0, and_true, true_and, List.cons_append, List.nil_append, List.append_nil]
    exact k h3 (gC.pre fr (fun a k z => fa27C z) g3) C3
theorem c_take {d : Nat} {Q : Option am_V → am_H → Prop} {h : am_H} {S : St} {c p : Int32} (ok : St_ok S) (C : cI h S) (k : ∀ h', gC h h' → cI h' (kS S (d_rem (s_f S) c p) c).2 → Q (some (v_i (kS S (d_rem (s_f S) c p) c).1)) h') : ex_ (d + 7) 177 0 [some (v_r (some 0)), some (v_i c), some (v_i p)] [] h Q := by
  have L := C.1
  have gd : fa_gd (s_f S) := ok.1.1.1
  simp (disch := first | assumption | omega | (simp only [ya_pi, ya_pj, ya_pa, ya_pr, yo_pi, yo_pj, yo_pa, yf_pi, yf_pj, yf_pa, yh_pi, yh_pj, yh_pa, yt_pi, yt_pj, yt_pa, la_pi, la_pj, la_pa]; assumption)) only [b_X11_take_0, b_X11_take_14, b_X11_take_24, b_X11_take_28, i_lit, i_m1, i_31, il_t, il_f, iq_t, iq_f, it_t, it_f, im_e, im_l, im_g, im_g2, nI_add, pk_mul, i_sub, i_div, sdm, i_dec, i_cl, iv_t, bI_or2, bI_t0, bI_one, not_true_eq_false, not_false_eq_true, ↓reduceIte, am_tl, am_tn, am_t0, am_n0, and_true, true_and, List.cons_append, List.nil_append, List.append_nil]
  refine c_copyFrom gd.1 (y_F L (by omega)) C.cQ.2.1 (by omega) (fun h1 fr1 F1 => ?_)
  have L1 := fr1.lay L
  simp (disch := first | assumption | omega | (simp only [ya_pi, ya_pj, ya_pa, ya_pr, yo_pi, yo_pj, yo_pa, yf_pi, yf_pj, yf_pa, yh_pi, yh_pj, yh_pa, yt_pi, yt_pj, yt_pa, la_pi, la_pj, la_pa]; assumption)) only [b_X11_take_0, b_X11_take_14, b_X11_take_24, b_X11_take_28, i_lit, i_m1, i_31, il_t, il_f, iq_t, iq_f, it_t, it_f, im_e, im_l, im_g, im_g2, nI_add, pk_mul, i_sub, i_div, sdm, i_dec, i_cl, iv_t, bI_or2, bI_t0, bI_one, not_true_eq_false, not_false_eq_true, ↓reduceIte, am_tl, am_tn, am_t0, am_n0, and_true, true_and, List.cons_append, List.nil_append, List.append_nil]
  refine c_removeParent gd.1 F1 (fun h2 fr2 F2 => ?_)
  have fr := fr1.tr fr2
  have C2 := C.q ok (fr.le (fun a k z => fa27 z))
  have L2 := C2.1
  simp (disch := first | assumption | omega | (simp only [ya_pi, ya_pj, ya_pa, ya_pr, yo_pi, yo_pj, yo_pa, yf_pi, yf_pj, yf_pa, yh_pi, yh_pj, yh_pa, yt_pi, yt_pj, yt_pa, la_pi, la_pj, la_pa]; assumption)) only [b_X11_take_0, b_X11_take_14, b_X11_take_24, b_X11_take_28, i_lit, i_m1, i_31, il_t, il_f, iq_t, iq_f, it_t, it_f, im_e, im_l, im_g, im_g2, nI_add, pk_mul, i_sub, i_div, sdm, i_dec, i_cl, iv_t, bI_or2, bI_t0, bI_one, not_true_eq_false, not_false_eq_true, ↓reduceIte, am_tl, am_tn, am_t0, am_n0, and_true, true_and, List.cons_append, List.nil_append, List.append_nil]
  refine c_keptState ok C2 (gd_rem gd) F2 (fun z => ?_) (fun h3 g3 C3 => ?_)
  · obtain ⟨a, q, i, rfl, -, ha, -⟩ := d_rem_0 gd.1.1 z
    exact ⟨a, rfl, by rw [fn_rem]; exact ha⟩
  · simp (disch := first | assumption | omega | (simp only [ya_pi, ya_pj, ya_pa, ya_pr, yo_pi, yo_pj, yo_pa, yf_pi, yf_pj, yf_pa, yh_pi, yh_pj, yh_pa, yt_pi, yt_pj, yt_pa, la_pi, la_pj, la_pa]; assumption)) only [b_X11_take_0, b_X11_take_14, b_X11_take_24, b_X11_take_28, i_lit, i_m1, i_31, il_t, il_f, iq_t, iq_f, it_t, it_f, im_e, im_l, im_g, im_g2, nI_add, pk_mul, i_sub, i_div, sdm, i_dec, i_cl, iv_t, bI_or2, bI_t0, bI_one, not_true_eq_false, not_false_eq_true, ↓reduceIte, am_tl, am_tn, am_t0, am_n0, and_true, true_and, List.cons_append, List.nil_append, List.append_nil]
    exact k h3 (gC.pre fr (fun a k z => fa27C z) g3) C3
theorem c_swap {d : Nat} {Q : Option am_V → am_H → Prop} {h : am_H} {S : St} {c p : Int32} (ok : St_ok S) (C : cI h S) (k : ∀ h', gC h h' → cI h' (kS S (d_swap (s_f S) c p) c).2 → Q (some (v_i (kS S (d_swap (s_f S) c p) c).1)) h') : ex_ (d + 7) 178 0 [some (v_r (some 0)), some (v_i c), some (v_i p)] [] h Q := by
  have L := C.1
  have gd : fa_gd (s_f S) := ok.1.1.1
  simp (disch := first | assumption | omega | (simp only [ya_pi, ya_pj, ya_pa, ya_pr, yo_pi, yo_pj, yo_pa, yf_pi, yf_pj, yf_pa, yh_pi, yh_pj, yh_pa, yt_pi, yt_pj, yt_pa, la_pi, la_pj, la_pa]; assumption)) only [b_X11_swap_0, b_X11_swap_14, b_X11_swap_24, b_X11_swap_28, i_lit, i_m1, i_31, il_t, il_f, iq_t, iq_f, it_t, it_f, im_e, im_l, im_g, im_g2, nI_add, pk_mul, i_sub, i_div, sdm, i_dec, i_cl, iv_t, bI_or2, bI_t0, bI_one, not_true_eq_false, not_false_eq_true, ↓reduceIte, am_tl, am_tn, am_t0, am_n0, and_true, true_and, List.cons_append, List.nil_append, List.append_nil]
  refine c_copyFrom gd.1 (y_F L (by omega)) C.cQ.2.1 (by omega) (fun h1 fr1 F1 => ?_)
  have L1 := fr1.lay L
  simp (disch := first | assumption | omega | (simp only [ya_pi, ya_pj, ya_pa, ya_pr, yo_pi, yo_pj, yo_pa, yf_pi, yf_pj, yf_pa, yh_pi, yh_pj, yh_pa, yt_pi, yt_pj, yt_pa, la_pi, la_pj, la_pa]; assumption)) only [b_X11_swap_0, b_X11_swap_14, b_X11_swap_24, b_X11_swap_28, i_lit, i_m1, i_31, il_t, il_f, iq_t, iq_f, it_t, it_f, im_e, im_l, im_g, im_g2, nI_add, pk_mul, i_sub, i_div, sdm, i_dec, i_cl, iv_t, bI_or2, bI_t0, bI_one, not_true_eq_false, not_false_eq_true, ↓reduceIte, am_tl, am_tn, am_t0, am_n0, and_true, true_and, List.cons_append, List.nil_append, List.append_nil]
  refine c_turnParents gd.1 F1 (fun h2 fr2 F2 => ?_)
  have fr := fr1.tr fr2
  have C2 := C.q ok (fr.le (fun a k z => fa27 z))
  have L2 := C2.1
  simp (disch := first | assumption | omega | (simp only [ya_pi, ya_pj, ya_pa, ya_pr, yo_pi, yo_pj, yo_pa, yf_pi, yf_pj, yf_pa, yh_pi, yh_pj, yh_pa, yt_pi, yt_pj, yt_pa, la_pi, la_pj, la_pa]; assumption)) only [b_X11_swap_0, b_X11_swap_14, b_X11_swap_24, b_X11_swap_28, i_lit, i_m1, i_31, il_t, il_f, iq_t, iq_f, it_t, it_f, im_e, im_l, im_g, im_g2, nI_add, pk_mul, i_sub, i_div, sdm, i_dec, i_cl, iv_t, bI_or2, bI_t0, bI_one, not_true_eq_false, not_false_eq_true, ↓reduceIte, am_tl, am_tn, am_t0, am_n0, and_true, true_and, List.cons_append, List.nil_append, List.append_nil]
  refine c_keptState ok C2 (gd_swap gd) F2 (fun z => ?_) (fun h3 g3 C3 => ?_)
  · obtain ⟨a, i, rfl, -, -, ha, -⟩ := d_swap_0 gd.1.1 z
    exact ⟨a, rfl, by rw [fn_swap]; exact ha⟩
  · simp (disch := first | assumption | omega | (simp only [ya_pi, ya_pj, ya_pa, ya_pr, yo_pi, yo_pj, yo_pa, yf_pi, yf_pj, yf_pa, yh_pi, yh_pj, yh_pa, yt_pi, yt_pj, yt_pa, la_pi, la_pj, la_pa]; assumption)) only [b_X11_swap_0, b_X11_swap_14, b_X11_swap_24, b_X11_swap_28, i_lit, i_m1, i_31, il_t, il_f, iq_t, iq_f, it_t, it_f, im_e, im_l, im_g, im_g2, nI_add, pk_mul, i_sub, i_div, sdm, i_dec, i_cl, iv_t, bI_or2, bI_t0, bI_one, not_true_eq_false, not_false_eq_true, ↓reduceIte, am_tl, am_tn, am_t0, am_n0, and_true, true_and, List.cons_append, List.nil_append, List.append_nil]
    exact k h3 (gC.pre fr (fun a k z => fa27C z) g3) C3
/-- a deed that tells what was before -/
def kB (S : St) (r : Int32 × fa_S) (v : Int32) : Int32 × St := if r.1 = nI 0 then (v, deed S r.2) else (-(nI 10) - r.1, S)
theorem gC.rf {h : am_H} : gC h h := gC.fr am_fr.rf (P := N0) (fun _ _ z => z.elim)
theorem c_define {d : Nat} {Q : Option am_V → am_H → Prop} {h : am_H} {S : St} {c m w : Int32} {l4 l5 : Option am_V} (ok : St_ok S) (C : cI h S) (k : ∀ h', gC h h' → cI h' (kB S (d_def (s_f S) c m w) (f_d (s_f S) c.toNatClampNeg m.toNatClampNeg)).2 → Q (some (v_i (kB S (d_def (s_f S) c m w) (f_d (s_f S) c.toNatClampNeg m.toNatClampNeg)).1)) h') : ex_ (d + 6) 179 0 [some (v_r (some 0)), some (v_i c), some (v_i m), some (v_i w), l4, l5] [] h Q := by
  have L := C.1
  have gd : fa_gd (s_f S) := ok.1.1.1
  simp (disch := first | assumption | omega | (simp only [ya_pi, ya_pj, ya_pa, ya_pr, yo_pi, yo_pj, yo_pa, yf_pi, yf_pj, yf_pa, yh_pi, yh_pj, yh_pa, yt_pi, yt_pj, yt_pa, la_pi, la_pj, la_pa]; assumption)) only [b_X11_define_0, b_X11_define_14, b_X11_define_24, b_X11_define_37, b_X11_define_31, b_X11_define_49, b_X11_define_55, i_lit, i_m1, i_31, il_t, il_f, iq_t, iq_f, it_t, it_f, im_e, im_l, im_g, im_g2, nI_add, pk_mul, i_sub, i_div, sdm, i_dec, i_cl, iv_t, bI_or2, bI_t0, bI_one, not_true_eq_false, not_false_eq_true, ↓reduceIte, am_tl, am_tn, am_t0, am_n0, and_true, true_and, List.cons_append, List.nil_append, List.append_nil]
  refine c_copyFrom gd.1 (y_F L (by omega)) C.cQ.2.1 (by omega) (fun h1 fr1 F1 => ?_)
  have L1 := fr1.lay L
  simp (disch := first | assumption | omega | (simp only [ya_pi, ya_pj, ya_pa, ya_pr, yo_pi, yo_pj, yo_pa, yf_pi, yf_pj, yf_pa, yh_pi, yh_pj, yh_pa, yt_pi, yt_pj, yt_pa, la_pi, la_pj, la_pa]; assumption)) only [b_X11_define_0, b_X11_define_14, b_X11_define_24, b_X11_define_37, b_X11_define_31, b_X11_define_49, b_X11_define_55, i_lit, i_m1, i_31, il_t, il_f, iq_t, iq_f, it_t, it_f, im_e, im_l, im_g, im_g2, nI_add, pk_mul, i_sub, i_div, sdm, i_dec, i_cl, iv_t, bI_or2, bI_t0, bI_one, not_true_eq_false, not_false_eq_true, ↓reduceIte, am_tl, am_tn, am_t0, am_n0, and_true, true_and, List.cons_append, List.nil_append, List.append_nil]
  refine c_putDefinition gd.1 F1 (fun h2 fr2 F2 => ?_)
  have fr := fr1.tr fr2
  have C2 := C.q ok (fr.le (fun a k z => fa27 z))
  have L2 := C2.1
  unfold kB at k
  by_cases z : (d_def (s_f S) c m w).1 = nI 0
  · rw [if_pos z] at k
    obtain ⟨a, j, i, rfl, rfl, rfl, ha, hj, -⟩ := d_def_0 gd.1.1 z
    have n10 := gd.1.1
    rw [nI_clamp (by omega), nI_clamp (by omega)] at k
    simp (disch := first | assumption | omega | (simp only [ya_pi, ya_pj, ya_pa, ya_pr, yo_pi, yo_pj, yo_pa, yf_pi, yf_pj, yf_pa, yh_pi, yh_pj, yh_pa, yt_pi, yt_pj, yt_pa, la_pi, la_pj, la_pa]; assumption)) only [b_X11_define_0, b_X11_define_14, b_X11_define_24, b_X11_define_37, b_X11_define_31, b_X11_define_49, b_X11_define_55, i_lit, i_m1, i_31, il_t, il_f, iq_t, iq_f, it_t, it_f, im_e, im_l, im_g, im_g2, nI_add, pk_mul, i_sub, i_div, sdm, i_dec, i_cl, iv_t, bI_or2, bI_t0, bI_one, not_true_eq_false, not_false_eq_true, ↓reduceIte, am_tl, am_tn, am_t0, am_n0, and_true, true_and, List.cons_append, List.nil_append, List.append_nil, z, c_definitionAt C2.cQ.2.1 (show a < 10 by omega) hj]
    refine c_keepTrial ok C2 (gd_def gd) F2 (fun h3 g3 C3 => ?_)
    simp (disch := first | assumption | omega | (simp only [ya_pi, ya_pj, ya_pa, ya_pr, yo_pi, yo_pj, yo_pa, yf_pi, yf_pj, yf_pa, yh_pi, yh_pj, yh_pa, yt_pi, yt_pj, yt_pa, la_pi, la_pj, la_pa]; assumption)) only [b_X11_define_0, b_X11_define_14, b_X11_define_24, b_X11_define_37, b_X11_define_31, b_X11_define_49, b_X11_define_55, i_lit, i_m1, i_31, il_t, il_f, iq_t, iq_f, it_t, it_f, im_e, im_l, im_g, im_g2, nI_add, pk_mul, i_sub, i_div, sdm, i_dec, i_cl, iv_t, bI_or2, bI_t0, bI_one, not_true_eq_false, not_false_eq_true, ↓reduceIte, am_tl, am_tn, am_t0, am_n0, and_true, true_and, List.cons_append, List.nil_append, List.append_nil]
    exact k h3 (gC.pre fr (fun a k z => fa27C z) g3) C3
  · rw [if_neg z] at k
    simp (disch := first | assumption | omega | (simp only [ya_pi, ya_pj, ya_pa, ya_pr, yo_pi, yo_pj, yo_pa, yf_pi, yf_pj, yf_pa, yh_pi, yh_pj, yh_pa, yt_pi, yt_pj, yt_pa, la_pi, la_pj, la_pa]; assumption)) only [b_X11_define_0, b_X11_define_14, b_X11_define_24, b_X11_define_37, b_X11_define_31, b_X11_define_49, b_X11_define_55, i_lit, i_m1, i_31, il_t, il_f, iq_t, iq_f, it_t, it_f, im_e, im_l, im_g, im_g2, nI_add, pk_mul, i_sub, i_div, sdm, i_dec, i_cl, iv_t, bI_or2, bI_t0, bI_one, not_true_eq_false, not_false_eq_true, ↓reduceIte, am_tl, am_tn, am_t0, am_n0, and_true, true_and, List.cons_append, List.nil_append, List.append_nil, z]
    exact k h2 (gC.pre fr (fun a k z => fa27C z) gC.rf) C2
theorem c_mood {d : Nat} {Q : Option am_V → am_H → Prop} {h : am_H} {S : St} {x : Int32} {l2 l3 : Option am_V} (ok : St_ok S) (C : cI h S) (k : ∀ h', gC h h' → cI h' (kB S (d_mood (s_f S) x) (f_m (s_f S))).2 → Q (some (v_i (kB S (d_mood (s_f S) x) (f_m (s_f S))).1)) h') : ex_ (d + 6) 180 0 [some (v_r (some 0)), some (v_i x), l2, l3] [] h Q := by
  have L := C.1
  have gd : fa_gd (s_f S) := ok.1.1.1
  simp (disch := first | assumption | omega | (simp only [ya_pi, ya_pj, ya_pa, ya_pr, yo_pi, yo_pj, yo_pa, yf_pi, yf_pj, yf_pa, yh_pi, yh_pj, yh_pa, yt_pi, yt_pj, yt_pa, la_pi, la_pj, la_pa]; assumption)) only [b_X11_mood_0, b_X11_mood_14, b_X11_mood_22, b_X11_mood_32, b_X11_mood_27, b_X11_mood_47, i_lit, i_m1, i_31, il_t, il_f, iq_t, iq_f, it_t, it_f, im_e, im_l, im_g, im_g2, nI_add, pk_mul, i_sub, i_div, sdm, i_dec, i_cl, iv_t, bI_or2, bI_t0, bI_one, not_true_eq_false, not_false_eq_true, ↓reduceIte, am_tl, am_tn, am_t0, am_n0, and_true, true_and, List.cons_append, List.nil_append, List.append_nil]
  refine c_copyFrom gd.1 (y_F L (by omega)) C.cQ.2.1 (by omega) (fun h1 fr1 F1 => ?_)
  have L1 := fr1.lay L
  simp (disch := first | assumption | omega | (simp only [ya_pi, ya_pj, ya_pa, ya_pr, yo_pi, yo_pj, yo_pa, yf_pi, yf_pj, yf_pa, yh_pi, yh_pj, yh_pa, yt_pi, yt_pj, yt_pa, la_pi, la_pj, la_pa]; assumption)) only [b_X11_mood_0, b_X11_mood_14, b_X11_mood_22, b_X11_mood_32, b_X11_mood_27, b_X11_mood_47, i_lit, i_m1, i_31, il_t, il_f, iq_t, iq_f, it_t, it_f, im_e, im_l, im_g, im_g2, nI_add, pk_mul, i_sub, i_div, sdm, i_dec, i_cl, iv_t, bI_or2, bI_t0, bI_one, not_true_eq_false, not_false_eq_true, ↓reduceIte, am_tl, am_tn, am_t0, am_n0, and_true, true_and, List.cons_append, List.nil_append, List.append_nil]
  refine c_putMood F1 (fun h2 fr2 F2 => ?_)
  have fr := fr1.tr fr2
  have C2 := C.q ok (fr.le (fun a k z => fa27 z))
  have L2 := C2.1
  have em := C2.cQ.2.1.2.2.1
  unfold kB at k
  by_cases z : (d_mood (s_f S) x).1 = nI 0
  · rw [if_pos z] at k
    simp (disch := first | assumption | omega | (simp only [ya_pi, ya_pj, ya_pa, ya_pr, yo_pi, yo_pj, yo_pa, yf_pi, yf_pj, yf_pa, yh_pi, yh_pj, yh_pa, yt_pi, yt_pj, yt_pa, la_pi, la_pj, la_pa]; assumption)) only [b_X11_mood_0, b_X11_mood_14, b_X11_mood_22, b_X11_mood_32, b_X11_mood_27, b_X11_mood_47, i_lit, i_m1, i_31, il_t, il_f, iq_t, iq_f, it_t, it_f, im_e, im_l, im_g, im_g2, nI_add, pk_mul, i_sub, i_div, sdm, i_dec, i_cl, iv_t, bI_or2, bI_t0, bI_one, not_true_eq_false, not_false_eq_true, ↓reduceIte, am_tl, am_tn, am_t0, am_n0, and_true, true_and, List.cons_append, List.nil_append, List.append_nil, z, em]
    refine c_keepTrial ok C2 (gd_mood gd) F2 (fun h3 g3 C3 => ?_)
    simp (disch := first | assumption | omega | (simp only [ya_pi, ya_pj, ya_pa, ya_pr, yo_pi, yo_pj, yo_pa, yf_pi, yf_pj, yf_pa, yh_pi, yh_pj, yh_pa, yt_pi, yt_pj, yt_pa, la_pi, la_pj, la_pa]; assumption)) only [b_X11_mood_0, b_X11_mood_14, b_X11_mood_22, b_X11_mood_32, b_X11_mood_27, b_X11_mood_47, i_lit, i_m1, i_31, il_t, il_f, iq_t, iq_f, it_t, it_f, im_e, im_l, im_g, im_g2, nI_add, pk_mul, i_sub, i_div, sdm, i_dec, i_cl, iv_t, bI_or2, bI_t0, bI_one, not_true_eq_false, not_false_eq_true, ↓reduceIte, am_tl, am_tn, am_t0, am_n0, and_true, true_and, List.cons_append, List.nil_append, List.append_nil]
    exact k h3 (gC.pre fr (fun a k z => fa27C z) g3) C3
  · rw [if_neg z] at k
    simp (disch := first | assumption | omega | (simp only [ya_pi, ya_pj, ya_pa, ya_pr, yo_pi, yo_pj, yo_pa, yf_pi, yf_pj, yf_pa, yh_pi, yh_pj, yh_pa, yt_pi, yt_pj, yt_pa, la_pi, la_pj, la_pa]; assumption)) only [b_X11_mood_0, b_X11_mood_14, b_X11_mood_22, b_X11_mood_32, b_X11_mood_27, b_X11_mood_47, i_lit, i_m1, i_31, il_t, il_f, iq_t, iq_f, it_t, it_f, im_e, im_l, im_g, im_g2, nI_add, pk_mul, i_sub, i_div, sdm, i_dec, i_cl, iv_t, bI_or2, bI_t0, bI_one, not_true_eq_false, not_false_eq_true, ↓reduceIte, am_tl, am_tn, am_t0, am_n0, and_true, true_and, List.cons_append, List.nil_append, List.append_nil, z]
    exact k h2 (gC.pre fr (fun a k z => fa27C z) gC.rf) C2
/-! undo -/
def t_undo (S : St) (n : Int32) : Int32 × St := if ¬ n < nI 1 ∧ n ≤ nI (s_p S).length then (nI ((s_p S).length - n.toNatClampNeg), setF S ((s_p S).getD ((s_p S).length - n.toNatClampNeg) f_0) ((s_p S).take ((s_p S).length - n.toNatClampNeg))) else (-3, S)
theorem lt_1 {n : Int32} (h : ¬ n < nI 1) : ∃ k, 1 ≤ k ∧ k < 2147483648 ∧ n = nI k := by
  have h0 : ¬ n < 0 := fun z => h (by
    have a : n.toInt < (0 : Int32).toInt := Int32.lt_iff_toInt_lt.1 z
    refine Int32.lt_iff_toInt_lt.2 ?_
    rw [nI_toInt (by omega)]
    have : (0 : Int32).toInt = 0 := rfl
    omega)
  obtain ⟨k, hk, rfl⟩ := nI_of h0
  refine ⟨k, ?_, hk, rfl⟩
  rcases Nat.lt_or_ge k 1 with z | z
  · exact absurd (nI_lt z (by omega)) h
  · exact z
theorem gdF_tk {l : List fa_S} {m k : Nat} (h : k < m) : (l.take m).getD k f_0 = l.getD k f_0 := by
  rw [List.getD_eq_getElem?_getD, List.getD_eq_getElem?_getD, List.getElem?_take_of_lt h]
theorem c_undo {d : Nat} {Q : Option am_V → am_H → Prop} {h : am_H} {S : St} {n : Int32} (ok : St_ok S) (C : cI h S) (k : ∀ h', gC h h' → cI h' (t_undo S n).2 → Q (some (v_i (t_undo S n).1)) h') : ex_ (d + 5) 181 0 [some (v_r (some 0)), some (v_i n)] [] h Q := by
  have C' := C
  obtain ⟨L, O, ⟨W, e, C1, C2, C3⟩, C4, C5, C6, C7, C8⟩ := C'
  have e2 := C2.2.2.1
  have l10 := ok.2.1.1
  unfold t_undo at k
  by_cases z : n < nI 1
  · rw [if_neg (fun w => w.1 z)] at k
    simp (disch := first | assumption | omega | (simp only [ya_pi, ya_pj, ya_pa, ya_pr, yo_pi, yo_pj, yo_pa, yf_pi, yf_pj, yf_pa, yh_pi, yh_pj, yh_pa, yt_pi, yt_pj, yt_pa, la_pi, la_pj, la_pa]; assumption)) only [b_X11_undo_0, b_X11_undo_16, b_X11_undo_5, b_X11_undo_19, b_X11_undo_34, b_X11_undo_38, i_lit, i_m1, i_31, il_t, il_f, iq_t, iq_f, it_t, it_f, im_e, im_l, im_g, im_g2, nI_add, pk_mul, i_sub, i_div, sdm, i_dec, i_cl, iv_t, bI_or2, bI_t0, bI_one, not_true_eq_false, not_false_eq_true, ↓reduceIte, am_tl, am_tn, am_t0, am_n0, and_true, true_and, List.cons_append, List.nil_append, List.append_nil, z]
    exact k h gC.rf C
  · obtain ⟨n, h1, hn, rfl⟩ := lt_1 z
    by_cases y : n ≤ (s_p S).length
    · rw [if_pos ⟨z, nI_le y (by omega)⟩, nI_clamp hn] at k
      have e1 := C2.1
      have e10 := C2.2.1
      generalize hm : (s_p S).length - n = m at k
      have m10 : m < (s_p S).length := by omega
      obtain ⟨o, er, Fo⟩ := C2.2.2.2.2 m m10
      have gd : fa_gd ((s_p S).getD m f_0) := (ok.2.1.2 _ (gdF_mem m10)).1
      have w118 : 118 ≤ o := by
        rcases C2.2.2.2.1 _ (Nat.mod_lt (e + m) (by omega)) with x | ⟨o', x, -, w⟩
        · rw [x] at er; cases er
        · rw [er] at x; cases x; exact w.1
      have fr0 : am_fr h (p_i h 25 2 (nI m)) (fun a k => a = 25 ∧ k = 2) := am_fr_pi ⟨rfl, rfl⟩
      have L0 := fr0.lay L
      have Fo0 : fa_at (p_i h 25 2 (nI m)) o ((s_p S).getD m f_0) := fr0.fa Fo (fun a k h1 h2 z => by omega)
      have Y11 := y_F L (o := 11) (by omega)
      have Y110 := y_F L0 (o := 11) (by omega)
      have q1 : h_i (p_i h 25 2 (nI m)) 25 1 = nI e := by rw [hi_k (by omega)]; exact e1
      have q2 : h_i (p_i h 25 2 (nI m)) 25 2 = nI m := hi_s
      have n1 : ¬ (n < 1) := by omega
      simp (disch := first | assumption | omega | (simp only [ya_pi, ya_pj, ya_pa, ya_pr, yo_pi, yo_pj, yo_pa, yf_pi, yf_pj, yf_pa, yh_pi, yh_pj, yh_pa, yt_pi, yt_pj, yt_pa, la_pi, la_pj, la_pa]; assumption)) only [b_X11_undo_0, b_X11_undo_16, b_X11_undo_5, b_X11_undo_19, b_X11_undo_34, b_X11_undo_38, b_X7_goBack_0, b_X7_goBack_13, b_X7_goBack_5, b_X7_goBack_14, b_X7_goBack_51, b_X7_goBack_46, i_lit, i_m1, i_31, il_t, il_f, iq_t, iq_f, it_t, it_f, im_e, im_l, im_g, im_g2, nI_add, pk_mul, i_sub, i_div, sdm, i_dec, i_cl, iv_t, bI_or2, bI_t0, bI_one, not_true_eq_false, not_false_eq_true, ↓reduceIte, am_tl, am_tn, am_t0, am_n0, and_true, true_and, List.cons_append, List.nil_append, List.append_nil, e2, hm, q1, q2, er, reduceCtorEq]
      refine c_copyFrom gd.1 Y110 Fo0 (by omega) (fun h2 fr2 F2 => ?_)
      have L2 := fr2.lay L0
      simp (disch := first | assumption | omega | (simp only [ya_pi, ya_pj, ya_pa, ya_pr, yo_pi, yo_pj, yo_pa, yf_pi, yf_pj, yf_pa, yh_pi, yh_pj, yh_pa, yt_pi, yt_pj, yt_pa, la_pi, la_pj, la_pa]; assumption)) only [b_X11_undo_0, b_X11_undo_16, b_X11_undo_5, b_X11_undo_19, b_X11_undo_34, b_X11_undo_38, b_X7_goBack_0, b_X7_goBack_13, b_X7_goBack_5, b_X7_goBack_14, b_X7_goBack_51, b_X7_goBack_46, i_lit, i_m1, i_31, il_t, il_f, iq_t, iq_f, it_t, it_f, im_e, im_l, im_g, im_g2, nI_add, pk_mul, i_sub, i_div, sdm, i_dec, i_cl, iv_t, bI_or2, bI_t0, bI_one, not_true_eq_false, not_false_eq_true, ↓reduceIte, am_tl, am_tn, am_t0, am_n0, and_true, true_and, List.cons_append, List.nil_append, List.append_nil]
      refine c_settleAgain L2 gd.1 F2 (y_O L2) (fun h3 fr3 O3 M3 T3 => ?_)
      have L3 := fr3.lay L2
      have fr13 : am_fr (p_i h 25 2 (nI m)) h3 kP := (fr2.le (fun a k z => Or.inl z)).tr (fr3.le (fun a k z => Or.inr z))
      have F3 : fa_at h3 11 ((s_p S).getD m f_0) := fr3.fa F2 (fun a k h1 h2 z => by unfold sP at z; omega)
      have q3 : h_i h3 25 2 = nI m := by rw [fr13.i (by unfold kP fa_P sP; omega)]; exact q2
      simp (disch := first | assumption | omega | (simp only [ya_pi, ya_pj, ya_pa, ya_pr, yo_pi, yo_pj, yo_pa, yf_pi, yf_pj, yf_pa, yh_pi, yh_pj, yh_pa, yt_pi, yt_pj, yt_pa, la_pi, la_pj, la_pa]; assumption)) only [b_X11_undo_0, b_X11_undo_16, b_X11_undo_5, b_X11_undo_19, b_X11_undo_34, b_X11_undo_38, i_lit, i_m1, i_31, il_t, il_f, iq_t, iq_f, it_t, it_f, im_e, im_l, im_g, im_g2, nI_add, pk_mul, i_sub, i_div, sdm, i_dec, i_cl, iv_t, bI_or2, bI_t0, bI_one, not_true_eq_false, not_false_eq_true, ↓reduceIte, am_tl, am_tn, am_t0, am_n0, and_true, true_and, List.cons_append, List.nil_append, List.append_nil, q3]
      have g0 : gf h (p_i h 25 2 (nI m)) (fun a k => a = 25 ∧ k = 2) N0 N0 := fr0.g
      have H0 : hoA (p_i h 25 2 (nI m)) W 10 (s_H S) := g0.hoA ok.1 C1 (fun a k h1 h2 z => z) (fun a k h1 h2 z => by omega) (fun a k h1 h2 z => by omega)
      have I0 : imA (p_i h 25 2 (nI m)) W (s_i S) := g0.imA L ok.2.2.1 C3 (fun k z => z) (fun a k h1 h2 z => by omega) (fun a k h1 h2 h3 => ⟨by omega, fun z => z⟩)
      have lt : ((s_p S).take m).length = m := by rw [List.length_take]; omega
      have P0 : paA (p_i h 25 2 (nI m)) W e ((s_p S).take m) := by
        refine ⟨q1, e10, by rw [lt]; exact q2, C2.2.2.2.1, fun j hj => ?_⟩
        rw [lt] at hj
        obtain ⟨q, eq, Fq⟩ := C2.2.2.2.2 j (by omega)
        have q118 : 118 ≤ q := by
          rcases C2.2.2.2.1 _ (Nat.mod_lt (e + j) (by omega)) with x | ⟨o', x, -, w⟩
          · rw [x] at eq; cases eq
          · rw [eq] at x; cases x; exact w.1
        exact ⟨q, eq, by rw [gdF_tk hj]; exact fr0.fa Fq (fun a k h1 h2 z => by omega)⟩
      exact k h3 (gC.pre fr0 (fun a k z => by unfold pC; omega) (gC.fr fr13 (fun a k z => by unfold kP fa_P sP at z; unfold pC; omega))) (C.facts ok gd (fun q hq => (ok.2.1.2 q (List.mem_of_mem_take hq)).1) g0 L0 (fun a k ha z => by omega) (fun a k h1 h2 z => z) ⟨H0.1, H0.2.2.1, H0.2.2.2.1, H0.2.2.2.2⟩ P0 I0 fr13 F3 O3 M3 T3)
    · rw [if_neg (fun w => y ((nI_leI hn (by omega)).1 w.2))] at k
      simp (disch := first | assumption | omega | (simp only [ya_pi, ya_pj, ya_pa, ya_pr, yo_pi, yo_pj, yo_pa, yf_pi, yf_pj, yf_pa, yh_pi, yh_pj, yh_pa, yt_pi, yt_pj, yt_pa, la_pi, la_pj, la_pa]; assumption)) only [b_X11_undo_0, b_X11_undo_16, b_X11_undo_5, b_X11_undo_19, b_X11_undo_34, b_X11_undo_38, i_lit, i_m1, i_31, il_t, il_f, iq_t, iq_f, it_t, it_f, im_e, im_l, im_g, im_g2, nI_add, pk_mul, i_sub, i_div, sdm, i_dec, i_cl, iv_t, bI_or2, bI_t0, bI_one, not_true_eq_false, not_false_eq_true, ↓reduceIte, am_tl, am_tn, am_t0, am_n0, and_true, true_and, List.cons_append, List.nil_append, List.append_nil, e2]
      exact k h gC.rf C
