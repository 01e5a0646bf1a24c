/-! ===== told deeds, days: the class ===== -/
theorem d_run_all {vs : List Int64} : ∀ {f : fa_S}, (d_run f vs).2.1 = nI 0 ↔ (d_run f vs).1 = vs.length := by
  induction vs with
  | nil => intro f; exact ⟨fun _ => rfl, fun _ => rfl⟩
  | cons v vs ih =>
    intro f
    rw [d_run]
    split
    · rw [List.length_cons]
      dsimp only
      rw [ih]
      omega
    · rename_i z
      exact ⟨fun y => absurd y z, fun y => by rw [List.length_cons] at y; dsimp only at y; omega⟩
theorem d_run_why {vs : List Int64} : ∀ {f : fa_S}, (d_run f vs).1 < vs.length → (d_run f vs).2.1 = (d_do (d_run f vs).2.2 (vs.getD (d_run f vs).1 0)).1 := by
  induction vs with
  | nil => intro f h; exact absurd h (Nat.not_lt_zero _)
  | cons v vs ih =>
    intro f h
    rw [d_run] at h ⊢
    split at h
    · rename_i z
      rw [if_pos z]
      dsimp only at h ⊢
      rw [List.length_cons] at h
      have := ih (f := (d_do f v).2) (by omega)
      rw [List.getD_cons_succ]
      exact this
    · rename_i z
      rw [if_neg z]
      rfl
theorem c_tryDeeds {d : Nat} {Q : Option am_V → am_H → Prop} {h : am_H} {S : St} (ok : St_ok S) (C : cI h S) {t : Nat} (ht : t < 4) {l2 : Option am_V} (k : ∀ h', am_fr h h' (fa_P 27) → fa_at h' 27 (d_run (s_f S) (s_t S t).2).2.2 → Q (some (v_i (nI (d_run (s_f S) (s_t S t).2).1))) h') : ex_ (d + 5) 183 0 [some (v_r (some 0)), some (v_r (some (85 + 2 * t))), l2] [] h Q := by
  have L := C.1
  have gd : fa_gd (s_f S) := ok.1.1.1
  have T := C.2.2.2.1 t ht
  have l40 := T.2.2.1
  have Y := tr_y L ht
  simp (disch := first | assumption | omega | (simp only [ya_pi, ya_pj, ya_pa, ya_pr, yo_pi, yo_pj, yo_pa, yf_pi, yf_pj, yf_pa, yh_pi, yh_pj, yh_pa, yt_pi, yt_pj, yt_pa, la_pi, la_pj, la_pa]; assumption)) only [b_X11_tryDeeds_0, b_X11_tryDeeds_14, b_X11_tryDeeds_45, b_X11_tryDeeds_24, b_X11_tryDeeds_33, b_X11_tryDeeds_36, b_X11_tryDeeds_39, i_lit, i_m1, i_31, il_t, il_f, iq_t, iq_f, it_t, it_f, im_e, im_l, im_g, im_g2, nI_add, pk_mul, i_sub, i_div, sdm, i_dec, i_cl, iv_t, bI_or2, bI_t0, bI_one, not_true_eq_false, not_false_eq_true, ↓reduceIte, am_tl, am_tn, am_t0, am_n0, and_true, true_and, List.cons_append, List.nil_append, List.append_nil]
  refine c_copyFrom gd.1 (y_F L (by omega)) C.cQ.2.1 (by omega) (fun h1 fr1 F1 => ?_)
  have L1 := fr1.lay L
  simp (disch := first | assumption | omega | (simp only [ya_pi, ya_pj, ya_pa, ya_pr, yo_pi, yo_pj, yo_pa, yf_pi, yf_pj, yf_pa, yh_pi, yh_pj, yh_pa, yt_pi, yt_pj, yt_pa, la_pi, la_pj, la_pa]; assumption)) only [b_X11_tryDeeds_0, b_X11_tryDeeds_14, b_X11_tryDeeds_45, b_X11_tryDeeds_24, b_X11_tryDeeds_33, b_X11_tryDeeds_36, b_X11_tryDeeds_39, i_lit, i_m1, i_31, il_t, il_f, iq_t, iq_f, it_t, it_f, im_e, im_l, im_g, im_g2, nI_add, pk_mul, i_sub, i_div, sdm, i_dec, i_cl, iv_t, bI_or2, bI_t0, bI_one, not_true_eq_false, not_false_eq_true, ↓reduceIte, am_tl, am_tn, am_t0, am_n0, and_true, true_and, List.cons_append, List.nil_append, List.append_nil]
  generalize hvs : (s_t S t).2 = vs at k l40
  generalize hf : s_f S = f at k gd F1
  refine lp_up vs.length (fun i (_ : fa_S) => [some (v_r (some 0)), some (v_r (some (85 + 2 * t))), some (v_i (nI i))]) (fun i g h' => am_fr h h' (fa_P 27) ∧ fa_gd g ∧ fa_at h' 27 g ∧ d_run f vs = (i + (d_run g (vs.drop i)).1, (d_run g (vs.drop i)).2)) ?_ ?_ (Nat.zero_le _) ⟨fr1, gd, F1, by rw [List.drop_zero, Nat.zero_add]⟩ (s := f)
  · rintro i g h2 hi ⟨fr2, gdg, G, eq⟩ nx
    have L2 := fr2.lay L
    have T2 : ty h2 t (s_t S t) := T.fr L ht (fr2.gj (J := N0) (R := N0)) (fun k => by unfold fa_P; omega) (fun k z => z)
    have Y2 := tr_y L2 ht
    have e1 := T2.2.1
    have G0 := G.1
    have ca := fun {d} {Q} => c_tAt (d := d) (Q := Q) (k := i) L2 ht T2 (by rw [hvs]; exact hi)
    rw [hvs] at e1 ca
    rw [b_X11_tryDeeds_16 _ _ _ _ Y2]
    have hd : vs.drop i = vs.getD i 0 :: vs.drop (i + 1) := by
      rw [List.drop_eq_getElem_cons hi, List.getD_eq_getElem?_getD, List.getElem?_eq_getElem hi]
      rfl
    rw [hd, d_run] at eq
    by_cases z : (d_do g (vs.getD i 0)).1 = nI 0
    · rw [if_pos z] at eq
      simp (disch := first | assumption | omega | (simp only [ya_pi, ya_pj, ya_pa, ya_pr, yo_pi, yo_pj, yo_pa, yf_pi, yf_pj, yf_pa, yh_pi, yh_pj, yh_pa, yt_pi, yt_pj, yt_pa, la_pi, la_pj, la_pa]; assumption)) only [b_X11_tryDeeds_0, b_X11_tryDeeds_14, b_X11_tryDeeds_45, b_X11_tryDeeds_24, b_X11_tryDeeds_33, b_X11_tryDeeds_36, b_X11_tryDeeds_39, i_lit, i_m1, i_31, il_t, il_f, iq_t, iq_f, it_t, it_f, im_e, im_l, im_g, im_g2, nI_add, pk_mul, i_sub, i_div, sdm, i_dec, i_cl, iv_t, bI_or2, bI_t0, bI_one, not_true_eq_false, not_false_eq_true, ↓reduceIte, am_tl, am_tn, am_t0, am_n0, and_true, true_and, List.cons_append, List.nil_append, List.append_nil, e1, ca]
      refine c_doDeed gdg.1 G (fun h3 fr3 G3 => ?_)
      simp (disch := first | assumption | omega | (simp only [ya_pi, ya_pj, ya_pa, ya_pr, yo_pi, yo_pj, yo_pa, yf_pi, yf_pj, yf_pa, yh_pi, yh_pj, yh_pa, yt_pi, yt_pj, yt_pa, la_pi, la_pj, la_pa]; assumption)) only [b_X11_tryDeeds_0, b_X11_tryDeeds_14, b_X11_tryDeeds_45, b_X11_tryDeeds_24, b_X11_tryDeeds_33, b_X11_tryDeeds_36, b_X11_tryDeeds_39, i_lit, i_m1, i_31, il_t, il_f, iq_t, iq_f, it_t, it_f, im_e, im_l, im_g, im_g2, nI_add, pk_mul, i_sub, i_div, sdm, i_dec, i_cl, iv_t, bI_or2, bI_t0, bI_one, not_true_eq_false, not_false_eq_true, ↓reduceIte, am_tl, am_tn, am_t0, am_n0, and_true, true_and, List.cons_append, List.nil_append, List.append_nil, z]
      refine nx (d_do g (vs.getD i 0)).2 h3 ⟨fr2.tr fr3, gd_do gdg, G3, ?_⟩
      rw [eq]
      dsimp only
      congr 1
      omega
    · rw [if_neg z] at eq
      simp (disch := first | assumption | omega | (simp only [ya_pi, ya_pj, ya_pa, ya_pr, yo_pi, yo_pj, yo_pa, yf_pi, yf_pj, yf_pa, yh_pi, yh_pj, yh_pa, yt_pi, yt_pj, yt_pa, la_pi, la_pj, la_pa]; assumption)) only [b_X11_tryDeeds_0, b_X11_tryDeeds_14, b_X11_tryDeeds_45, b_X11_tryDeeds_24, b_X11_tryDeeds_33, b_X11_tryDeeds_36, b_X11_tryDeeds_39, i_lit, i_m1, i_31, il_t, il_f, iq_t, iq_f, it_t, it_f, im_e, im_l, im_g, im_g2, nI_add, pk_mul, i_sub, i_div, sdm, i_dec, i_cl, iv_t, bI_or2, bI_t0, bI_one, not_true_eq_false, not_false_eq_true, ↓reduceIte, am_tl, am_tn, am_t0, am_n0, and_true, true_and, List.cons_append, List.nil_append, List.append_nil, e1, ca]
      refine c_doDeed gdg.1 G (fun h3 fr3 G3 => ?_)
      simp (disch := first | assumption | omega | (simp only [ya_pi, ya_pj, ya_pa, ya_pr, yo_pi, yo_pj, yo_pa, yf_pi, yf_pj, yf_pa, yh_pi, yh_pj, yh_pa, yt_pi, yt_pj, yt_pa, la_pi, la_pj, la_pa]; assumption)) only [b_X11_tryDeeds_0, b_X11_tryDeeds_14, b_X11_tryDeeds_45, b_X11_tryDeeds_24, b_X11_tryDeeds_33, b_X11_tryDeeds_36, b_X11_tryDeeds_39, i_lit, i_m1, i_31, il_t, il_f, iq_t, iq_f, it_t, it_f, im_e, im_l, im_g, im_g2, nI_add, pk_mul, i_sub, i_div, sdm, i_dec, i_cl, iv_t, bI_or2, bI_t0, bI_one, not_true_eq_false, not_false_eq_true, ↓reduceIte, am_tl, am_tn, am_t0, am_n0, and_true, true_and, List.cons_append, List.nil_append, List.append_nil, z]
      rw [d_do_n z] at G3
      rw [eq] at k
      exact k h3 (fr2.tr fr3) G3
  · rintro g h2 ⟨fr2, gdg, G, eq⟩
    have L2 := fr2.lay L
    have T2 : ty h2 t (s_t S t) := T.fr L ht (fr2.gj (J := N0) (R := N0)) (fun k => by unfold fa_P; omega) (fun k z => z)
    have Y2 := tr_y L2 ht
    have e1 := T2.2.1
    rw [hvs] at e1
    rw [List.drop_length, d_run] at eq
    rw [eq] at k
    rw [b_X11_tryDeeds_16 _ _ _ _ Y2]
    simp (disch := first | assumption | omega | (simp only [ya_pi, ya_pj, ya_pa, ya_pr, yo_pi, yo_pj, yo_pa, yf_pi, yf_pj, yf_pa, yh_pi, yh_pj, yh_pa, yt_pi, yt_pj, yt_pa, la_pi, la_pj, la_pa]; assumption)) only [b_X11_tryDeeds_0, b_X11_tryDeeds_14, b_X11_tryDeeds_45, b_X11_tryDeeds_24, b_X11_tryDeeds_33, b_X11_tryDeeds_36, b_X11_tryDeeds_39, i_lit, i_m1, i_31, il_t, il_f, iq_t, iq_f, it_t, it_f, im_e, im_l, im_g, im_g2, nI_add, pk_mul, i_sub, i_div, sdm, i_dec, i_cl, iv_t, bI_or2, bI_t0, bI_one, not_true_eq_false, not_false_eq_true, ↓reduceIte, am_tl, am_tn, am_t0, am_n0, and_true, true_and, List.cons_append, List.nil_append, List.append_nil, e1]
    exact k h2 fr2 G
def t_perform (S : St) (x : Int32) : Int32 × St := if tC (s_t S) x = nI 0 then (nI (d_run (s_f S) (s_t S x.toNatClampNeg).2).1, if 0 < (d_run (s_f S) (s_t S x.toNatClampNeg).2).1 then deed S (d_run (s_f S) (s_t S x.toNatClampNeg).2).2.2 else S) else (tC (s_t S) x, S)
theorem c_perform {d : Nat} {Q : Option am_V → am_H → Prop} {h : am_H} {S : St} {x : Int32} {l2 l3 : Option am_V} (ok : St_ok S) (C : cI h S) (k : ∀ h', gC h h' → cI h' (t_perform S x).2 → Q (some (v_i (t_perform S x).1)) h') : ex_ (d + 6) 186 0 [some (v_r (some 0)), some (v_i x), l2, l3] [] h Q := by
  have L := C.1
  have T := C.2.2.2.1
  have gd : fa_gd (s_f S) := ok.1.1.1
  unfold t_perform at k
  rcases tr_cs x with ⟨t, ht, rfl⟩ | hx
  · by_cases hm : (s_t S t).1 = mI
    · rw [tC_m ht hm, if_neg nI0_6] at k
      simp (disch := first | assumption | omega | (simp only [ya_pi, ya_pj, ya_pa, ya_pr, yo_pi, yo_pj, yo_pa, yf_pi, yf_pj, yf_pa, yh_pi, yh_pj, yh_pa, yt_pi, yt_pj, yt_pa, la_pi, la_pj, la_pa]; assumption)) only [b_X11_perform_0, b_X11_perform_5, b_X11_perform_12, b_X11_perform_10, b_X11_perform_22, b_X11_perform_31, b_X11_perform_27, i_lit, i_m1, i_31, il_t, il_f, iq_t, iq_f, it_t, it_f, im_e, im_l, im_g, im_g2, nI_add, pk_mul, i_sub, i_div, sdm, i_dec, i_cl, iv_t, bI_or2, bI_t0, bI_one, not_true_eq_false, not_false_eq_true, ↓reduceIte, am_tl, am_tn, am_t0, am_n0, and_true, true_and, List.cons_append, List.nil_append, List.append_nil, c_trayCode L T, tC_m ht hm, nI0_6]
      exact k h gC.rf C
    · rw [tC_y ht hm, if_pos rfl, nI_clamp (by omega)] at k
      have er := tr_ref L ht
      simp (disch := first | assumption | omega | (simp only [ya_pi, ya_pj, ya_pa, ya_pr, yo_pi, yo_pj, yo_pa, yf_pi, yf_pj, yf_pa, yh_pi, yh_pj, yh_pa, yt_pi, yt_pj, yt_pa, la_pi, la_pj, la_pa]; assumption)) only [b_X11_perform_0, b_X11_perform_5, b_X11_perform_12, b_X11_perform_10, b_X11_perform_22, b_X11_perform_31, b_X11_perform_27, i_lit, i_m1, i_31, il_t, il_f, iq_t, iq_f, it_t, it_f, im_e, im_l, im_g, im_g2, nI_add, pk_mul, i_sub, i_div, sdm, i_dec, i_cl, iv_t, bI_or2, bI_t0, bI_one, not_true_eq_false, not_false_eq_true, ↓reduceIte, am_tl, am_tn, am_t0, am_n0, and_true, true_and, List.cons_append, List.nil_append, List.append_nil, c_trayCode L T, tC_y ht hm, er]
      refine c_tryDeeds ok C ht (fun h1 fr1 F1 => ?_)
      have C1 := C.q ok (fr1.le (fun a k z => fa27 z))
      have L1 := C1.1
      have l40 := (T t ht).2.2.1
      have le := d_run_le (f := s_f S) (vs := (s_t S t).2)
      by_cases z : 0 < (d_run (s_f S) (s_t S t).2).1
      · rw [if_pos z] at k
        simp (disch := first | assumption | omega | (simp only [ya_pi, ya_pj, ya_pa, ya_pr, yo_pi, yo_pj, yo_pa, yf_pi, yf_pj, yf_pa, yh_pi, yh_pj, yh_pa, yt_pi, yt_pj, yt_pa, la_pi, la_pj, la_pa]; assumption)) only [b_X11_perform_0, b_X11_perform_5, b_X11_perform_12, b_X11_perform_10, b_X11_perform_22, b_X11_perform_31, b_X11_perform_27, i_lit, i_m1, i_31, il_t, il_f, iq_t, iq_f, it_t, it_f, im_e, im_l, im_g, im_g2, nI_add, pk_mul, i_sub, i_div, sdm, i_dec, i_cl, iv_t, bI_or2, bI_t0, bI_one, not_true_eq_false, not_false_eq_true, ↓reduceIte, am_tl, am_tn, am_t0, am_n0, and_true, true_and, List.cons_append, List.nil_append, List.append_nil]
        refine c_keepTrial ok C1 (gd_run gd) F1 (fun h2 g2 C2 => ?_)
        simp (disch := first | assumption | omega | (simp only [ya_pi, ya_pj, ya_pa, ya_pr, yo_pi, yo_pj, yo_pa, yf_pi, yf_pj, yf_pa, yh_pi, yh_pj, yh_pa, yt_pi, yt_pj, yt_pa, la_pi, la_pj, la_pa]; assumption)) only [b_X11_perform_0, b_X11_perform_5, b_X11_perform_12, b_X11_perform_10, b_X11_perform_22, b_X11_perform_31, b_X11_perform_27, i_lit, i_m1, i_31, il_t, il_f, iq_t, iq_f, it_t, it_f, im_e, im_l, im_g, im_g2, nI_add, pk_mul, i_sub, i_div, sdm, i_dec, i_cl, iv_t, bI_or2, bI_t0, bI_one, not_true_eq_false, not_false_eq_true, ↓reduceIte, am_tl, am_tn, am_t0, am_n0, and_true, true_and, List.cons_append, List.nil_append, List.append_nil]
        exact k h2 (gC.pre fr1 (fun a k z => fa27C z) g2) C2
      · rw [if_neg z] at k
        simp (disch := first | assumption | omega | (simp only [ya_pi, ya_pj, ya_pa, ya_pr, yo_pi, yo_pj, yo_pa, yf_pi, yf_pj, yf_pa, yh_pi, yh_pj, yh_pa, yt_pi, yt_pj, yt_pa, la_pi, la_pj, la_pa]; assumption)) only [b_X11_perform_0, b_X11_perform_5, b_X11_perform_12, b_X11_perform_10, b_X11_perform_22, b_X11_perform_31, b_X11_perform_27, i_lit, i_m1, i_31, il_t, il_f, iq_t, iq_f, it_t, it_f, im_e, im_l, im_g, im_g2, nI_add, pk_mul, i_sub, i_div, sdm, i_dec, i_cl, iv_t, bI_or2, bI_t0, bI_one, not_true_eq_false, not_false_eq_true, ↓reduceIte, am_tl, am_tn, am_t0, am_n0, and_true, true_and, List.cons_append, List.nil_append, List.append_nil]
        exact k h1 (gC.pre fr1 (fun a k z => fa27C z) gC.rf) C1
  · rw [tC_n hx, if_neg nI0_2] at k
    simp (disch := first | assumption | omega | (simp only [ya_pi, ya_pj, ya_pa, ya_pr, yo_pi, yo_pj, yo_pa, yf_pi, yf_pj, yf_pa, yh_pi, yh_pj, yh_pa, yt_pi, yt_pj, yt_pa, la_pi, la_pj, la_pa]; assumption)) only [b_X11_perform_0, b_X11_perform_5, b_X11_perform_12, b_X11_perform_10, b_X11_perform_22, b_X11_perform_31, b_X11_perform_27, i_lit, i_m1, i_31, il_t, il_f, iq_t, iq_f, it_t, it_f, im_e, im_l, im_g, im_g2, nI_add, pk_mul, i_sub, i_div, sdm, i_dec, i_cl, iv_t, bI_or2, bI_t0, bI_one, not_true_eq_false, not_false_eq_true, ↓reduceIte, am_tl, am_tn, am_t0, am_n0, and_true, true_and, List.cons_append, List.nil_append, List.append_nil, c_trayCode L T, tC_n hx, nI0_2]
    exact k h gC.rf C
def t_judge (S : St) (x w : Int32) : Int32 := if tr_ok w then (if tC (s_t S) x = nI 0 then (if w = nI 0 then (if (d_run (s_f S) (s_t S x.toNatClampNeg).2).2.1 = nI 0 then mI else nI (d_run (s_f S) (s_t S x.toNatClampNeg).2).1) else if w = nI 1 then (d_run (s_f S) (s_t S x.toNatClampNeg).2).2.1 else if w = nI 2 then nI (bs (bl (fun c => (fT (d_run (s_f S) (s_t S x.toNatClampNeg).2).2.2 c).1 == 0) (f_n (s_f S)))) else nI (f_lk (d_run (s_f S) (s_t S x.toNatClampNeg).2).2.2)) else tC (s_t S) x) else -2
theorem y_O31 {h : am_H} (L : Lay h) : y_Orders h 31 := by
  refine ⟨fun k t hk => ?_, fun q hq => ?_⟩
  · match k, hk with
    | 0, hk => cases hk; exact la_c L rfl
    | 1, hk => cases hk; exact la_c L rfl
    | 2, hk => cases hk; exact la_c L rfl
    | 3, hk => cases hk; exact la_c L rfl
    | 4, hk => cases hk; exact la_c L rfl
    | 5, hk => cases hk; exact la_c L rfl
    | 6, hk => cases hk; exact la_c L rfl
    | 7, hk => cases hk; exact la_c L rfl
    | 8, hk => cases hk; exact la_c L rfl
    | 9, hk => cases hk; exact la_c L rfl
  · have qs : ∀ q ∈ y_Orders_r, (31 + q.1, q.2.1, 31 + q.2.2) ∈ y_ref := by decide
    exact la_r L (qs q hq)
theorem c_judge {d : Nat} {Q : Option am_V → am_H → Prop} {h : am_H} {S : St} {x w : Int32} {l3 l4 l5 : Option am_V} (ok : St_ok S) (C : cI h S) (k : ∀ h', gC h h' → cI h' S → Q (some (v_i (t_judge S x w))) h') : ex_ (d + 6) 184 0 [some (v_r (some 0)), some (v_i x), some (v_i w), l3, l4, l5] [] h Q := by
  have L := C.1
  have T := C.2.2.2.1
  have gd : fa_gd (s_f S) := ok.1.1.1
  unfold t_judge at k
  rcases tr_cs x with ⟨t, ht, rfl⟩ | hx
  · have Y := tr_y L ht
    have er := tr_ref L ht
    rcases tr_cs w with ⟨u, hu, rfl⟩ | hw
    · rw [if_pos (tr_y4 hu)] at k
      by_cases hm : (s_t S t).1 = mI
      · rw [tC_m ht hm, if_neg nI0_6] at k
        simp (disch := first | assumption | omega | (simp only [ya_pi, ya_pj, ya_pa, ya_pr, yo_pi, yo_pj, yo_pa, yf_pi, yf_pj, yf_pa, yh_pi, yh_pj, yh_pa, yt_pi, yt_pj, yt_pa, la_pi, la_pj, la_pa]; assumption)) only [b_X11_judge_0, b_X11_judge_4, b_X11_judge_16, b_X11_judge_7, b_X11_judge_11, b_X11_judge_19, b_X11_judge_25, b_X11_judge_28, b_X11_judge_34, b_X11_judge_31, b_X11_judge_46, b_X11_judge_51, b_X11_judge_61, b_X11_judge_57, b_X11_judge_154, b_X11_judge_92, b_X11_judge_104, b_X11_judge_127, b_X11_judge_161, b_X11_judge_101, b_X11_judge_97, b_X11_judge_113, b_X11_judge_109, b_X11_judge_138, b_X11_judge_120, b_X11_judge_153, b_X11_judge_123, b_X11_judge_126, i_lit, i_m1, i_31, il_t, il_f, iq_t, iq_f, it_t, it_f, im_e, im_l, im_g, im_g2, nI_add, pk_mul, i_sub, i_div, sdm, i_dec, i_cl, iv_t, bI_or2, bI_t0, bI_one, not_true_eq_false, not_false_eq_true, ↓reduceIte, am_tl, am_tn, am_t0, am_n0, and_true, true_and, List.cons_append, List.nil_append, List.append_nil, c_isTray_y ht, er, c_isMissing L ht (T t ht), hm]
        exact k h gC.rf C
      · rw [tC_y ht hm, if_pos rfl, nI_clamp (by omega)] at k
        simp (disch := first | assumption | omega | (simp only [ya_pi, ya_pj, ya_pa, ya_pr, yo_pi, yo_pj, yo_pa, yf_pi, yf_pj, yf_pa, yh_pi, yh_pj, yh_pa, yt_pi, yt_pj, yt_pa, la_pi, la_pj, la_pa]; assumption)) only [b_X11_judge_0, b_X11_judge_4, b_X11_judge_16, b_X11_judge_7, b_X11_judge_11, b_X11_judge_19, b_X11_judge_25, b_X11_judge_28, b_X11_judge_34, b_X11_judge_31, b_X11_judge_46, b_X11_judge_51, b_X11_judge_61, b_X11_judge_57, b_X11_judge_154, b_X11_judge_92, b_X11_judge_104, b_X11_judge_127, b_X11_judge_161, b_X11_judge_101, b_X11_judge_97, b_X11_judge_113, b_X11_judge_109, b_X11_judge_138, b_X11_judge_120, b_X11_judge_153, b_X11_judge_123, b_X11_judge_126, i_lit, i_m1, i_31, il_t, il_f, iq_t, iq_f, it_t, it_f, im_e, im_l, im_g, im_g2, nI_add, pk_mul, i_sub, i_div, sdm, i_dec, i_cl, iv_t, bI_or2, bI_t0, bI_one, not_true_eq_false, not_false_eq_true, ↓reduceIte, am_tl, am_tn, am_t0, am_n0, and_true, true_and, List.cons_append, List.nil_append, List.append_nil, c_isTray_y ht, er, c_isMissing L ht (T t ht), hm]
        refine c_tryDeeds ok C ht (fun h1 fr1 F1 => ?_)
        have C1 := C.q ok (fr1.le (fun a k z => fa27 z))
        have L1 := C1.1
        have T1 := C1.2.2.2.1 t ht
        have e1 := T1.2.1
        have Y1 := tr_y L1 ht
        have l40 := (T t ht).2.2.1
        have le := d_run_le (f := s_f S) (vs := (s_t S t).2)
        have F10 := F1.1
        have F27 := F1.2.1
        have gdr := gd_run (vs := (s_t S t).2) gd
        have fnr := fn_run (vs := (s_t S t).2) (f := s_f S)
        rcases (show u = 0 ∨ u = 1 ∨ u = 2 ∨ u = 3 by omega) with rfl | rfl | rfl | rfl
        · rw [if_pos rfl] at k
          by_cases z : (d_run (s_f S) (s_t S t).2).1 = (s_t S t).2.length
          · rw [if_pos (d_run_all.2 z)] at k
            simp (disch := first | assumption | omega | (simp only [ya_pi, ya_pj, ya_pa, ya_pr, yo_pi, yo_pj, yo_pa, yf_pi, yf_pj, yf_pa, yh_pi, yh_pj, yh_pa, yt_pi, yt_pj, yt_pa, la_pi, la_pj, la_pa]; assumption)) only [b_X11_judge_0, b_X11_judge_4, b_X11_judge_16, b_X11_judge_7, b_X11_judge_11, b_X11_judge_19, b_X11_judge_25, b_X11_judge_28, b_X11_judge_34, b_X11_judge_31, b_X11_judge_46, b_X11_judge_51, b_X11_judge_61, b_X11_judge_57, b_X11_judge_154, b_X11_judge_92, b_X11_judge_104, b_X11_judge_127, b_X11_judge_161, b_X11_judge_101, b_X11_judge_97, b_X11_judge_113, b_X11_judge_109, b_X11_judge_138, b_X11_judge_120, b_X11_judge_153, b_X11_judge_123, b_X11_judge_126, i_lit, i_m1, i_31, il_t, il_f, iq_t, iq_f, it_t, it_f, im_e, im_l, im_g, im_g2, nI_add, pk_mul, i_sub, i_div, sdm, i_dec, i_cl, iv_t, bI_or2, bI_t0, bI_one, not_true_eq_false, not_false_eq_true, ↓reduceIte, am_tl, am_tn, am_t0, am_n0, and_true, true_and, List.cons_append, List.nil_append, List.append_nil, e1]
            exact k h1 (gC.pre fr1 (fun a k z => fa27C z) gC.rf) C1
          · rw [if_neg (fun y => z (d_run_all.1 y))] at k
            simp (disch := first | assumption | omega | (simp only [ya_pi, ya_pj, ya_pa, ya_pr, yo_pi, yo_pj, yo_pa, yf_pi, yf_pj, yf_pa, yh_pi, yh_pj, yh_pa, yt_pi, yt_pj, yt_pa, la_pi, la_pj, la_pa]; assumption)) only [b_X11_judge_0, b_X11_judge_4, b_X11_judge_16, b_X11_judge_7, b_X11_judge_11, b_X11_judge_19, b_X11_judge_25, b_X11_judge_28, b_X11_judge_34, b_X11_judge_31, b_X11_judge_46, b_X11_judge_51, b_X11_judge_61, b_X11_judge_57, b_X11_judge_154, b_X11_judge_92, b_X11_judge_104, b_X11_judge_127, b_X11_judge_161, b_X11_judge_101, b_X11_judge_97, b_X11_judge_113, b_X11_judge_109, b_X11_judge_138, b_X11_judge_120, b_X11_judge_153, b_X11_judge_123, b_X11_judge_126, i_lit, i_m1, i_31, il_t, il_f, iq_t, iq_f, it_t, it_f, im_e, im_l, im_g, im_g2, nI_add, pk_mul, i_sub, i_div, sdm, i_dec, i_cl, iv_t, bI_or2, bI_t0, bI_one, not_true_eq_false, not_false_eq_true, ↓reduceIte, am_tl, am_tn, am_t0, am_n0, and_true, true_and, List.cons_append, List.nil_append, List.append_nil, e1]
            exact k h1 (gC.pre fr1 (fun a k z => fa27C z) gC.rf) C1
        · rw [if_neg (by decide), if_pos rfl] at k
          by_cases z : (d_run (s_f S) (s_t S t).2).1 = (s_t S t).2.length
          · rw [d_run_all.2 z] at k
            simp (disch := first | assumption | omega | (simp only [ya_pi, ya_pj, ya_pa, ya_pr, yo_pi, yo_pj, yo_pa, yf_pi, yf_pj, yf_pa, yh_pi, yh_pj, yh_pa, yt_pi, yt_pj, yt_pa, la_pi, la_pj, la_pa]; assumption)) only [b_X11_judge_0, b_X11_judge_4, b_X11_judge_16, b_X11_judge_7, b_X11_judge_11, b_X11_judge_19, b_X11_judge_25, b_X11_judge_28, b_X11_judge_34, b_X11_judge_31, b_X11_judge_46, b_X11_judge_51, b_X11_judge_61, b_X11_judge_57, b_X11_judge_154, b_X11_judge_92, b_X11_judge_104, b_X11_judge_127, b_X11_judge_161, b_X11_judge_101, b_X11_judge_97, b_X11_judge_113, b_X11_judge_109, b_X11_judge_138, b_X11_judge_120, b_X11_judge_153, b_X11_judge_123, b_X11_judge_126, i_lit, i_m1, i_31, il_t, il_f, iq_t, iq_f, it_t, it_f, im_e, im_l, im_g, im_g2, nI_add, pk_mul, i_sub, i_div, sdm, i_dec, i_cl, iv_t, bI_or2, bI_t0, bI_one, not_true_eq_false, not_false_eq_true, ↓reduceIte, am_tl, am_tn, am_t0, am_n0, and_true, true_and, List.cons_append, List.nil_append, List.append_nil, e1]
            exact k h1 (gC.pre fr1 (fun a k z => fa27C z) gC.rf) C1
          · have lt : (d_run (s_f S) (s_t S t).2).1 < (s_t S t).2.length := by omega
            rw [d_run_why lt] at k
            simp (disch := first | assumption | omega | (simp only [ya_pi, ya_pj, ya_pa, ya_pr, yo_pi, yo_pj, yo_pa, yf_pi, yf_pj, yf_pa, yh_pi, yh_pj, yh_pa, yt_pi, yt_pj, yt_pa, la_pi, la_pj, la_pa]; assumption)) only [b_X11_judge_0, b_X11_judge_4, b_X11_judge_16, b_X11_judge_7, b_X11_judge_11, b_X11_judge_19, b_X11_judge_25, b_X11_judge_28, b_X11_judge_34, b_X11_judge_31, b_X11_judge_46, b_X11_judge_51, b_X11_judge_61, b_X11_judge_57, b_X11_judge_154, b_X11_judge_92, b_X11_judge_104, b_X11_judge_127, b_X11_judge_161, b_X11_judge_101, b_X11_judge_97, b_X11_judge_113, b_X11_judge_109, b_X11_judge_138, b_X11_judge_120, b_X11_judge_153, b_X11_judge_123, b_X11_judge_126, i_lit, i_m1, i_31, il_t, il_f, iq_t, iq_f, it_t, it_f, im_e, im_l, im_g, im_g2, nI_add, pk_mul, i_sub, i_div, sdm, i_dec, i_cl, iv_t, bI_or2, bI_t0, bI_one, not_true_eq_false, not_false_eq_true, ↓reduceIte, am_tl, am_tn, am_t0, am_n0, and_true, true_and, List.cons_append, List.nil_append, List.append_nil, e1, c_tAt L1 ht T1 lt]
            refine c_doDeed gdr.1 F1 (fun h2 fr2 F2 => ?_)
            simp (disch := first | assumption | omega | (simp only [ya_pi, ya_pj, ya_pa, ya_pr, yo_pi, yo_pj, yo_pa, yf_pi, yf_pj, yf_pa, yh_pi, yh_pj, yh_pa, yt_pi, yt_pj, yt_pa, la_pi, la_pj, la_pa]; assumption)) only [b_X11_judge_0, b_X11_judge_4, b_X11_judge_16, b_X11_judge_7, b_X11_judge_11, b_X11_judge_19, b_X11_judge_25, b_X11_judge_28, b_X11_judge_34, b_X11_judge_31, b_X11_judge_46, b_X11_judge_51, b_X11_judge_61, b_X11_judge_57, b_X11_judge_154, b_X11_judge_92, b_X11_judge_104, b_X11_judge_127, b_X11_judge_161, b_X11_judge_101, b_X11_judge_97, b_X11_judge_113, b_X11_judge_109, b_X11_judge_138, b_X11_judge_120, b_X11_judge_153, b_X11_judge_123, b_X11_judge_126, i_lit, i_m1, i_31, il_t, il_f, iq_t, iq_f, it_t, it_f, im_e, im_l, im_g, im_g2, nI_add, pk_mul, i_sub, i_div, sdm, i_dec, i_cl, iv_t, bI_or2, bI_t0, bI_one, not_true_eq_false, not_false_eq_true, ↓reduceIte, am_tl, am_tn, am_t0, am_n0, and_true, true_and, List.cons_append, List.nil_append, List.append_nil]
            have fr := fr1.tr fr2
            exact k h2 (gC.pre fr (fun a k z => fa27C z) gC.rf) (C.q ok (fr.le (fun a k z => fa27 z)))
        · rw [if_neg (by decide), if_neg (by decide), if_pos rfl] at k
          have go : ∀ b, ex_ (d + 6) 184 127 [some (v_r (some 0)), some (v_i (nI t)), some (v_i (nI 2)), some (v_r (some (85 + 2 * t))), some (v_i (nI (d_run (s_f S) (s_t S t).2).1)), some (v_i (nI b))] [] h1 Q := by
            intro b
            rw [b_X11_judge_127 _ _ _ _ _ _ L1]
            refine c_settleAll gdr.1 F1 (y_O31 L1) (by omega) (fun h2 fr2 (O2 : or_at h2 31 (fT (d_run (s_f S) (s_t S t).2).2.2) (f_n (d_run (s_f S) (s_t S t).2).2.2)) => ?_)
            have L2 := fr2.lay L1
            have F2 : h_i h2 27 0 = nI (f_n (d_run (s_f S) (s_t S t).2).2.2) := by rw [fr2.i (by unfold or_A; omega)]; exact F27
            simp (disch := first | assumption | omega | (simp only [ya_pi, ya_pj, ya_pa, ya_pr, yo_pi, yo_pj, yo_pa, yf_pi, yf_pj, yf_pa, yh_pi, yh_pj, yh_pa, yt_pi, yt_pj, yt_pa, la_pi, la_pj, la_pa]; assumption)) only [b_X11_judge_0, b_X11_judge_4, b_X11_judge_16, b_X11_judge_7, b_X11_judge_11, b_X11_judge_19, b_X11_judge_25, b_X11_judge_28, b_X11_judge_34, b_X11_judge_31, b_X11_judge_46, b_X11_judge_51, b_X11_judge_61, b_X11_judge_57, b_X11_judge_154, b_X11_judge_92, b_X11_judge_104, b_X11_judge_127, b_X11_judge_161, b_X11_judge_101, b_X11_judge_97, b_X11_judge_113, b_X11_judge_109, b_X11_judge_138, b_X11_judge_120, b_X11_judge_153, b_X11_judge_123, b_X11_judge_126, i_lit, i_m1, i_31, il_t, il_f, iq_t, iq_f, it_t, it_f, im_e, im_l, im_g, im_g2, nI_add, pk_mul, i_sub, i_div, sdm, i_dec, i_cl, iv_t, bI_or2, bI_t0, bI_one, not_true_eq_false, not_false_eq_true, ↓reduceIte, am_tl, am_tn, am_t0, am_n0, and_true, true_and, List.cons_append, List.nil_append, List.append_nil, F2, c_bitsOf O2 gdr.1.1 (show 0 < 10 by omega) (fT_ok gdr.1)]
            rw [fnr]
            have fr : am_fr h h2 cS := (fr1.le (fun a k z => fa27 z)).tr (fr2.le (fun a k z => by unfold or_A at z; unfold cS; omega))
            exact k h2 (gC.fr fr (fun a k z => z.C)) (C.q ok fr)
          by_cases z : (d_run (s_f S) (s_t S t).2).1 = (s_t S t).2.length
          · simp (disch := first | assumption | omega | (simp only [ya_pi, ya_pj, ya_pa, ya_pr, yo_pi, yo_pj, yo_pa, yf_pi, yf_pj, yf_pa, yh_pi, yh_pj, yh_pa, yt_pi, yt_pj, yt_pa, la_pi, la_pj, la_pa]; assumption)) only [b_X11_judge_46, b_X11_judge_51, b_X11_judge_57, b_X11_judge_61, i_lit, i_m1, i_31, il_t, il_f, iq_t, iq_f, it_t, it_f, im_e, im_l, im_g, im_g2, nI_add, pk_mul, i_sub, i_div, sdm, i_dec, i_cl, iv_t, bI_or2, bI_t0, bI_one, not_true_eq_false, not_false_eq_true, ↓reduceIte, am_tl, am_tn, am_t0, am_n0, and_true, true_and, List.cons_append, List.nil_append, List.append_nil, e1]
            exact go 1
          · simp (disch := first | assumption | omega | (simp only [ya_pi, ya_pj, ya_pa, ya_pr, yo_pi, yo_pj, yo_pa, yf_pi, yf_pj, yf_pa, yh_pi, yh_pj, yh_pa, yt_pi, yt_pj, yt_pa, la_pi, la_pj, la_pa]; assumption)) only [b_X11_judge_46, b_X11_judge_51, b_X11_judge_57, b_X11_judge_61, i_lit, i_m1, i_31, il_t, il_f, iq_t, iq_f, it_t, it_f, im_e, im_l, im_g, im_g2, nI_add, pk_mul, i_sub, i_div, sdm, i_dec, i_cl, iv_t, bI_or2, bI_t0, bI_one, not_true_eq_false, not_false_eq_true, ↓reduceIte, am_tl, am_tn, am_t0, am_n0, and_true, true_and, List.cons_append, List.nil_append, List.append_nil, e1]
            exact go 0
        · rw [if_neg (by decide), if_neg (by decide), if_neg (by decide)] at k
          by_cases z : (d_run (s_f S) (s_t S t).2).1 = (s_t S t).2.length
          · simp (disch := first | assumption | omega | (simp only [ya_pi, ya_pj, ya_pa, ya_pr, yo_pi, yo_pj, yo_pa, yf_pi, yf_pj, yf_pa, yh_pi, yh_pj, yh_pa, yt_pi, yt_pj, yt_pa, la_pi, la_pj, la_pa]; assumption)) only [b_X11_judge_0, b_X11_judge_4, b_X11_judge_16, b_X11_judge_7, b_X11_judge_11, b_X11_judge_19, b_X11_judge_25, b_X11_judge_28, b_X11_judge_34, b_X11_judge_31, b_X11_judge_46, b_X11_judge_51, b_X11_judge_61, b_X11_judge_57, b_X11_judge_154, b_X11_judge_92, b_X11_judge_104, b_X11_judge_127, b_X11_judge_161, b_X11_judge_101, b_X11_judge_97, b_X11_judge_113, b_X11_judge_109, b_X11_judge_138, b_X11_judge_120, b_X11_judge_153, b_X11_judge_123, b_X11_judge_126, i_lit, i_m1, i_31, il_t, il_f, iq_t, iq_f, it_t, it_f, im_e, im_l, im_g, im_g2, nI_add, pk_mul, i_sub, i_div, sdm, i_dec, i_cl, iv_t, bI_or2, bI_t0, bI_one, not_true_eq_false, not_false_eq_true, ↓reduceIte, am_tl, am_tn, am_t0, am_n0, and_true, true_and, List.cons_append, List.nil_append, List.append_nil, e1, c_links gdr.1 F1]
            exact k h1 (gC.pre fr1 (fun a k z => fa27C z) gC.rf) C1
          · simp (disch := first | assumption | omega | (simp only [ya_pi, ya_pj, ya_pa, ya_pr, yo_pi, yo_pj, yo_pa, yf_pi, yf_pj, yf_pa, yh_pi, yh_pj, yh_pa, yt_pi, yt_pj, yt_pa, la_pi, la_pj, la_pa]; assumption)) only [b_X11_judge_0, b_X11_judge_4, b_X11_judge_16, b_X11_judge_7, b_X11_judge_11, b_X11_judge_19, b_X11_judge_25, b_X11_judge_28, b_X11_judge_34, b_X11_judge_31, b_X11_judge_46, b_X11_judge_51, b_X11_judge_61, b_X11_judge_57, b_X11_judge_154, b_X11_judge_92, b_X11_judge_104, b_X11_judge_127, b_X11_judge_161, b_X11_judge_101, b_X11_judge_97, b_X11_judge_113, b_X11_judge_109, b_X11_judge_138, b_X11_judge_120, b_X11_judge_153, b_X11_judge_123, b_X11_judge_126, i_lit, i_m1, i_31, il_t, il_f, iq_t, iq_f, it_t, it_f, im_e, im_l, im_g, im_g2, nI_add, pk_mul, i_sub, i_div, sdm, i_dec, i_cl, iv_t, bI_or2, bI_t0, bI_one, not_true_eq_false, not_false_eq_true, ↓reduceIte, am_tl, am_tn, am_t0, am_n0, and_true, true_and, List.cons_append, List.nil_append, List.append_nil, e1, c_links gdr.1 F1]
            exact k h1 (gC.pre fr1 (fun a k z => fa27C z) gC.rf) C1
    · rw [if_neg hw] at k
      by_cases z : w < nI 0
      · simp (disch := first | assumption | omega | (simp only [ya_pi, ya_pj, ya_pa, ya_pr, yo_pi, yo_pj, yo_pa, yf_pi, yf_pj, yf_pa, yh_pi, yh_pj, yh_pa, yt_pi, yt_pj, yt_pa, la_pi, la_pj, la_pa]; assumption)) only [b_X11_judge_0, b_X11_judge_4, b_X11_judge_16, b_X11_judge_7, b_X11_judge_11, b_X11_judge_19, b_X11_judge_25, b_X11_judge_28, b_X11_judge_34, b_X11_judge_31, b_X11_judge_46, b_X11_judge_51, b_X11_judge_61, b_X11_judge_57, b_X11_judge_154, b_X11_judge_92, b_X11_judge_104, b_X11_judge_127, b_X11_judge_161, b_X11_judge_101, b_X11_judge_97, b_X11_judge_113, b_X11_judge_109, b_X11_judge_138, b_X11_judge_120, b_X11_judge_153, b_X11_judge_123, b_X11_judge_126, i_lit, i_m1, i_31, il_t, il_f, iq_t, iq_f, it_t, it_f, im_e, im_l, im_g, im_g2, nI_add, pk_mul, i_sub, i_div, sdm, i_dec, i_cl, iv_t, bI_or2, bI_t0, bI_one, not_true_eq_false, not_false_eq_true, ↓reduceIte, am_tl, am_tn, am_t0, am_n0, and_true, true_and, List.cons_append, List.nil_append, List.append_nil, c_isTray_y ht, z]
        exact k h gC.rf C
      · obtain ⟨u, hu, rfl⟩ := nI_of z
        have : 4 ≤ u := by
          rcases Nat.lt_or_ge u 4 with y | y
          · exact absurd (tr_y4 y) hw
          · exact y
        simp (disch := first | assumption | omega | (simp only [ya_pi, ya_pj, ya_pa, ya_pr, yo_pi, yo_pj, yo_pa, yf_pi, yf_pj, yf_pa, yh_pi, yh_pj, yh_pa, yt_pi, yt_pj, yt_pa, la_pi, la_pj, la_pa]; assumption)) only [b_X11_judge_0, b_X11_judge_4, b_X11_judge_16, b_X11_judge_7, b_X11_judge_11, b_X11_judge_19, b_X11_judge_25, b_X11_judge_28, b_X11_judge_34, b_X11_judge_31, b_X11_judge_46, b_X11_judge_51, b_X11_judge_61, b_X11_judge_57, b_X11_judge_154, b_X11_judge_92, b_X11_judge_104, b_X11_judge_127, b_X11_judge_161, b_X11_judge_101, b_X11_judge_97, b_X11_judge_113, b_X11_judge_109, b_X11_judge_138, b_X11_judge_120, b_X11_judge_153, b_X11_judge_123, b_X11_judge_126, i_lit, i_m1, i_31, il_t, il_f, iq_t, iq_f, it_t, it_f, im_e, im_l, im_g, im_g2, nI_add, pk_mul, i_sub, i_div, sdm, i_dec, i_cl, iv_t, bI_or2, bI_t0, bI_one, not_true_eq_false, not_false_eq_true, ↓reduceIte, am_tl, am_tn, am_t0, am_n0, and_true, true_and, List.cons_append, List.nil_append, List.append_nil, c_isTray_y ht]
        exact k h gC.rf C
  · have : Q (some (v_i (-2))) h := by
      have := k h gC.rf C
      rw [tC_n hx, if_neg nI0_2] at this
      split at this <;> exact this
    simp (disch := first | assumption | omega | (simp only [ya_pi, ya_pj, ya_pa, ya_pr, yo_pi, yo_pj, yo_pa, yf_pi, yf_pj, yf_pa, yh_pi, yh_pj, yh_pa, yt_pi, yt_pj, yt_pa, la_pi, la_pj, la_pa]; assumption)) only [b_X11_judge_0, b_X11_judge_4, b_X11_judge_16, b_X11_judge_7, b_X11_judge_11, b_X11_judge_19, b_X11_judge_25, b_X11_judge_28, b_X11_judge_34, b_X11_judge_31, b_X11_judge_46, b_X11_judge_51, b_X11_judge_61, b_X11_judge_57, b_X11_judge_154, b_X11_judge_92, b_X11_judge_104, b_X11_judge_127, b_X11_judge_161, b_X11_judge_101, b_X11_judge_97, b_X11_judge_113, b_X11_judge_109, b_X11_judge_138, b_X11_judge_120, b_X11_judge_153, b_X11_judge_123, b_X11_judge_126, i_lit, i_m1, i_31, il_t, il_f, iq_t, iq_f, it_t, it_f, im_e, im_l, im_g, im_g2, nI_add, pk_mul, i_sub, i_div, sdm, i_dec, i_cl, iv_t, bI_or2, bI_t0, bI_one, not_true_eq_false, not_false_eq_true, ↓reduceIte, am_tl, am_tn, am_t0, am_n0, and_true, true_and, List.cons_append, List.nil_append, List.append_nil, c_isTray_n hx]
    exact this
/-! days -/
def nx (x : Int32) : Int32 := nI 1103515245 * x + nI 12345
def u16 (x : Int32) : Nat := (x.toUInt32 >>> (16 : UInt32)).toNat
theorem u16_lt (x : Int32) : u16 x < 65536 := by
  unfold u16
  rw [UInt32.toNat_shiftRight, Nat.shiftRight_eq_div_pow]
  have : x.toUInt32.toNat < 4294967296 := x.toUInt32.toNat_lt
  show x.toUInt32.toNat / 2 ^ 16 < 65536
  omega
theorem u16_e (x : Int32) : (x.toUInt32 >>> (Int32.toUInt32 (nI 16) &&& Int32.toUInt32 (nI 31))).toInt32 = nI (u16 x) := by
  have h1 : (Int32.toUInt32 (nI 16) &&& Int32.toUInt32 (nI 31)) = (16 : UInt32) := by decide
  rw [h1]
  apply Int32.toBitVec_inj.1
  show (x.toUInt32 >>> (16 : UInt32)).toBitVec = BitVec.ofNat 32 (u16 x)
  unfold u16
  apply BitVec.eq_of_toNat_eq
  rw [BitVec.toNat_ofNat]
  have : (x.toUInt32 >>> (16 : UInt32)).toNat < 4294967296 := (x.toUInt32 >>> (16 : UInt32)).toNat_lt
  rw [Nat.mod_eq_of_lt this]
  rfl
def ddn (q n : Nat) : Nat := if q = 0 then 10 + n % 10 else if q < 3 then 100 + n % 100 else if q = 3 then 200 + n % 100 else if q = 4 then 300 + n % 100 else 1000 + n % 300
def dv (x : Int32) : Nat := ddn (u16 (nx x) % 6) (u16 (nx (nx x)))
def dy : Nat → fa_S → Int32 → Nat × fa_S
  | 0, f, _ => (0, f)
  | n + 1, f, x => if (d_do f (lN (dv x))).1 = nI 0 then ((dy n (d_do f (lN (dv x))).2 (nx (nx x))).1 + 1, (dy n (d_do f (lN (dv x))).2 (nx (nx x))).2) else dy n f (nx (nx x))
theorem dy_le : ∀ n {f : fa_S} {x : Int32}, (dy n f x).1 ≤ n := by
  intro n
  induction n with
  | zero => intro f x; exact Nat.le_refl _
  | succ n ih =>
    intro f x
    rw [dy]
    split
    · exact Nat.succ_le_succ ih
    · exact Nat.le_succ_of_le ih
theorem dy_gd : ∀ n {f : fa_S} {x : Int32}, fa_gd f → fa_gd (dy n f x).2 ∧ f_n (dy n f x).2 = f_n f := by
  intro n
  induction n with
  | zero => intro f x gd; exact ⟨gd, rfl⟩
  | succ n ih =>
    intro f x gd
    rw [dy]
    split
    · exact ⟨(ih (gd_do gd)).1, (ih (gd_do gd)).2.trans fn_do⟩
    · exact ih gd
def t_day (S : St) (x n : Int32) : Int32 × St := if ¬ n < nI 1 ∧ n ≤ nI 40 then (nI (dy n.toNatClampNeg (s_f S) x).1, if 0 < (dy n.toNatClampNeg (s_f S) x).1 then deed S (dy n.toNatClampNeg (s_f S) x).2 else S) else (-3, S)
theorem dd_lt {q n : Nat} : ddn q n < 1300 := by
  unfold ddn
  repeat' split
  all_goals omega
theorem c_drawnDeed {d : Nat} {Q : Option am_V → am_H → Prop} {h : am_H} {q n : Nat} (hq : q < 6) (hn : n < 65536) : ex_ d 188 0 [some (v_i (nI q)), some (v_i (nI n))] [] h Q ↔ Q (some (v_i (nI (ddn q n)))) h := by
  unfold ddn
  rcases (show q = 0 ∨ q = 1 ∨ q = 2 ∨ q = 3 ∨ q = 4 ∨ q = 5 by omega) with rfl | rfl | rfl | rfl | rfl | rfl
  all_goals simp (disch := first | assumption | omega | (simp only [ya_pi, ya_pj, ya_pa, ya_pr, yo_pi, yo_pj, yo_pa, yf_pi, yf_pj, yf_pa, yh_pi, yh_pj, yh_pa, yt_pi, yt_pj, yt_pa, la_pi, la_pj, la_pa]; assumption)) only [b_X11_drawnDeed_0, b_X11_drawnDeed_70, b_X11_drawnDeed_36, b_X11_drawnDeed_44, b_X11_drawnDeed_52, b_X11_drawnDeed_61, i_lit, i_m1, i_31, il_t, il_f, iq_t, iq_f, it_t, it_f, im_e, im_l, im_g, im_g2, nI_add, pk_mul, i_sub, i_div, sdm, i_dec, i_cl, iv_t, bI_or2, bI_t0, bI_one, not_true_eq_false, not_false_eq_true, ↓reduceIte, am_tl, am_tn, am_t0, am_n0, and_true, true_and, List.cons_append, List.nil_append, List.append_nil]
  all_goals rfl
theorem c_day {d : Nat} {Q : Option am_V → am_H → Prop} {h : am_H} {S : St} {x n : Int32} {l3 l4 l5 l6 : Option am_V} (ok : St_ok S) (C : cI h S) (k : ∀ h', gC h h' → cI h' (t_day S x n).2 → Q (some (v_i (t_day S x n).1)) h') : ex_ (d + 6) 189 0 [some (v_r (some 0)), some (v_i x), some (v_i n), l3, l4, l5, l6] [] h Q := by
  have L := C.1
  have gd : fa_gd (s_f S) := ok.1.1.1
  unfold t_day at k
  by_cases z : n < nI 1
  · rw [if_neg (fun w => w.1 z)] at k
    simp (disch := first | assumption | omega | (simp only [ya_pi, ya_pj, ya_pa, ya_pr, yo_pi, yo_pj, yo_pa, yf_pi, yf_pj, yf_pa, yh_pi, yh_pj, yh_pa, yt_pi, yt_pj, yt_pa, la_pi, la_pj, la_pa]; assumption)) only [b_X11_day_0, b_X11_day_11, b_X11_day_5, b_X11_day_14, b_X11_day_28, b_X11_day_90, b_X11_day_42, b_X11_day_99, b_X11_day_95, b_X11_day_46, b_X11_day_60, b_X11_day_74, b_X11_day_78, b_X11_day_84, b_X11_day_81, i_lit, i_m1, i_31, il_t, il_f, iq_t, iq_f, it_t, it_f, im_e, im_l, im_g, im_g2, nI_add, pk_mul, i_sub, i_div, sdm, i_dec, i_cl, iv_t, bI_or2, bI_t0, bI_one, not_true_eq_false, not_false_eq_true, ↓reduceIte, am_tl, am_tn, am_t0, am_n0, and_true, true_and, List.cons_append, List.nil_append, List.append_nil, z]
    exact k h gC.rf C
  · obtain ⟨n, h1, hn, rfl⟩ := lt_1 z
    by_cases y : n ≤ 40
    · rw [if_pos ⟨z, nI_le y (by omega)⟩, nI_clamp hn] at k
      simp (disch := first | assumption | omega | (simp only [ya_pi, ya_pj, ya_pa, ya_pr, yo_pi, yo_pj, yo_pa, yf_pi, yf_pj, yf_pa, yh_pi, yh_pj, yh_pa, yt_pi, yt_pj, yt_pa, la_pi, la_pj, la_pa]; assumption)) only [b_X11_day_0, b_X11_day_11, b_X11_day_5, b_X11_day_14, b_X11_day_28, b_X11_day_90, b_X11_day_42, b_X11_day_99, b_X11_day_95, b_X11_day_46, b_X11_day_60, b_X11_day_74, b_X11_day_78, b_X11_day_84, b_X11_day_81, i_lit, i_m1, i_31, il_t, il_f, iq_t, iq_f, it_t, it_f, im_e, im_l, im_g, im_g2, nI_add, pk_mul, i_sub, i_div, sdm, i_dec, i_cl, iv_t, bI_or2, bI_t0, bI_one, not_true_eq_false, not_false_eq_true, ↓reduceIte, am_tl, am_tn, am_t0, am_n0, and_true, true_and, List.cons_append, List.nil_append, List.append_nil]
      refine c_copyFrom gd.1 (y_F L (by omega)) C.cQ.2.1 (by omega) (fun h1 fr1 F1 => ?_)
      have L1 := fr1.lay L
      simp (disch := first | assumption | omega | (simp only [ya_pi, ya_pj, ya_pa, ya_pr, yo_pi, yo_pj, yo_pa, yf_pi, yf_pj, yf_pa, yh_pi, yh_pj, yh_pa, yt_pi, yt_pj, yt_pa, la_pi, la_pj, la_pa]; assumption)) only [b_X11_day_0, b_X11_day_11, b_X11_day_5, b_X11_day_14, b_X11_day_28, b_X11_day_90, b_X11_day_42, b_X11_day_99, b_X11_day_95, b_X11_day_46, b_X11_day_60, b_X11_day_74, b_X11_day_78, b_X11_day_84, b_X11_day_81, i_lit, i_m1, i_31, il_t, il_f, iq_t, iq_f, it_t, it_f, im_e, im_l, im_g, im_g2, nI_add, pk_mul, i_sub, i_div, sdm, i_dec, i_cl, iv_t, bI_or2, bI_t0, bI_one, not_true_eq_false, not_false_eq_true, ↓reduceIte, am_tl, am_tn, am_t0, am_n0, and_true, true_and, List.cons_append, List.nil_append, List.append_nil]
      generalize hf : s_f S = f at k gd F1
      refine lp_up n (fun i (s : fa_S × Int32 × Nat × Option am_V) => [some (v_r (some 0)), some (v_i x), some (v_i (nI n)), some (v_i s.2.1), some (v_i (nI s.2.2.1)), some (v_i (nI i)), s.2.2.2]) (fun i s h' => am_fr h h' (fa_P 27) ∧ fa_gd s.1 ∧ fa_at h' 27 s.1 ∧ s.2.2.1 ≤ i ∧ dy n f x = (s.2.2.1 + (dy (n - i) s.1 s.2.1).1, (dy (n - i) s.1 s.2.1).2)) ?_ ?_ (Nat.zero_le _) ⟨fr1, gd, F1, Nat.le_refl _, by rw [Nat.sub_zero, Nat.zero_add]⟩ (s := (f, x, 0, l6))
      · rintro i ⟨g, x1, m, lx⟩ h2 hi ⟨fr2, gdg, G, hm, eq⟩ nxt
        dsimp only at gdg G hm eq ⊢
        have L2 := fr2.lay L
        have G0 := G.1
        have l1 := u16_lt (nx x1)
        have l2 := u16_lt (nx (nx x1))
        have l3 : u16 (nx x1) % 6 < 6 := Nat.mod_lt _ (by omega)
        have lv := dd_lt (q := u16 (nx x1) % 6) (n := u16 (nx (nx x1)))
        have e1 : nI 1103515245 * x1 + nI 12345 = nx x1 := rfl
        have e2 : nI 1103515245 * nx x1 + nI 12345 = nx (nx x1) := rfl
        have e3 : ddn (u16 (nx x1) % 6) (u16 (nx (nx x1))) = dv x1 := rfl
        have l4 : dv x1 < 2147483648 := by rw [← e3]; omega
        rw [show n - i = (n - (i + 1)) + 1 from by omega, dy] at eq
        rw [b_X11_day_36 _ _ _ _ _ _ _ _]
        by_cases w : (d_do g (lN (dv x1))).1 = nI 0
        · rw [if_pos w] at eq
          simp (disch := first | assumption | omega | (simp only [ya_pi, ya_pj, ya_pa, ya_pr, yo_pi, yo_pj, yo_pa, yf_pi, yf_pj, yf_pa, yh_pi, yh_pj, yh_pa, yt_pi, yt_pj, yt_pa, la_pi, la_pj, la_pa]; assumption)) only [b_X11_day_0, b_X11_day_11, b_X11_day_5, b_X11_day_14, b_X11_day_28, b_X11_day_90, b_X11_day_42, b_X11_day_99, b_X11_day_95, b_X11_day_46, b_X11_day_60, b_X11_day_74, b_X11_day_78, b_X11_day_84, b_X11_day_81, b_X11_nextDraw_0, i_lit, i_m1, i_31, il_t, il_f, iq_t, iq_f, it_t, it_f, im_e, im_l, im_g, im_g2, nI_add, pk_mul, i_sub, i_div, sdm, i_dec, i_cl, iv_t, bI_or2, bI_t0, bI_one, not_true_eq_false, not_false_eq_true, ↓reduceIte, am_tl, am_tn, am_t0, am_n0, and_true, true_and, List.cons_append, List.nil_append, List.append_nil, e1, e2, u16_e, c_drawnDeed l3 l2, e3, nI_l]
          refine c_doDeed gdg.1 G (fun h3 fr3 G3 => ?_)
          simp (disch := first | assumption | omega | (simp only [ya_pi, ya_pj, ya_pa, ya_pr, yo_pi, yo_pj, yo_pa, yf_pi, yf_pj, yf_pa, yh_pi, yh_pj, yh_pa, yt_pi, yt_pj, yt_pa, la_pi, la_pj, la_pa]; assumption)) only [b_X11_day_0, b_X11_day_11, b_X11_day_5, b_X11_day_14, b_X11_day_28, b_X11_day_90, b_X11_day_42, b_X11_day_99, b_X11_day_95, b_X11_day_46, b_X11_day_60, b_X11_day_74, b_X11_day_78, b_X11_day_84, b_X11_day_81, i_lit, i_m1, i_31, il_t, il_f, iq_t, iq_f, it_t, it_f, im_e, im_l, im_g, im_g2, nI_add, pk_mul, i_sub, i_div, sdm, i_dec, i_cl, iv_t, bI_or2, bI_t0, bI_one, not_true_eq_false, not_false_eq_true, ↓reduceIte, am_tl, am_tn, am_t0, am_n0, and_true, true_and, List.cons_append, List.nil_append, List.append_nil, w]
          refine nxt ((d_do g (lN (dv x1))).2, nx (nx x1), m + 1, _) h3 ⟨fr2.tr fr3, gd_do gdg, G3, by dsimp only; omega, ?_⟩
          rw [eq]
          dsimp only
          congr 1
          omega
        · rw [if_neg w] at eq
          simp (disch := first | assumption | omega | (simp only [ya_pi, ya_pj, ya_pa, ya_pr, yo_pi, yo_pj, yo_pa, yf_pi, yf_pj, yf_pa, yh_pi, yh_pj, yh_pa, yt_pi, yt_pj, yt_pa, la_pi, la_pj, la_pa]; assumption)) only [b_X11_day_0, b_X11_day_11, b_X11_day_5, b_X11_day_14, b_X11_day_28, b_X11_day_90, b_X11_day_42, b_X11_day_99, b_X11_day_95, b_X11_day_46, b_X11_day_60, b_X11_day_74, b_X11_day_78, b_X11_day_84, b_X11_day_81, b_X11_nextDraw_0, i_lit, i_m1, i_31, il_t, il_f, iq_t, iq_f, it_t, it_f, im_e, im_l, im_g, im_g2, nI_add, pk_mul, i_sub, i_div, sdm, i_dec, i_cl, iv_t, bI_or2, bI_t0, bI_one, not_true_eq_false, not_false_eq_true, ↓reduceIte, am_tl, am_tn, am_t0, am_n0, and_true, true_and, List.cons_append, List.nil_append, List.append_nil, e1, e2, u16_e, c_drawnDeed l3 l2, e3, nI_l]
          refine c_doDeed gdg.1 G (fun h3 fr3 G3 => ?_)
          rw [d_do_n w] at G3
          simp (disch := first | assumption | omega | (simp only [ya_pi, ya_pj, ya_pa, ya_pr, yo_pi, yo_pj, yo_pa, yf_pi, yf_pj, yf_pa, yh_pi, yh_pj, yh_pa, yt_pi, yt_pj, yt_pa, la_pi, la_pj, la_pa]; assumption)) only [b_X11_day_0, b_X11_day_11, b_X11_day_5, b_X11_day_14, b_X11_day_28, b_X11_day_90, b_X11_day_42, b_X11_day_99, b_X11_day_95, b_X11_day_46, b_X11_day_60, b_X11_day_74, b_X11_day_78, b_X11_day_84, b_X11_day_81, i_lit, i_m1, i_31, il_t, il_f, iq_t, iq_f, it_t, it_f, im_e, im_l, im_g, im_g2, nI_add, pk_mul, i_sub, i_div, sdm, i_dec, i_cl, iv_t, bI_or2, bI_t0, bI_one, not_true_eq_false, not_false_eq_true, ↓reduceIte, am_tl, am_tn, am_t0, am_n0, and_true, true_and, List.cons_append, List.nil_append, List.append_nil, w]
          exact nxt (g, nx (nx x1), m, _) h3 ⟨fr2.tr fr3, gdg, G3, by dsimp only; omega, eq⟩
      · rintro ⟨g, x1, m, lx⟩ h2 ⟨fr2, gdg, G, hm, eq⟩
        dsimp only at gdg G hm eq ⊢
        rw [Nat.sub_self, dy] at eq
        rw [eq] at k
        dsimp only at k
        rw [Nat.add_zero] at k
        have C2 := C.q ok (fr2.le (fun a k z => fa27 z))
        have L2 := C2.1
        rw [b_X11_day_36 _ _ _ _ _ _ _ _]
        by_cases w : 0 < m
        · rw [if_pos w] at k
          simp (disch := first | assumption | omega | (simp only [ya_pi, ya_pj, ya_pa, ya_pr, yo_pi, yo_pj, yo_pa, yf_pi, yf_pj, yf_pa, yh_pi, yh_pj, yh_pa, yt_pi, yt_pj, yt_pa, la_pi, la_pj, la_pa]; assumption)) only [b_X11_day_0, b_X11_day_11, b_X11_day_5, b_X11_day_14, b_X11_day_28, b_X11_day_90, b_X11_day_42, b_X11_day_99, b_X11_day_95, b_X11_day_46, b_X11_day_60, b_X11_day_74, b_X11_day_78, b_X11_day_84, b_X11_day_81, i_lit, i_m1, i_31, il_t, il_f, iq_t, iq_f, it_t, it_f, im_e, im_l, im_g, im_g2, nI_add, pk_mul, i_sub, i_div, sdm, i_dec, i_cl, iv_t, bI_or2, bI_t0, bI_one, not_true_eq_false, not_false_eq_true, ↓reduceIte, am_tl, am_tn, am_t0, am_n0, and_true, true_and, List.cons_append, List.nil_append, List.append_nil]
          refine c_keepTrial ok C2 gdg G (fun h3 g3 C3 => ?_)
          simp (disch := first | assumption | omega | (simp only [ya_pi, ya_pj, ya_pa, ya_pr, yo_pi, yo_pj, yo_pa, yf_pi, yf_pj, yf_pa, yh_pi, yh_pj, yh_pa, yt_pi, yt_pj, yt_pa, la_pi, la_pj, la_pa]; assumption)) only [b_X11_day_0, b_X11_day_11, b_X11_day_5, b_X11_day_14, b_X11_day_28, b_X11_day_90, b_X11_day_42, b_X11_day_99, b_X11_day_95, b_X11_day_46, b_X11_day_60, b_X11_day_74, b_X11_day_78, b_X11_day_84, b_X11_day_81, i_lit, i_m1, i_31, il_t, il_f, iq_t, iq_f, it_t, it_f, im_e, im_l, im_g, im_g2, nI_add, pk_mul, i_sub, i_div, sdm, i_dec, i_cl, iv_t, bI_or2, bI_t0, bI_one, not_true_eq_false, not_false_eq_true, ↓reduceIte, am_tl, am_tn, am_t0, am_n0, and_true, true_and, List.cons_append, List.nil_append, List.append_nil]
          exact k h3 (gC.pre fr2 (fun a k z => fa27C z) g3) C3
        · rw [if_neg w] at k
          simp (disch := first | assumption | omega | (simp only [ya_pi, ya_pj, ya_pa, ya_pr, yo_pi, yo_pj, yo_pa, yf_pi, yf_pj, yf_pa, yh_pi, yh_pj, yh_pa, yt_pi, yt_pj, yt_pa, la_pi, la_pj, la_pa]; assumption)) only [b_X11_day_0, b_X11_day_11, b_X11_day_5, b_X11_day_14, b_X11_day_28, b_X11_day_90, b_X11_day_42, b_X11_day_99, b_X11_day_95, b_X11_day_46, b_X11_day_60, b_X11_day_74, b_X11_day_78, b_X11_day_84, b_X11_day_81, i_lit, i_m1, i_31, il_t, il_f, iq_t, iq_f, it_t, it_f, im_e, im_l, im_g, im_g2, nI_add, pk_mul, i_sub, i_div, sdm, i_dec, i_cl, iv_t, bI_or2, bI_t0, bI_one, not_true_eq_false, not_false_eq_true, ↓reduceIte, am_tl, am_tn, am_t0, am_n0, and_true, true_and, List.cons_append, List.nil_append, List.append_nil]
          exact k h2 (gC.pre fr2 (fun a k z => fa27C z) gC.rf) C2
    · rw [if_neg (fun w => y ((nI_leI hn (by omega)).1 w.2))] at k
      simp (disch := first | assumption | omega | (simp only [ya_pi, ya_pj, ya_pa, ya_pr, yo_pi, yo_pj, yo_pa, yf_pi, yf_pj, yf_pa, yh_pi, yh_pj, yh_pa, yt_pi, yt_pj, yt_pa, la_pi, la_pj, la_pa]; assumption)) only [b_X11_day_0, b_X11_day_11, b_X11_day_5, b_X11_day_14, b_X11_day_28, b_X11_day_90, b_X11_day_42, b_X11_day_99, b_X11_day_95, b_X11_day_46, b_X11_day_60, b_X11_day_74, b_X11_day_78, b_X11_day_84, b_X11_day_81, i_lit, i_m1, i_31, il_t, il_f, iq_t, iq_f, it_t, it_f, im_e, im_l, im_g, im_g2, nI_add, pk_mul, i_sub, i_div, sdm, i_dec, i_cl, iv_t, bI_or2, bI_t0, bI_one, not_true_eq_false, not_false_eq_true, ↓reduceIte, am_tl, am_tn, am_t0, am_n0, and_true, true_and, List.cons_append, List.nil_append, List.append_nil]
      exact k h gC.rf C
