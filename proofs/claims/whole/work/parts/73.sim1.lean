/-! ===== simple questions ===== -/
theorem gI {l : List Nat} {i : Nat} (h : i < l.length) : oI l[i]? = nI (l.getD i 0) := by
  rw [List.getElem?_eq_getElem h, List.getD_eq_getElem?_getD, List.getElem?_eq_getElem h]
  rfl
theorem gI_n {l : List Nat} {i : Nat} (h : l.length ≤ i) : oI l[i]? = mI := by
  rw [List.getElem?_eq_none h]
  rfl
def a_parent (f : fa_S) (c i : Int32) : Int32 := if fa_has (f_n f) c then (if i < 0 then -3 else oI (f_p f c.toNatClampNeg)[i.toNatClampNeg]?) else -2
def a_defines (f : fa_S) (c m : Int32) : Int32 := if fa_has (f_n f) c ∧ me_ok m then f_d f c.toNatClampNeg m.toNatClampNeg else -2
def a_state (f : fa_S) (c : Int32) : Int32 := if fa_has (f_n f) c then nI (fT f c.toNatClampNeg).1 else -2
def a_order (f : fa_S) (c i : Int32) : Int32 := if fa_has (f_n f) c then (if i < 0 then -3 else oI (fT f c.toNatClampNeg).2[i.toNatClampNeg]?) else -2
def a_place (f : fa_S) (c e : Int32) : Int32 := if fa_has (f_n f) c ∧ fa_has (f_n f) e then oI (pl (fT f c.toNatClampNeg).2 e.toNatClampNeg) else -2
def a_above (f : fa_S) (c : Int32) : Int32 := if fa_has (f_n f) c then nI (fM f c.toNatClampNeg) else -2
def a_below (f : fa_S) (c : Int32) : Int32 := if fa_has (f_n f) c then nI (bs (bl (fun k => up (f_p f) k c.toNatClampNeg) (f_n f))) else -2
def cmn (l l' : List Nat) : Option Nat := (fi (fun i => (pl l' (l.getD i 0)).isSome) l.length 0).map (fun i => l.getD i 0)
def a_common (f : fa_S) (a b : Int32) : Int32 := if fa_has (f_n f) a ∧ fa_has (f_n f) b then (if (fT f a.toNatClampNeg).1 = 0 ∧ (fT f b.toNatClampNeg).1 = 0 then oI (cmn (fT f a.toNatClampNeg).2 (fT f b.toNatClampNeg).2) else -5) else -2
theorem i_ge {i n : Nat} (h : n ≤ i) (hi : i < 2147483648) : nI i < 0 ∨ nI n ≤ nI i := Or.inr (nI_le h hi)
theorem c_parent {d : Nat} {Q : Option am_V → am_H → Prop} {h : am_H} {f : fa_S} (ok : fa_ok f) (C : cQ h f) {c i : Int32} : ex_ (d + 2) 167 0 [some (v_r (some 0)), some (v_i c), some (v_i i)] [] h Q ↔ Q (some (v_i (a_parent f c i))) h := by
  have L0 := C.1
  have hn := ok.1
  unfold a_parent
  rcases fa_cs hn c with ⟨a, ha, rfl⟩ | hc
  · have hh : fa_has (f_n f) (nI a) := (fa_has_iff hn).2 ⟨a, ha, rfl⟩
    have a10 : a < 10 := by omega
    rw [if_pos hh, nI_clamp (by omega)]
    by_cases hi : i < 0
    · rw [if_pos hi]
      simp (disch := first | assumption | omega | (simp only [ya_pi, ya_pj, ya_pa, ya_pr, yo_pi, yo_pj, yo_pa, yf_pi, yf_pj, yf_pa, yh_pi, yh_pj, yh_pa, yt_pi, yt_pj, yt_pa, la_pi, la_pj, la_pa]; assumption)) only [b_X11_parent_0, b_X11_parent_11, b_X11_parent_17, b_X11_parent_14, b_X11_parent_26, b_X11_parent_21, b_X11_parent_38, i_lit, i_m1, i_31, il_t, il_f, iq_t, iq_f, it_t, it_f, im_e, im_l, im_g, im_g2, nI_add, pk_mul, i_sub, i_div, sdm, i_dec, i_cl, iv_t, bI_or2, bI_t0, bI_one, not_true_eq_false, not_false_eq_true, ↓reduceIte, am_tl, am_tn, am_t0, am_n0, and_true, true_and, List.cons_append, List.nil_append, List.append_nil, or_true, true_or, or_false, false_or, eq_self, ior0, iand0, im_e2, oI, c_hasClass_y ok C.2.1 ha, ge0 hi]
    · obtain ⟨i, hi2, rfl⟩ := nI_of hi
      rw [if_neg hi, nI_clamp hi2]
      by_cases z : i < (f_p f a).length
      · rw [gI z]
        simp (disch := first | assumption | omega | (simp only [ya_pi, ya_pj, ya_pa, ya_pr, yo_pi, yo_pj, yo_pa, yf_pi, yf_pj, yf_pa, yh_pi, yh_pj, yh_pa, yt_pi, yt_pj, yt_pa, la_pi, la_pj, la_pa]; assumption)) only [b_X11_parent_0, b_X11_parent_11, b_X11_parent_17, b_X11_parent_14, b_X11_parent_26, b_X11_parent_21, b_X11_parent_38, i_lit, i_m1, i_31, il_t, il_f, iq_t, iq_f, it_t, it_f, im_e, im_l, im_g, im_g2, nI_add, pk_mul, i_sub, i_div, sdm, i_dec, i_cl, iv_t, bI_or2, bI_t0, bI_one, not_true_eq_false, not_false_eq_true, ↓reduceIte, am_tl, am_tn, am_t0, am_n0, and_true, true_and, List.cons_append, List.nil_append, List.append_nil, or_true, true_or, or_false, false_or, eq_self, ior0, iand0, im_e2, oI, c_hasClass_y ok C.2.1 ha, c_parentAt ok C.2.1 a10 z]
      · rw [gI_n (by omega)]
        simp (disch := first | assumption | omega | (simp only [ya_pi, ya_pj, ya_pa, ya_pr, yo_pi, yo_pj, yo_pa, yf_pi, yf_pj, yf_pa, yh_pi, yh_pj, yh_pa, yt_pi, yt_pj, yt_pa, la_pi, la_pj, la_pa]; assumption)) only [b_X11_parent_0, b_X11_parent_11, b_X11_parent_17, b_X11_parent_14, b_X11_parent_26, b_X11_parent_21, b_X11_parent_38, i_lit, i_m1, i_31, il_t, il_f, iq_t, iq_f, it_t, it_f, im_e, im_l, im_g, im_g2, nI_add, pk_mul, i_sub, i_div, sdm, i_dec, i_cl, iv_t, bI_or2, bI_t0, bI_one, not_true_eq_false, not_false_eq_true, ↓reduceIte, am_tl, am_tn, am_t0, am_n0, and_true, true_and, List.cons_append, List.nil_append, List.append_nil, or_true, true_or, or_false, false_or, eq_self, ior0, iand0, im_e2, oI, c_hasClass_y ok C.2.1 ha, c_parentAt_none C.2.1 a10 (i_ge (show (f_p f a).length ≤ i by omega) hi2)]
  · rw [if_neg hc]
    simp (disch := first | assumption | omega | (simp only [ya_pi, ya_pj, ya_pa, ya_pr, yo_pi, yo_pj, yo_pa, yf_pi, yf_pj, yf_pa, yh_pi, yh_pj, yh_pa, yt_pi, yt_pj, yt_pa, la_pi, la_pj, la_pa]; assumption)) only [b_X11_parent_0, b_X11_parent_11, b_X11_parent_17, b_X11_parent_14, b_X11_parent_26, b_X11_parent_21, b_X11_parent_38, i_lit, i_m1, i_31, il_t, il_f, iq_t, iq_f, it_t, it_f, im_e, im_l, im_g, im_g2, nI_add, pk_mul, i_sub, i_div, sdm, i_dec, i_cl, iv_t, bI_or2, bI_t0, bI_one, not_true_eq_false, not_false_eq_true, ↓reduceIte, am_tl, am_tn, am_t0, am_n0, and_true, true_and, List.cons_append, List.nil_append, List.append_nil, or_true, true_or, or_false, false_or, eq_self, ior0, iand0, im_e2, oI, c_hasClass_n ok C.2.1 hc]
theorem c_defines {d : Nat} {Q : Option am_V → am_H → Prop} {h : am_H} {f : fa_S} (ok : fa_ok f) (C : cQ h f) {c m : Int32} : ex_ (d + 2) 168 0 [some (v_r (some 0)), some (v_i c), some (v_i m)] [] h Q ↔ Q (some (v_i (a_defines f c m))) h := by
  have L0 := C.1
  have hn := ok.1
  unfold a_defines
  rcases fa_cs hn c with ⟨a, ha, rfl⟩ | hc
  · have hh : fa_has (f_n f) (nI a) := (fa_has_iff hn).2 ⟨a, ha, rfl⟩
    have a10 : a < 10 := by omega
    rcases me_cs m with ⟨j, hj, rfl⟩ | hm
    · rw [if_pos ⟨hh, nI_pos (by omega), nI_lt hj (by omega)⟩, nI_clamp (by omega), nI_clamp (by omega)]
      simp (disch := first | assumption | omega | (simp only [ya_pi, ya_pj, ya_pa, ya_pr, yo_pi, yo_pj, yo_pa, yf_pi, yf_pj, yf_pa, yh_pi, yh_pj, yh_pa, yt_pi, yt_pj, yt_pa, la_pi, la_pj, la_pa]; assumption)) only [b_X11_defines_0, b_X11_defines_11, b_X11_defines_21, b_X11_defines_14, b_X11_defines_18, b_X11_defines_24, b_X11_defines_36, i_lit, i_m1, i_31, il_t, il_f, iq_t, iq_f, it_t, it_f, im_e, im_l, im_g, im_g2, nI_add, pk_mul, i_sub, i_div, sdm, i_dec, i_cl, iv_t, bI_or2, bI_t0, bI_one, not_true_eq_false, not_false_eq_true, ↓reduceIte, am_tl, am_tn, am_t0, am_n0, and_true, true_and, List.cons_append, List.nil_append, List.append_nil, or_true, true_or, or_false, false_or, eq_self, ior0, iand0, im_e2, oI, c_hasClass_y ok C.2.1 ha, c_isMethod_y hj, c_definitionAt C.2.1 a10 hj]
    · rw [if_neg (fun z => hm z.2)]
      simp (disch := first | assumption | omega | (simp only [ya_pi, ya_pj, ya_pa, ya_pr, yo_pi, yo_pj, yo_pa, yf_pi, yf_pj, yf_pa, yh_pi, yh_pj, yh_pa, yt_pi, yt_pj, yt_pa, la_pi, la_pj, la_pa]; assumption)) only [b_X11_defines_0, b_X11_defines_11, b_X11_defines_21, b_X11_defines_14, b_X11_defines_18, b_X11_defines_24, b_X11_defines_36, i_lit, i_m1, i_31, il_t, il_f, iq_t, iq_f, it_t, it_f, im_e, im_l, im_g, im_g2, nI_add, pk_mul, i_sub, i_div, sdm, i_dec, i_cl, iv_t, bI_or2, bI_t0, bI_one, not_true_eq_false, not_false_eq_true, ↓reduceIte, am_tl, am_tn, am_t0, am_n0, and_true, true_and, List.cons_append, List.nil_append, List.append_nil, or_true, true_or, or_false, false_or, eq_self, ior0, iand0, im_e2, oI, c_hasClass_y ok C.2.1 ha, c_isMethod_n hm]
  · rw [if_neg (fun z => hc z.1)]
    simp (disch := first | assumption | omega | (simp only [ya_pi, ya_pj, ya_pa, ya_pr, yo_pi, yo_pj, yo_pa, yf_pi, yf_pj, yf_pa, yh_pi, yh_pj, yh_pa, yt_pi, yt_pj, yt_pa, la_pi, la_pj, la_pa]; assumption)) only [b_X11_defines_0, b_X11_defines_11, b_X11_defines_21, b_X11_defines_14, b_X11_defines_18, b_X11_defines_24, b_X11_defines_36, i_lit, i_m1, i_31, il_t, il_f, iq_t, iq_f, it_t, it_f, im_e, im_l, im_g, im_g2, nI_add, pk_mul, i_sub, i_div, sdm, i_dec, i_cl, iv_t, bI_or2, bI_t0, bI_one, not_true_eq_false, not_false_eq_true, ↓reduceIte, am_tl, am_tn, am_t0, am_n0, and_true, true_and, List.cons_append, List.nil_append, List.append_nil, or_true, true_or, or_false, false_or, eq_self, ior0, iand0, im_e2, oI, c_hasClass_n ok C.2.1 hc]
theorem c_state {d : Nat} {Q : Option am_V → am_H → Prop} {h : am_H} {f : fa_S} (ok : fa_ok f) (C : cQ h f) {c : Int32} : ex_ (d + 1) 169 0 [some (v_r (some 0)), some (v_i c)] [] h Q ↔ Q (some (v_i (a_state f c))) h := by
  have L0 := C.1
  have hn := ok.1
  unfold a_state
  rcases fa_cs hn c with ⟨a, ha, rfl⟩ | hc
  · have hh : fa_has (f_n f) (nI a) := (fa_has_iff hn).2 ⟨a, ha, rfl⟩
    rw [if_pos hh, nI_clamp (by omega)]
    simp (disch := first | assumption | omega | (simp only [ya_pi, ya_pj, ya_pa, ya_pr, yo_pi, yo_pj, yo_pa, yf_pi, yf_pj, yf_pa, yh_pi, yh_pj, yh_pa, yt_pi, yt_pj, yt_pa, la_pi, la_pj, la_pa]; assumption)) only [b_X11_state_0, b_X11_state_11, b_X11_state_25, b_X11_state_14, b_X11_state_22, i_lit, i_m1, i_31, il_t, il_f, iq_t, iq_f, it_t, it_f, im_e, im_l, im_g, im_g2, nI_add, pk_mul, i_sub, i_div, sdm, i_dec, i_cl, iv_t, bI_or2, bI_t0, bI_one, not_true_eq_false, not_false_eq_true, ↓reduceIte, am_tl, am_tn, am_t0, am_n0, and_true, true_and, List.cons_append, List.nil_append, List.append_nil, or_true, true_or, or_false, false_or, eq_self, ior0, iand0, im_e2, oI, c_hasClass_y ok C.2.1 ha, c_stateOf C.2.2.1 (C.2.2.2 a ha) (show a < 11 by omega)]
  · rw [if_neg hc]
    simp (disch := first | assumption | omega | (simp only [ya_pi, ya_pj, ya_pa, ya_pr, yo_pi, yo_pj, yo_pa, yf_pi, yf_pj, yf_pa, yh_pi, yh_pj, yh_pa, yt_pi, yt_pj, yt_pa, la_pi, la_pj, la_pa]; assumption)) only [b_X11_state_0, b_X11_state_11, b_X11_state_25, b_X11_state_14, b_X11_state_22, i_lit, i_m1, i_31, il_t, il_f, iq_t, iq_f, it_t, it_f, im_e, im_l, im_g, im_g2, nI_add, pk_mul, i_sub, i_div, sdm, i_dec, i_cl, iv_t, bI_or2, bI_t0, bI_one, not_true_eq_false, not_false_eq_true, ↓reduceIte, am_tl, am_tn, am_t0, am_n0, and_true, true_and, List.cons_append, List.nil_append, List.append_nil, or_true, true_or, or_false, false_or, eq_self, ior0, iand0, im_e2, oI, c_hasClass_n ok C.2.1 hc]
theorem c_order {d : Nat} {Q : Option am_V → am_H → Prop} {h : am_H} {f : fa_S} (ok : fa_ok f) (C : cQ h f) {c i : Int32} : ex_ (d + 1) 170 0 [some (v_r (some 0)), some (v_i c), some (v_i i)] [] h Q ↔ Q (some (v_i (a_order f c i))) h := by
  have L0 := C.1
  have hn := ok.1
  unfold a_order
  rcases fa_cs hn c with ⟨a, ha, rfl⟩ | hc
  · have hh : fa_has (f_n f) (nI a) := (fa_has_iff hn).2 ⟨a, ha, rfl⟩
    have a11 : a < 11 := by omega
    have ho := fT_ok ok a ha
    rw [if_pos hh, nI_clamp (by omega)]
    by_cases hi : i < 0
    · rw [if_pos hi]
      simp (disch := first | assumption | omega | (simp only [ya_pi, ya_pj, ya_pa, ya_pr, yo_pi, yo_pj, yo_pa, yf_pi, yf_pj, yf_pa, yh_pi, yh_pj, yh_pa, yt_pi, yt_pj, yt_pa, la_pi, la_pj, la_pa]; assumption)) only [b_X11_order_0, b_X11_order_11, b_X11_order_17, b_X11_order_14, b_X11_order_26, b_X11_order_21, b_X11_order_35, i_lit, i_m1, i_31, il_t, il_f, iq_t, iq_f, it_t, it_f, im_e, im_l, im_g, im_g2, nI_add, pk_mul, i_sub, i_div, sdm, i_dec, i_cl, iv_t, bI_or2, bI_t0, bI_one, not_true_eq_false, not_false_eq_true, ↓reduceIte, am_tl, am_tn, am_t0, am_n0, and_true, true_and, List.cons_append, List.nil_append, List.append_nil, or_true, true_or, or_false, false_or, eq_self, ior0, iand0, im_e2, oI, c_hasClass_y ok C.2.1 ha, ge0 hi]
    · obtain ⟨i, hi2, rfl⟩ := nI_of hi
      rw [if_neg hi, nI_clamp hi2]
      by_cases z : i < (fT f a).2.length
      · rw [gI z]
        simp (disch := first | assumption | omega | (simp only [ya_pi, ya_pj, ya_pa, ya_pr, yo_pi, yo_pj, yo_pa, yf_pi, yf_pj, yf_pa, yh_pi, yh_pj, yh_pa, yt_pi, yt_pj, yt_pa, la_pi, la_pj, la_pa]; assumption)) only [b_X11_order_0, b_X11_order_11, b_X11_order_17, b_X11_order_14, b_X11_order_26, b_X11_order_21, b_X11_order_35, i_lit, i_m1, i_31, il_t, il_f, iq_t, iq_f, it_t, it_f, im_e, im_l, im_g, im_g2, nI_add, pk_mul, i_sub, i_div, sdm, i_dec, i_cl, iv_t, bI_or2, bI_t0, bI_one, not_true_eq_false, not_false_eq_true, ↓reduceIte, am_tl, am_tn, am_t0, am_n0, and_true, true_and, List.cons_append, List.nil_append, List.append_nil, or_true, true_or, or_false, false_or, eq_self, ior0, iand0, im_e2, oI, c_hasClass_y ok C.2.1 ha, c_at C.2.2.1 (C.2.2.2 a ha) a11 z (by omega)]
      · rw [gI_n (by omega)]
        simp (disch := first | assumption | omega | (simp only [ya_pi, ya_pj, ya_pa, ya_pr, yo_pi, yo_pj, yo_pa, yf_pi, yf_pj, yf_pa, yh_pi, yh_pj, yh_pa, yt_pi, yt_pj, yt_pa, la_pi, la_pj, la_pa]; assumption)) only [b_X11_order_0, b_X11_order_11, b_X11_order_17, b_X11_order_14, b_X11_order_26, b_X11_order_21, b_X11_order_35, i_lit, i_m1, i_31, il_t, il_f, iq_t, iq_f, it_t, it_f, im_e, im_l, im_g, im_g2, nI_add, pk_mul, i_sub, i_div, sdm, i_dec, i_cl, iv_t, bI_or2, bI_t0, bI_one, not_true_eq_false, not_false_eq_true, ↓reduceIte, am_tl, am_tn, am_t0, am_n0, and_true, true_and, List.cons_append, List.nil_append, List.append_nil, or_true, true_or, or_false, false_or, eq_self, ior0, iand0, im_e2, oI, c_hasClass_y ok C.2.1 ha, c_at_none C.2.2.1 (C.2.2.2 a ha) a11 (show (fT f a).2.length ≤ i by omega) hi2]
  · rw [if_neg hc]
    simp (disch := first | assumption | omega | (simp only [ya_pi, ya_pj, ya_pa, ya_pr, yo_pi, yo_pj, yo_pa, yf_pi, yf_pj, yf_pa, yh_pi, yh_pj, yh_pa, yt_pi, yt_pj, yt_pa, la_pi, la_pj, la_pa]; assumption)) only [b_X11_order_0, b_X11_order_11, b_X11_order_17, b_X11_order_14, b_X11_order_26, b_X11_order_21, b_X11_order_35, i_lit, i_m1, i_31, il_t, il_f, iq_t, iq_f, it_t, it_f, im_e, im_l, im_g, im_g2, nI_add, pk_mul, i_sub, i_div, sdm, i_dec, i_cl, iv_t, bI_or2, bI_t0, bI_one, not_true_eq_false, not_false_eq_true, ↓reduceIte, am_tl, am_tn, am_t0, am_n0, and_true, true_and, List.cons_append, List.nil_append, List.append_nil, or_true, true_or, or_false, false_or, eq_self, ior0, iand0, im_e2, oI, c_hasClass_n ok C.2.1 hc]
theorem c_place {d : Nat} {Q : Option am_V → am_H → Prop} {h : am_H} {f : fa_S} (ok : fa_ok f) (C : cQ h f) {c e : Int32} : ex_ (d + 2) 171 0 [some (v_r (some 0)), some (v_i c), some (v_i e)] [] h Q ↔ Q (some (v_i (a_place f c e))) h := by
  have L0 := C.1
  have hn := ok.1
  unfold a_place
  rcases fa_cs hn c with ⟨a, ha, rfl⟩ | hc
  · have hh : fa_has (f_n f) (nI a) := (fa_has_iff hn).2 ⟨a, ha, rfl⟩
    have ho := fT_ok ok a ha
    rcases fa_cs hn e with ⟨b, hb, rfl⟩ | he
    · rw [if_pos ⟨hh, (fa_has_iff hn).2 ⟨b, hb, rfl⟩⟩, nI_clamp (by omega), nI_clamp (by omega)]
      simp (disch := first | assumption | omega | (simp only [ya_pi, ya_pj, ya_pa, ya_pr, yo_pi, yo_pj, yo_pa, yf_pi, yf_pj, yf_pa, yh_pi, yh_pj, yh_pa, yt_pi, yt_pj, yt_pa, la_pi, la_pj, la_pa]; assumption)) only [b_X11_place_0, b_X11_place_11, b_X11_place_28, b_X11_place_14, b_X11_place_25, b_X11_place_31, b_X11_place_40, i_lit, i_m1, i_31, il_t, il_f, iq_t, iq_f, it_t, it_f, im_e, im_l, im_g, im_g2, nI_add, pk_mul, i_sub, i_div, sdm, i_dec, i_cl, iv_t, bI_or2, bI_t0, bI_one, not_true_eq_false, not_false_eq_true, ↓reduceIte, am_tl, am_tn, am_t0, am_n0, and_true, true_and, List.cons_append, List.nil_append, List.append_nil, c_hasClass_y ok C.2.1 ha, c_hasClass_y ok C.2.1 hb, c_placeOf C.2.2.1 (C.2.2.2 a ha) (show a < 11 by omega) (show (fT f a).2.length ≤ 11 by omega) (fun x hx => Nat.lt_trans (ho.2.2.2.1 x hx) (by omega)) (show b < 2147483648 by omega)]
    · rw [if_neg (fun z => he z.2)]
      simp (disch := first | assumption | omega | (simp only [ya_pi, ya_pj, ya_pa, ya_pr, yo_pi, yo_pj, yo_pa, yf_pi, yf_pj, yf_pa, yh_pi, yh_pj, yh_pa, yt_pi, yt_pj, yt_pa, la_pi, la_pj, la_pa]; assumption)) only [b_X11_place_0, b_X11_place_11, b_X11_place_28, b_X11_place_14, b_X11_place_25, b_X11_place_31, b_X11_place_40, i_lit, i_m1, i_31, il_t, il_f, iq_t, iq_f, it_t, it_f, im_e, im_l, im_g, im_g2, nI_add, pk_mul, i_sub, i_div, sdm, i_dec, i_cl, iv_t, bI_or2, bI_t0, bI_one, not_true_eq_false, not_false_eq_true, ↓reduceIte, am_tl, am_tn, am_t0, am_n0, and_true, true_and, List.cons_append, List.nil_append, List.append_nil, or_true, true_or, or_false, false_or, eq_self, ior0, iand0, im_e2, oI, c_hasClass_y ok C.2.1 ha, c_hasClass_n ok C.2.1 he]
  · rw [if_neg (fun z => hc z.1)]
    simp (disch := first | assumption | omega | (simp only [ya_pi, ya_pj, ya_pa, ya_pr, yo_pi, yo_pj, yo_pa, yf_pi, yf_pj, yf_pa, yh_pi, yh_pj, yh_pa, yt_pi, yt_pj, yt_pa, la_pi, la_pj, la_pa]; assumption)) only [b_X11_place_0, b_X11_place_11, b_X11_place_28, b_X11_place_14, b_X11_place_25, b_X11_place_31, b_X11_place_40, i_lit, i_m1, i_31, il_t, il_f, iq_t, iq_f, it_t, it_f, im_e, im_l, im_g, im_g2, nI_add, pk_mul, i_sub, i_div, sdm, i_dec, i_cl, iv_t, bI_or2, bI_t0, bI_one, not_true_eq_false, not_false_eq_true, ↓reduceIte, am_tl, am_tn, am_t0, am_n0, and_true, true_and, List.cons_append, List.nil_append, List.append_nil, or_true, true_or, or_false, false_or, eq_self, ior0, iand0, im_e2, oI, c_hasClass_n ok C.2.1 hc]
theorem c_cAbove {d : Nat} {Q : Option am_V → am_H → Prop} {h : am_H} {f : fa_S} (ok : fa_ok f) (C : cQ h f) {c : Int32} : ex_ (d + 3) 172 0 [some (v_r (some 0)), some (v_i c)] [] h Q ↔ Q (some (v_i (a_above f c))) h := by
  have L0 := C.1
  have hn := ok.1
  unfold a_above
  rcases fa_cs hn c with ⟨a, ha, rfl⟩ | hc
  · have hh : fa_has (f_n f) (nI a) := (fa_has_iff hn).2 ⟨a, ha, rfl⟩
    rw [if_pos hh, nI_clamp (by omega)]
    simp (disch := first | assumption | omega | (simp only [ya_pi, ya_pj, ya_pa, ya_pr, yo_pi, yo_pj, yo_pa, yf_pi, yf_pj, yf_pa, yh_pi, yh_pj, yh_pa, yt_pi, yt_pj, yt_pa, la_pi, la_pj, la_pa]; assumption)) only [b_X11_above_0, b_X11_above_11, b_X11_above_28, b_X11_above_14, b_X11_above_25, i_lit, i_m1, i_31, il_t, il_f, iq_t, iq_f, it_t, it_f, im_e, im_l, im_g, im_g2, nI_add, pk_mul, i_sub, i_div, sdm, i_dec, i_cl, iv_t, bI_or2, bI_t0, bI_one, not_true_eq_false, not_false_eq_true, ↓reduceIte, am_tl, am_tn, am_t0, am_n0, and_true, true_and, List.cons_append, List.nil_append, List.append_nil, or_true, true_or, or_false, false_or, eq_self, ior0, iand0, im_e2, oI, c_hasClass_y ok C.2.1 ha, c_ancestors ok C.2.1 ha]
  · rw [if_neg hc]
    simp (disch := first | assumption | omega | (simp only [ya_pi, ya_pj, ya_pa, ya_pr, yo_pi, yo_pj, yo_pa, yf_pi, yf_pj, yf_pa, yh_pi, yh_pj, yh_pa, yt_pi, yt_pj, yt_pa, la_pi, la_pj, la_pa]; assumption)) only [b_X11_above_0, b_X11_above_11, b_X11_above_28, b_X11_above_14, b_X11_above_25, i_lit, i_m1, i_31, il_t, il_f, iq_t, iq_f, it_t, it_f, im_e, im_l, im_g, im_g2, nI_add, pk_mul, i_sub, i_div, sdm, i_dec, i_cl, iv_t, bI_or2, bI_t0, bI_one, not_true_eq_false, not_false_eq_true, ↓reduceIte, am_tl, am_tn, am_t0, am_n0, and_true, true_and, List.cons_append, List.nil_append, List.append_nil, or_true, true_or, or_false, false_or, eq_self, ior0, iand0, im_e2, oI, c_hasClass_n ok C.2.1 hc]
theorem bl_low {P : Nat → Bool} {c : Nat} (h : ∀ k, k < c → P k = false) : nI (bs (bl P c)) = nI 0 := by
  rw [← bs_0]
  refine congrArg nI (bs_ext (fun k _ => ?_))
  unfold bl
  by_cases z : k < c
  · rw [h k z, Bool.and_false]
  · rw [decide_eq_false z, Bool.false_and]
theorem c_below {d : Nat} {Q : Option am_V → am_H → Prop} {h : am_H} {f : fa_S} (ok : fa_ok f) (C : cQ h f) {c : Int32} {l2 l3 : Option am_V} : ex_ (d + 3) 173 0 [some (v_r (some 0)), some (v_i c), l2, l3] [] h Q ↔ Q (some (v_i (a_below f c))) h := by
  have L0 := C.1
  have hn := ok.1
  unfold a_below
  rcases fa_cs hn c with ⟨a, ha, rfl⟩ | hc
  · have hh : fa_has (f_n f) (nI a) := (fa_has_iff hn).2 ⟨a, ha, rfl⟩
    have a16 : a < 16 := by omega
    have en := C.2.1.2.1
    rw [if_pos hh, nI_clamp (by omega)]
    apply ex_iff
    simp (disch := first | assumption | omega | (simp only [ya_pi, ya_pj, ya_pa, ya_pr, yo_pi, yo_pj, yo_pa, yf_pi, yf_pj, yf_pa, yh_pi, yh_pj, yh_pa, yt_pi, yt_pj, yt_pa, la_pi, la_pj, la_pa]; assumption)) only [b_X11_below_0, b_X11_below_11, b_X11_below_17, b_X11_below_14, b_X11_below_65, b_X11_below_35, b_X11_below_46, b_X11_below_59, b_X11_below_53, i_lit, i_m1, i_31, il_t, il_f, iq_t, iq_f, it_t, it_f, im_e, im_l, im_g, im_g2, nI_add, pk_mul, i_sub, i_div, sdm, i_dec, i_cl, iv_t, bI_or2, bI_t0, bI_one, not_true_eq_false, not_false_eq_true, ↓reduceIte, am_tl, am_tn, am_t0, am_n0, and_true, true_and, List.cons_append, List.nil_append, List.append_nil, or_true, true_or, or_false, false_or, eq_self, ior0, iand0, im_e2, oI, c_hasClass_y ok C.2.1 ha]
    have st := lp_up (d := d + 3) (k := 173) (pc := 21) (Q := fun r h' => r = some (v_i (nI (bs (bl (fun k => up (f_p f) k a) (f_n f))))) ∧ h' = h) (f_n f - a) (fun i (_ : Unit) => [some (v_r (some 0)), some (v_i (nI a)), some (v_i (nI (bs (bl (fun k => up (f_p f) k a) (a + i))))), some (v_i (nI (a + i)))]) (fun i _ h' => h' = h) ?_ ?_ (Nat.zero_le _) (s := ()) (h := h) rfl
    · rw [Nat.add_zero, bl_low (fun k hk => by
        cases z : up (f_p f) k a with
        | false => rfl
        | true => have := up_lt ok z; omega)] at st
      exact st
    · rintro i - h' hi rfl nx
      have nxt := nx () h' rfl
      have hi2 : a + i < f_n f := by omega
      rw [b_X11_below_21 _ _ _ _ L0]
      cases z : up (f_p f) (a + i) a with
      | true =>
        rw [← Nat.add_assoc, bl_y (p := fun k => up (f_p f) k a) z] at nxt
        simp (disch := first | assumption | omega | (simp only [ya_pi, ya_pj, ya_pa, ya_pr, yo_pi, yo_pj, yo_pa, yf_pi, yf_pj, yf_pa, yh_pi, yh_pj, yh_pa, yt_pi, yt_pj, yt_pa, la_pi, la_pj, la_pa]; assumption)) only [b_X11_below_0, b_X11_below_11, b_X11_below_17, b_X11_below_14, b_X11_below_65, b_X11_below_35, b_X11_below_46, b_X11_below_59, b_X11_below_53, i_lit, i_m1, i_31, il_t, il_f, iq_t, iq_f, it_t, it_f, im_e, im_l, im_g, im_g2, nI_add, pk_mul, i_sub, i_div, sdm, i_dec, i_cl, iv_t, bI_or2, bI_t0, bI_one, not_true_eq_false, not_false_eq_true, ↓reduceIte, am_tl, am_tn, am_t0, am_n0, and_true, true_and, List.cons_append, List.nil_append, List.append_nil, or_true, true_or, or_false, false_or, eq_self, ior0, iand0, im_e2, oI, en, c_ancestors ok C.2.1 hi2, i_31, z, Bool.true_eq_false]
        exact nxt
      | false =>
        rw [← Nat.add_assoc, bl_n (p := fun k => up (f_p f) k a) z] at nxt
        simp (disch := first | assumption | omega | (simp only [ya_pi, ya_pj, ya_pa, ya_pr, yo_pi, yo_pj, yo_pa, yf_pi, yf_pj, yf_pa, yh_pi, yh_pj, yh_pa, yt_pi, yt_pj, yt_pa, la_pi, la_pj, la_pa]; assumption)) only [b_X11_below_0, b_X11_below_11, b_X11_below_17, b_X11_below_14, b_X11_below_65, b_X11_below_35, b_X11_below_46, b_X11_below_59, b_X11_below_53, i_lit, i_m1, i_31, il_t, il_f, iq_t, iq_f, it_t, it_f, im_e, im_l, im_g, im_g2, nI_add, pk_mul, i_sub, i_div, sdm, i_dec, i_cl, iv_t, bI_or2, bI_t0, bI_one, not_true_eq_false, not_false_eq_true, ↓reduceIte, am_tl, am_tn, am_t0, am_n0, and_true, true_and, List.cons_append, List.nil_append, List.append_nil, or_true, true_or, or_false, false_or, eq_self, ior0, iand0, im_e2, oI, en, c_ancestors ok C.2.1 hi2, i_31, z]
        exact nxt
    · rintro - h' rfl
      rw [b_X11_below_21 _ _ _ _ L0, show a + (f_n f - a) = f_n f from by omega]
      simp (disch := first | assumption | omega | (simp only [ya_pi, ya_pj, ya_pa, ya_pr, yo_pi, yo_pj, yo_pa, yf_pi, yf_pj, yf_pa, yh_pi, yh_pj, yh_pa, yt_pi, yt_pj, yt_pa, la_pi, la_pj, la_pa]; assumption)) only [b_X11_below_0, b_X11_below_11, b_X11_below_17, b_X11_below_14, b_X11_below_65, b_X11_below_35, b_X11_below_46, b_X11_below_59, b_X11_below_53, i_lit, i_m1, i_31, il_t, il_f, iq_t, iq_f, it_t, it_f, im_e, im_l, im_g, im_g2, nI_add, pk_mul, i_sub, i_div, sdm, i_dec, i_cl, iv_t, bI_or2, bI_t0, bI_one, not_true_eq_false, not_false_eq_true, ↓reduceIte, am_tl, am_tn, am_t0, am_n0, and_true, true_and, List.cons_append, List.nil_append, List.append_nil, or_true, true_or, or_false, false_or, eq_self, ior0, iand0, im_e2, oI, en]
  · rw [if_neg hc]
    simp (disch := first | assumption | omega | (simp only [ya_pi, ya_pj, ya_pa, ya_pr, yo_pi, yo_pj, yo_pa, yf_pi, yf_pj, yf_pa, yh_pi, yh_pj, yh_pa, yt_pi, yt_pj, yt_pa, la_pi, la_pj, la_pa]; assumption)) only [b_X11_below_0, b_X11_below_11, b_X11_below_17, b_X11_below_14, b_X11_below_65, b_X11_below_35, b_X11_below_46, b_X11_below_59, b_X11_below_53, i_lit, i_m1, i_31, il_t, il_f, iq_t, iq_f, it_t, it_f, im_e, im_l, im_g, im_g2, nI_add, pk_mul, i_sub, i_div, sdm, i_dec, i_cl, iv_t, bI_or2, bI_t0, bI_one, not_true_eq_false, not_false_eq_true, ↓reduceIte, am_tl, am_tn, am_t0, am_n0, and_true, true_and, List.cons_append, List.nil_append, List.append_nil, or_true, true_or, or_false, false_or, eq_self, ior0, iand0, im_e2, oI, c_hasClass_n ok C.2.1 hc]
theorem T_st {f : fa_S} (ok : fa_ok f) {c : Nat} (hc : c < f_n f) : (fT f c).1 = 0 ∧ ¬ (fT f c).2 = [] ∨ ¬ (fT f c).1 = 0 ∧ (fT f c).2 = [] := by
  have h := (fT_ok ok c hc).2.1
  by_cases z : (fT f c).2 = []
  · exact Or.inr ⟨fun w => h.1 w z, z⟩
  · exact Or.inl ⟨h.2 z, z⟩
theorem c_common {d : Nat} {Q : Option am_V → am_H → Prop} {h : am_H} {f : fa_S} (ok : fa_ok f) (C : cQ h f) {a b : Int32} {l3 l4 : Option am_V} : ex_ (d + 3) 206 0 [some (v_r (some 0)), some (v_i a), some (v_i b), l3, l4] [] h Q ↔ Q (some (v_i (a_common f a b))) h := by
  have L0 := C.1
  have hn := ok.1
  unfold a_common
  rcases fa_cs hn a with ⟨a, ha, rfl⟩ | hc
  · have hh : fa_has (f_n f) (nI a) := (fa_has_iff hn).2 ⟨a, ha, rfl⟩
    have oa := fT_ok ok a ha
    have a11 : a < 11 := by omega
    rcases fa_cs hn b with ⟨b, hb, rfl⟩ | he
    · have ob := fT_ok ok b hb
      have b11 : b < 11 := by omega
      rw [if_pos ⟨hh, (fa_has_iff hn).2 ⟨b, hb, rfl⟩⟩, nI_clamp (by omega), nI_clamp (by omega)]
      rcases T_st ok ha with ⟨sa, na⟩ | ⟨sa, na⟩
      · rcases T_st ok hb with ⟨sb, nb⟩ | ⟨sb, nb⟩
        · rw [if_pos ⟨sa, sb⟩]
          apply ex_iff
          simp (disch := first | assumption | omega | (simp only [ya_pi, ya_pj, ya_pa, ya_pr, yo_pi, yo_pj, yo_pa, yf_pi, yf_pj, yf_pa, yh_pi, yh_pj, yh_pa, yt_pi, yt_pj, yt_pa, la_pi, la_pj, la_pa]; assumption)) only [b_X11_common_0, b_X11_common_11, b_X11_common_28, b_X11_common_14, b_X11_common_25, b_X11_common_31, b_X11_common_39, b_X11_common_53, b_X11_common_42, b_X11_common_50, b_X11_common_56, b_X11_common_67, b_X11_common_104, b_X11_common_70, b_X11_common_79, b_X11_common_91, b_X11_common_98, b_X11_common_95, i_lit, i_m1, i_31, il_t, il_f, iq_t, iq_f, it_t, it_f, im_e, im_l, im_g, im_g2, nI_add, pk_mul, i_sub, i_div, sdm, i_dec, i_cl, iv_t, bI_or2, bI_t0, bI_one, not_true_eq_false, not_false_eq_true, ↓reduceIte, am_tl, am_tn, am_t0, am_n0, and_true, true_and, List.cons_append, List.nil_append, List.append_nil, or_true, true_or, or_false, false_or, eq_self, ior0, iand0, im_e2, oI, c_hasClass_y ok C.2.1 ha, c_hasClass_y ok C.2.1 hb, c_hasOrder_y C.2.2.1 (C.2.2.2 a ha) a11 na (by omega), c_hasOrder_y C.2.2.1 (C.2.2.2 b hb) b11 nb (by omega)]
          refine lp_up (fT f a).2.length (fun i (l4 : Option am_V) => [some (v_r (some 0)), some (v_i (nI a)), some (v_i (nI b)), some (v_i (nI i)), l4]) (fun i _ h' => h' = h ∧ fi (fun i => (pl (fT f b).2 ((fT f a).2.getD i 0)).isSome) (fT f a).2.length i = fi (fun i => (pl (fT f b).2 ((fT f a).2.getD i 0)).isSome) (fT f a).2.length 0) ?_ ?_ (Nat.zero_le _) ⟨rfl, rfl⟩
          · rintro i l4 h' hi ⟨rfl, e⟩ nx
            have xi := oa.2.2.2.1 _ (gd_mem hi)
            have cp := fun {d} {Q} {l3} => c_placeOf (d := d) (Q := Q) (l3 := l3) C.2.2.1 (C.2.2.2 b hb) b11 (show (fT f b).2.length ≤ 11 by omega) (fun x hx => Nat.lt_trans (ob.2.2.2.1 x hx) (by omega)) (show (fT f a).2.getD i 0 < 2147483648 by omega)
            rw [b_X11_common_58 _ _ _ _ _ L0]
            cases z : pl (fT f b).2 ((fT f a).2.getD i 0) with
            | none =>
              rw [fi_no (by rw [z]; rfl)] at e
              rw [z] at cp
              simp (disch := first | assumption | omega | (simp only [ya_pi, ya_pj, ya_pa, ya_pr, yo_pi, yo_pj, yo_pa, yf_pi, yf_pj, yf_pa, yh_pi, yh_pj, yh_pa, yt_pi, yt_pj, yt_pa, la_pi, la_pj, la_pa]; assumption)) only [b_X11_common_0, b_X11_common_11, b_X11_common_28, b_X11_common_14, b_X11_common_25, b_X11_common_31, b_X11_common_39, b_X11_common_53, b_X11_common_42, b_X11_common_50, b_X11_common_56, b_X11_common_67, b_X11_common_104, b_X11_common_70, b_X11_common_79, b_X11_common_91, b_X11_common_98, b_X11_common_95, i_lit, i_m1, i_31, il_t, il_f, iq_t, iq_f, it_t, it_f, im_e, im_l, im_g, im_g2, nI_add, pk_mul, i_sub, i_div, sdm, i_dec, i_cl, iv_t, bI_or2, bI_t0, bI_one, not_true_eq_false, not_false_eq_true, ↓reduceIte, am_tl, am_tn, am_t0, am_n0, and_true, true_and, List.cons_append, List.nil_append, List.append_nil, or_true, true_or, or_false, false_or, eq_self, ior0, iand0, im_e2, oI, c_sizeOf C.2.2.1 (C.2.2.2 a ha) a11, c_at C.2.2.1 (C.2.2.2 a ha) a11 hi (by omega), cp]
              exact nx _ h' ⟨rfl, e⟩
            | some j =>
              rw [fi_yes (p := fun i => (pl (fT f b).2 ((fT f a).2.getD i 0)).isSome) hi (by rw [z]; rfl)] at e
              have hj := (pl_some z).1
              rw [z] at cp
              simp (disch := first | assumption | omega | (simp only [ya_pi, ya_pj, ya_pa, ya_pr, yo_pi, yo_pj, yo_pa, yf_pi, yf_pj, yf_pa, yh_pi, yh_pj, yh_pa, yt_pi, yt_pj, yt_pa, la_pi, la_pj, la_pa]; assumption)) only [b_X11_common_0, b_X11_common_11, b_X11_common_28, b_X11_common_14, b_X11_common_25, b_X11_common_31, b_X11_common_39, b_X11_common_53, b_X11_common_42, b_X11_common_50, b_X11_common_56, b_X11_common_67, b_X11_common_104, b_X11_common_70, b_X11_common_79, b_X11_common_91, b_X11_common_98, b_X11_common_95, i_lit, i_m1, i_31, il_t, il_f, iq_t, iq_f, it_t, it_f, im_e, im_l, im_g, im_g2, nI_add, pk_mul, i_sub, i_div, sdm, i_dec, i_cl, iv_t, bI_or2, bI_t0, bI_one, not_true_eq_false, not_false_eq_true, ↓reduceIte, am_tl, am_tn, am_t0, am_n0, and_true, true_and, List.cons_append, List.nil_append, List.append_nil, or_true, true_or, or_false, false_or, eq_self, ior0, iand0, im_e2, oI, c_sizeOf C.2.2.1 (C.2.2.2 a ha) a11, c_at C.2.2.1 (C.2.2.2 a ha) a11 hi (by omega), cp]
              rw [cmn, ← e]
              rfl
          · rintro l4 h' ⟨rfl, e⟩
            rw [fi_end (by omega)] at e
            rw [b_X11_common_58 _ _ _ _ _ L0]
            simp (disch := first | assumption | omega | (simp only [ya_pi, ya_pj, ya_pa, ya_pr, yo_pi, yo_pj, yo_pa, yf_pi, yf_pj, yf_pa, yh_pi, yh_pj, yh_pa, yt_pi, yt_pj, yt_pa, la_pi, la_pj, la_pa]; assumption)) only [b_X11_common_0, b_X11_common_11, b_X11_common_28, b_X11_common_14, b_X11_common_25, b_X11_common_31, b_X11_common_39, b_X11_common_53, b_X11_common_42, b_X11_common_50, b_X11_common_56, b_X11_common_67, b_X11_common_104, b_X11_common_70, b_X11_common_79, b_X11_common_91, b_X11_common_98, b_X11_common_95, i_lit, i_m1, i_31, il_t, il_f, iq_t, iq_f, it_t, it_f, im_e, im_l, im_g, im_g2, nI_add, pk_mul, i_sub, i_div, sdm, i_dec, i_cl, iv_t, bI_or2, bI_t0, bI_one, not_true_eq_false, not_false_eq_true, ↓reduceIte, am_tl, am_tn, am_t0, am_n0, and_true, true_and, List.cons_append, List.nil_append, List.append_nil, or_true, true_or, or_false, false_or, eq_self, ior0, iand0, im_e2, oI, c_sizeOf C.2.2.1 (C.2.2.2 a ha) a11]
            rw [cmn, ← e]
            rfl
        · rw [if_neg (fun z => sb z.2)]
          simp (disch := first | assumption | omega | (simp only [ya_pi, ya_pj, ya_pa, ya_pr, yo_pi, yo_pj, yo_pa, yf_pi, yf_pj, yf_pa, yh_pi, yh_pj, yh_pa, yt_pi, yt_pj, yt_pa, la_pi, la_pj, la_pa]; assumption)) only [b_X11_common_0, b_X11_common_11, b_X11_common_28, b_X11_common_14, b_X11_common_25, b_X11_common_31, b_X11_common_39, b_X11_common_53, b_X11_common_42, b_X11_common_50, b_X11_common_56, b_X11_common_67, b_X11_common_104, b_X11_common_70, b_X11_common_79, b_X11_common_91, b_X11_common_98, b_X11_common_95, i_lit, i_m1, i_31, il_t, il_f, iq_t, iq_f, it_t, it_f, im_e, im_l, im_g, im_g2, nI_add, pk_mul, i_sub, i_div, sdm, i_dec, i_cl, iv_t, bI_or2, bI_t0, bI_one, not_true_eq_false, not_false_eq_true, ↓reduceIte, am_tl, am_tn, am_t0, am_n0, and_true, true_and, List.cons_append, List.nil_append, List.append_nil, or_true, true_or, or_false, false_or, eq_self, ior0, iand0, im_e2, oI, c_hasClass_y ok C.2.1 ha, c_hasClass_y ok C.2.1 hb, c_hasOrder_y C.2.2.1 (C.2.2.2 a ha) a11 na (by omega), c_hasOrder_n C.2.2.1 (C.2.2.2 b hb) b11 nb]
      · rw [if_neg (fun z => sa z.1)]
        simp (disch := first | assumption | omega | (simp only [ya_pi, ya_pj, ya_pa, ya_pr, yo_pi, yo_pj, yo_pa, yf_pi, yf_pj, yf_pa, yh_pi, yh_pj, yh_pa, yt_pi, yt_pj, yt_pa, la_pi, la_pj, la_pa]; assumption)) only [b_X11_common_0, b_X11_common_11, b_X11_common_28, b_X11_common_14, b_X11_common_25, b_X11_common_31, b_X11_common_39, b_X11_common_53, b_X11_common_42, b_X11_common_50, b_X11_common_56, b_X11_common_67, b_X11_common_104, b_X11_common_70, b_X11_common_79, b_X11_common_91, b_X11_common_98, b_X11_common_95, i_lit, i_m1, i_31, il_t, il_f, iq_t, iq_f, it_t, it_f, im_e, im_l, im_g, im_g2, nI_add, pk_mul, i_sub, i_div, sdm, i_dec, i_cl, iv_t, bI_or2, bI_t0, bI_one, not_true_eq_false, not_false_eq_true, ↓reduceIte, am_tl, am_tn, am_t0, am_n0, and_true, true_and, List.cons_append, List.nil_append, List.append_nil, or_true, true_or, or_false, false_or, eq_self, ior0, iand0, im_e2, oI, c_hasClass_y ok C.2.1 ha, c_hasClass_y ok C.2.1 hb, c_hasOrder_n C.2.2.1 (C.2.2.2 a ha) a11 na]
    · rw [if_neg (fun z => he z.2)]
      simp (disch := first | assumption | omega | (simp only [ya_pi, ya_pj, ya_pa, ya_pr, yo_pi, yo_pj, yo_pa, yf_pi, yf_pj, yf_pa, yh_pi, yh_pj, yh_pa, yt_pi, yt_pj, yt_pa, la_pi, la_pj, la_pa]; assumption)) only [b_X11_common_0, b_X11_common_11, b_X11_common_28, b_X11_common_14, b_X11_common_25, b_X11_common_31, b_X11_common_39, b_X11_common_53, b_X11_common_42, b_X11_common_50, b_X11_common_56, b_X11_common_67, b_X11_common_104, b_X11_common_70, b_X11_common_79, b_X11_common_91, b_X11_common_98, b_X11_common_95, i_lit, i_m1, i_31, il_t, il_f, iq_t, iq_f, it_t, it_f, im_e, im_l, im_g, im_g2, nI_add, pk_mul, i_sub, i_div, sdm, i_dec, i_cl, iv_t, bI_or2, bI_t0, bI_one, not_true_eq_false, not_false_eq_true, ↓reduceIte, am_tl, am_tn, am_t0, am_n0, and_true, true_and, List.cons_append, List.nil_append, List.append_nil, or_true, true_or, or_false, false_or, eq_self, ior0, iand0, im_e2, oI, c_hasClass_y ok C.2.1 ha, c_hasClass_n ok C.2.1 he]
  · rw [if_neg (fun z => hc z.1)]
    simp (disch := first | assumption | omega | (simp only [ya_pi, ya_pj, ya_pa, ya_pr, yo_pi, yo_pj, yo_pa, yf_pi, yf_pj, yf_pa, yh_pi, yh_pj, yh_pa, yt_pi, yt_pj, yt_pa, la_pi, la_pj, la_pa]; assumption)) only [b_X11_common_0, b_X11_common_11, b_X11_common_28, b_X11_common_14, b_X11_common_25, b_X11_common_31, b_X11_common_39, b_X11_common_53, b_X11_common_42, b_X11_common_50, b_X11_common_56, b_X11_common_67, b_X11_common_104, b_X11_common_70, b_X11_common_79, b_X11_common_91, b_X11_common_98, b_X11_common_95, i_lit, i_m1, i_31, il_t, il_f, iq_t, iq_f, it_t, it_f, im_e, im_l, im_g, im_g2, nI_add, pk_mul, i_sub, i_div, sdm, i_dec, i_cl, iv_t, bI_or2, bI_t0, bI_one, not_true_eq_false, not_false_eq_true, ↓reduceIte, am_tl, am_tn, am_t0, am_n0, and_true, true_and, List.cons_append, List.nil_append, List.append_nil, or_true, true_or, or_false, false_or, eq_self, ior0, iand0, im_e2, oI, c_hasClass_n ok C.2.1 hc]
