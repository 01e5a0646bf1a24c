theorem rfa.le {h h' : am_H} {P : Nat → Nat → Prop} (fr : am_fr h h' P) (hp : ∀ k, k ≤ 138 → ¬ P 94 k) {f : fa_S} (ok : fa_ok f) (F : rfa h f) : rfa h' f := fr.rfa ok F hp
theorem c_does {d : Nat} {Q : Option am_V → am_H → Prop} {h : am_H} {f : fa_S} (gd : fa_gd f) (F : rfa h f) {n : Nat} (h1 : 10 ≤ n) (h2 : n ≤ 1299) (h0 : (d_doN f n).1 = nI 0) {l2 : Option am_V} (k : ∀ h', am_fr h h' rF → rfa h' (d_doN f n).2 → Q none h') : ex_ (d + 2) 301 0 [some (v_r (some 93)), some (v_i (nI n)), l2] [] h Q := by
  have ok := gd.1
  have L0 := F.1
  have hn := ok.1
  have h4 := fun c => (ok.2 c).1
  have e2 : n % 10 = n % 100 % 10 := by omega
  have e3 : n / 10 % 10 = n % 100 / 10 := by omega
  unfold d_doN at h0 k
  by_cases z : n / 100 = 0
  · rw [if_pos z] at h0 k
    obtain ⟨m, e, hm, es⟩ := d_mood_0 h0
    have e' := (nI_eq (by omega) (by omega)).1 e
    rw [es] at k
    simp (disch := first | assumption | omega | (simp only [ya_pi, ya_pj, ya_pa, ya_pr, yo_pi, yo_pj, yo_pa, yf_pi, yf_pj, yf_pa, yh_pi, yh_pj, yh_pa, yt_pi, yt_pj, yt_pa, la_pi, la_pj, la_pa]; assumption)) only [b_X12_does_0, b_X12_does_29, b_X12_does_14, b_X12_does_48, b_X12_does_36, b_X12_does_72, b_X12_does_55, b_X12_does_45, b_X12_does_91, b_X12_does_79, b_X12_does_66, b_X12_does_88, b_X12_does_69, i_lit, i_m1, i_31, il_t, il_f, iq_t, iq_f, it_t, it_f, im_e, im_l, im_g, im_g2, nI_add, pk_mul, i_sub, i_div, sdm, i_dec, i_cl, iv_t, bI_or2, bI_t0, bI_one, not_true_eq_false, not_false_eq_true, ↓reduceIte, am_tl, am_tn, am_t0, am_n0, and_true, true_and, List.cons_append, List.nil_append, List.append_nil, or_true, true_or, or_false, false_or, eq_self, ior0, iand0, im_e2, oI, sdm]
    rw [e]
    exact k _ (am_fr_pi (by unfold rF; omega)) (rfa_setm h4 F)
  rw [if_neg z] at h0 k
  by_cases z1 : n / 100 = 1
  · rw [if_pos z1] at h0 k
    obtain ⟨a, b, ea, eb, ha, hb, hl, es⟩ := d_add_0 hn h0
    have ea' := (nI_eq (by omega) (by omega)).1 ea
    have eb' := (nI_eq (by omega) (by omega)).1 eb
    rw [es] at k
    simp (disch := first | assumption | omega | (simp only [ya_pi, ya_pj, ya_pa, ya_pr, yo_pi, yo_pj, yo_pa, yf_pi, yf_pj, yf_pa, yh_pi, yh_pj, yh_pa, yt_pi, yt_pj, yt_pa, la_pi, la_pj, la_pa]; assumption)) only [b_X12_does_0, b_X12_does_29, b_X12_does_14, b_X12_does_48, b_X12_does_36, b_X12_does_72, b_X12_does_55, b_X12_does_45, b_X12_does_91, b_X12_does_79, b_X12_does_66, b_X12_does_88, b_X12_does_69, i_lit, i_m1, i_31, il_t, il_f, iq_t, iq_f, it_t, it_f, im_e, im_l, im_g, im_g2, nI_add, pk_mul, i_sub, i_div, sdm, i_dec, i_cl, iv_t, bI_or2, bI_t0, bI_one, not_true_eq_false, not_false_eq_true, ↓reduceIte, am_tl, am_tn, am_t0, am_n0, and_true, true_and, List.cons_append, List.nil_append, List.append_nil, or_true, true_or, or_false, false_or, eq_self, ior0, iand0, im_e2, oI, sdm, e2, e3, ea', eb']
    refine c_goesGive ok F (by omega) hl (fun h' fr F' => ?_)
    simp (disch := first | assumption | omega | (simp only [ya_pi, ya_pj, ya_pa, ya_pr, yo_pi, yo_pj, yo_pa, yf_pi, yf_pj, yf_pa, yh_pi, yh_pj, yh_pa, yt_pi, yt_pj, yt_pa, la_pi, la_pj, la_pa]; assumption)) only [b_X12_does_0, b_X12_does_29, b_X12_does_14, b_X12_does_48, b_X12_does_36, b_X12_does_72, b_X12_does_55, b_X12_does_45, b_X12_does_91, b_X12_does_79, b_X12_does_66, b_X12_does_88, b_X12_does_69, i_lit, i_m1, i_31, il_t, il_f, iq_t, iq_f, it_t, it_f, im_e, im_l, im_g, im_g2, nI_add, pk_mul, i_sub, i_div, sdm, i_dec, i_cl, iv_t, bI_or2, bI_t0, bI_one, not_true_eq_false, not_false_eq_true, ↓reduceIte, am_tl, am_tn, am_t0, am_n0, and_true, true_and, List.cons_append, List.nil_append, List.append_nil, or_true, true_or, or_false, false_or, eq_self, ior0, iand0, im_e2, oI]
    exact k h' fr F'
  rw [if_neg z1] at h0 k
  by_cases z2 : n / 100 = 2
  · rw [if_pos z2] at h0 k
    obtain ⟨a, b, i, ea, eb, ha, hb, hi, es⟩ := d_rem_0 hn h0
    have ea' := (nI_eq (by omega) (by omega)).1 ea
    have eb' := (nI_eq (by omega) (by omega)).1 eb
    have h44 := h4 a
    have hi2 := (pl_some hi).1
    rw [es] at k
    simp (disch := first | assumption | omega | (simp only [ya_pi, ya_pj, ya_pa, ya_pr, yo_pi, yo_pj, yo_pa, yf_pi, yf_pj, yf_pa, yh_pi, yh_pj, yh_pa, yt_pi, yt_pj, yt_pa, la_pi, la_pj, la_pa]; assumption)) only [b_X12_does_0, b_X12_does_29, b_X12_does_14, b_X12_does_48, b_X12_does_36, b_X12_does_72, b_X12_does_55, b_X12_does_45, b_X12_does_91, b_X12_does_79, b_X12_does_66, b_X12_does_88, b_X12_does_69, i_lit, i_m1, i_31, il_t, il_f, iq_t, iq_f, it_t, it_f, im_e, im_l, im_g, im_g2, nI_add, pk_mul, i_sub, i_div, sdm, i_dec, i_cl, iv_t, bI_or2, bI_t0, bI_one, not_true_eq_false, not_false_eq_true, ↓reduceIte, am_tl, am_tn, am_t0, am_n0, and_true, true_and, List.cons_append, List.nil_append, List.append_nil, or_true, true_or, or_false, false_or, eq_self, ior0, iand0, im_e2, oI, sdm, e2, e3, ea', eb', c_placeOfParent ok F (show a < 10 by omega) (show b < 2147483648 by omega), hi]
    refine c_goesTake ok F (by omega) hi2 (fun h' fr F' => ?_)
    simp (disch := first | assumption | omega | (simp only [ya_pi, ya_pj, ya_pa, ya_pr, yo_pi, yo_pj, yo_pa, yf_pi, yf_pj, yf_pa, yh_pi, yh_pj, yh_pa, yt_pi, yt_pj, yt_pa, la_pi, la_pj, la_pa]; assumption)) only [b_X12_does_0, b_X12_does_29, b_X12_does_14, b_X12_does_48, b_X12_does_36, b_X12_does_72, b_X12_does_55, b_X12_does_45, b_X12_does_91, b_X12_does_79, b_X12_does_66, b_X12_does_88, b_X12_does_69, i_lit, i_m1, i_31, il_t, il_f, iq_t, iq_f, it_t, it_f, im_e, im_l, im_g, im_g2, nI_add, pk_mul, i_sub, i_div, sdm, i_dec, i_cl, iv_t, bI_or2, bI_t0, bI_one, not_true_eq_false, not_false_eq_true, ↓reduceIte, am_tl, am_tn, am_t0, am_n0, and_true, true_and, List.cons_append, List.nil_append, List.append_nil, or_true, true_or, or_false, false_or, eq_self, ior0, iand0, im_e2, oI]
    exact k h' fr F'
  rw [if_neg z2] at h0 k
  by_cases z3 : n / 100 = 3
  · rw [if_pos z3] at h0 k
    obtain ⟨a, b, ea, eb, hb2, ha, hb, es⟩ := d_swap_0 hn h0
    have ea' := (nI_eq (by omega) (by omega)).1 ea
    have eb' := (nI_eq (by omega) (by omega)).1 eb
    rw [es] at k
    simp (disch := first | assumption | omega | (simp only [ya_pi, ya_pj, ya_pa, ya_pr, yo_pi, yo_pj, yo_pa, yf_pi, yf_pj, yf_pa, yh_pi, yh_pj, yh_pa, yt_pi, yt_pj, yt_pa, la_pi, la_pj, la_pa]; assumption)) only [b_X12_does_0, b_X12_does_29, b_X12_does_14, b_X12_does_48, b_X12_does_36, b_X12_does_72, b_X12_does_55, b_X12_does_45, b_X12_does_91, b_X12_does_79, b_X12_does_66, b_X12_does_88, b_X12_does_69, i_lit, i_m1, i_31, il_t, il_f, iq_t, iq_f, it_t, it_f, im_e, im_l, im_g, im_g2, nI_add, pk_mul, i_sub, i_div, sdm, i_dec, i_cl, iv_t, bI_or2, bI_t0, bI_one, not_true_eq_false, not_false_eq_true, ↓reduceIte, am_tl, am_tn, am_t0, am_n0, and_true, true_and, List.cons_append, List.nil_append, List.append_nil, or_true, true_or, or_false, false_or, eq_self, ior0, iand0, im_e2, oI, sdm, e2, e3, ea', eb']
    refine c_goesSwap ok F (by omega) hb (fun h' fr F' => ?_)
    simp (disch := first | assumption | omega | (simp only [ya_pi, ya_pj, ya_pa, ya_pr, yo_pi, yo_pj, yo_pa, yf_pi, yf_pj, yf_pa, yh_pi, yh_pj, yh_pa, yt_pi, yt_pj, yt_pa, la_pi, la_pj, la_pa]; assumption)) only [b_X12_does_0, b_X12_does_29, b_X12_does_14, b_X12_does_48, b_X12_does_36, b_X12_does_72, b_X12_does_55, b_X12_does_45, b_X12_does_91, b_X12_does_79, b_X12_does_66, b_X12_does_88, b_X12_does_69, i_lit, i_m1, i_31, il_t, il_f, iq_t, iq_f, it_t, it_f, im_e, im_l, im_g, im_g2, nI_add, pk_mul, i_sub, i_div, sdm, i_dec, i_cl, iv_t, bI_or2, bI_t0, bI_one, not_true_eq_false, not_false_eq_true, ↓reduceIte, am_tl, am_tn, am_t0, am_n0, and_true, true_and, List.cons_append, List.nil_append, List.append_nil, or_true, true_or, or_false, false_or, eq_self, ior0, iand0, im_e2, oI]
    exact k h' fr F'
  rw [if_neg z3] at h0 k
  by_cases z4 : 10 ≤ n / 100 ∧ n / 100 ≤ 12
  · rw [if_pos z4] at h0 k
    obtain ⟨a, b, i, ea, eb, ei, ha, hb, hi, es⟩ := d_def_0 hn h0
    have ea' := (nI_eq (by omega) (by omega)).1 ea
    have eb' := (nI_eq (by omega) (by omega)).1 eb
    have ei' := (nI_eq (by omega) (by omega)).1 ei
    have e1 : (n - 1000) / 100 = i := by omega
    rw [es] at k
    simp (disch := first | assumption | omega | (simp only [ya_pi, ya_pj, ya_pa, ya_pr, yo_pi, yo_pj, yo_pa, yf_pi, yf_pj, yf_pa, yh_pi, yh_pj, yh_pa, yt_pi, yt_pj, yt_pa, la_pi, la_pj, la_pa]; assumption)) only [b_X12_does_0, b_X12_does_29, b_X12_does_14, b_X12_does_48, b_X12_does_36, b_X12_does_72, b_X12_does_55, b_X12_does_45, b_X12_does_91, b_X12_does_79, b_X12_does_66, b_X12_does_88, b_X12_does_69, i_lit, i_m1, i_31, il_t, il_f, iq_t, iq_f, it_t, it_f, im_e, im_l, im_g, im_g2, nI_add, pk_mul, i_sub, i_div, sdm, i_dec, i_cl, iv_t, bI_or2, bI_t0, bI_one, not_true_eq_false, not_false_eq_true, ↓reduceIte, am_tl, am_tn, am_t0, am_n0, and_true, true_and, List.cons_append, List.nil_append, List.append_nil, or_true, true_or, or_false, false_or, eq_self, ior0, iand0, im_e2, oI, sdm, e1, e2, e3, ea', eb']
    exact k _ (am_fr_pi (by unfold rF; omega)) (rfa_setd h4 F (by omega) hb)
  · rw [if_neg z4] at h0
    exact absurd h0 n1_0
/-! ===== the past ===== -/
def rpa (h : am_H) (l : List fa_S) : Prop := h_i h 94 139 = nI l.length ∧ l.length ≤ 10 ∧ ∀ k, k < l.length → fb h 94 (140 + 131 * k) (l.getD k f_0)
def ps_push (l : List fa_S) (f : fa_S) : List fa_S := (if l.length = 10 then l.tail else l) ++ [f]
def rN (a k : Nat) : Prop := a = 94 ∧ 139 ≤ k ∧ k ≤ 1449
theorem gdF_mem {l : List fa_S} {k : Nat} (h : k < l.length) : l.getD k f_0 ∈ l := by
  rw [List.getD_eq_getElem?_getD, List.getElem?_eq_getElem h]
  exact List.getElem_mem h
theorem gdF_app {l : List fa_S} {f : fa_S} {k : Nat} : (l ++ [f]).getD k f_0 = if k < l.length then l.getD k f_0 else if k = l.length then f else f_0 := by
  rw [List.getD_eq_getElem?_getD, List.getElem?_append]
  split
  · rw [List.getD_eq_getElem?_getD]
  · rename_i z
    split
    · rename_i y
      rw [y, Nat.sub_self]
      rfl
    · rename_i y
      rw [show k - l.length = (k - l.length - 1) + 1 from by omega]
      rfl
theorem gdF_tl {l : List fa_S} {j : Nat} : l.tail.getD j f_0 = l.getD (j + 1) f_0 := by
  cases l with
  | nil => rfl
  | cons x l => rfl
theorem c_notes {d : Nat} {Q : Option am_V → am_H → Prop} {h : am_H} {f : fa_S} {l : List fa_S} (L0 : Lay h) (ok : fa_ok f) (okl : ∀ g ∈ l, fa_ok g) (R : rpa h l) (F : fb h 105 0 f) {l1 : Option am_V} (k : ∀ h', am_fr h h' rN → rpa h' (ps_push l f) → Q none h') : ex_ d 285 0 [some (v_r (some 93)), l1] [] h Q := by
  obtain ⟨e0, hl, R⟩ := R
  have key : ∀ (h2 : am_H) (l2 : List fa_S), am_fr h h2 rN → h_i h2 94 139 = nI l2.length → l2.length < 10 → (∀ g ∈ l2, fa_ok g) → (∀ k, k < l2.length → fb h2 94 (140 + 131 * k) (l2.getD k f_0)) → l2 ++ [f] = ps_push l f → ex_ d 285 62 [some (v_r (some 93)), some (v_i (nI 0))] [] h2 Q := by
    intro h2 l2 fr2 e2 hl2 okl2 R2 eq
    have L2 : Lay h2 := fr2.lay L0
    refine lp_up 131 (fun i (_ : Unit) => [some (v_r (some 93)), some (v_i (nI i))]) (fun i _ h' => am_fr h2 h' (fun a k => a = 94 ∧ 140 + 131 * l2.length ≤ k ∧ k < 140 + 131 * l2.length + 131) ∧ ∀ k, k < i → h_i h' 94 (140 + 131 * l2.length + k) = h_i h2 105 (0 + k)) ?_ ?_ (Nat.zero_le _) ⟨am_fr.rf, fun k hk => absurd hk (Nat.not_lt_zero _)⟩ (s := ())
    · rintro i - h' hi ⟨fr, e⟩ nx
      have L1 : Lay h' := fr.lay L2
      have e3 : h_i h' 94 139 = nI l2.length := by rw [fr.i (by omega), e2]
      rw [b_X12_notes_62 _ _ _]
      simp (disch := first | assumption | omega | (simp only [ya_pi, ya_pj, ya_pa, ya_pr, yo_pi, yo_pj, yo_pa, yf_pi, yf_pj, yf_pa, yh_pi, yh_pj, yh_pa, yt_pi, yt_pj, yt_pa, la_pi, la_pj, la_pa]; assumption)) only [b_X12_notes_0, b_X12_notes_60, b_X12_notes_13, b_X12_notes_104, b_X12_notes_69, b_X12_notes_48, b_X12_notes_22, i_lit, i_m1, i_31, il_t, il_f, iq_t, iq_f, it_t, it_f, im_e, im_l, im_g, im_g2, nI_add, pk_mul, i_sub, i_div, sdm, i_dec, i_cl, iv_t, bI_or2, bI_t0, bI_one, not_true_eq_false, not_false_eq_true, ↓reduceIte, am_tl, am_tn, am_t0, am_n0, and_true, true_and, List.cons_append, List.nil_append, List.append_nil, or_true, true_or, or_false, false_or, eq_self, ior0, iand0, im_e2, oI, e3]
      refine nx () _ ⟨fr.pi (by omega), fun k hk => ?_⟩
      by_cases z : k = i
      · subst z
        rw [Nat.zero_add, hi_s, fr.i (by omega)]
      · rw [hi_k (by omega)]
        exact e k (by omega)
    · rintro - h' ⟨fr, e⟩
      have L1 : Lay h' := fr.lay L2
      have e3 : h_i h' 94 139 = nI l2.length := by rw [fr.i (by omega), e2]
      rw [b_X12_notes_62 _ _ _]
      simp (disch := first | assumption | omega | (simp only [ya_pi, ya_pj, ya_pa, ya_pr, yo_pi, yo_pj, yo_pa, yf_pi, yf_pj, yf_pa, yh_pi, yh_pj, yh_pa, yt_pi, yt_pj, yt_pa, la_pi, la_pj, la_pa]; assumption)) only [b_X12_notes_0, b_X12_notes_60, b_X12_notes_13, b_X12_notes_104, b_X12_notes_69, b_X12_notes_48, b_X12_notes_22, i_lit, i_m1, i_31, il_t, il_f, iq_t, iq_f, it_t, it_f, im_e, im_l, im_g, im_g2, nI_add, pk_mul, i_sub, i_div, sdm, i_dec, i_cl, iv_t, bI_or2, bI_t0, bI_one, not_true_eq_false, not_false_eq_true, ↓reduceIte, am_tl, am_tn, am_t0, am_n0, and_true, true_and, List.cons_append, List.nil_append, List.append_nil, or_true, true_or, or_false, false_or, eq_self, ior0, iand0, im_e2, oI, e3]
      refine k _ ((fr2.tr (fr.le (fun a k z => by unfold rN; omega))).pi (by unfold rN; omega)) ?_
      rw [← eq]
      refine ⟨by rw [hi_s, List.length_append]; rfl, by rw [List.length_append, List.length_singleton]; omega, fun k hk => ?_⟩
      rw [List.length_append, List.length_singleton] at hk
      rw [gdF_app]
      by_cases z : k < l2.length
      · rw [if_pos z]
        exact fb_cp (fun c => ((okl2 _ (gdF_mem z)).2 c).1) (R2 k z) (fun j hj => by rw [hi_k (by omega), fr.i (by omega)])
      · rw [if_neg z, if_pos (by omega), show k = l2.length from by omega]
        exact fb_cp (fun c => (ok.2 c).1) F (fun j hj => by rw [hi_k (by omega), e j hj, fr2.i (by unfold rN; omega)])
  by_cases z : l.length = 10
  · have eq : ps_push l f = l.tail ++ [f] := by rw [ps_push, if_pos z]
    simp (disch := first | assumption | omega | (simp only [ya_pi, ya_pj, ya_pa, ya_pr, yo_pi, yo_pj, yo_pa, yf_pi, yf_pj, yf_pa, yh_pi, yh_pj, yh_pa, yt_pi, yt_pj, yt_pa, la_pi, la_pj, la_pa]; assumption)) only [b_X12_notes_0, b_X12_notes_60, b_X12_notes_13, b_X12_notes_104, b_X12_notes_69, b_X12_notes_48, b_X12_notes_22, i_lit, i_m1, i_31, il_t, il_f, iq_t, iq_f, it_t, it_f, im_e, im_l, im_g, im_g2, nI_add, pk_mul, i_sub, i_div, sdm, i_dec, i_cl, iv_t, bI_or2, bI_t0, bI_one, not_true_eq_false, not_false_eq_true, ↓reduceIte, am_tl, am_tn, am_t0, am_n0, and_true, true_and, List.cons_append, List.nil_append, List.append_nil, or_true, true_or, or_false, false_or, eq_self, ior0, iand0, im_e2, oI, e0]
    refine lp_up 1179 (fun i (_ : Unit) => [some (v_r (some 93)), some (v_i (nI i))]) (fun i _ h' => am_fr h h' (fun a k => a = 94 ∧ 140 ≤ k ∧ k < 1319) ∧ ∀ k, k < 1310 → h_i h' 94 (140 + k) = if k < i then h_i h 94 (271 + k) else h_i h 94 (140 + k)) ?_ ?_ (Nat.zero_le _) ⟨am_fr.rf, fun k hk => by rw [if_neg (Nat.not_lt_zero _)]⟩ (s := ())
    · rintro i - h' hi ⟨fr, e⟩ nx
      have L1 : Lay h' := fr.lay L0
      have e3 := e (131 + i) (by omega)
      rw [if_neg (by omega), show 140 + (131 + i) = 271 + i from by omega] at e3
      rw [b_X12_notes_15 _ _ _]
      simp (disch := first | assumption | omega | (simp only [ya_pi, ya_pj, ya_pa, ya_pr, yo_pi, yo_pj, yo_pa, yf_pi, yf_pj, yf_pa, yh_pi, yh_pj, yh_pa, yt_pi, yt_pj, yt_pa, la_pi, la_pj, la_pa]; assumption)) only [b_X12_notes_0, b_X12_notes_60, b_X12_notes_13, b_X12_notes_104, b_X12_notes_69, b_X12_notes_48, b_X12_notes_22, i_lit, i_m1, i_31, il_t, il_f, iq_t, iq_f, it_t, it_f, im_e, im_l, im_g, im_g2, nI_add, pk_mul, i_sub, i_div, sdm, i_dec, i_cl, iv_t, bI_or2, bI_t0, bI_one, not_true_eq_false, not_false_eq_true, ↓reduceIte, am_tl, am_tn, am_t0, am_n0, and_true, true_and, List.cons_append, List.nil_append, List.append_nil, or_true, true_or, or_false, false_or, eq_self, ior0, iand0, im_e2, oI, e3]
      refine nx () _ ⟨fr.pi (by omega), fun k hk => ?_⟩
      by_cases z : k = i
      · subst z
        rw [hi_s, if_pos (by omega)]
      · rw [hi_k (by omega), e k hk]
        by_cases y : k < i
        · rw [if_pos y, if_pos (by omega)]
        · rw [if_neg y, if_neg (by omega)]
    · rintro - h' ⟨fr, e⟩
      have L1 : Lay h' := fr.lay L0
      have e3 : h_i h' 94 139 = nI l.length := by rw [fr.i (by omega), e0]
      rw [b_X12_notes_15 _ _ _]
      simp (disch := first | assumption | omega | (simp only [ya_pi, ya_pj, ya_pa, ya_pr, yo_pi, yo_pj, yo_pa, yf_pi, yf_pj, yf_pa, yh_pi, yh_pj, yh_pa, yt_pi, yt_pj, yt_pa, la_pi, la_pj, la_pa]; assumption)) only [b_X12_notes_0, b_X12_notes_60, b_X12_notes_13, b_X12_notes_104, b_X12_notes_69, b_X12_notes_48, b_X12_notes_22, i_lit, i_m1, i_31, il_t, il_f, iq_t, iq_f, it_t, it_f, im_e, im_l, im_g, im_g2, nI_add, pk_mul, i_sub, i_div, sdm, i_dec, i_cl, iv_t, bI_or2, bI_t0, bI_one, not_true_eq_false, not_false_eq_true, ↓reduceIte, am_tl, am_tn, am_t0, am_n0, and_true, true_and, List.cons_append, List.nil_append, List.append_nil, or_true, true_or, or_false, false_or, eq_self, ior0, iand0, im_e2, oI, e3]
      refine key _ l.tail ((fr.le (fun a k z => by unfold rN; omega)).pi (by unfold rN; omega)) ?_ ?_ ?_ ?_ eq.symm
      · rw [hi_s, List.length_tail]
      · rw [List.length_tail]
        omega
      · intro g hg
        exact okl g (List.mem_of_mem_tail hg)
      · intro k hk
        rw [List.length_tail] at hk
        rw [gdF_tl]
        refine fb_cp (fun c => ((okl _ (gdF_mem (show k + 1 < l.length by omega))).2 c).1) (R (k + 1) (by omega)) (fun j hj => ?_)
        rw [hi_k (by omega), show 140 + 131 * k + j = 140 + (131 * k + j) from by omega, e _ (by omega), if_pos (by omega)]
        congr 1
        omega
  · have eq : ps_push l f = l ++ [f] := by rw [ps_push, if_neg z]
    simp (disch := first | assumption | omega | (simp only [ya_pi, ya_pj, ya_pa, ya_pr, yo_pi, yo_pj, yo_pa, yf_pi, yf_pj, yf_pa, yh_pi, yh_pj, yh_pa, yt_pi, yt_pj, yt_pa, la_pi, la_pj, la_pa]; assumption)) only [b_X12_notes_0, b_X12_notes_60, b_X12_notes_13, b_X12_notes_104, b_X12_notes_69, b_X12_notes_48, b_X12_notes_22, i_lit, i_m1, i_31, il_t, il_f, iq_t, iq_f, it_t, it_f, im_e, im_l, im_g, im_g2, nI_add, pk_mul, i_sub, i_div, sdm, i_dec, i_cl, iv_t, bI_or2, bI_t0, bI_one, not_true_eq_false, not_false_eq_true, ↓reduceIte, am_tl, am_tn, am_t0, am_n0, and_true, true_and, List.cons_append, List.nil_append, List.append_nil, or_true, true_or, or_false, false_or, eq_self, ior0, iand0, im_e2, oI, e0]
    exact key h l am_fr.rf e0 (by omega) okl R eq.symm
/-! ===== deeds told in a row ===== -/
def d_run (f : fa_S) : List Int64 → Nat × Int32 × fa_S
  | [] => (0, nI 0, f)
  | v :: vs => if (d_do f v).1 = nI 0 then ((d_run (d_do f v).2 vs).1 + 1, (d_run (d_do f v).2 vs).2) else (0, (d_do f v).1, f)
theorem gd_run {vs : List Int64} : ∀ {f : fa_S}, fa_gd f → fa_gd (d_run f vs).2.2 := by
  induction vs with
  | nil => intro f gd; exact gd
  | cons v vs ih =>
    intro f gd
    rw [d_run]
    split
    · exact ih (gd_do gd)
    · exact gd
theorem d_run_le {vs : List Int64} : ∀ {f : fa_S}, (d_run f vs).1 ≤ vs.length := by
  induction vs with
  | nil => intro f; exact Nat.le_refl _
  | cons v vs ih =>
    intro f
    rw [d_run]
    split
    · exact Nat.succ_le_succ ih
    · exact Nat.zero_le _
theorem d_do_v {f : fa_S} {v : Int64} (h : (d_do f v).1 = nI 0) : ∃ n, 10 ≤ n ∧ n ≤ 1299 ∧ v = lN n ∧ d_do f v = d_doN f n := by
  unfold d_do at h ⊢
  by_cases z : v < lN 10 ∨ lN 1299 < v
  · rw [if_pos z] at h
    exact absurd h n1_0
  · obtain ⟨n, h1, h2, rfl⟩ := lN_rng (fun y => z (Or.inl y)) (fun y => z (Or.inr y)) (by omega) (by omega)
    refine ⟨n, h1, h2, rfl, ?_⟩
    rw [if_neg z, lN_i, nI_clamp (by omega)]
/-- a tray of the reference -/
def rty (h : am_H) (t : Nat) (s : Int32) (vs : List Int64) : Prop := h_i h 115 t = s ∧ h_i h 116 t = nI vs.length ∧ vs.length ≤ 40 ∧ ∀ k, k < vs.length → h_j h 117 (40 * t + k) = vs.getD k 0
theorem am_fr.rty {h h' : am_H} {P : Nat → Nat → Prop} (fr : am_fr h h' P) {t : Nat} {s : Int32} {vs : List Int64} (R : rty h t s vs) (h1 : ¬ P 115 t) (h2 : ¬ P 116 t) : rty h' t s vs := ⟨by rw [fr.i h1, R.1], by rw [fr.i h2, R.2.1], R.2.2.1, fun k hk => by rw [fr.j]; exact R.2.2.2 k hk⟩
def rT (a k : Nat) : Prop := rF a k ∨ (a = 93 ∧ k = 25)
theorem c_tells {d : Nat} {Q : Option am_V → am_H → Prop} {h : am_H} {f : fa_S} (gd : fa_gd f) (F : rfa h f) {t : Nat} (ht : t < 4) {s : Int32} {vs : List Int64} (R : rty h t s vs) {l2 : Option am_V} (k : ∀ h', am_fr h h' rT → rfa h' (d_run f vs).2.2 → h_i h' 93 25 = (d_run f vs).2.1 → Q (some (v_i (nI (d_run f vs).1))) h') : ex_ (d + 4) 302 0 [some (v_r (some 93)), some (v_i (nI t)), l2] [] h Q := by
  have L0 := F.1
  have hv := R.2.2.1
  simp (disch := first | assumption | omega | (simp only [ya_pi, ya_pj, ya_pa, ya_pr, yo_pi, yo_pj, yo_pa, yf_pi, yf_pj, yf_pa, yh_pi, yh_pj, yh_pa, yt_pi, yt_pj, yt_pa, la_pi, la_pj, la_pa]; assumption)) only [b_X12_tells_0, b_X12_tells_67, b_X12_tells_17, b_X12_tells_33, b_X12_tells_45, b_X12_tells_43, b_X12_tells_61, i_lit, i_m1, i_31, il_t, il_f, iq_t, iq_f, it_t, it_f, im_e, im_l, im_g, im_g2, nI_add, pk_mul, i_sub, i_div, sdm, i_dec, i_cl, iv_t, bI_or2, bI_t0, bI_one, not_true_eq_false, not_false_eq_true, ↓reduceIte, am_tl, am_tn, am_t0, am_n0, and_true, true_and, List.cons_append, List.nil_append, List.append_nil, or_true, true_or, or_false, false_or, eq_self, ior0, iand0, im_e2, oI]
  refine lp_up vs.length (fun i (_ : fa_S) => [some (v_r (some 93)), some (v_i (nI t)), some (v_i (nI i))]) (fun i g h' => am_fr h h' rT ∧ fa_gd g ∧ rfa h' g ∧ h_i h' 93 25 = nI 0 ∧ d_run f vs = (i + (d_run g (vs.drop i)).1, (d_run g (vs.drop i)).2)) ?_ ?_ (Nat.zero_le _) ⟨am_fr_pi (by unfold rT; omega), gd, (am_fr_pi (P := fun a _ => a = 93) rfl).rfa gd.1 F (fun k _ => by omega), hi_s, by rw [List.drop_zero, Nat.zero_add]⟩ (s := f)
  · rintro i g h' hi ⟨fr, gdg, G, e25, eq⟩ nx
    have R1 : rty h' t s vs := fr.rty R (by unfold rT rF; omega) (by unfold rT rF; omega)
    have L1 := G.1
    have e116 := R1.2.1
    have e117 := R1.2.2.2 i hi
    generalize hvi : vs.getD i 0 = v at e117
    have hd : vs.drop i = v :: vs.drop (i + 1) := by
      rw [List.drop_eq_getElem_cons hi, ← hvi, List.getD_eq_getElem?_getD, List.getElem?_eq_getElem hi]
      rfl
    rw [b_X12_tells_7 _ _ _ L1]
    rw [hd, d_run] at eq
    by_cases z : (d_do g v).1 = nI 0
    · rw [if_pos z] at eq
      obtain ⟨n, n1, n2, rfl, en⟩ := d_do_v z
      have G2 : rfa (p_i h' 93 25 (nI 0)) g := (am_fr_pi (P := fun a _ => a = 93) rfl).rfa gdg.1 G (fun k _ => by omega)
      rw [en] at z
      have gd2 := gd_doN gdg (n := n)
      simp (disch := first | assumption | omega | (simp only [ya_pi, ya_pj, ya_pa, ya_pr, yo_pi, yo_pj, yo_pa, yf_pi, yf_pj, yf_pa, yh_pi, yh_pj, yh_pa, yt_pi, yt_pj, yt_pa, la_pi, la_pj, la_pa]; assumption)) only [b_X12_tells_0, b_X12_tells_67, b_X12_tells_17, b_X12_tells_33, b_X12_tells_45, b_X12_tells_43, b_X12_tells_61, i_lit, i_m1, i_31, il_t, il_f, iq_t, iq_f, it_t, it_f, im_e, im_l, im_g, im_g2, nI_add, pk_mul, i_sub, i_div, sdm, i_dec, i_cl, iv_t, bI_or2, bI_t0, bI_one, not_true_eq_false, not_false_eq_true, ↓reduceIte, am_tl, am_tn, am_t0, am_n0, and_true, true_and, List.cons_append, List.nil_append, List.append_nil, or_true, true_or, or_false, false_or, eq_self, ior0, iand0, im_e2, oI, hi_s, hi_o, hi_k, hr_pi, hj_pi, hn_pi, hi_pas, hi_pao, hr_pa, hj_pa, e116, e117, c_whyNot gdg G, en, z, lN_i]
      refine c_does gdg G2 n1 n2 z (fun h3 fr3 G3 => ?_)
      simp (disch := first | assumption | omega | (simp only [ya_pi, ya_pj, ya_pa, ya_pr, yo_pi, yo_pj, yo_pa, yf_pi, yf_pj, yf_pa, yh_pi, yh_pj, yh_pa, yt_pi, yt_pj, yt_pa, la_pi, la_pj, la_pa]; assumption)) only [b_X12_tells_0, b_X12_tells_67, b_X12_tells_17, b_X12_tells_33, b_X12_tells_45, b_X12_tells_43, b_X12_tells_61, i_lit, i_m1, i_31, il_t, il_f, iq_t, iq_f, it_t, it_f, im_e, im_l, im_g, im_g2, nI_add, pk_mul, i_sub, i_div, sdm, i_dec, i_cl, iv_t, bI_or2, bI_t0, bI_one, not_true_eq_false, not_false_eq_true, ↓reduceIte, am_tl, am_tn, am_t0, am_n0, and_true, true_and, List.cons_append, List.nil_append, List.append_nil, or_true, true_or, or_false, false_or, eq_self, ior0, iand0, im_e2, oI]
      refine nx (d_doN g n).2 h3 ⟨(fr.pi (by unfold rT; omega)).tr (fr3.le (fun a k z => Or.inl z)), gd2, G3, by rw [fr3.i (by unfold rF; omega), hi_s], ?_⟩
      rw [eq, en]
      dsimp only
      rw [show i + ((d_run (d_doN g n).2 (List.drop (i + 1) vs)).1 + 1) = i + 1 + (d_run (d_doN g n).2 (List.drop (i + 1) vs)).1 from by omega]
    · rw [if_neg z] at eq
      rw [eq] at k
      simp (disch := first | assumption | omega | (simp only [ya_pi, ya_pj, ya_pa, ya_pr, yo_pi, yo_pj, yo_pa, yf_pi, yf_pj, yf_pa, yh_pi, yh_pj, yh_pa, yt_pi, yt_pj, yt_pa, la_pi, la_pj, la_pa]; assumption)) only [b_X12_tells_0, b_X12_tells_67, b_X12_tells_17, b_X12_tells_33, b_X12_tells_45, b_X12_tells_43, b_X12_tells_61, i_lit, i_m1, i_31, il_t, il_f, iq_t, iq_f, it_t, it_f, im_e, im_l, im_g, im_g2, nI_add, pk_mul, i_sub, i_div, sdm, i_dec, i_cl, iv_t, bI_or2, bI_t0, bI_one, not_true_eq_false, not_false_eq_true, ↓reduceIte, am_tl, am_tn, am_t0, am_n0, and_true, true_and, List.cons_append, List.nil_append, List.append_nil, or_true, true_or, or_false, false_or, eq_self, ior0, iand0, im_e2, oI, hi_s, hi_o, hi_k, hr_pi, hj_pi, hn_pi, hi_pas, hi_pao, hr_pa, hj_pa, e116, e117, c_whyNot gdg G]
      rw [if_neg z]
      exact k _ (fr.pi (by unfold rT; omega)) ((am_fr_pi (P := fun a _ => a = 93) rfl).rfa gdg.1 G (fun k _ => by omega)) hi_s
  · rintro g h' ⟨fr, gdg, G, e25, eq⟩
    have R1 : rty h' t s vs := fr.rty R (by unfold rT rF; omega) (by unfold rT rF; omega)
    have L1 := G.1
    have e116 := R1.2.1
    rw [List.drop_length, d_run] at eq
    rw [eq] at k
    rw [b_X12_tells_7 _ _ _ L1]
    simp (disch := first | assumption | omega | (simp only [ya_pi, ya_pj, ya_pa, ya_pr, yo_pi, yo_pj, yo_pa, yf_pi, yf_pj, yf_pa, yh_pi, yh_pj, yh_pa, yt_pi, yt_pj, yt_pa, la_pi, la_pj, la_pa]; assumption)) only [b_X12_tells_0, b_X12_tells_67, b_X12_tells_17, b_X12_tells_33, b_X12_tells_45, b_X12_tells_43, b_X12_tells_61, i_lit, i_m1, i_31, il_t, il_f, iq_t, iq_f, it_t, it_f, im_e, im_l, im_g, im_g2, nI_add, pk_mul, i_sub, i_div, sdm, i_dec, i_cl, iv_t, bI_or2, bI_t0, bI_one, not_true_eq_false, not_false_eq_true, ↓reduceIte, am_tl, am_tn, am_t0, am_n0, and_true, true_and, List.cons_append, List.nil_append, List.append_nil, or_true, true_or, or_false, false_or, eq_self, ior0, iand0, im_e2, oI, e116]
    exact k h' fr G e25
