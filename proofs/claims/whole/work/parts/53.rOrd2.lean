/-! ===== the reference's orders of all ===== -/
def ra (h : am_H) (T : od_T) (n : Nat) : Prop := Lay h ∧ ∀ c, c < n → rr h c (T c)
theorem la_y {h : am_H} (L : Lay h) {o t n : Nat} (ht : y_tab[o]? = some (t, n)) : y_arr h o t n := la_c (t := (t, n)) L ht
theorem nb_or {b : Nat} (h : b ≤ 1) : nI b ||| nI 1 = nI 1 := by
  rcases (show b = 0 ∨ b = 1 by omega) with rfl | rfl <;> decide
def ny (P : Prop) [Decidable P] : Nat := if P then 1 else 0
theorem od1_st {T : od_T} {N c : Nat} {ps : List Nat} (ok : od_ok T N) (hps : ∀ p ∈ ps, p < N) (h : ∀ i, i < ps.length → (T (ps.getD i 0)).1 = 0) : od1 T c ps = mv c (mf ps.length (od_R T ps)) := by
  rw [od1_mf (fun i hi => (ok _ (hps _ (gd_mem hi))).2.1.1 (h i hi))]
  cases mf ps.length (od_R T ps) with
  | none => rfl
  | some l => rfl
theorem c_laysOrder {d : Nat} {Q : Option am_V → am_H → Prop} {h : am_H} {c N : Nat} {T : od_T} {ps : List Nat} (A : ra h T N) (p0 : rp h ps) (ok : od_ok T N) (hNc : N ≤ c) (hc : c ≤ 10) (hps : ∀ p ∈ ps, p < N) (nd : ps.Nodup) (h4 : ps.length ≤ 4) {l2 l3 : Option am_V} (k : ∀ h', am_fr h h' (rP c) → rr h' c (od1 T c ps) → Q none h') : ex_ (d + 2) 269 0 [some (v_r (some 93)), some (v_i (nI c)), l2, l3] [] h Q := by
  have L0 := A.1
  have TO := A.2
  have e23 := p0.1
  rw [b_X12_laysOrder_0]
  refine lp_up ps.length (fun i (b : Nat) => [some (v_r (some 93)), some (v_i (nI c)), some (v_i (nI b)), some (v_i (nI i))]) (fun i b h' => h' = h ∧ ((b = 0 ∧ ∀ j, j < i → (T (ps.getD j 0)).1 = 0) ∨ (b = 1 ∧ ∃ j, j < ps.length ∧ (T (ps.getD j 0)).2 = []))) ?_ ?_ (Nat.zero_le _) ⟨rfl, Or.inl ⟨rfl, fun j hj => absurd hj (Nat.not_lt_zero _)⟩⟩ (s := 0)
  · rintro i b h' hi ⟨rfl, e⟩ nx
    have hm := gd_mem hi
    have hp := hps _ hm
    have hr := (TO _ hp).1
    have ho := ok _ hp
    have eq1 := p0.2 i hi
    rw [Nat.zero_add] at eq1
    have b1 : b ≤ 1 := by omega
    rw [b_X12_laysOrder_4 _ _ _ _ L0]
    by_cases z : (T (ps.getD i 0)).1 = 0
    · simp (disch := first | assumption | omega | (simp only [ya_pi, ya_pj, ya_pa, ya_pr, yo_pi, yo_pj, yo_pa, yf_pi, yf_pj, yf_pa, yh_pi, yh_pj, yh_pa, yt_pi, yt_pj, yt_pa, la_pi, la_pj, la_pa]; assumption)) only [b_X12_laysOrder_0, b_X12_laysOrder_40, b_X12_laysOrder_12, b_X12_laysOrder_60, b_X12_laysOrder_56, b_X12_laysOrder_31, b_X12_laysOrder_27, b_X12_laysOrder_65, i_lit, i_m1, i_31, il_t, il_f, iq_t, iq_f, it_t, it_f, im_e, im_l, im_g, im_g2, nI_add, pk_mul, i_sub, i_div, sdm, i_dec, i_cl, iv_t, bI_or2, bI_t0, bI_one, not_true_eq_false, not_false_eq_true, ↓reduceIte, am_tl, am_tn, am_t0, am_n0, and_true, true_and, List.cons_append, List.nil_append, List.append_nil, or_true, true_or, or_false, false_or, eq_self, ior0, iand0, im_e2, oI, e23, eq1, hr, z]
      refine nx b h' ⟨rfl, ?_⟩
      rcases e with ⟨e1, e2⟩ | e
      · refine Or.inl ⟨e1, fun j hj => ?_⟩
        by_cases q : j = i
        · rw [q, z]
        · exact e2 j (by omega)
      · exact Or.inr e
    · simp (disch := first | assumption | omega | (simp only [ya_pi, ya_pj, ya_pa, ya_pr, yo_pi, yo_pj, yo_pa, yf_pi, yf_pj, yf_pa, yh_pi, yh_pj, yh_pa, yt_pi, yt_pj, yt_pa, la_pi, la_pj, la_pa]; assumption)) only [b_X12_laysOrder_0, b_X12_laysOrder_40, b_X12_laysOrder_12, b_X12_laysOrder_60, b_X12_laysOrder_56, b_X12_laysOrder_31, b_X12_laysOrder_27, b_X12_laysOrder_65, i_lit, i_m1, i_31, il_t, il_f, iq_t, iq_f, it_t, it_f, im_e, im_l, im_g, im_g2, nI_add, pk_mul, i_sub, i_div, sdm, i_dec, i_cl, iv_t, bI_or2, bI_t0, bI_one, not_true_eq_false, not_false_eq_true, ↓reduceIte, am_tl, am_tn, am_t0, am_n0, and_true, true_and, List.cons_append, List.nil_append, List.append_nil, or_true, true_or, or_false, false_or, eq_self, ior0, iand0, im_e2, oI, e23, eq1, hr, nb_or]
      refine nx 1 h' ⟨rfl, Or.inr ⟨rfl, i, hi, ?_⟩⟩
      by_cases q : (T (ps.getD i 0)).2 = []
      · exact q
      · exact absurd (ho.2.1.2 q) z
  · rintro b h' ⟨rfl, e⟩
    rw [b_X12_laysOrder_4 _ _ _ _ L0]
    have A100 : y_arr h' 100 20 11 := la_y L0 rfl
    rcases e with ⟨rfl, e⟩ | ⟨rfl, j, hj, ej⟩
    · rw [od1_st ok hps e] at k
      have L1 : Lay (p_i h' 98 c (nI 0)) := L0
      have fr1 : am_fr h' (p_i h' 98 c (nI 0)) (rP c) := am_fr_pi (by unfold rP; omega)
      simp (disch := first | assumption | omega | (simp only [ya_pi, ya_pj, ya_pa, ya_pr, yo_pi, yo_pj, yo_pa, yf_pi, yf_pj, yf_pa, yh_pi, yh_pj, yh_pa, yt_pi, yt_pj, yt_pa, la_pi, la_pj, la_pa]; assumption)) only [b_X12_laysOrder_0, b_X12_laysOrder_40, b_X12_laysOrder_12, b_X12_laysOrder_60, b_X12_laysOrder_56, b_X12_laysOrder_31, b_X12_laysOrder_27, b_X12_laysOrder_65, i_lit, i_m1, i_31, il_t, il_f, iq_t, iq_f, it_t, it_f, im_e, im_l, im_g, im_g2, nI_add, pk_mul, i_sub, i_div, sdm, i_dec, i_cl, iv_t, bI_or2, bI_t0, bI_one, not_true_eq_false, not_false_eq_true, ↓reduceIte, am_tl, am_tn, am_t0, am_n0, and_true, true_and, List.cons_append, List.nil_append, List.append_nil, or_true, true_or, or_false, false_or, eq_self, ior0, iand0, im_e2, oI, e23]
      refine c_merges (T := T) (N := N) L1 (p0.fr fr1 (by unfold rP; omega) (fun k => by unfold rP; omega)) (fun p hp => (TO p hp).fr fr1 (by have := ok p hp; omega) (by unfold rP; omega) (by unfold rP; omega) (fun k _ => by unfold rP; omega)) ok hNc hc hps nd h4 (fun h2 fr2 e1 e2 => ?_)
      have L2 : Lay h2 := fr2.lay L1
      have A2 : y_arr h2 100 20 11 := la_y L2 rfl
      simp (disch := first | assumption | omega | (simp only [ya_pi, ya_pj, ya_pa, ya_pr, yo_pi, yo_pj, yo_pa, yf_pi, yf_pj, yf_pa, yh_pi, yh_pj, yh_pa, yt_pi, yt_pj, yt_pa, la_pi, la_pj, la_pa]; assumption)) only [b_X12_laysOrder_0, b_X12_laysOrder_40, b_X12_laysOrder_12, b_X12_laysOrder_60, b_X12_laysOrder_56, b_X12_laysOrder_31, b_X12_laysOrder_27, b_X12_laysOrder_65, i_lit, i_m1, i_31, il_t, il_f, iq_t, iq_f, it_t, it_f, im_e, im_l, im_g, im_g2, nI_add, pk_mul, i_sub, i_div, sdm, i_dec, i_cl, iv_t, bI_or2, bI_t0, bI_one, not_true_eq_false, not_false_eq_true, ↓reduceIte, am_tl, am_tn, am_t0, am_n0, and_true, true_and, List.cons_append, List.nil_append, List.append_nil, or_true, true_or, or_false, false_or, eq_self, ior0, iand0, im_e2, oI]
      refine k _ ((fr1.tr fr2).pi (by unfold rP; omega)) ⟨by simp (disch := first | assumption | omega | (simp only [ya_pi, ya_pj, ya_pa, ya_pr, yo_pi, yo_pj, yo_pa, yf_pi, yf_pj, yf_pa, yh_pi, yh_pj, yh_pa, yt_pi, yt_pj, yt_pa, la_pi, la_pj, la_pa]; assumption)) only [hi_s, hi_o, hi_k, hr_pi, hj_pi, hn_pi, hi_pas, hi_pao, hr_pa, hj_pa], by simp (disch := first | assumption | omega | (simp only [ya_pi, ya_pj, ya_pa, ya_pr, yo_pi, yo_pj, yo_pa, yf_pi, yf_pj, yf_pa, yh_pi, yh_pj, yh_pa, yt_pi, yt_pj, yt_pa, la_pi, la_pj, la_pa]; assumption)) only [hi_s, hi_o, hi_k, hr_pi, hj_pi, hn_pi, hi_pas, hi_pao, hr_pa, hj_pa, e1], fun q hq => ?_⟩
      rw [hi_o (by omega)]
      exact e2 q hq
    · rw [od1_any hj ej] at k
      simp (disch := first | assumption | omega | (simp only [ya_pi, ya_pj, ya_pa, ya_pr, yo_pi, yo_pj, yo_pa, yf_pi, yf_pj, yf_pa, yh_pi, yh_pj, yh_pa, yt_pi, yt_pj, yt_pa, la_pi, la_pj, la_pa]; assumption)) only [b_X12_laysOrder_0, b_X12_laysOrder_40, b_X12_laysOrder_12, b_X12_laysOrder_60, b_X12_laysOrder_56, b_X12_laysOrder_31, b_X12_laysOrder_27, b_X12_laysOrder_65, i_lit, i_m1, i_31, il_t, il_f, iq_t, iq_f, it_t, it_f, im_e, im_l, im_g, im_g2, nI_add, pk_mul, i_sub, i_div, sdm, i_dec, i_cl, iv_t, bI_or2, bI_t0, bI_one, not_true_eq_false, not_false_eq_true, ↓reduceIte, am_tl, am_tn, am_t0, am_n0, and_true, true_and, List.cons_append, List.nil_append, List.append_nil, or_true, true_or, or_false, false_or, eq_self, ior0, iand0, im_e2, oI, e23]
      exact k _ ((am_fr_pi (by unfold rP; omega)).pi (by unfold rP; omega)) ⟨by simp (disch := first | assumption | omega | (simp only [ya_pi, ya_pj, ya_pa, ya_pr, yo_pi, yo_pj, yo_pa, yf_pi, yf_pj, yf_pa, yh_pi, yh_pj, yh_pa, yt_pi, yt_pj, yt_pa, la_pi, la_pj, la_pa]; assumption)) only [hi_s, hi_o, hi_k, hr_pi, hj_pi, hn_pi, hi_pas, hi_pao, hr_pa, hj_pa], by simp (disch := first | assumption | omega | (simp only [ya_pi, ya_pj, ya_pa, ya_pr, yo_pi, yo_pj, yo_pa, yf_pi, yf_pj, yf_pa, yh_pi, yh_pj, yh_pa, yt_pi, yt_pj, yt_pa, la_pi, la_pj, la_pa]; assumption)) only [hi_s, hi_o, hi_k, hr_pi, hj_pi, hn_pi, hi_pas, hi_pao, hr_pa, hj_pa]; rfl, ro_nil⟩
def rQ (a k : Nat) : Prop := (a = 93 ∧ k = 23) ∨ a = 104
theorem c_laysParents {d : Nat} {Q : Option am_V → am_H → Prop} {h : am_H} {f : fa_S} (ok : fa_ok f) (F : rfa h f) {c : Nat} (hc : c < 10) {l2 : Option am_V} (k : ∀ h', am_fr h h' rQ → rp h' (f_p f c) → Q none h') : ex_ (d + 1) 270 0 [some (v_r (some 93)), some (v_i (nI c)), l2] [] h Q := by
  have h4 := (ok.2 c).1
  have L0 := F.1
  have e0 := r_cnt F hc
  simp (disch := first | assumption | omega | (simp only [ya_pi, ya_pj, ya_pa, ya_pr, yo_pi, yo_pj, yo_pa, yf_pi, yf_pj, yf_pa, yh_pi, yh_pj, yh_pa, yt_pi, yt_pj, yt_pa, la_pi, la_pj, la_pa]; assumption)) only [b_X12_laysParents_0, b_X12_laysParents_41, b_X12_laysParents_23, b_X12_laysParents_34, i_lit, i_m1, i_31, il_t, il_f, iq_t, iq_f, it_t, it_f, im_e, im_l, im_g, im_g2, nI_add, pk_mul, i_sub, i_div, sdm, i_dec, i_cl, iv_t, bI_or2, bI_t0, bI_one, not_true_eq_false, not_false_eq_true, ↓reduceIte, am_tl, am_tn, am_t0, am_n0, and_true, true_and, List.cons_append, List.nil_append, List.append_nil, or_true, true_or, or_false, false_or, eq_self, ior0, iand0, im_e2, oI, e0]
  refine lp_up (f_p f c).length (fun i (_ : Unit) => [some (v_r (some 93)), some (v_i (nI c)), some (v_i (nI i))]) (fun i _ h' => am_fr h h' rQ ∧ h_i h' 93 23 = nI (f_p f c).length ∧ ro h' 104 0 ((f_p f c).take i)) ?_ ?_ (Nat.zero_le _) ⟨am_fr_pi (by unfold rQ; omega), hi_s, ro_nil⟩ (s := ())
  · rintro i - h' hi ⟨fr, e1, e2⟩ nx
    have F1 : rfa h' f := fr.rfa ok F (fun k _ => by unfold rQ; omega)
    have L1 := F1.1
    have A4 : y_arr h' 104 20 4 := la_y L1 rfl
    rw [b_X12_laysParents_15 _ _ _ L1]
    simp (disch := first | assumption | omega | (simp only [ya_pi, ya_pj, ya_pa, ya_pr, yo_pi, yo_pj, yo_pa, yf_pi, yf_pj, yf_pa, yh_pi, yh_pj, yh_pa, yt_pi, yt_pj, yt_pa, la_pi, la_pj, la_pa]; assumption)) only [b_X12_laysParents_0, b_X12_laysParents_41, b_X12_laysParents_23, b_X12_laysParents_34, i_lit, i_m1, i_31, il_t, il_f, iq_t, iq_f, it_t, it_f, im_e, im_l, im_g, im_g2, nI_add, pk_mul, i_sub, i_div, sdm, i_dec, i_cl, iv_t, bI_or2, bI_t0, bI_one, not_true_eq_false, not_false_eq_true, ↓reduceIte, am_tl, am_tn, am_t0, am_n0, and_true, true_and, List.cons_append, List.nil_append, List.append_nil, or_true, true_or, or_false, false_or, eq_self, ior0, iand0, im_e2, oI, e1, c_rParentAt F1 hc hi h4]
    refine nx () _ ⟨fr.pi (by unfold rQ; omega), by rw [hi_o (by omega), e1], ?_⟩
    rw [tk_s hi]
    have := ro_app (q := (f_p f c).getD i 0) e2
    rw [tk_l (by omega), Nat.zero_add] at this
    exact this
  · rintro - h' ⟨fr, e1, e2⟩
    have L1 : Lay h' := fr.lay L0
    rw [List.take_length] at e2
    rw [b_X12_laysParents_15 _ _ _ L1]
    simp (disch := first | assumption | omega | (simp only [ya_pi, ya_pj, ya_pa, ya_pr, yo_pi, yo_pj, yo_pa, yf_pi, yf_pj, yf_pa, yh_pi, yh_pj, yh_pa, yt_pi, yt_pj, yt_pa, la_pi, la_pj, la_pa]; assumption)) only [b_X12_laysParents_0, b_X12_laysParents_41, b_X12_laysParents_23, b_X12_laysParents_34, i_lit, i_m1, i_31, il_t, il_f, iq_t, iq_f, it_t, it_f, im_e, im_l, im_g, im_g2, nI_add, pk_mul, i_sub, i_div, sdm, i_dec, i_cl, iv_t, bI_or2, bI_t0, bI_one, not_true_eq_false, not_false_eq_true, ↓reduceIte, am_tl, am_tn, am_t0, am_n0, and_true, true_and, List.cons_append, List.nil_append, List.append_nil, or_true, true_or, or_false, false_or, eq_self, ior0, iand0, im_e2, oI, e1]
    exact k h' fr ⟨e1, e2⟩
def rA (a k : Nat) : Prop := (a = 93 ∧ k = 23) ∨ (98 ≤ a ∧ a ≤ 104)
theorem ra.up {h h' : am_H} {c : Nat} {T : od_T} {v : Nat × List Nat} (F : ra h T c) (ok : od_ok T c) (fr : am_fr h h' (rP c)) (r : rr h' c v) : ra h' (od_up T c v) (c + 1) := by
  refine ⟨fr.lay F.1, fun q hq => ?_⟩
  unfold od_up
  by_cases z : q = c
  · rw [if_pos z, z]
    exact r
  · rw [if_neg z]
    have := ok q (by omega)
    exact (F.2 q (by omega)).fr fr (by omega) (by unfold rP; omega) (by unfold rP; omega) (fun k _ => by unfold rP; omega)
theorem ra.fr {h h' : am_H} {P : Nat → Nat → Prop} {n : Nat} {T : od_T} (F : ra h T n) (ok : od_ok T n) (fr : am_fr h h' P) (hp : ∀ a k, 98 ≤ a → a ≤ 100 → ¬ P a k) : ra h' T n := by
  refine ⟨fr.lay F.1, fun q hq => ?_⟩
  have := ok q hq
  exact (F.2 q hq).fr fr (by omega) (hp _ _ (by omega) (by omega)) (hp _ _ (by omega) (by omega)) (fun k _ => hp _ _ (by omega) (by omega))
theorem c_laysOrders {d : Nat} {Q : Option am_V → am_H → Prop} {h : am_H} {f : fa_S} (ok : fa_ok f) (F : rfa h f) {l1 : Option am_V} (k : ∀ h', am_fr h h' rA → ra h' (od (f_p f) (f_n f)) (f_n f) → Q none h') : ex_ (d + 3) 271 0 [some (v_r (some 93)), l1] [] h Q := by
  have hn := ok.1
  have okk := od_okk (fa_pok ok)
  rw [b_X12_laysOrders_0]
  refine lp_up (f_n f) (fun i (_ : Unit) => [some (v_r (some 93)), some (v_i (nI i))]) (fun i _ h' => am_fr h h' rA ∧ ra h' (od (f_p f) i) i) ?_ ?_ (Nat.zero_le _) ⟨am_fr.rf, F.1, fun c hc => absurd hc (Nat.not_lt_zero _)⟩ (s := ())
  · rintro i - h' hi ⟨fr, A⟩ nx
    have F1 : rfa h' f := fr.rfa ok F (fun k _ => by unfold rA; omega)
    have e1 := F1.2.1
    have L1 := F1.1
    have oki := (okk i (by omega)).1
    rw [b_X12_laysOrders_2 _ _ L1]
    simp (disch := first | assumption | omega | (simp only [ya_pi, ya_pj, ya_pa, ya_pr, yo_pi, yo_pj, yo_pa, yf_pi, yf_pj, yf_pa, yh_pi, yh_pj, yh_pa, yt_pi, yt_pj, yt_pa, la_pi, la_pj, la_pa]; assumption)) only [b_X12_laysOrders_0, b_X12_laysOrders_28, b_X12_laysOrders_12, b_X12_laysOrders_17, b_X12_laysOrders_22, i_lit, i_m1, i_31, il_t, il_f, iq_t, iq_f, it_t, it_f, im_e, im_l, im_g, im_g2, nI_add, pk_mul, i_sub, i_div, sdm, i_dec, i_cl, iv_t, bI_or2, bI_t0, bI_one, not_true_eq_false, not_false_eq_true, ↓reduceIte, am_tl, am_tn, am_t0, am_n0, and_true, true_and, List.cons_append, List.nil_append, List.append_nil, or_true, true_or, or_false, false_or, eq_self, ior0, iand0, im_e2, oI, e1]
    refine c_laysParents ok F1 (show i < 10 by omega) (fun h2 fr2 p2 => ?_)
    have L2 : Lay h2 := fr2.lay L1
    simp (disch := first | assumption | omega | (simp only [ya_pi, ya_pj, ya_pa, ya_pr, yo_pi, yo_pj, yo_pa, yf_pi, yf_pj, yf_pa, yh_pi, yh_pj, yh_pa, yt_pi, yt_pj, yt_pa, la_pi, la_pj, la_pa]; assumption)) only [b_X12_laysOrders_0, b_X12_laysOrders_28, b_X12_laysOrders_12, b_X12_laysOrders_17, b_X12_laysOrders_22, i_lit, i_m1, i_31, il_t, il_f, iq_t, iq_f, it_t, it_f, im_e, im_l, im_g, im_g2, nI_add, pk_mul, i_sub, i_div, sdm, i_dec, i_cl, iv_t, bI_or2, bI_t0, bI_one, not_true_eq_false, not_false_eq_true, ↓reduceIte, am_tl, am_tn, am_t0, am_n0, and_true, true_and, List.cons_append, List.nil_append, List.append_nil, or_true, true_or, or_false, false_or, eq_self, ior0, iand0, im_e2, oI]
    refine c_laysOrder (T := od (f_p f) i) (N := i) (A.fr oki fr2 (fun a k _ _ => by unfold rQ; omega)) p2 oki (Nat.le_refl _) (by omega) (fun p hp => (ok.2 i).2.1 p hp) (ok.2 i).2.2.1 (ok.2 i).1 (fun h3 fr3 r3 => ?_)
    simp (disch := first | assumption | omega | (simp only [ya_pi, ya_pj, ya_pa, ya_pr, yo_pi, yo_pj, yo_pa, yf_pi, yf_pj, yf_pa, yh_pi, yh_pj, yh_pa, yt_pi, yt_pj, yt_pa, la_pi, la_pj, la_pa]; assumption)) only [b_X12_laysOrders_0, b_X12_laysOrders_28, b_X12_laysOrders_12, b_X12_laysOrders_17, b_X12_laysOrders_22, i_lit, i_m1, i_31, il_t, il_f, iq_t, iq_f, it_t, it_f, im_e, im_l, im_g, im_g2, nI_add, pk_mul, i_sub, i_div, sdm, i_dec, i_cl, iv_t, bI_or2, bI_t0, bI_one, not_true_eq_false, not_false_eq_true, ↓reduceIte, am_tl, am_tn, am_t0, am_n0, and_true, true_and, List.cons_append, List.nil_append, List.append_nil, or_true, true_or, or_false, false_or, eq_self, ior0, iand0, im_e2, oI]
    exact nx () h3 ⟨(fr.tr (fr2.le (fun a k z => by unfold rQ at z; unfold rA; omega))).tr (fr3.le (fun a k z => by unfold rP at z; unfold rA; omega)), (A.fr oki fr2 (fun a k _ _ => by unfold rQ; omega)).up oki fr3 r3⟩
  · rintro - h' ⟨fr, A⟩
    have F1 : rfa h' f := fr.rfa ok F (fun k _ => by unfold rA; omega)
    have e1 := F1.2.1
    have L1 := F1.1
    rw [b_X12_laysOrders_2 _ _ L1]
    simp (disch := first | assumption | omega | (simp only [ya_pi, ya_pj, ya_pa, ya_pr, yo_pi, yo_pj, yo_pa, yf_pi, yf_pj, yf_pa, yh_pi, yh_pj, yh_pa, yt_pi, yt_pj, yt_pa, la_pi, la_pj, la_pa]; assumption)) only [b_X12_laysOrders_0, b_X12_laysOrders_28, b_X12_laysOrders_12, b_X12_laysOrders_17, b_X12_laysOrders_22, i_lit, i_m1, i_31, il_t, il_f, iq_t, iq_f, it_t, it_f, im_e, im_l, im_g, im_g2, nI_add, pk_mul, i_sub, i_div, sdm, i_dec, i_cl, iv_t, bI_or2, bI_t0, bI_one, not_true_eq_false, not_false_eq_true, ↓reduceIte, am_tl, am_tn, am_t0, am_n0, and_true, true_and, List.cons_append, List.nil_append, List.append_nil, or_true, true_or, or_false, false_or, eq_self, ior0, iand0, im_e2, oI, e1]
    exact k h' fr A
theorem c_placeIn {d : Nat} {Q : Option am_V → am_H → Prop} {h : am_H} {c q : Nat} {v : Nat × List Nat} (L0 : Lay h) (m : rr h c v) (hc : c < 11) (hl : v.2.length ≤ 11) (hv : ∀ x ∈ v.2, x < 11) (hq : q < 2147483648) {l3 : Option am_V} : ex_ d 272 0 [some (v_r (some 93)), some (v_i (nI c)), some (v_i (nI q)), l3] [] h Q ↔ Q (some (v_i (oI (pl v.2 q)))) h := by
  have e0 := m.2.1
  apply ex_iff
  rw [b_X12_placeIn_0]
  refine lp_up v.2.length (fun i (_ : Unit) => [some (v_r (some 93)), some (v_i (nI c)), some (v_i (nI q)), some (v_i (nI i))]) (fun i _ h' => h' = h ∧ fi (fun k => v.2.getD k 0 == q) v.2.length i = pl v.2 q) ?_ ?_ (Nat.zero_le _) ⟨rfl, rfl⟩ (s := ())
  · rintro i - h' hi ⟨rfl, e⟩ nx
    have h11 := hv _ (gd_mem hi)
    have e1 := m.2.2 i hi
    rw [b_X12_placeIn_2 _ _ _ _ L0]
    by_cases he : v.2.getD i 0 = q
    · rw [pl_y hi he] at e
      simp (disch := first | assumption | omega | (simp only [ya_pi, ya_pj, ya_pa, ya_pr, yo_pi, yo_pj, yo_pa, yf_pi, yf_pj, yf_pa, yh_pi, yh_pj, yh_pa, yt_pi, yt_pj, yt_pa, la_pi, la_pj, la_pa]; assumption)) only [b_X12_placeIn_0, b_X12_placeIn_35, b_X12_placeIn_12, b_X12_placeIn_29, b_X12_placeIn_27, i_lit, i_m1, i_31, il_t, il_f, iq_t, iq_f, it_t, it_f, im_e, im_l, im_g, im_g2, nI_add, pk_mul, i_sub, i_div, sdm, i_dec, i_cl, iv_t, bI_or2, bI_t0, bI_one, not_true_eq_false, not_false_eq_true, ↓reduceIte, am_tl, am_tn, am_t0, am_n0, and_true, true_and, List.cons_append, List.nil_append, List.append_nil, or_true, true_or, or_false, false_or, eq_self, ior0, iand0, im_e2, oI, e0, e1]
      rw [← e]
    · rw [pl_x he] at e
      simp (disch := first | assumption | omega | (simp only [ya_pi, ya_pj, ya_pa, ya_pr, yo_pi, yo_pj, yo_pa, yf_pi, yf_pj, yf_pa, yh_pi, yh_pj, yh_pa, yt_pi, yt_pj, yt_pa, la_pi, la_pj, la_pa]; assumption)) only [b_X12_placeIn_0, b_X12_placeIn_35, b_X12_placeIn_12, b_X12_placeIn_29, b_X12_placeIn_27, i_lit, i_m1, i_31, il_t, il_f, iq_t, iq_f, it_t, it_f, im_e, im_l, im_g, im_g2, nI_add, pk_mul, i_sub, i_div, sdm, i_dec, i_cl, iv_t, bI_or2, bI_t0, bI_one, not_true_eq_false, not_false_eq_true, ↓reduceIte, am_tl, am_tn, am_t0, am_n0, and_true, true_and, List.cons_append, List.nil_append, List.append_nil, or_true, true_or, or_false, false_or, eq_self, ior0, iand0, im_e2, oI, e0, e1]
      exact nx () _ ⟨rfl, e⟩
  · rintro - h' ⟨rfl, e⟩
    rw [fi_end (by omega)] at e
    rw [b_X12_placeIn_2 _ _ _ _ L0]
    simp (disch := first | assumption | omega | (simp only [ya_pi, ya_pj, ya_pa, ya_pr, yo_pi, yo_pj, yo_pa, yf_pi, yf_pj, yf_pa, yh_pi, yh_pj, yh_pa, yt_pi, yt_pj, yt_pa, la_pi, la_pj, la_pa]; assumption)) only [b_X12_placeIn_0, b_X12_placeIn_35, b_X12_placeIn_12, b_X12_placeIn_29, b_X12_placeIn_27, i_lit, i_m1, i_31, il_t, il_f, iq_t, iq_f, it_t, it_f, im_e, im_l, im_g, im_g2, nI_add, pk_mul, i_sub, i_div, sdm, i_dec, i_cl, iv_t, bI_or2, bI_t0, bI_one, not_true_eq_false, not_false_eq_true, ↓reduceIte, am_tl, am_tn, am_t0, am_n0, and_true, true_and, List.cons_append, List.nil_append, List.append_nil, or_true, true_or, or_false, false_or, eq_self, ior0, iand0, im_e2, oI, e0]
    rw [← e]
theorem c_statesOf {d : Nat} {Q : Option am_V → am_H → Prop} {h : am_H} {n st : Nat} {T : od_T} (A : ra h T n) (e1 : h_i h 94 1 = nI n) (hn : n ≤ 10) (hst : st < 10) (ok : od_ok T n) {l2 l3 : Option am_V} : ex_ d 273 0 [some (v_r (some 93)), some (v_i (nI st)), l2, l3] [] h Q ↔ Q (some (v_i (nI (bs (bl (fun c => (T c).1 == st) n))))) h := by
  have L0 := A.1
  apply ex_iff
  rw [b_X12_statesOf_0]
  have L1 : ex_ d 273 4 [some (v_r (some 93)), some (v_i (nI st)), some (v_i (nI (bs (bl (fun c => (T c).1 == st) 0)))), some (v_i (nI 0))] [] h (fun r h' => r = some (v_i (nI (bs (bl (fun c => (T c).1 == st) n)))) ∧ h' = h) := by
    refine lp_up n (fun i (_ : Unit) => [some (v_r (some 93)), some (v_i (nI st)), some (v_i (nI (bs (bl (fun c => (T c).1 == st) i)))), some (v_i (nI i))]) (fun i _ h' => h' = h) ?_ ?_ (Nat.zero_le _) rfl (s := ())
    · rintro i - h' hi rfl nx
      have e2 := (A.2 i hi).1
      have ho := (ok i hi).1
      rw [b_X12_statesOf_4 _ _ _ _ L0]
      have nxt := nx () h' rfl
      by_cases z : (T i).1 = st
      · rw [bl_y (p := fun c => (T c).1 == st) (n := i) (beq_iff_eq.2 z)] at nxt
        simp (disch := first | assumption | omega | (simp only [ya_pi, ya_pj, ya_pa, ya_pr, yo_pi, yo_pj, yo_pa, yf_pi, yf_pj, yf_pa, yh_pi, yh_pj, yh_pa, yt_pi, yt_pj, yt_pa, la_pi, la_pj, la_pa]; assumption)) only [b_X12_statesOf_0, b_X12_statesOf_40, b_X12_statesOf_14, b_X12_statesOf_31, b_X12_statesOf_25, i_lit, i_m1, i_31, il_t, il_f, iq_t, iq_f, it_t, it_f, im_e, im_l, im_g, im_g2, nI_add, pk_mul, i_sub, i_div, sdm, i_dec, i_cl, iv_t, bI_or2, bI_t0, bI_one, not_true_eq_false, not_false_eq_true, ↓reduceIte, am_tl, am_tn, am_t0, am_n0, and_true, true_and, List.cons_append, List.nil_append, List.append_nil, or_true, true_or, or_false, false_or, eq_self, ior0, iand0, im_e2, oI, e1, e2, i_31]
        exact nxt
      · rw [bl_n (p := fun c => (T c).1 == st) (n := i) (beq_eq_false_iff_ne.2 z)] at nxt
        simp (disch := first | assumption | omega | (simp only [ya_pi, ya_pj, ya_pa, ya_pr, yo_pi, yo_pj, yo_pa, yf_pi, yf_pj, yf_pa, yh_pi, yh_pj, yh_pa, yt_pi, yt_pj, yt_pa, la_pi, la_pj, la_pa]; assumption)) only [b_X12_statesOf_0, b_X12_statesOf_40, b_X12_statesOf_14, b_X12_statesOf_31, b_X12_statesOf_25, i_lit, i_m1, i_31, il_t, il_f, iq_t, iq_f, it_t, it_f, im_e, im_l, im_g, im_g2, nI_add, pk_mul, i_sub, i_div, sdm, i_dec, i_cl, iv_t, bI_or2, bI_t0, bI_one, not_true_eq_false, not_false_eq_true, ↓reduceIte, am_tl, am_tn, am_t0, am_n0, and_true, true_and, List.cons_append, List.nil_append, List.append_nil, or_true, true_or, or_false, false_or, eq_self, ior0, iand0, im_e2, oI, e1, e2]
        exact nxt
    · rintro - h' rfl
      rw [b_X12_statesOf_4 _ _ _ _ L0]
      simp (disch := first | assumption | omega | (simp only [ya_pi, ya_pj, ya_pa, ya_pr, yo_pi, yo_pj, yo_pa, yf_pi, yf_pj, yf_pa, yh_pi, yh_pj, yh_pa, yt_pi, yt_pj, yt_pa, la_pi, la_pj, la_pa]; assumption)) only [b_X12_statesOf_0, b_X12_statesOf_40, b_X12_statesOf_14, b_X12_statesOf_31, b_X12_statesOf_25, i_lit, i_m1, i_31, il_t, il_f, iq_t, iq_f, it_t, it_f, im_e, im_l, im_g, im_g2, nI_add, pk_mul, i_sub, i_div, sdm, i_dec, i_cl, iv_t, bI_or2, bI_t0, bI_one, not_true_eq_false, not_false_eq_true, ↓reduceIte, am_tl, am_tn, am_t0, am_n0, and_true, true_and, List.cons_append, List.nil_append, List.append_nil, or_true, true_or, or_false, false_or, eq_self, ior0, iand0, im_e2, oI, e1]
  rw [bl_0] at L1
  exact L1
theorem bI_bit {P : Nat → Bool} {k : Nat} (h : k < 16) : (nI (bs P) >>> nI k) &&& nI 1 = nI (if P k = true then 1 else 0) := by
  have := bs_lt P
  rw [i_shr (by omega) (by omega), i_and1, i_tb, bs_tb h]
theorem c_rBits {d : Nat} {Q : Option am_V → am_H → Prop} {h : am_H} {P : Nat → Bool} {l1 l2 : Option am_V} : ex_ d 274 0 [some (v_i (nI (bs P))), l1, l2] [] h Q ↔ Q (some (v_i (nI (ct P 11)))) h := by
  apply ex_iff
  rw [b_X12_bitsOf_0]
  refine lp_up 11 (fun i (_ : Unit) => [some (v_i (nI (bs P))), some (v_i (nI (ct P i))), some (v_i (nI i))]) (fun i _ h' => h' = h) ?_ ?_ (Nat.zero_le _) rfl (s := ())
  · rintro i - h' hi rfl nx
    rw [b_X12_bitsOf_4]
    simp (disch := first | assumption | omega | (simp only [ya_pi, ya_pj, ya_pa, ya_pr, yo_pi, yo_pj, yo_pa, yf_pi, yf_pj, yf_pa, yh_pi, yh_pj, yh_pa, yt_pi, yt_pj, yt_pa, la_pi, la_pj, la_pa]; assumption)) only [b_X12_bitsOf_0, b_X12_bitsOf_24, b_X12_bitsOf_10, i_lit, i_m1, i_31, il_t, il_f, iq_t, iq_f, it_t, it_f, im_e, im_l, im_g, im_g2, nI_add, pk_mul, i_sub, i_div, sdm, i_dec, i_cl, iv_t, bI_or2, bI_t0, bI_one, not_true_eq_false, not_false_eq_true, ↓reduceIte, am_tl, am_tn, am_t0, am_n0, and_true, true_and, List.cons_append, List.nil_append, List.append_nil, or_true, true_or, or_false, false_or, eq_self, ior0, iand0, im_e2, oI, i_31, bI_bit]
    exact nx () _ rfl
  · rintro - h' rfl
    rw [b_X12_bitsOf_4]
    simp (disch := first | assumption | omega | (simp only [ya_pi, ya_pj, ya_pa, ya_pr, yo_pi, yo_pj, yo_pa, yf_pi, yf_pj, yf_pa, yh_pi, yh_pj, yh_pa, yt_pi, yt_pj, yt_pa, la_pi, la_pj, la_pa]; assumption)) only [b_X12_bitsOf_0, b_X12_bitsOf_24, b_X12_bitsOf_10, i_lit, i_m1, i_31, il_t, il_f, iq_t, iq_f, it_t, it_f, im_e, im_l, im_g, im_g2, nI_add, pk_mul, i_sub, i_div, sdm, i_dec, i_cl, iv_t, bI_or2, bI_t0, bI_one, not_true_eq_false, not_false_eq_true, ↓reduceIte, am_tl, am_tn, am_t0, am_n0, and_true, true_and, List.cons_append, List.nil_append, List.append_nil, or_true, true_or, or_false, false_or, eq_self, ior0, iand0, im_e2, oI]
def ua (p : Nat → List Nat) (c i x : Nat) : Bool := decide (x = c) || ((p c).take i).any (fun q => up p q x)
theorem ua_0 {p : Nat → List Nat} {c : Nat} : ua p c 0 = fun x => decide (x = c) := by
  funext x
  exact Bool.or_false _
theorem ua_s {p : Nat → List Nat} {c i : Nat} (h : i < (p c).length) : ua p c (i + 1) = fun x => ua p c i x || up p ((p c).getD i 0) x := by
  funext x
  unfold ua
  rw [tk_s h, List.any_append, Bool.or_assoc]
  congr 1
  congr 1
  simp
theorem ua_e {p : Nat → List Nat} (hp : p_lt p) {c : Nat} : ua p c (p c).length = up p c := by
  funext x
  rw [Bool.eq_iff_iff, up_iff hp]
  unfold ua
  rw [List.take_length]
  simp
theorem c_aboveOf {h : am_H} {f : fa_S} (ok : fa_ok f) (F : rfa h f) : ∀ (m c : Nat), c < m → c < 10 → ∀ {d : Nat} {Q : Option am_V → am_H → Prop} {l2 l3 : Option am_V}, ex_ (d + c + 1) 280 0 [some (v_r (some 93)), some (v_i (nI c)), l2, l3] [] h Q ↔ Q (some (v_i (nI (bs (up (f_p f) c))))) h := by
  intro m
  induction m with
  | zero => intro c hc; omega
  | succ m ih =>
    intro c hc hc10 d Q l2 l3
    have h4 := (ok.2 c).1
    have L0 := F.1
    have e0 := r_cnt F hc10
    apply ex_iff
    have L1 : ex_ (d + c + 1) 280 6 [some (v_r (some 93)), some (v_i (nI c)), some (v_i (nI (bs (ua (f_p f) c 0)))), some (v_i (nI 0))] [] h (fun r h' => r = some (v_i (nI (bs (up (f_p f) c)))) ∧ h' = h) := by
      refine lp_up (f_p f c).length (fun i (_ : Unit) => [some (v_r (some 93)), some (v_i (nI c)), some (v_i (nI (bs (ua (f_p f) c i)))), some (v_i (nI i))]) (fun i _ h' => h' = h) ?_ ?_ (Nat.zero_le _) rfl (s := ())
      · rintro i - h' hi rfl nx
        have hq := (ok.2 c).2.1 _ (gd_mem hi)
        have nxt := nx () h' rfl
        rw [ua_s hi] at nxt
        have hh : ∀ {Q : Option am_V → am_H → Prop} {l2 l3 : Option am_V}, ex_ (d + c) 280 0 [some (v_r (some 93)), some (v_i (nI ((f_p f c).getD i 0))), l2, l3] [] h' Q ↔ Q (some (v_i (nI (bs (up (f_p f) ((f_p f c).getD i 0)))))) h' := by
          intro Q l2 l3
          have := ih _ (show (f_p f c).getD i 0 < m by omega) (by omega) (d := d + (c - ((f_p f c).getD i 0) - 1)) (Q := Q) (l2 := l2) (l3 := l3)
          rw [show d + (c - ((f_p f c).getD i 0) - 1) + (f_p f c).getD i 0 + 1 = d + c from by omega] at this
          exact this
        rw [b_X12_aboveOf_6 _ _ _ _ L0]
        simp (disch := first | assumption | omega | (simp only [ya_pi, ya_pj, ya_pa, ya_pr, yo_pi, yo_pj, yo_pa, yf_pi, yf_pj, yf_pa, yh_pi, yh_pj, yh_pa, yt_pi, yt_pj, yt_pa, la_pi, la_pj, la_pa]; assumption)) only [b_X12_aboveOf_38, b_X12_aboveOf_19, b_X12_aboveOf_27, b_X12_aboveOf_30, i_lit, i_m1, i_31, il_t, il_f, iq_t, iq_f, it_t, it_f, im_e, im_l, im_g, im_g2, nI_add, pk_mul, i_sub, i_div, sdm, i_dec, i_cl, iv_t, bI_or2, bI_t0, bI_one, not_true_eq_false, not_false_eq_true, ↓reduceIte, am_tl, am_tn, am_t0, am_n0, and_true, true_and, List.cons_append, List.nil_append, List.append_nil, or_true, true_or, or_false, false_or, eq_self, ior0, iand0, im_e2, oI, e0, c_rParentAt F hc10 hi h4, hh]
        exact nxt
      · rintro - h' rfl
        rw [ua_e (fa_plt ok), b_X12_aboveOf_6 _ _ _ _ L0]
        simp (disch := first | assumption | omega | (simp only [ya_pi, ya_pj, ya_pa, ya_pr, yo_pi, yo_pj, yo_pa, yf_pi, yf_pj, yf_pa, yh_pi, yh_pj, yh_pa, yt_pi, yt_pj, yt_pa, la_pi, la_pj, la_pa]; assumption)) only [b_X12_aboveOf_0, b_X12_aboveOf_38, b_X12_aboveOf_19, b_X12_aboveOf_27, b_X12_aboveOf_30, i_lit, i_m1, i_31, il_t, il_f, iq_t, iq_f, it_t, it_f, im_e, im_l, im_g, im_g2, nI_add, pk_mul, i_sub, i_div, sdm, i_dec, i_cl, iv_t, bI_or2, bI_t0, bI_one, not_true_eq_false, not_false_eq_true, ↓reduceIte, am_tl, am_tn, am_t0, am_n0, and_true, true_and, List.cons_append, List.nil_append, List.append_nil, or_true, true_or, or_false, false_or, eq_self, ior0, iand0, im_e2, oI, e0]
    rw [ua_0] at L1
    simp (disch := first | assumption | omega | (simp only [ya_pi, ya_pj, ya_pa, ya_pr, yo_pi, yo_pj, yo_pa, yf_pi, yf_pj, yf_pa, yh_pi, yh_pj, yh_pa, yt_pi, yt_pj, yt_pa, la_pi, la_pj, la_pa]; assumption)) only [b_X12_aboveOf_0, b_X12_aboveOf_38, b_X12_aboveOf_19, b_X12_aboveOf_27, b_X12_aboveOf_30, i_lit, i_m1, i_31, il_t, il_f, iq_t, iq_f, it_t, it_f, im_e, im_l, im_g, im_g2, nI_add, pk_mul, i_sub, i_div, sdm, i_dec, i_cl, iv_t, bI_or2, bI_t0, bI_one, not_true_eq_false, not_false_eq_true, ↓reduceIte, am_tl, am_tn, am_t0, am_n0, and_true, true_and, List.cons_append, List.nil_append, List.append_nil, or_true, true_or, or_false, false_or, eq_self, ior0, iand0, im_e2, oI, i_31]
    exact L1
theorem c_above {d : Nat} {Q : Option am_V → am_H → Prop} {h : am_H} {f : fa_S} (ok : fa_ok f) (F : rfa h f) {c : Nat} (hc : c < 10) {l2 l3 : Option am_V} : ex_ (d + 10) 280 0 [some (v_r (some 93)), some (v_i (nI c)), l2, l3] [] h Q ↔ Q (some (v_i (nI (bs (up (f_p f) c))))) h := by
  have := c_aboveOf ok F (c + 1) c (by omega) hc (d := d + (9 - c)) (Q := Q) (l2 := l2) (l3 := l3)
  rw [show d + (9 - c) + c + 1 = d + 10 from by omega] at this
  exact this
theorem c_rLinks {d : Nat} {Q : Option am_V → am_H → Prop} {h : am_H} {f : fa_S} (ok : fa_ok f) (F : rfa h f) {l1 l2 : Option am_V} : ex_ d 304 0 [some (v_r (some 93)), l1, l2] [] h Q ↔ Q (some (v_i (nI (f_lk f)))) h := by
  have L0 := F.1
  have e1 := F.2.1
  have hn := ok.1
  apply ex_iff
  rw [b_X12_links_0]
  refine lp_up (f_n f) (fun i (_ : Unit) => [some (v_r (some 93)), some (v_i (nI (sm (fun c => (f_p f c).length) i))), some (v_i (nI i))]) (fun i _ h' => h' = h) ?_ ?_ (Nat.zero_le _) rfl (s := ())
  · rintro i - h' hi rfl nx
    have e2 := r_cnt F (show i < 10 by omega)
    rw [b_X12_links_4 _ _ _ L0]
    simp (disch := first | assumption | omega | (simp only [ya_pi, ya_pj, ya_pa, ya_pr, yo_pi, yo_pj, yo_pa, yf_pi, yf_pj, yf_pa, yh_pi, yh_pj, yh_pa, yt_pi, yt_pj, yt_pa, la_pi, la_pj, la_pa]; assumption)) only [b_X12_links_0, b_X12_links_32, b_X12_links_14, i_lit, i_m1, i_31, il_t, il_f, iq_t, iq_f, it_t, it_f, im_e, im_l, im_g, im_g2, nI_add, pk_mul, i_sub, i_div, sdm, i_dec, i_cl, iv_t, bI_or2, bI_t0, bI_one, not_true_eq_false, not_false_eq_true, ↓reduceIte, am_tl, am_tn, am_t0, am_n0, and_true, true_and, List.cons_append, List.nil_append, List.append_nil, or_true, true_or, or_false, false_or, eq_self, ior0, iand0, im_e2, oI, e1, e2]
    exact nx () _ rfl
  · rintro - h' rfl
    rw [b_X12_links_4 _ _ _ L0]
    simp (disch := first | assumption | omega | (simp only [ya_pi, ya_pj, ya_pa, ya_pr, yo_pi, yo_pj, yo_pa, yf_pi, yf_pj, yf_pa, yh_pi, yh_pj, yh_pa, yt_pi, yt_pj, yt_pa, la_pi, la_pj, la_pa]; assumption)) only [b_X12_links_0, b_X12_links_32, b_X12_links_14, i_lit, i_m1, i_31, il_t, il_f, iq_t, iq_f, it_t, it_f, im_e, im_l, im_g, im_g2, nI_add, pk_mul, i_sub, i_div, sdm, i_dec, i_cl, iv_t, bI_or2, bI_t0, bI_one, not_true_eq_false, not_false_eq_true, ↓reduceIte, am_tl, am_tn, am_t0, am_n0, and_true, true_and, List.cons_append, List.nil_append, List.append_nil, or_true, true_or, or_false, false_or, eq_self, ior0, iand0, im_e2, oI, e1]
    rfl
/-- what facts of a house are, beyond fa_ok -/
def fa_gd (f : fa_S) : Prop := fa_ok f ∧ (∀ c m, ∃ v, v < 3 ∧ f_d f c m = nI v) ∧ (∀ c m, f_n f ≤ c → f_d f c m = nI 0) ∧ (∀ c, f_n f ≤ c → f_p f c = []) ∧ ∃ m, m < 10 ∧ f_m f = nI m
theorem c_definitions {d : Nat} {Q : Option am_V → am_H → Prop} {h : am_H} {f : fa_S} (gd : fa_gd f) (F : rfa h f) {l1 l2 : Option am_V} : ex_ d 374 0 [some (v_r (some 93)), l1, l2] [] h Q ↔ Q (some (v_i (nI (ct (f_df f) 80)))) h := by
  obtain ⟨ok, g1, g2, g3, g4⟩ := gd
  have L0 := F.1
  have e1 := F.2.1
  have hn := ok.1
  have e80 : ct (f_df f) 80 = ct (f_df f) (8 * f_n f) := by
    have := ct_more (p := f_df f) (n := 8 * f_n f) (80 - 8 * f_n f) (fun k h1 h2 => by
      unfold f_df
      rw [g2 _ _ (by omega)]
      decide)
    rw [show 8 * f_n f + (80 - 8 * f_n f) = 80 from by omega] at this
    exact this
  rw [e80]
  apply ex_iff
  rw [b_X12_definitions_0]
  refine lp_up (8 * f_n f) (fun i (_ : Unit) => [some (v_r (some 93)), some (v_i (nI (ct (f_df f) i))), some (v_i (nI i))]) (fun i _ h' => h' = h) ?_ ?_ (Nat.zero_le _) rfl (s := ())
  · rintro i - h' hi rfl nx
    obtain ⟨v, hv, ev⟩ := g1 (i / 8) (i % 8)
    have e2 := r_def F (c := i / 8) (m := i % 8) (by omega) (by omega)
    rw [show 58 + 8 * (i / 8) + i % 8 = 58 + i from by omega, ev] at e2
    rw [b_X12_definitions_4 _ _ _ L0]
    have nxt := nx () h' rfl
    by_cases z : v = 0
    · rw [ct_n (show f_df f i = false by unfold f_df; rw [ev, z]; decide)] at nxt
      simp (disch := first | assumption | omega | (simp only [ya_pi, ya_pj, ya_pa, ya_pr, yo_pi, yo_pj, yo_pa, yf_pi, yf_pj, yf_pa, yh_pi, yh_pj, yh_pa, yt_pi, yt_pj, yt_pa, la_pi, la_pj, la_pa]; assumption)) only [b_X12_definitions_0, b_X12_definitions_43, b_X12_definitions_17, b_X12_definitions_34, b_X12_definitions_30, i_lit, i_m1, i_31, il_t, il_f, iq_t, iq_f, it_t, it_f, im_e, im_l, im_g, im_g2, nI_add, pk_mul, i_sub, i_div, sdm, i_dec, i_cl, iv_t, bI_or2, bI_t0, bI_one, not_true_eq_false, not_false_eq_true, ↓reduceIte, am_tl, am_tn, am_t0, am_n0, and_true, true_and, List.cons_append, List.nil_append, List.append_nil, or_true, true_or, or_false, false_or, eq_self, ior0, iand0, im_e2, oI, e1, e2, Nat.add_zero]
      exact nxt
    · rw [ct_y (show f_df f i = true by unfold f_df; rw [ev]; rcases (show v = 1 ∨ v = 2 by omega) with rfl | rfl <;> decide)] at nxt
      simp (disch := first | assumption | omega | (simp only [ya_pi, ya_pj, ya_pa, ya_pr, yo_pi, yo_pj, yo_pa, yf_pi, yf_pj, yf_pa, yh_pi, yh_pj, yh_pa, yt_pi, yt_pj, yt_pa, la_pi, la_pj, la_pa]; assumption)) only [b_X12_definitions_0, b_X12_definitions_43, b_X12_definitions_17, b_X12_definitions_34, b_X12_definitions_30, i_lit, i_m1, i_31, il_t, il_f, iq_t, iq_f, it_t, it_f, im_e, im_l, im_g, im_g2, nI_add, pk_mul, i_sub, i_div, sdm, i_dec, i_cl, iv_t, bI_or2, bI_t0, bI_one, not_true_eq_false, not_false_eq_true, ↓reduceIte, am_tl, am_tn, am_t0, am_n0, and_true, true_and, List.cons_append, List.nil_append, List.append_nil, or_true, true_or, or_false, false_or, eq_self, ior0, iand0, im_e2, oI, e1, e2]
      exact nxt
  · rintro - h' rfl
    rw [b_X12_definitions_4 _ _ _ L0]
    simp (disch := first | assumption | omega | (simp only [ya_pi, ya_pj, ya_pa, ya_pr, yo_pi, yo_pj, yo_pa, yf_pi, yf_pj, yf_pa, yh_pi, yh_pj, yh_pa, yt_pi, yt_pj, yt_pa, la_pi, la_pj, la_pa]; assumption)) only [b_X12_definitions_0, b_X12_definitions_43, b_X12_definitions_17, b_X12_definitions_34, b_X12_definitions_30, i_lit, i_m1, i_31, il_t, il_f, iq_t, iq_f, it_t, it_f, im_e, im_l, im_g, im_g2, nI_add, pk_mul, i_sub, i_div, sdm, i_dec, i_cl, iv_t, bI_or2, bI_t0, bI_one, not_true_eq_false, not_false_eq_true, ↓reduceIte, am_tl, am_tn, am_t0, am_n0, and_true, true_and, List.cons_append, List.nil_append, List.append_nil, or_true, true_or, or_false, false_or, eq_self, ior0, iand0, im_e2, oI, e1]
