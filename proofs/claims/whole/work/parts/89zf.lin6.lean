/-! ===== the class reads a text ===== -/
theorem tz_g {tx : List Nat} (hb : ∀ x ∈ tx, x < 256) : ∀ m p, tx.length - p ≤ m → p ≤ tx.length → 0 < (tz tx p).length ∧ (tz tx p).length ≤ tx.length - p + 1 ∧ (∀ i, ¬ tK (tz tx p) i = 1 → i + 1 < (tz tx p).length) ∧ ∀ k, tK (tz tx p) k < 2000 := by
  have one : ∀ l : List (Nat × Nat), l = [(1, tx.length)] → 0 < l.length ∧ l.length ≤ 1 ∧ (∀ i, ¬ tK l i = 1 → i + 1 < l.length) ∧ ∀ k, tK l k < 2000 := by
    intro l e
    subst e
    have t : ∀ k, tK [(1, tx.length)] k = 1 := fun k => by
      cases k with
      | zero => rfl
      | succ k => rfl
    exact ⟨Nat.one_pos, Nat.le_refl _, fun i hi => absurd (t i) hi, fun k => by rw [t]; decide⟩
  have cons : ∀ (a : Nat × Nat) (l : List (Nat × Nat)), a.1 < 2000 → (0 < l.length ∧ (∀ i, ¬ tK l i = 1 → i + 1 < l.length) ∧ ∀ k, tK l k < 2000) → (∀ i, ¬ tK (a :: l) i = 1 → i + 1 < (a :: l).length) ∧ ∀ k, tK (a :: l) k < 2000 := by
    intro a l ha ⟨h1, h2, h3⟩
    refine ⟨fun i hi => ?_, fun k => ?_⟩
    · cases i with
      | zero => show 0 + 1 < l.length + 1; omega
      | succ i =>
        have : ¬ tK l i = 1 := hi
        have := h2 i this
        show i + 1 + 1 < l.length + 1
        omega
    · cases k with
      | zero => exact ha
      | succ k => exact h3 k
  intro m
  induction m with
  | zero =>
    intro p hm hp
    have := one _ (tz_e (tx := tx) (p := p) (by omega))
    exact ⟨this.1, by omega, this.2.2⟩
  | succ m ih =>
    intro p hm hp
    by_cases z : p < tx.length
    · by_cases b : isBk (tx.getD p 0) = true
      · rw [tz_b z b]
        have := ih (p + 1) (by omega) (by omega)
        exact ⟨this.1, by omega, this.2.2⟩
      · have b' : isBk (tx.getD p 0) = false := by simpa using b
        by_cases t : tT tx p = 2
        · rw [tz_2 z b' t]
          have o := one _ rfl
          have c := cons (2, p) [(1, tx.length)] (by show 2 < 2000; decide) ⟨o.1, o.2.2⟩
          exact ⟨Nat.succ_pos _, by show 2 ≤ tx.length - p + 1; omega, c⟩
        · rw [tz_t z b' t]
          have g1 := tE_gt (tx := tx) (p := p)
          have g2 := tE_le (tx := tx) (p := p) z
          have := ih (tE tx p) (by omega) g2
          have c := cons (tT tx p, p) (tz tx (tE tx p)) (tT_lt hb z) ⟨this.1, this.2.2⟩
          exact ⟨Nat.succ_pos _, by show (tz tx (tE tx p)).length + 1 ≤ tx.length - p + 1; omega, c⟩
    · have := one _ (tz_e (tx := tx) (p := p) (by omega))
      exact ⟨this.1, by omega, this.2.2⟩
theorem tz_gT {tx : List Nat} (hb : ∀ x ∈ tx, x < 256) (hl : tx.length ≤ 900) : gT (tz tx 0) := by
  have := tz_g hb _ 0 (Nat.le_refl _) (Nat.zero_le _)
  exact ⟨this.2.2.1, this.2.2.2, by omega, this.1⟩
theorem c_readHouse {d : Nat} {Q : Option am_V → am_H → Prop} {h0 h : am_H} {ts : List (Nat × Nat)} (G : gT ts) (S : clS h0 h ts 0 ho_0) (K : lOK h0 ts (zH ts) Q) : ex_ (d + 2) 120 0 [some (v_r (some 2))] [] h Q := by
  have L := S.1.1
  have ok0 : fa_ok f_0 := (gd_0 (m := 0) (by decide)).1
  have Kb : ∀ r : pR_, zHh ts = r → ¬ r.1 = 0 → ∀ h', clX h0 h' ts r.1 r.2.1 → Q (some (v_i (nI 0))) h' := by
    intro r e z
    unfold zH at K
    rw [e, if_neg z] at K
    exact K.2 z
  have Kg : ∀ j c, zHh ts = (0, j, c) → ∀ h', clS h0 h' ts j (f_setm f_0 (nI (tK ts 2 - 1000)), none, none, 0) → Q (some (v_i (nI 1))) h' := by
    intro j c e
    unfold zH at K
    rw [e, if_pos rfl] at K
    exact K.1 rfl
  clear K
  rw [b_X8_readHouse_0 _ L]
  by_cases a1 : tK ts 0 = 200
  rotate_left
  · have := fun Q => c_pass_n (d := d) (Q := Q) G S.1 (show ¬ 200 = 1 by decide) (show 200 < 2000 by decide) a1
    simp (disch := first | assumption | omega | (simp only [ya_pi, ya_pj, ya_pa, ya_pr, yo_pi, yo_pj, yo_pa, yf_pi, yf_pj, yf_pa, yh_pi, yh_pj, yh_pa, yt_pi, yt_pj, yt_pa, la_pi, la_pj, la_pa]; assumption)) only [this, b_X8_readHouse_7, b_X8_readHouse_20, i_lit, i_m1, i_31, il_t, il_f, iq_t, iq_f, it_t, it_f, im_e, im_l, im_g, im_g2, nI_add, pk_mul, i_sub, i_div, sdm, i_dec, i_cl, iv_t, bI_or2, bI_t0, bI_one, not_true_eq_false, not_false_eq_true, ↓reduceIte, am_tl, am_tn, am_t0, am_n0, and_true, true_and, List.cons_append, List.nil_append, List.append_nil]
    refine Kb (pF ts 2 0) ?_ (pF_ne (by decide)) _ (S.no G)
    unfold zHh
    rw [pE_n a1, pB_n (pF_ne (by decide))]
  have i1 := G.1 0 (by omega)
  have S1 := S.st ok0 i1
  have L1 := S1.1.1
  have p0 := fun Q => c_pass_y (d := d) (Q := Q) G S.1 (show ¬ 200 = 1 by decide) (show 200 < 2000 by decide) a1
  simp (disch := first | assumption | omega | (simp only [ya_pi, ya_pj, ya_pa, ya_pr, yo_pi, yo_pj, yo_pa, yf_pi, yf_pj, yf_pa, yh_pi, yh_pj, yh_pa, yt_pi, yt_pj, yt_pa, la_pi, la_pj, la_pa]; assumption)) only [p0, b_X8_readHouse_7, b_X8_readHouse_10, i_lit, i_m1, i_31, il_t, il_f, iq_t, iq_f, it_t, it_f, im_e, im_l, im_g, im_g2, nI_add, pk_mul, i_sub, i_div, sdm, i_dec, i_cl, iv_t, bI_or2, bI_t0, bI_one, not_true_eq_false, not_false_eq_true, ↓reduceIte, am_tl, am_tn, am_t0, am_n0, and_true, true_and, List.cons_append, List.nil_append, List.append_nil]
  by_cases a2 : tK ts (0 + 1) = 201
  rotate_left
  · have := fun Q => c_pass_n (d := d) (Q := Q) G S1.1 (show ¬ 201 = 1 by decide) (show 201 < 2000 by decide) a2
    simp (disch := first | assumption | omega | (simp only [ya_pi, ya_pj, ya_pa, ya_pr, yo_pi, yo_pj, yo_pa, yf_pi, yf_pj, yf_pa, yh_pi, yh_pj, yh_pa, yt_pi, yt_pj, yt_pa, la_pi, la_pj, la_pa]; assumption)) only [this, b_X8_readHouse_17, b_X8_readHouse_20, i_lit, i_m1, i_31, il_t, il_f, iq_t, iq_f, it_t, it_f, im_e, im_l, im_g, im_g2, nI_add, pk_mul, i_sub, i_div, sdm, i_dec, i_cl, iv_t, bI_or2, bI_t0, bI_one, not_true_eq_false, not_false_eq_true, ↓reduceIte, am_tl, am_tn, am_t0, am_n0, and_true, true_and, List.cons_append, List.nil_append, List.append_nil]
    refine Kb (pF ts 2 (0 + 1)) ?_ (pF_ne (by decide)) _ (S1.no G)
    unfold zHh
    rw [pE_y a1, pB_1, pE_n a2, pB_n (pF_ne (by decide))]
  have i2 := G.1 (0 + 1) (by omega)
  have S2 := S1.st ok0 i2
  have L2 := S2.1.1
  have s6 := S2.1.2.2.2.1
  have p1 := fun Q => c_pass_y (d := d) (Q := Q) G S1.1 (show ¬ 201 = 1 by decide) (show 201 < 2000 by decide) a2
  simp only [p1]
  have b17 : ∀ h1, ex_ (d + 2) 120 17 [some (v_r (some 2))] [v_i (nI 1)] h1 Q ↔ ex_ (d + 2) 120 22 [some (v_r (some 2))] [] h1 Q := fun h1 => by simp (disch := first | assumption | omega | (simp only [ya_pi, ya_pj, ya_pa, ya_pr, yo_pi, yo_pj, yo_pa, yf_pi, yf_pj, yf_pa, yh_pi, yh_pj, yh_pa, yt_pi, yt_pj, yt_pa, la_pi, la_pj, la_pa]; assumption)) only [b_X8_readHouse_17, i_lit, i_m1, i_31, il_t, il_f, iq_t, iq_f, it_t, it_f, im_e, im_l, im_g, im_g2, nI_add, pk_mul, i_sub, i_div, sdm, i_dec, i_cl, iv_t, bI_or2, bI_t0, bI_one, not_true_eq_false, not_false_eq_true, ↓reduceIte, am_tl, am_tn, am_t0, am_n0, and_true, true_and, List.cons_append, List.nil_append, List.append_nil]
  show ex_ (d + 2) 120 17 [some (v_r (some 2))] [v_i (nI 1)] _ Q
  rw [b17, b_X8_readHouse_22 _ L2, s6]
  -- the mood
  obtain ⟨v, hv⟩ : ∃ v : Int32, nI (tK ts (0 + 1 + 1)) - 1000 = v := ⟨_, rfl⟩
  rw [hv]
  have zh : zHh ts = pN ts 10 (0 + 1 + 1) := by
    unfold zHh
    rw [pE_y a1, pB_1, pE_y a2, pB_1]
  have okv : fa_ok (f_setm f_0 v) := ok0
  have S3 : clS h0 (p_i (stH (stH h ts 0) ts (0 + 1)) 5 1 v) ts (0 + 1 + 1) (f_setm f_0 v, none, none, 0) := by
    obtain ⟨⟨-, T, s5, -, hi⟩, ⟨b1, b2, b3, b4, b5, b6⟩, rm, ln, fl⟩ := S2
    generalize stH (stH h ts 0) ts (0 + 1) = h2 at T s5 s6 b1 b2 b3 b4 b5 rm L2 fl ⊢
    have fr : am_fr h2 (p_i h2 5 1 v) (fun q k => q = 5 ∧ k = 1) := am_fr_pi ⟨rfl, rfl⟩
    have n2 := la_n L2 (show 2 < 118 by decide)
    have ng : ∀ a k, 118 ≤ a → ¬ (a = 5 ∧ k = 1) := fun a k ha z => by omega
    obtain ⟨F0, F1, F2, F3, F4, F5⟩ := b1
    refine ⟨⟨fr.lay L2, T.fr fr (by omega) (fun k => ⟨by omega, by omega⟩), by simp (disch := first | assumption | omega | (simp only [ya_pi, ya_pj, ya_pa, ya_pr, yo_pi, yo_pj, yo_pa, yf_pi, yf_pj, yf_pa, yh_pi, yh_pj, yh_pa, yt_pi, yt_pj, yt_pa, la_pi, la_pj, la_pa]; assumption)) only [hi_s, hi_o, hi_k, hr_pi, hj_pi, hn_pi, hi_pas, hi_pao, hr_pa, hj_pa]; exact s5, by simp (disch := first | assumption | omega | (simp only [ya_pi, ya_pj, ya_pa, ya_pr, yo_pi, yo_pj, yo_pa, yf_pi, yf_pj, yf_pa, yh_pi, yh_pj, yh_pa, yt_pi, yt_pj, yt_pa, la_pi, la_pj, la_pa]; assumption)) only [hi_s, hi_o, hi_k, hr_pi, hj_pi, hn_pi, hi_pas, hi_pao, hr_pa, hj_pa]; exact s6, hi⟩, ⟨⟨fr.facts F0, ?_, hi_s, fun c hc => ?_, fun c hc k hk => ?_, fun c m hc hm => ?_⟩, b2.g (fr.g (J := N0) (R := N0)) b6 n2 (fun z => z) ng, b3.g (fr.g (J := N0) (R := N0)) b6 n2 (fun z => z) ng, by simp (disch := first | assumption | omega | (simp only [ya_pi, ya_pj, ya_pa, ya_pr, yo_pi, yo_pj, yo_pa, yf_pi, yf_pj, yf_pa, yh_pi, yh_pj, yh_pa, yt_pi, yt_pj, yt_pa, la_pi, la_pj, la_pa]; assumption)) only [hi_s, hi_o, hi_k, hr_pi, hj_pi, hn_pi, hi_pas, hi_pao, hr_pa, hj_pa]; exact b4, b5.tr ((fr.g (J := N0) (R := rlR)).le (fun q k z => by unfold rlP; omega) (fun _ _ z => z) (fun _ _ z => z)), b6⟩, rm.fr fr (Nat.le_refl _), Nat.zero_le _, fl.fr fr (by omega) (by omega)⟩
    · simp (disch := first | assumption | omega | (simp only [ya_pi, ya_pj, ya_pa, ya_pr, yo_pi, yo_pj, yo_pa, yf_pi, yf_pj, yf_pa, yh_pi, yh_pj, yh_pa, yt_pi, yt_pj, yt_pa, la_pi, la_pj, la_pa]; assumption)) only [hi_s, hi_o, hi_k, hr_pi, hj_pi, hn_pi, hi_pas, hi_pao, hr_pa, hj_pa]; exact F1
    · simp (disch := first | assumption | omega | (simp only [ya_pi, ya_pj, ya_pa, ya_pr, yo_pi, yo_pj, yo_pa, yf_pi, yf_pj, yf_pa, yh_pi, yh_pj, yh_pa, yt_pi, yt_pj, yt_pa, la_pi, la_pj, la_pa]; assumption)) only [hi_s, hi_o, hi_k, hr_pi, hj_pi, hn_pi, hi_pas, hi_pao, hr_pa, hj_pa]; exact F3 c hc
    · simp (disch := first | assumption | omega | (simp only [ya_pi, ya_pj, ya_pa, ya_pr, yo_pi, yo_pj, yo_pa, yf_pi, yf_pj, yf_pa, yh_pi, yh_pj, yh_pa, yt_pi, yt_pj, yt_pa, la_pi, la_pj, la_pa]; assumption)) only [hi_s, hi_o, hi_k, hr_pi, hj_pi, hn_pi, hi_pas, hi_pao, hr_pa, hj_pa]; exact F4 c hc k hk
    · simp (disch := first | assumption | omega | (simp only [ya_pi, ya_pj, ya_pa, ya_pr, yo_pi, yo_pj, yo_pa, yf_pi, yf_pj, yf_pa, yh_pi, yh_pj, yh_pa, yt_pi, yt_pj, yt_pa, la_pi, la_pj, la_pa]; assumption)) only [hi_s, hi_o, hi_k, hr_pi, hj_pi, hn_pi, hi_pas, hi_pao, hr_pa, hj_pa]; exact F5 c m hc hm
  generalize p_i (stH (stH h ts 0) ts (0 + 1)) 5 1 v = h3 at S3 ⊢
  have e10 : (10 : Nat) < 1000 := by decide
  by_cases a3 : 1000 ≤ tK ts (0 + 1 + 1)
  rotate_left
  · have := fun Q => c_pn_2 (d := d) (Q := Q) G S3.1 e10 a3
    simp (disch := first | assumption | omega | (simp only [ya_pi, ya_pj, ya_pa, ya_pr, yo_pi, yo_pj, yo_pa, yf_pi, yf_pj, yf_pa, yh_pi, yh_pj, yh_pa, yt_pi, yt_pj, yt_pa, la_pi, la_pj, la_pa]; assumption)) only [b_X8_readHouse_43, i_lit, i_m1, i_31, il_t, il_f, iq_t, iq_f, it_t, it_f, im_e, im_l, im_g, im_g2, nI_add, pk_mul, i_sub, i_div, sdm, i_dec, i_cl, iv_t, bI_or2, bI_t0, bI_one, not_true_eq_false, not_false_eq_true, ↓reduceIte, am_tl, am_tn, am_t0, am_n0, and_true, true_and, List.cons_append, List.nil_append, List.append_nil, this, true_or]
    refine Kb (pF ts 2 (0 + 1 + 1)) ?_ (pF_ne (by decide)) _ (S3.no G)
    rw [zh, pN_2 a3]
  by_cases a4 : tK ts (0 + 1 + 1) - 1000 < 10
  rotate_left
  · have := fun Q => c_pn_3 (d := d) (Q := Q) G S3.1 e10 a3 a4
    simp (disch := first | assumption | omega | (simp only [ya_pi, ya_pj, ya_pa, ya_pr, yo_pi, yo_pj, yo_pa, yf_pi, yf_pj, yf_pa, yh_pi, yh_pj, yh_pa, yt_pi, yt_pj, yt_pa, la_pi, la_pj, la_pa]; assumption)) only [b_X8_readHouse_43, i_lit, i_m1, i_31, il_t, il_f, iq_t, iq_f, it_t, it_f, im_e, im_l, im_g, im_g2, nI_add, pk_mul, i_sub, i_div, sdm, i_dec, i_cl, iv_t, bI_or2, bI_t0, bI_one, not_true_eq_false, not_false_eq_true, ↓reduceIte, am_tl, am_tn, am_t0, am_n0, and_true, true_and, List.cons_append, List.nil_append, List.append_nil, this, true_or]
    refine Kb (pF ts 3 (0 + 1 + 1)) ?_ (pF_ne (by decide)) _ (S3.no G)
    rw [zh, pN_3 a3 a4]
  have i3 := G.1 (0 + 1 + 1) (by omega)
  have ev : v = nI (tK ts 2 - 1000) := by rw [← hv]; exact i_sub a3
  have := fun Q => c_pn_y (d := d) (Q := Q) G S3.1 e10 a3 a4
  simp (disch := first | assumption | omega | (simp only [ya_pi, ya_pj, ya_pa, ya_pr, yo_pi, yo_pj, yo_pa, yf_pi, yf_pj, yf_pa, yh_pi, yh_pj, yh_pa, yt_pi, yt_pj, yt_pa, la_pi, la_pj, la_pa]; assumption)) only [b_X8_readHouse_43, i_lit, i_m1, i_31, il_t, il_f, iq_t, iq_f, it_t, it_f, im_e, im_l, im_g, im_g2, nI_add, pk_mul, i_sub, i_div, sdm, i_dec, i_cl, iv_t, bI_or2, bI_t0, bI_one, not_true_eq_false, not_false_eq_true, ↓reduceIte, am_tl, am_tn, am_t0, am_n0, and_true, true_and, List.cons_append, List.nil_append, List.append_nil, this, or_true]
  have e : zHh ts = (0, 0 + 1 + 1 + 1, []) := by rw [zh, pN_y a3 a4]
  refine Kg _ _ e _ ?_
  rw [← ev]
  exact S3.st okv i3
