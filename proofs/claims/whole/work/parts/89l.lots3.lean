/-! ===== lots: the reference ===== -/
def fsw (f : fa_S) (B : Nat → Bool) : fa_S := (f.1, f.2.1, swB f B, f.2.2.2)
theorem fsw_gd {f : fa_S} (gd : fa_gd f) {B : Nat → Bool} : fa_gd (fsw f B) := by
  obtain ⟨ok, g1, g2, g3, g4⟩ := gd
  have pk := swB_ok ok (B := B)
  have nil : ∀ c, f_p f c = [] → swB f B c = [] := fun c hc => by
    unfold swB
    rw [hc]
    split <;> rfl
  exact ⟨⟨ok.1, fun c => ⟨(pk c).1, (pk c).2.1, (pk c).2.2, fun hc => nil c ((ok.2 c).2.2.2 hc)⟩⟩, g1, g2, fun c hc => nil c (g3 c hc), g4⟩
theorem fsw_0 {f : fa_S} : fsw f (fun _ => false) = f := rfl
theorem tog_2 {B : Nat → Bool} {x : Nat} : tog (tog B x) x = B := by
  funext k
  unfold tog
  cases B k <;> cases (decide (k = x)) <;> rfl
theorem swB_y {f : fa_S} {B : Nat → Bool} {x : Nat} (h : 1 < (f_p f x).length) : (fun k => if k = x then sw (swB f B x) 0 else swB f B k) = swB f (tog B x) := by
  have ll : (swB f B x).length = (f_p f x).length := by
    unfold swB
    split
    · rw [sw2_len]
    · rfl
  have e1 : sw (swB f B x) 0 = sw2 (swB f B x) := by unfold sw2; rw [if_pos (by omega)]
  funext k
  by_cases z : k = x
  · subst z
    rw [if_pos rfl, e1]
    unfold swB tog
    cases hB : B k with
    | true => simp [sw2_2]
    | false => simp
  · rw [if_neg z]
    unfold swB tog
    simp [z]
theorem swB_n {f : fa_S} {B : Nat → Bool} {x : Nat} (h : ¬ 1 < (f_p f x).length) : swB f (tog B x) = swB f B := by
  have e1 : sw2 (f_p f x) = f_p f x := by unfold sw2; rw [if_neg h]
  funext k
  by_cases z : k = x
  · subst z
    unfold swB tog
    rw [e1]
    simp
  · unfold swB tog
    simp [z]
theorem fsw_y {f : fa_S} {B : Nat → Bool} {x : Nat} (h : 1 < (f_p f x).length) : f_setp (fsw f B) x (sw (f_p (fsw f B) x) 0) = fsw f (tog B x) := by
  unfold f_setp fsw
  dsimp only
  rw [← swB_y h]
theorem fsw_n {f : fa_S} {B : Nat → Bool} {x : Nat} (h : ¬ 1 < (f_p f x).length) : fsw f (tog B x) = fsw f B := by
  unfold fsw
  rw [swB_n h]
theorem swB_len {f : fa_S} {B : Nat → Bool} {x : Nat} : (swB f B x).length = (f_p f x).length := by
  unfold swB
  split
  · rw [sw2_len]
  · rfl
theorem ct_bl {p : Nat → Bool} {n : Nat} : ∀ m, n ≤ m → ct (bl p n) m = ct p n := by
  intro m h
  obtain ⟨j, rfl⟩ : ∃ j, m = n + j := ⟨m - n, by omega⟩
  rw [ct_more j (fun k h1 h2 => by unfold bl; rw [decide_eq_false (by omega), Bool.false_and])]
  exact ct_cong (fun k hk => by unfold bl; rw [decide_eq_true hk, Bool.true_and])
def lF (a k : Nat) : Prop := rF a k ∨ rA a k
def lJ (a k : Nat) : Prop := a = 93 ∧ (k = 39 ∨ k = 40)
def gA (f : fa_S) (B : Nat → Bool) : Nat := if lcnt f B = f_n f then 1 else 0
theorem c_goesLots {f : fa_S} (gd : fa_gd f) : ∀ (m : Nat) {d : Nat} {B : Nat → Bool} {Q : Option am_V → am_H → Prop} {h : am_H} {a b : Nat}, m ≤ 3 → rfa h (fsw f B) → h_j h 93 39 = lN a → h_j h 93 40 = lN b → ∀ {l2 l3 : Option am_V}, (∀ h', gj h h' lF lJ N0 → rfa h' (fsw f B) → h_j h' 93 39 = lN (a + lS (gA f) m B) → h_j h' 93 40 = lN (b + lS (lcnt f) m B) → Q none h') → ex_ (d + m + 5) 362 0 [some (v_r (some 93)), some (v_i (nI m)), l2, l3] [] h Q := by
  have n10 := gd.1.1
  intro m
  induction m with
  | zero =>
    intro d B Q h a b hm F e39 e40 l2 l3 k
    have L := F.1
    have gdB := fsw_gd gd (B := B)
    rw [lS, lS] at k
    simp (disch := first | assumption | omega | (simp only [ya_pi, ya_pj, ya_pa, ya_pr, yo_pi, yo_pj, yo_pa, yf_pi, yf_pj, yf_pa, yh_pi, yh_pj, yh_pa, yt_pi, yt_pj, yt_pa, la_pi, la_pj, la_pa]; assumption)) only [b_X12_goesLots_0, b_X12_goesLots_4, i_lit, i_m1, i_31, il_t, il_f, iq_t, iq_f, it_t, it_f, im_e, im_l, im_g, im_g2, nI_add, pk_mul, i_sub, i_div, sdm, i_dec, i_cl, iv_t, bI_or2, bI_t0, bI_one, not_true_eq_false, not_false_eq_true, ↓reduceIte, am_tl, am_tn, am_t0, am_n0, and_true, true_and, List.cons_append, List.nil_append, List.append_nil]
    refine c_laysOrders gdB.1 F (fun h1 fr1 (A1 : ra h1 (fT (fsw f B)) (f_n (fsw f B))) => ?_)
    have F1 := fr1.rfa gdB.1 F (fun k hk => by unfold rA; omega)
    have L1 := F1.1
    have e1 : h_i h1 94 1 = nI (f_n f) := F1.2.1
    have j39 : h_j h1 93 39 = lN a := by rw [fr1.j]; exact e39
    have j40 : h_j h1 93 40 = lN b := by rw [fr1.j]; exact e40
    have ec : ct (bl (fun c => (fT (fsw f B) c).1 == 0) (f_n (fsw f B))) 11 = lcnt f B := ct_bl 11 (show f_n f ≤ 11 by omega)
    have cl := lcnt_le gd.1 (B := B)
    simp (disch := first | assumption | omega | (simp only [ya_pi, ya_pj, ya_pa, ya_pr, yo_pi, yo_pj, yo_pa, yf_pi, yf_pj, yf_pa, yh_pi, yh_pj, yh_pa, yt_pi, yt_pj, yt_pa, la_pi, la_pj, la_pa]; assumption)) only [b_X12_goesLots_8, b_X12_goesLots_13, i_lit, i_m1, i_31, il_t, il_f, iq_t, iq_f, it_t, it_f, im_e, im_l, im_g, im_g2, nI_add, pk_mul, i_sub, i_div, sdm, i_dec, i_cl, iv_t, bI_or2, bI_t0, bI_one, not_true_eq_false, not_false_eq_true, ↓reduceIte, am_tl, am_tn, am_t0, am_n0, and_true, true_and, List.cons_append, List.nil_append, List.append_nil, c_statesOf A1 F1.2.1 gdB.1.1 (show 0 < 10 by omega) (fT_ok gdB.1), c_rBits, ec]
    have hq : ∀ v w, gj h (p_j (p_j h1 93 39 v) 93 40 w) lF lJ N0 := fun v w => (((fr1.le (fun a k z => Or.inr z)).gj).tr (gj_pj (by unfold lJ; omega))).tr (gj_pj (by unfold lJ; omega))
    have e40' : ∀ v, h_j (p_j h1 93 39 v) 93 40 = lN b := fun v => by rw [hj_o (by omega)]; exact j40
    by_cases z : lcnt f B = f_n f
    · have eg : gA f B = 1 := if_pos z
      rw [eg] at k
      simp (disch := first | assumption | omega | (simp only [ya_pi, ya_pj, ya_pa, ya_pr, yo_pi, yo_pj, yo_pa, yf_pi, yf_pj, yf_pa, yh_pi, yh_pj, yh_pa, yt_pi, yt_pj, yt_pa, la_pi, la_pj, la_pa]; assumption)) only [b_X12_goesLots_16, b_X12_goesLots_32, i_lit, i_m1, i_31, il_t, il_f, iq_t, iq_f, it_t, it_f, im_e, im_l, im_g, im_g2, nI_add, pk_mul, i_sub, i_div, sdm, i_dec, i_cl, iv_t, bI_or2, bI_t0, bI_one, not_true_eq_false, not_false_eq_true, ↓reduceIte, am_tl, am_tn, am_t0, am_n0, and_true, true_and, List.cons_append, List.nil_append, List.append_nil, l_lit, lc_lt, lc_le, lc_gt, lc_ge, lc_eq, ll_t, ll_f, lt_t, lt_f, lq_t, lq_f, l_div, lN_add, lN_mul, lN_sub, lN_i, e1, j39, e40', nI_l]
      exact k _ (hq _ _) F1 (by rw [hj_o (by omega), hj_s]) (by rw [hj_s])
    · have eg : gA f B = 0 := if_neg z
      rw [eg] at k
      simp (disch := first | assumption | omega | (simp only [ya_pi, ya_pj, ya_pa, ya_pr, yo_pi, yo_pj, yo_pa, yf_pi, yf_pj, yf_pa, yh_pi, yh_pj, yh_pa, yt_pi, yt_pj, yt_pa, la_pi, la_pj, la_pa]; assumption)) only [b_X12_goesLots_16, b_X12_goesLots_36, i_lit, i_m1, i_31, il_t, il_f, iq_t, iq_f, it_t, it_f, im_e, im_l, im_g, im_g2, nI_add, pk_mul, i_sub, i_div, sdm, i_dec, i_cl, iv_t, bI_or2, bI_t0, bI_one, not_true_eq_false, not_false_eq_true, ↓reduceIte, am_tl, am_tn, am_t0, am_n0, and_true, true_and, List.cons_append, List.nil_append, List.append_nil, l_lit, lc_lt, lc_le, lc_gt, lc_ge, lc_eq, ll_t, ll_f, lt_t, lt_f, lq_t, lq_f, l_div, lN_add, lN_mul, lN_sub, lN_i, e1, j39, e40', nI_l]
      exact k _ (hq _ _) F1 (by rw [hj_o (by omega), hj_s]) (by rw [hj_s])
  | succ m ih =>
    intro d B Q h a b hm F e39 e40 l2 l3 k
    have L := F.1
    rw [lS, lS] at k
    rw [show d + (m + 1) + 5 = (d + m + 5) + 1 from by omega]
    simp (disch := first | assumption | omega | (simp only [ya_pi, ya_pj, ya_pa, ya_pr, yo_pi, yo_pj, yo_pa, yf_pi, yf_pj, yf_pa, yh_pi, yh_pj, yh_pa, yt_pi, yt_pj, yt_pa, la_pi, la_pj, la_pa]; assumption)) only [b_X12_goesLots_0, b_X12_goesLots_53, i_lit, i_m1, i_31, il_t, il_f, iq_t, iq_f, it_t, it_f, im_e, im_l, im_g, im_g2, nI_add, pk_mul, i_sub, i_div, sdm, i_dec, i_cl, iv_t, bI_or2, bI_t0, bI_one, not_true_eq_false, not_false_eq_true, ↓reduceIte, am_tl, am_tn, am_t0, am_n0, and_true, true_and, List.cons_append, List.nil_append, List.append_nil]
    refine lp_up 10 (fun i (l3 : Option am_V) => [some (v_r (some 93)), some (v_i (nI (m + 1))), some (v_i (nI i)), l3]) (fun i _ h' => gj h h' lF lJ N0 ∧ rfa h' (fsw f B) ∧ h_j h' 93 39 = lN (a + sm (fun x => lS (gA f) m (tog B x)) i) ∧ h_j h' 93 40 = lN (b + sm (fun x => lS (lcnt f) m (tog B x)) i)) ?_ ?_ (Nat.zero_le _) ⟨gj.rf, F, e39, e40⟩ (s := l3)
    · rintro i m3 h1 hi ⟨g1, F1, j39, j40⟩ nxt
      have L1 := F1.1
      have gdB := fsw_gd gd (B := B)
      have gdT := fsw_gd gd (B := tog B i)
      have rest : ∀ h', gj h h' lF lJ N0 → rfa h' (fsw f B) → h_j h' 93 39 = lN (a + sm (fun x => lS (gA f) m (tog B x)) i + lS (gA f) m (tog B i)) → h_j h' 93 40 = lN (b + sm (fun x => lS (lcnt f) m (tog B x)) i + lS (lcnt f) m (tog B i)) → ∀ m3 : Option am_V, ex_ (d + m + 5 + 1) 362 55 [some (v_r (some 93)), some (v_i (nI (m + 1))), some (v_i (nI (i + 1))), m3] [] h' Q := by
        intro h' g' F' x39 x40 m3
        exact nxt m3 h' ⟨g', F', by rw [sm, ← Nat.add_assoc]; exact x39, by rw [sm, ← Nat.add_assoc]; exact x40⟩
      -- where nothing is turned
      have flat : rfa h1 (fsw f B) → fsw f (tog B i) = fsw f B → ex_ (d + m + 5 + 1) 362 99 [some (v_r (some 93)), some (v_i (nI (m + 1))), some (v_i (nI i)), some (v_i (nI 0))] [] h1 Q := by
        intro _ ef
        simp (disch := first | assumption | omega | (simp only [ya_pi, ya_pj, ya_pa, ya_pr, yo_pi, yo_pj, yo_pa, yf_pi, yf_pj, yf_pa, yh_pi, yh_pj, yh_pa, yt_pi, yt_pj, yt_pa, la_pi, la_pj, la_pa]; assumption)) only [b_X12_goesLots_99, i_lit, i_m1, i_31, il_t, il_f, iq_t, iq_f, it_t, it_f, im_e, im_l, im_g, im_g2, nI_add, pk_mul, i_sub, i_div, sdm, i_dec, i_cl, iv_t, bI_or2, bI_t0, bI_one, not_true_eq_false, not_false_eq_true, ↓reduceIte, am_tl, am_tn, am_t0, am_n0, and_true, true_and, List.cons_append, List.nil_append, List.append_nil, Nat.add_sub_cancel]
        refine ih (B := tog B i) (by omega) (by rw [ef]; exact F1) j39 j40 (fun h2 g2 F2 x39 x40 => ?_)
        have L2 := F2.1
        rw [ef] at F2
        simp (disch := first | assumption | omega | (simp only [ya_pi, ya_pj, ya_pa, ya_pr, yo_pi, yo_pj, yo_pa, yf_pi, yf_pj, yf_pa, yh_pi, yh_pj, yh_pa, yt_pi, yt_pj, yt_pa, la_pi, la_pj, la_pa]; assumption)) only [b_X12_goesLots_106, b_X12_goesLots_116, i_lit, i_m1, i_31, il_t, il_f, iq_t, iq_f, it_t, it_f, im_e, im_l, im_g, im_g2, nI_add, pk_mul, i_sub, i_div, sdm, i_dec, i_cl, iv_t, bI_or2, bI_t0, bI_one, not_true_eq_false, not_false_eq_true, ↓reduceIte, am_tl, am_tn, am_t0, am_n0, and_true, true_and, List.cons_append, List.nil_append, List.append_nil]
        exact rest h2 (g1.tr g2) F2 x39 x40 _
      rw [b_X12_goesLots_55 _ _ _ _ _]
      by_cases hc : i < f_n f
      · have cnt : h_i h1 94 (8 + i) = nI (f_p f i).length := by
          have := r_cnt F1 (show i < 10 by omega)
          rw [this]
          exact congrArg nI swB_len
        have l4 := fa_len gd i
        have ci := fun {d} {Q} {l2} => c_isClass_y (d := d) (Q := Q) (l2 := l2) gdB.1 F1 (c := i) hc
        by_cases z : 1 < (f_p f i).length
        · simp (disch := first | assumption | omega | (simp only [ya_pi, ya_pj, ya_pa, ya_pr, yo_pi, yo_pj, yo_pa, yf_pi, yf_pj, yf_pa, yh_pi, yh_pj, yh_pa, yt_pi, yt_pj, yt_pa, la_pi, la_pj, la_pa]; assumption)) only [b_X12_goesLots_61, b_X12_goesLots_67, b_X12_goesLots_70, b_X12_goesLots_83, b_X12_goesLots_93, i_lit, i_m1, i_31, il_t, il_f, iq_t, iq_f, it_t, it_f, im_e, im_l, im_g, im_g2, nI_add, pk_mul, i_sub, i_div, sdm, i_dec, i_cl, iv_t, bI_or2, bI_t0, bI_one, not_true_eq_false, not_false_eq_true, ↓reduceIte, am_tl, am_tn, am_t0, am_n0, and_true, true_and, List.cons_append, List.nil_append, List.append_nil, nI_l, ci, cnt]
          refine c_goesSwap gdB.1 F1 (by omega) (by show 0 + 1 < (swB f B i).length; rw [swB_len]; omega) (fun h2 fr2 F2 => ?_)
          have L2 := F2.1
          rw [fsw_y z] at F2
          simp (disch := first | assumption | omega | (simp only [ya_pi, ya_pj, ya_pa, ya_pr, yo_pi, yo_pj, yo_pa, yf_pi, yf_pj, yf_pa, yh_pi, yh_pj, yh_pa, yt_pi, yt_pj, yt_pa, la_pi, la_pj, la_pa]; assumption)) only [b_X12_goesLots_99, i_lit, i_m1, i_31, il_t, il_f, iq_t, iq_f, it_t, it_f, im_e, im_l, im_g, im_g2, nI_add, pk_mul, i_sub, i_div, sdm, i_dec, i_cl, iv_t, bI_or2, bI_t0, bI_one, not_true_eq_false, not_false_eq_true, ↓reduceIte, am_tl, am_tn, am_t0, am_n0, and_true, true_and, List.cons_append, List.nil_append, List.append_nil, Nat.add_sub_cancel]
          refine ih (B := tog B i) (by omega) F2 (by rw [fr2.j]; exact j39) (by rw [fr2.j]; exact j40) (fun h3 g3 F3 x39 x40 => ?_)
          have L3 := F3.1
          simp (disch := first | assumption | omega | (simp only [ya_pi, ya_pj, ya_pa, ya_pr, yo_pi, yo_pj, yo_pa, yf_pi, yf_pj, yf_pa, yh_pi, yh_pj, yh_pa, yt_pi, yt_pj, yt_pa, la_pi, la_pj, la_pa]; assumption)) only [b_X12_goesLots_106, b_X12_goesLots_110, i_lit, i_m1, i_31, il_t, il_f, iq_t, iq_f, it_t, it_f, im_e, im_l, im_g, im_g2, nI_add, pk_mul, i_sub, i_div, sdm, i_dec, i_cl, iv_t, bI_or2, bI_t0, bI_one, not_true_eq_false, not_false_eq_true, ↓reduceIte, am_tl, am_tn, am_t0, am_n0, and_true, true_and, List.cons_append, List.nil_append, List.append_nil]
          refine c_goesSwap gdT.1 F3 (by omega) (by show 0 + 1 < (swB f (tog B i) i).length; rw [swB_len]; omega) (fun h4 fr4 F4 => ?_)
          have L4 := F4.1
          rw [fsw_y z, tog_2] at F4
          simp (disch := first | assumption | omega | (simp only [ya_pi, ya_pj, ya_pa, ya_pr, yo_pi, yo_pj, yo_pa, yf_pi, yf_pj, yf_pa, yh_pi, yh_pj, yh_pa, yt_pi, yt_pj, yt_pa, la_pi, la_pj, la_pa]; assumption)) only [b_X12_goesLots_116, i_lit, i_m1, i_31, il_t, il_f, iq_t, iq_f, it_t, it_f, im_e, im_l, im_g, im_g2, nI_add, pk_mul, i_sub, i_div, sdm, i_dec, i_cl, iv_t, bI_or2, bI_t0, bI_one, not_true_eq_false, not_false_eq_true, ↓reduceIte, am_tl, am_tn, am_t0, am_n0, and_true, true_and, List.cons_append, List.nil_append, List.append_nil]
          exact rest h4 (((g1.tr ((fr2.le (fun a k z => Or.inl z)).gj)).tr g3).tr ((fr4.le (fun a k z => Or.inl z)).gj)) F4 (by rw [fr4.j]; exact x39) (by rw [fr4.j]; exact x40) _
        · simp (disch := first | assumption | omega | (simp only [ya_pi, ya_pj, ya_pa, ya_pr, yo_pi, yo_pj, yo_pa, yf_pi, yf_pj, yf_pa, yh_pi, yh_pj, yh_pa, yt_pi, yt_pj, yt_pa, la_pi, la_pj, la_pa]; assumption)) only [b_X12_goesLots_61, b_X12_goesLots_67, b_X12_goesLots_70, b_X12_goesLots_87, i_lit, i_m1, i_31, il_t, il_f, iq_t, iq_f, it_t, it_f, im_e, im_l, im_g, im_g2, nI_add, pk_mul, i_sub, i_div, sdm, i_dec, i_cl, iv_t, bI_or2, bI_t0, bI_one, not_true_eq_false, not_false_eq_true, ↓reduceIte, am_tl, am_tn, am_t0, am_n0, and_true, true_and, List.cons_append, List.nil_append, List.append_nil, nI_l, ci, cnt]
          exact flat F1 (fsw_n z)
      · have z : ¬ 1 < (f_p f i).length := by rw [gd.2.2.2.1 i (by omega)]; exact Nat.not_lt_zero _
        have ci := fun {d} {Q} {l2} => c_isClass_n (d := d) (Q := Q) (l2 := l2) gdB.1 F1 (v := lN i) (lh_nk (show f_n (fsw f B) ≤ i from (show f_n f ≤ i by omega)) (by omega) (show f_n f ≤ 1000 by omega))
        simp (disch := first | assumption | omega | (simp only [ya_pi, ya_pj, ya_pa, ya_pr, yo_pi, yo_pj, yo_pa, yf_pi, yf_pj, yf_pa, yh_pi, yh_pj, yh_pa, yt_pi, yt_pj, yt_pa, la_pi, la_pj, la_pa]; assumption)) only [b_X12_goesLots_61, b_X12_goesLots_67, b_X12_goesLots_87, i_lit, i_m1, i_31, il_t, il_f, iq_t, iq_f, it_t, it_f, im_e, im_l, im_g, im_g2, nI_add, pk_mul, i_sub, i_div, sdm, i_dec, i_cl, iv_t, bI_or2, bI_t0, bI_one, not_true_eq_false, not_false_eq_true, ↓reduceIte, am_tl, am_tn, am_t0, am_n0, and_true, true_and, List.cons_append, List.nil_append, List.append_nil, nI_l, ci]
        exact flat F1 (fsw_n z)
    · rintro m3 h1 ⟨g1, F1, j39, j40⟩
      rw [b_X12_goesLots_55 _ _ _ _ _]
      simp (disch := first | assumption | omega | (simp only [ya_pi, ya_pj, ya_pa, ya_pr, yo_pi, yo_pj, yo_pa, yf_pi, yf_pj, yf_pa, yh_pi, yh_pj, yh_pa, yt_pi, yt_pj, yt_pa, la_pi, la_pj, la_pa]; assumption)) only [b_X12_goesLots_122, i_lit, i_m1, i_31, il_t, il_f, iq_t, iq_f, it_t, it_f, im_e, im_l, im_g, im_g2, nI_add, pk_mul, i_sub, i_div, sdm, i_dec, i_cl, iv_t, bI_or2, bI_t0, bI_one, not_true_eq_false, not_false_eq_true, ↓reduceIte, am_tl, am_tn, am_t0, am_n0, and_true, true_and, List.cons_append, List.nil_append, List.append_nil]
      exact k h1 g1 F1 j39 j40
theorem c_wholeOf {d : Nat} {Q : Option am_V → am_H → Prop} {h : am_H} {n : Nat} (hn : n ≤ 3) {l1 l2 l3 : Option am_V} : ex_ d 363 0 [some (v_i (nI n)), l1, l2, l3] [] h Q ↔ Q (some (v_l (lN (10 ^ n)))) h := by
  apply ex_iff
  simp (disch := first | assumption | omega | (simp only [ya_pi, ya_pj, ya_pa, ya_pr, yo_pi, yo_pj, yo_pa, yf_pi, yf_pj, yf_pa, yh_pi, yh_pj, yh_pa, yt_pi, yt_pj, yt_pa, la_pi, la_pj, la_pa]; assumption)) only [b_X12_wholeOf_0, i_lit, i_m1, i_31, il_t, il_f, iq_t, iq_f, it_t, it_f, im_e, im_l, im_g, im_g2, nI_add, pk_mul, i_sub, i_div, sdm, i_dec, i_cl, iv_t, bI_or2, bI_t0, bI_one, not_true_eq_false, not_false_eq_true, ↓reduceIte, am_tl, am_tn, am_t0, am_n0, and_true, true_and, List.cons_append, List.nil_append, List.append_nil, l_lit]
  refine lp_up n (fun i (_ : Unit) => [some (v_i (nI n)), some (v_l (lN (10 ^ i))), none, some (v_i (nI i))]) (fun i _ h' => h' = h) ?_ ?_ (Nat.zero_le _) rfl (s := ())
  · rintro i - h1 hi rfl nxt
    have nx := nxt () h1 rfl
    rw [Nat.pow_succ] at nx
    rw [b_X12_wholeOf_4 _ _ _ _ _]
    simp (disch := first | assumption | omega | (simp only [ya_pi, ya_pj, ya_pa, ya_pr, yo_pi, yo_pj, yo_pa, yf_pi, yf_pj, yf_pa, yh_pi, yh_pj, yh_pa, yt_pi, yt_pj, yt_pa, la_pi, la_pj, la_pa]; assumption)) only [b_X12_wholeOf_9, i_lit, i_m1, i_31, il_t, il_f, iq_t, iq_f, it_t, it_f, im_e, im_l, im_g, im_g2, nI_add, pk_mul, i_sub, i_div, sdm, i_dec, i_cl, iv_t, bI_or2, bI_t0, bI_one, not_true_eq_false, not_false_eq_true, ↓reduceIte, am_tl, am_tn, am_t0, am_n0, and_true, true_and, List.cons_append, List.nil_append, List.append_nil, l_lit, lN_mul]
    exact nx
  · rintro - h1 rfl
    rw [b_X12_wholeOf_4 _ _ _ _ _]
    simp (disch := first | assumption | omega | (simp only [ya_pi, ya_pj, ya_pa, ya_pr, yo_pi, yo_pj, yo_pa, yf_pi, yf_pj, yf_pa, yh_pi, yh_pj, yh_pa, yt_pi, yt_pj, yt_pa, la_pi, la_pj, la_pa]; assumption)) only [b_X12_wholeOf_21, i_lit, i_m1, i_31, il_t, il_f, iq_t, iq_f, it_t, it_f, im_e, im_l, im_g, im_g2, nI_add, pk_mul, i_sub, i_div, sdm, i_dec, i_cl, iv_t, bI_or2, bI_t0, bI_one, not_true_eq_false, not_false_eq_true, ↓reduceIte, am_tl, am_tn, am_t0, am_n0, and_true, true_and, List.cons_append, List.nil_append, List.append_nil]
theorem l_rem {a d : Nat} (ha : a < 9223372036854775808) (h0 : 0 < d) (hd : d < 9223372036854775808) : lN a - lN a / lN d * lN d = lN (a % d) := by
  rw [l_div ha h0 hd, lN_mul, lN_sub (by have := Nat.div_mul_le_self a d; omega), sdm]
theorem c_divisor {d : Nat} {h : am_H} : ∀ (m : Nat) {a b : Nat} {Q : Option am_V → am_H → Prop} {l1 l3 : Option am_V}, b < 2 ^ m → a ≤ 10000 → b ≤ 10000 → (ex_ (d + 2 * m) 364 0 [some (v_l (lN a)), l1, some (v_l (lN b)), l3] [] h Q ↔ Q (some (v_l (lN (Nat.gcd a b)))) h) := by
  have last : ∀ (e : Nat) {a : Nat} {Q : Option am_V → am_H → Prop} {l1 l3 : Option am_V}, (ex_ e 364 0 [some (v_l (lN a)), l1, some (v_l (lN 0)), l3] [] h Q ↔ Q (some (v_l (lN (Nat.gcd a 0)))) h) := by
    intro e a Q l1 l3
    rw [Nat.gcd_zero_right]
    simp (disch := first | assumption | omega | (simp only [ya_pi, ya_pj, ya_pa, ya_pr, yo_pi, yo_pj, yo_pa, yf_pi, yf_pj, yf_pa, yh_pi, yh_pj, yh_pa, yt_pi, yt_pj, yt_pa, la_pi, la_pj, la_pa]; assumption)) only [b_X12_divisor_0, b_X12_divisor_10, b_X12_divisor_6, b_X12_divisor_17, i_lit, i_m1, i_31, il_t, il_f, iq_t, iq_f, it_t, it_f, im_e, im_l, im_g, im_g2, nI_add, pk_mul, i_sub, i_div, sdm, i_dec, i_cl, iv_t, bI_or2, bI_t0, bI_one, not_true_eq_false, not_false_eq_true, ↓reduceIte, am_tl, am_tn, am_t0, am_n0, and_true, true_and, List.cons_append, List.nil_append, List.append_nil, l_lit, lc_lt, lc_le, lc_gt, lc_ge, lc_eq, ll_t, ll_f, lt_t, lt_f, lq_t, lq_f, l_div, lN_add, lN_mul, lN_sub, lN_i]
  have one : ∀ (e : Nat) {a b : Nat} {Q : Option am_V → am_H → Prop} {l1 l3 : Option am_V}, a ≤ 10000 → b ≤ 10000 → 0 < b → (ex_ (e + 1) 364 0 [some (v_l (lN a)), l1, some (v_l (lN b)), l3] [] h Q ↔ ex_ e 364 0 [some (v_l (lN b)), none, some (v_l (lN (a % b))), none] [] h (fun r h' => ex_ (e + 1) 364 17 [some (v_l (lN a)), l1, some (v_l (lN b)), l3] (r.toList ++ []) h' Q)) := by
    intro e a b Q l1 l3 ha hb h0
    have b0 : ¬ b = 0 := by omega
    rw [b_X12_divisor_0 _ _ _ _ _]
    simp only [l_lit, i_lit, lc_eq]
    simp only [lq_f b0 (show b < 9223372036854775808 by omega) (show 0 < 9223372036854775808 by omega), not_false_eq_true, if_true]
    rw [b_X12_divisor_10]
    simp only [l_lit, lq_f b0 (show b < 9223372036854775808 by omega) (show 0 < 9223372036854775808 by omega), not_false_eq_true, true_and]
    rw [l_rem (by omega) h0 (by omega)]
  intro m
  induction m with
  | zero =>
    intro a b Q l1 l3 hb ha hb2
    have : b = 0 := by simpa using hb
    subst this
    exact last _
  | succ m ih =>
    intro a b Q l1 l3 hb ha hb2
    by_cases z : b = 0
    · subst z
      exact last _
    · have b0 : 0 < b := by omega
      have r1 : a % b < b := Nat.mod_lt _ b0
      have g1 : Nat.gcd b (a % b) = Nat.gcd a b := by
        rw [Nat.gcd_comm a b, Nat.gcd_rec b a, Nat.gcd_comm]
      rw [show d + 2 * (m + 1) = (d + 2 * m + 1) + 1 from by omega, one _ ha hb2 b0]
      by_cases y : a % b = 0
      · rw [y] at g1 ⊢
        rw [last, g1]
        simp (disch := first | assumption | omega | (simp only [ya_pi, ya_pj, ya_pa, ya_pr, yo_pi, yo_pj, yo_pa, yf_pi, yf_pj, yf_pa, yh_pi, yh_pj, yh_pa, yt_pi, yt_pj, yt_pa, la_pi, la_pj, la_pa]; assumption)) only [b_X12_divisor_17, i_lit, i_m1, i_31, il_t, il_f, iq_t, iq_f, it_t, it_f, im_e, im_l, im_g, im_g2, nI_add, pk_mul, i_sub, i_div, sdm, i_dec, i_cl, iv_t, bI_or2, bI_t0, bI_one, not_true_eq_false, not_false_eq_true, ↓reduceIte, am_tl, am_tn, am_t0, am_n0, and_true, true_and, List.cons_append, List.nil_append, List.append_nil]
      · have y0 : 0 < a % b := by omega
        have g2 : Nat.gcd (a % b) (b % (a % b)) = Nat.gcd a b := by
          rw [← g1, Nat.gcd_comm b (a % b), Nat.gcd_rec (a % b) b, Nat.gcd_comm]
        rw [one _ hb2 (by omega) y0]
        have h2 := mod_half y0 b0
        rw [Nat.pow_succ] at hb
        rw [ih (by omega) (by omega) (by omega), g2]
        simp (disch := first | assumption | omega | (simp only [ya_pi, ya_pj, ya_pa, ya_pr, yo_pi, yo_pj, yo_pa, yf_pi, yf_pj, yf_pa, yh_pi, yh_pj, yh_pa, yt_pi, yt_pj, yt_pa, la_pi, la_pj, la_pa]; assumption)) only [b_X12_divisor_17, i_lit, i_m1, i_31, il_t, il_f, iq_t, iq_f, it_t, it_f, im_e, im_l, im_g, im_g2, nI_add, pk_mul, i_sub, i_div, sdm, i_dec, i_cl, iv_t, bI_or2, bI_t0, bI_one, not_true_eq_false, not_false_eq_true, ↓reduceIte, am_tl, am_tn, am_t0, am_n0, and_true, true_and, List.cons_append, List.nil_append, List.append_nil]
theorem rI_J {h h' : am_H} {S : St} (ok : St_ok S) (C : rI h S) (G : gj h h' rX lJ N0) (F : rfa h' (s_f S)) (P : rpa h' (s_p S)) : rI h' S := by
  obtain ⟨L, C1, C2, C3, C4, C5, C6, C7⟩ := C
  have G := G.2
  refine ⟨F.1, ⟨?_, F.2.1, F.2.2, G.rsb L C1.2.2.2.1 (by omega) (fun k hk z => ?_), G.rsb L C1.2.2.2.2 (by omega) (fun k hk z => ?_)⟩, P, G.riA L ok.2.2.1 C3 (fun k z => ?_) (fun k hk z => ?_), G.rtA L C4 (fun a k h1 h2 z => ?_) (fun k z => ?_), ⟨?_, fun k hk => ?_⟩, ?_, ?_⟩
  · exact (G.i (la_n L (by omega)) (by unfold rX rS; omega)).trans C1.1
  · unfold rX rS at z; omega
  · unfold rX rS at z; omega
  · unfold rX rS at z; omega
  · unfold rX rS at z; omega
  · unfold rX rS at z; omega
  · unfold lJ at z; omega
  · exact (G.i (la_n L (by omega)) (by unfold rX rS; omega)).trans C5.1
  · exact (G.i (la_n L (by omega)) (by unfold rX rS; omega)).trans (C5.2 k hk)
  · exact (G.i (la_n L (by omega)) (by unfold rX rS; omega)).trans C6
  · exact (G.i (la_n L (by omega)) (by unfold rX rS; omega)).trans C7
theorem c_part {d : Nat} {Q : Option am_V → am_H → Prop} {h : am_H} {S : St} {b n w : Nat} (ok : St_ok S) (C : rI h S) (hb : b < 2) (hn : n ≤ 3) (hw : w < 2) {l4 l5 : Option am_V} (k : ∀ h', gj h h' rX lJ N0 → rI h' S → Q (some (v_i (nI (frc (if b = 1 then lA (s_f S) n else lO (s_f S) n) (10 ^ n) w)))) h') : ex_ (d + 29) 365 0 [some (v_r (some 93)), some (v_i (nI b)), some (v_i (nI n)), some (v_i (nI w)), l4, l5] [] h Q := by
  have L := C.1
  have gd : fa_gd (s_f S) := ok.1.1.1
  have g0 : gj h (p_j (p_j h 93 39 (lN 0)) 93 40 (lN 0)) rX lJ N0 := (gj_pj (by unfold lJ; omega)).tr (gj_pj (by unfold lJ; omega))
  have L0 : Lay (p_j (p_j h 93 39 (lN 0)) 93 40 (lN 0)) := L
  have F0 : rfa (p_j (p_j h 93 39 (lN 0)) 93 40 (lN 0)) (fsw (s_f S) (fun _ => false)) := C.rfa
  have R0 : rpa (p_j (p_j h 93 39 (lN 0)) 93 40 (lN 0)) (s_p S) := C.2.2.1
  simp (disch := first | assumption | omega | (simp only [ya_pi, ya_pj, ya_pa, ya_pr, yo_pi, yo_pj, yo_pa, yf_pi, yf_pj, yf_pa, yh_pi, yh_pj, yh_pa, yt_pi, yt_pj, yt_pa, la_pi, la_pj, la_pa]; assumption)) only [b_X12_part_0, i_lit, i_m1, i_31, il_t, il_f, iq_t, iq_f, it_t, it_f, im_e, im_l, im_g, im_g2, nI_add, pk_mul, i_sub, i_div, sdm, i_dec, i_cl, iv_t, bI_or2, bI_t0, bI_one, not_true_eq_false, not_false_eq_true, ↓reduceIte, am_tl, am_tn, am_t0, am_n0, and_true, true_and, List.cons_append, List.nil_append, List.append_nil, l_lit]
  have w1 := c_goesLots gd n (d := d + 23 - n) (B := fun _ => false) (Q := fun r h' => ex_ (d + 29) 365 15 [some (v_r (some 93)), some (v_i (nI b)), some (v_i (nI n)), some (v_i (nI w)), l4, l5] r.toList h' Q) (a := 0) (b := 0) hn F0 (by rw [hj_o (by omega), hj_s]) (by rw [hj_s]) (l2 := none) (l3 := none) (fun h1 g1 F1 j39 j40 => ?_)
  · rw [show d + 23 - n + n + 5 = d + 28 from by omega] at w1
    exact w1
  · have L1 := F1.1
    have F1' : rfa h1 (s_f S) := F1
    rw [Nat.zero_add] at j39 j40
    have G1 : gj h h1 rX lJ N0 := g0.tr (g1.le (fun a k z => by
      rcases z with z | z
      · exact z.X
      · exact z.S.X) (fun a k z => z) (fun a k z => z))
    have R1 : rpa h1 (s_p S) := g1.2.rpa L0 (okp ok) R0 (fun k h1 h2 => by unfold lF rF rA; omega)
    have C1 := rI_J ok C G1 F1' R1
    have fin := k h1 G1 C1
    have p3 := pw3 hn
    have p10 : 10 ^ n < 2 ^ 10 := by omega
    have eA : lS (gA (s_f S)) n (fun _ => false) = lA (s_f S) n := rfl
    have eO : lS (lcnt (s_f S)) n (fun _ => false) = lO (s_f S) n := rfl
    rw [eA] at j39
    rw [eO] at j40
    have bA := lA_le (f := s_f S) hn
    have bO := lO_le gd.1 hn
    have tail : ∀ (o : Nat) (l4 l5 : Option am_V), o ≤ 10000 → Q (some (v_i (nI (frc o (10 ^ n) w)))) h1 → ex_ (d + 29) 365 51 [some (v_r (some 93)), some (v_i (nI b)), some (v_i (nI n)), some (v_i (nI w)), l4, l5] [v_l (lN (10 ^ n)), v_l (lN o), v_l (lN (if w = 0 then o else 10 ^ n))] h1 Q := by
      intro o l4 l5 ho fin
      have gp : 0 < Nat.gcd o (10 ^ n) := Nat.gcd_pos_of_pos_right _ (by omega)
      have gle : Nat.gcd o (10 ^ n) ≤ 10 ^ n := Nat.gcd_le_right _ (by omega)
      have vle : (if w = 0 then o else 10 ^ n) ≤ 10000 := by split <;> omega
      have dle : (if w = 0 then o else 10 ^ n) / Nat.gcd o (10 ^ n) ≤ 10000 := Nat.le_trans (Nat.div_le_self _ _) vle
      rw [b_X12_part_51]
      rw [show d + 28 = (d + 8) + 2 * 10 from by omega]
      rw [c_divisor 10 p10 ho (by omega)]
      simp only [am_tl, b_X12_part_54, l_lit]
      rw [l_div (by omega) gp (by omega), lN_i]
      refine ⟨?_, fin⟩
      intro z
      have := (pk_lEQ (by omega) (by omega)).1 z
      omega
    rcases (show b = 0 ∨ b = 1 by omega) with rfl | rfl
    · rw [if_neg (by omega)] at fin
      rcases (show w = 0 ∨ w = 1 by omega) with rfl | rfl
      · simp (disch := first | assumption | omega | (simp only [ya_pi, ya_pj, ya_pa, ya_pr, yo_pi, yo_pj, yo_pa, yf_pi, yf_pj, yf_pa, yh_pi, yh_pj, yh_pa, yt_pi, yt_pj, yt_pa, la_pi, la_pj, la_pa]; assumption)) only [b_X12_part_15, b_X12_part_26, b_X12_part_36, i_lit, i_m1, i_31, il_t, il_f, iq_t, iq_f, it_t, it_f, im_e, im_l, im_g, im_g2, nI_add, pk_mul, i_sub, i_div, sdm, i_dec, i_cl, iv_t, bI_or2, bI_t0, bI_one, not_true_eq_false, not_false_eq_true, ↓reduceIte, am_tl, am_tn, am_t0, am_n0, and_true, true_and, List.cons_append, List.nil_append, List.append_nil, j40, c_wholeOf hn]
        exact tail (lO (s_f S) n) _ _ bO fin
      · simp (disch := first | assumption | omega | (simp only [ya_pi, ya_pj, ya_pa, ya_pr, yo_pi, yo_pj, yo_pa, yf_pi, yf_pj, yf_pa, yh_pi, yh_pj, yh_pa, yt_pi, yt_pj, yt_pa, la_pi, la_pj, la_pa]; assumption)) only [b_X12_part_15, b_X12_part_26, b_X12_part_41, b_X12_part_45, i_lit, i_m1, i_31, il_t, il_f, iq_t, iq_f, it_t, it_f, im_e, im_l, im_g, im_g2, nI_add, pk_mul, i_sub, i_div, sdm, i_dec, i_cl, iv_t, bI_or2, bI_t0, bI_one, not_true_eq_false, not_false_eq_true, ↓reduceIte, am_tl, am_tn, am_t0, am_n0, and_true, true_and, List.cons_append, List.nil_append, List.append_nil, j40, c_wholeOf hn]
        exact tail (lO (s_f S) n) _ _ bO fin
    · rw [if_pos rfl] at fin
      rcases (show w = 0 ∨ w = 1 by omega) with rfl | rfl
      · simp (disch := first | assumption | omega | (simp only [ya_pi, ya_pj, ya_pa, ya_pr, yo_pi, yo_pj, yo_pa, yf_pi, yf_pj, yf_pa, yh_pi, yh_pj, yh_pa, yt_pi, yt_pj, yt_pa, la_pi, la_pj, la_pa]; assumption)) only [b_X12_part_15, b_X12_part_19, b_X12_part_36, i_lit, i_m1, i_31, il_t, il_f, iq_t, iq_f, it_t, it_f, im_e, im_l, im_g, im_g2, nI_add, pk_mul, i_sub, i_div, sdm, i_dec, i_cl, iv_t, bI_or2, bI_t0, bI_one, not_true_eq_false, not_false_eq_true, ↓reduceIte, am_tl, am_tn, am_t0, am_n0, and_true, true_and, List.cons_append, List.nil_append, List.append_nil, j39, c_wholeOf hn]
        exact tail (lA (s_f S) n) _ _ (by omega) fin
      · simp (disch := first | assumption | omega | (simp only [ya_pi, ya_pj, ya_pa, ya_pr, yo_pi, yo_pj, yo_pa, yf_pi, yf_pj, yf_pa, yh_pi, yh_pj, yh_pa, yt_pi, yt_pj, yt_pa, la_pi, la_pj, la_pa]; assumption)) only [b_X12_part_15, b_X12_part_19, b_X12_part_41, b_X12_part_45, i_lit, i_m1, i_31, il_t, il_f, iq_t, iq_f, it_t, it_f, im_e, im_l, im_g, im_g2, nI_add, pk_mul, i_sub, i_div, sdm, i_dec, i_cl, iv_t, bI_or2, bI_t0, bI_one, not_true_eq_false, not_false_eq_true, ↓reduceIte, am_tl, am_tn, am_t0, am_n0, and_true, true_and, List.cons_append, List.nil_append, List.append_nil, j39, c_wholeOf hn]
        exact tail (lA (s_f S) n) _ _ (by omega) fin
theorem c_rChance {d : Nat} {Q : Option am_V → am_H → Prop} {h : am_H} {S : St} {n w : Int32} (ok : St_ok S) (C : rI h S) (k : ∀ h', gj h h' rX lJ N0 → rI h' S → Q (some (v_i (t_lots (lA (s_f S)) n w))) h') : ex_ (d + 30) 366 0 [some (v_r (some 93)), some (v_i n), some (v_i w)] [] h Q := by
  have L := C.1
  obtain ⟨C0, fr0⟩ := C.p0 ok
  have L0 := C0.1
  unfold t_lots at k
  rcases lt_code (n := n) (w := w) with ⟨⟨a, ha, rfl⟩, b, hb, rfl⟩ | z | ⟨⟨a, ha, rfl⟩, z⟩
  · rw [if_pos ⟨nI_pos (by omega), nI_lt ha (by omega)⟩, if_pos ⟨nI_pos (by omega), nI_lt hb (by omega)⟩, nI_clamp (by omega), nI_clamp (by omega)] at k
    simp (disch := first | assumption | omega | (simp only [ya_pi, ya_pj, ya_pa, ya_pr, yo_pi, yo_pj, yo_pa, yf_pi, yf_pj, yf_pa, yh_pi, yh_pj, yh_pa, yt_pi, yt_pj, yt_pa, la_pi, la_pj, la_pa]; assumption)) only [b_X12_chance_0, b_X12_chance_12, b_X12_chance_18, b_X12_chance_15, b_X12_chance_27, b_X12_chance_40, b_X12_chance_30, b_X12_chance_37, i_lit, i_m1, i_31, il_t, il_f, iq_t, iq_f, it_t, it_f, im_e, im_l, im_g, im_g2, nI_add, pk_mul, i_sub, i_div, sdm, i_dec, i_cl, iv_t, bI_or2, bI_t0, bI_one, not_true_eq_false, not_false_eq_true, ↓reduceIte, am_tl, am_tn, am_t0, am_n0, and_true, true_and, List.cons_append, List.nil_append, List.append_nil, nI_l, l_lit, c_within_y]
    refine c_part ok C0 (b := 1) (by omega) (by omega) ha (fun h1 g1 C1 => ?_)
    simp (disch := first | assumption | omega | (simp only [ya_pi, ya_pj, ya_pa, ya_pr, yo_pi, yo_pj, yo_pa, yf_pi, yf_pj, yf_pa, yh_pi, yh_pj, yh_pa, yt_pi, yt_pj, yt_pa, la_pi, la_pj, la_pa]; assumption)) only [b_X12_chance_0, b_X12_chance_12, b_X12_chance_18, b_X12_chance_15, b_X12_chance_27, b_X12_chance_40, b_X12_chance_30, b_X12_chance_37, i_lit, i_m1, i_31, il_t, il_f, iq_t, iq_f, it_t, it_f, im_e, im_l, im_g, im_g2, nI_add, pk_mul, i_sub, i_div, sdm, i_dec, i_cl, iv_t, bI_or2, bI_t0, bI_one, not_true_eq_false, not_false_eq_true, ↓reduceIte, am_tl, am_tn, am_t0, am_n0, and_true, true_and, List.cons_append, List.nil_append, List.append_nil]
    exact k h1 (fr0.gj.tr g1) C1
  · rw [if_neg z] at k
    have z' : w.toInt64 < lN 0 ∨ lN 1 < w.toInt64 := by
      rw [w1]
      exact fun y => z ((hs_32 (by omega)).1 y)
    simp (disch := first | assumption | omega | (simp only [ya_pi, ya_pj, ya_pa, ya_pr, yo_pi, yo_pj, yo_pa, yf_pi, yf_pj, yf_pa, yh_pi, yh_pj, yh_pa, yt_pi, yt_pj, yt_pa, la_pi, la_pj, la_pa]; assumption)) only [b_X12_chance_0, b_X12_chance_12, b_X12_chance_18, b_X12_chance_15, b_X12_chance_27, b_X12_chance_40, b_X12_chance_30, b_X12_chance_37, i_lit, i_m1, i_31, il_t, il_f, iq_t, iq_f, it_t, it_f, im_e, im_l, im_g, im_g2, nI_add, pk_mul, i_sub, i_div, sdm, i_dec, i_cl, iv_t, bI_or2, bI_t0, bI_one, not_true_eq_false, not_false_eq_true, ↓reduceIte, am_tl, am_tn, am_t0, am_n0, and_true, true_and, List.cons_append, List.nil_append, List.append_nil, l_lit, c_within_n z']
    exact k _ fr0.gj C0
  · rw [if_pos ⟨nI_pos (by omega), nI_lt ha (by omega)⟩, if_neg z] at k
    have z' : n.toInt64 < lN 0 ∨ lN 3 < n.toInt64 := by
      rw [w3]
      exact fun y => z (lh_4.1 y)
    simp (disch := first | assumption | omega | (simp only [ya_pi, ya_pj, ya_pa, ya_pr, yo_pi, yo_pj, yo_pa, yf_pi, yf_pj, yf_pa, yh_pi, yh_pj, yh_pa, yt_pi, yt_pj, yt_pa, la_pi, la_pj, la_pa]; assumption)) only [b_X12_chance_0, b_X12_chance_12, b_X12_chance_18, b_X12_chance_15, b_X12_chance_27, b_X12_chance_40, b_X12_chance_30, b_X12_chance_37, i_lit, i_m1, i_31, il_t, il_f, iq_t, iq_f, it_t, it_f, im_e, im_l, im_g, im_g2, nI_add, pk_mul, i_sub, i_div, sdm, i_dec, i_cl, iv_t, bI_or2, bI_t0, bI_one, not_true_eq_false, not_false_eq_true, ↓reduceIte, am_tl, am_tn, am_t0, am_n0, and_true, true_and, List.cons_append, List.nil_append, List.append_nil, nI_l, l_lit, c_within_y, c_within_n z']
    exact k _ fr0.gj C0
theorem c_rMean {d : Nat} {Q : Option am_V → am_H → Prop} {h : am_H} {S : St} {n w : Int32} (ok : St_ok S) (C : rI h S) (k : ∀ h', gj h h' rX lJ N0 → rI h' S → Q (some (v_i (t_lots (lO (s_f S)) n w))) h') : ex_ (d + 30) 367 0 [some (v_r (some 93)), some (v_i n), some (v_i w)] [] h Q := by
  have L := C.1
  obtain ⟨C0, fr0⟩ := C.p0 ok
  have L0 := C0.1
  unfold t_lots at k
  rcases lt_code (n := n) (w := w) with ⟨⟨a, ha, rfl⟩, b, hb, rfl⟩ | z | ⟨⟨a, ha, rfl⟩, z⟩
  · rw [if_pos ⟨nI_pos (by omega), nI_lt ha (by omega)⟩, if_pos ⟨nI_pos (by omega), nI_lt hb (by omega)⟩, nI_clamp (by omega), nI_clamp (by omega)] at k
    simp (disch := first | assumption | omega | (simp only [ya_pi, ya_pj, ya_pa, ya_pr, yo_pi, yo_pj, yo_pa, yf_pi, yf_pj, yf_pa, yh_pi, yh_pj, yh_pa, yt_pi, yt_pj, yt_pa, la_pi, la_pj, la_pa]; assumption)) only [b_X12_mean_0, b_X12_mean_12, b_X12_mean_18, b_X12_mean_15, b_X12_mean_27, b_X12_mean_40, b_X12_mean_30, b_X12_mean_37, i_lit, i_m1, i_31, il_t, il_f, iq_t, iq_f, it_t, it_f, im_e, im_l, im_g, im_g2, nI_add, pk_mul, i_sub, i_div, sdm, i_dec, i_cl, iv_t, bI_or2, bI_t0, bI_one, not_true_eq_false, not_false_eq_true, ↓reduceIte, am_tl, am_tn, am_t0, am_n0, and_true, true_and, List.cons_append, List.nil_append, List.append_nil, nI_l, l_lit, c_within_y]
    refine c_part ok C0 (b := 0) (by omega) (by omega) ha (fun h1 g1 C1 => ?_)
    simp (disch := first | assumption | omega | (simp only [ya_pi, ya_pj, ya_pa, ya_pr, yo_pi, yo_pj, yo_pa, yf_pi, yf_pj, yf_pa, yh_pi, yh_pj, yh_pa, yt_pi, yt_pj, yt_pa, la_pi, la_pj, la_pa]; assumption)) only [b_X12_mean_0, b_X12_mean_12, b_X12_mean_18, b_X12_mean_15, b_X12_mean_27, b_X12_mean_40, b_X12_mean_30, b_X12_mean_37, i_lit, i_m1, i_31, il_t, il_f, iq_t, iq_f, it_t, it_f, im_e, im_l, im_g, im_g2, nI_add, pk_mul, i_sub, i_div, sdm, i_dec, i_cl, iv_t, bI_or2, bI_t0, bI_one, not_true_eq_false, not_false_eq_true, ↓reduceIte, am_tl, am_tn, am_t0, am_n0, and_true, true_and, List.cons_append, List.nil_append, List.append_nil]
    exact k h1 (fr0.gj.tr g1) C1
  · rw [if_neg z] at k
    have z' : w.toInt64 < lN 0 ∨ lN 1 < w.toInt64 := by
      rw [w1]
      exact fun y => z ((hs_32 (by omega)).1 y)
    simp (disch := first | assumption | omega | (simp only [ya_pi, ya_pj, ya_pa, ya_pr, yo_pi, yo_pj, yo_pa, yf_pi, yf_pj, yf_pa, yh_pi, yh_pj, yh_pa, yt_pi, yt_pj, yt_pa, la_pi, la_pj, la_pa]; assumption)) only [b_X12_mean_0, b_X12_mean_12, b_X12_mean_18, b_X12_mean_15, b_X12_mean_27, b_X12_mean_40, b_X12_mean_30, b_X12_mean_37, i_lit, i_m1, i_31, il_t, il_f, iq_t, iq_f, it_t, it_f, im_e, im_l, im_g, im_g2, nI_add, pk_mul, i_sub, i_div, sdm, i_dec, i_cl, iv_t, bI_or2, bI_t0, bI_one, not_true_eq_false, not_false_eq_true, ↓reduceIte, am_tl, am_tn, am_t0, am_n0, and_true, true_and, List.cons_append, List.nil_append, List.append_nil, l_lit, c_within_n z']
    exact k _ fr0.gj C0
  · rw [if_pos ⟨nI_pos (by omega), nI_lt ha (by omega)⟩, if_neg z] at k
    have z' : n.toInt64 < lN 0 ∨ lN 3 < n.toInt64 := by
      rw [w3]
      exact fun y => z (lh_4.1 y)
    simp (disch := first | assumption | omega | (simp only [ya_pi, ya_pj, ya_pa, ya_pr, yo_pi, yo_pj, yo_pa, yf_pi, yf_pj, yf_pa, yh_pi, yh_pj, yh_pa, yt_pi, yt_pj, yt_pa, la_pi, la_pj, la_pa]; assumption)) only [b_X12_mean_0, b_X12_mean_12, b_X12_mean_18, b_X12_mean_15, b_X12_mean_27, b_X12_mean_40, b_X12_mean_30, b_X12_mean_37, i_lit, i_m1, i_31, il_t, il_f, iq_t, iq_f, it_t, it_f, im_e, im_l, im_g, im_g2, nI_add, pk_mul, i_sub, i_div, sdm, i_dec, i_cl, iv_t, bI_or2, bI_t0, bI_one, not_true_eq_false, not_false_eq_true, ↓reduceIte, am_tl, am_tn, am_t0, am_n0, and_true, true_and, List.cons_append, List.nil_append, List.append_nil, nI_l, l_lit, c_within_y, c_within_n z']
    exact k _ fr0.gj C0
