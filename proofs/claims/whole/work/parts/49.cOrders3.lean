theorem od1_any {T : od_T} {c : Nat} {ps : List Nat} {i : Nat} (hi : i < ps.length) (h : (T (ps.getD i 0)).2 = []) : od1 T c ps = (2, []) := by
  rw [od1, if_pos]
  rw [List.any_eq_true]
  exact ⟨_, gd_mem hi, by rw [h]; rfl⟩
theorem od1_mf {T : od_T} {c : Nat} {ps : List Nat} (h : ∀ i, i < ps.length → ¬ (T (ps.getD i 0)).2 = []) : od1 T c ps = match mf ps.length (od_R T ps) with
  | some l => (0, c :: l)
  | none => (1, []) := by
  rw [od1, if_neg]
  · rfl
  rw [List.any_eq_true]
  rintro ⟨p, hp, e⟩
  obtain ⟨i, hi, rfl⟩ := gd_ex hp
  exact h i hi (List.isEmpty_iff.1 e)
theorem c_settle {d : Nat} {Q : Option am_V → am_H → Prop} {h : am_H} {o c q N : Nat} {T : od_T} {ps : List Nat} (F : or_at h o T N) (ok : od_ok T N) (hNc : N ≤ c) (hc : c ≤ 10) (hps : ∀ p ∈ ps, p < N) (nd : ps.Nodup) (h4 : ps.length ≤ 4) (A : y_arr h q 20 4) (rq : ro h q 0 ps) (hq : q < o ∨ q = o + 4 ∨ o + 10 ≤ q) {l4 l5 : Option am_V} (k : ∀ h', am_fr h h' (or_P o c) → or_row h' o c (od1 T c ps) → Q (some (v_i (nI (od1 T c ps).1))) h') : ex_ (d + 2) 52 0 [some (v_r (some o)), some (v_i (nI c)), some (v_r (some q)), some (v_i (nI ps.length)), l4, l5] [] h Q := by
  have F0 := F.1
  simp (disch := first | assumption | omega | (simp only [ya_pi, ya_pj, ya_pa, ya_pr, yo_pi, yo_pj, yo_pa, yf_pi, yf_pj, yf_pa, yh_pi, yh_pj, yh_pa, yt_pi, yt_pj, yt_pa, la_pi, la_pj, la_pa]; assumption)) only [b_X6_settle_0, b_X6_settle_25, b_X6_settle_4, b_X6_settle_10, b_X6_settle_14, b_X6_settle_20, b_X6_settle_27, b_X6_settle_69, b_X6_settle_50, b_X6_settle_75, b_X6_settle_58, b_X6_settle_93, b_X6_settle_63, b_X6_settle_61, b_X6_settle_142, b_X6_settle_101, b_X6_settle_152, b_X6_settle_108, b_X6_settle_159, b_X6_settle_155, b_X6_settle_132, b_X6_settle_180, b_X6_settle_175, b_X6_settle_137, i_lit, i_m1, i_31, il_t, il_f, iq_t, iq_f, it_t, it_f, im_e, im_l, im_g, im_g2, nI_add, pk_mul, i_sub, i_div, sdm, i_dec, i_cl, iv_t, bI_or2, bI_t0, bI_one, not_true_eq_false, not_false_eq_true, ↓reduceIte, am_tl, am_tn, am_t0, am_n0, and_true, true_and, List.cons_append, List.nil_append, List.append_nil]
  have fr1 : am_fr h (p_i (p_i h (o + 2) c (nI 0)) (o + 1) c (nI 2)) (or_P o c) := (am_fr_pi (by unfold or_P; omega)).pi (by unfold or_P; omega)
  have s1 : h_i (p_i (p_i h (o + 2) c (nI 0)) (o + 1) c (nI 2)) (o + 1) c = nI 2 := by simp (disch := first | assumption | omega | (simp only [ya_pi, ya_pj, ya_pa, ya_pr, yo_pi, yo_pj, yo_pa, yf_pi, yf_pj, yf_pa, yh_pi, yh_pj, yh_pa, yt_pi, yt_pj, yt_pa, la_pi, la_pj, la_pa]; assumption)) only [hi_s, hi_o, hi_k, hr_pi, hj_pi, hn_pi, hi_pas, hi_pao, hr_pa, hj_pa]
  have s2 : h_i (p_i (p_i h (o + 2) c (nI 0)) (o + 1) c (nI 2)) (o + 2) c = nI 0 := by simp (disch := first | assumption | omega | (simp only [ya_pi, ya_pj, ya_pa, ya_pr, yo_pi, yo_pj, yo_pa, yf_pi, yf_pj, yf_pa, yh_pi, yh_pj, yh_pa, yt_pi, yt_pj, yt_pa, la_pi, la_pj, la_pa]; assumption)) only [hi_s, hi_o, hi_k, hr_pi, hj_pi, hn_pi, hi_pas, hi_pao, hr_pa, hj_pa]
  generalize p_i (p_i h (o + 2) c (nI 0)) (o + 1) c (nI 2) = h1 at fr1 s1 s2
  have F1 : y_Orders h1 o := fr1.orders F0
  have A1 : y_arr h1 q 20 4 := fr1.c A
  have rq1 : ro h1 q 0 ps := fr1.ro rq (fun k hk z => by unfold or_P at z; omega)
  have rows1 : ∀ p ∈ ps, or_row h1 o p (T p) := fun p hp => by
    have := hps p hp
    have h2 := ok p this
    exact or_row.fr fr1 (F.2 p this) (by omega) (by unfold or_P; omega) (by unfold or_P; omega) (fun k _ z => by unfold or_P at z; omega)
  refine lp_up ps.length (fun i (_ : Unit) => [some (v_r (some o)), some (v_i (nI c)), some (v_r (some q)), some (v_i (nI ps.length)), some (v_i (nI i)), l5]) (fun i _ h' => h' = h1 ∧ ∀ j, j < i → ¬ (T (ps.getD j 0)).2 = []) ?_ ?_ (Nat.zero_le _) ⟨rfl, fun j hj => absurd hj (Nat.not_lt_zero _)⟩ (s := ())
  · rintro i - h' hi ⟨rfl, e⟩ nx
    have hm := gd_mem hi
    have hp := hps _ hm
    have hr := rows1 _ hm
    have ho := ok _ hp
    have eq1 := rq1 i hi
    rw [Nat.zero_add] at eq1
    rw [b_X6_settle_44]
    by_cases z : (T (ps.getD i 0)).2 = []
    · simp (disch := first | assumption | omega | (simp only [ya_pi, ya_pj, ya_pa, ya_pr, yo_pi, yo_pj, yo_pa, yf_pi, yf_pj, yf_pa, yh_pi, yh_pj, yh_pa, yt_pi, yt_pj, yt_pa, la_pi, la_pj, la_pa]; assumption)) only [b_X6_settle_0, b_X6_settle_25, b_X6_settle_4, b_X6_settle_10, b_X6_settle_14, b_X6_settle_20, b_X6_settle_27, b_X6_settle_69, b_X6_settle_50, b_X6_settle_75, b_X6_settle_58, b_X6_settle_93, b_X6_settle_63, b_X6_settle_61, b_X6_settle_142, b_X6_settle_101, b_X6_settle_152, b_X6_settle_108, b_X6_settle_159, b_X6_settle_155, b_X6_settle_132, b_X6_settle_180, b_X6_settle_175, b_X6_settle_137, i_lit, i_m1, i_31, il_t, il_f, iq_t, iq_f, it_t, it_f, im_e, im_l, im_g, im_g2, nI_add, pk_mul, i_sub, i_div, sdm, i_dec, i_cl, iv_t, bI_or2, bI_t0, bI_one, not_true_eq_false, not_false_eq_true, ↓reduceIte, am_tl, am_tn, am_t0, am_n0, and_true, true_and, List.cons_append, List.nil_append, List.append_nil, eq1, c_hasOrder_n F1 hr (show ps.getD i 0 < 11 by omega) z]
      rw [od1_any hi z] at k
      exact k h' fr1 ⟨s1, s2, ro_nil⟩
    · simp (disch := first | assumption | omega | (simp only [ya_pi, ya_pj, ya_pa, ya_pr, yo_pi, yo_pj, yo_pa, yf_pi, yf_pj, yf_pa, yh_pi, yh_pj, yh_pa, yt_pi, yt_pj, yt_pa, la_pi, la_pj, la_pa]; assumption)) only [b_X6_settle_0, b_X6_settle_25, b_X6_settle_4, b_X6_settle_10, b_X6_settle_14, b_X6_settle_20, b_X6_settle_27, b_X6_settle_69, b_X6_settle_50, b_X6_settle_75, b_X6_settle_58, b_X6_settle_93, b_X6_settle_63, b_X6_settle_61, b_X6_settle_142, b_X6_settle_101, b_X6_settle_152, b_X6_settle_108, b_X6_settle_159, b_X6_settle_155, b_X6_settle_132, b_X6_settle_180, b_X6_settle_175, b_X6_settle_137, i_lit, i_m1, i_31, il_t, il_f, iq_t, iq_f, it_t, it_f, im_e, im_l, im_g, im_g2, nI_add, pk_mul, i_sub, i_div, sdm, i_dec, i_cl, iv_t, bI_or2, bI_t0, bI_one, not_true_eq_false, not_false_eq_true, ↓reduceIte, am_tl, am_tn, am_t0, am_n0, and_true, true_and, List.cons_append, List.nil_append, List.append_nil, eq1, c_hasOrder_y F1 hr (show ps.getD i 0 < 11 by omega) z (by omega)]
      refine nx () h' ⟨rfl, fun j hj => ?_⟩
      by_cases q : j = i
      · rw [q]
        exact z
      · exact e j (by omega)
  · rintro - h' ⟨rfl, e⟩
    rw [od1_mf e] at k
    have inv0 : mf_inv ps.length (od_R T ps) [] := od_inv ok hps nd (fun p hp => by have := hps p hp; omega)
    rw [b_X6_settle_44]
    simp (disch := first | assumption | omega | (simp only [ya_pi, ya_pj, ya_pa, ya_pr, yo_pi, yo_pj, yo_pa, yf_pi, yf_pj, yf_pa, yh_pi, yh_pj, yh_pa, yt_pi, yt_pj, yt_pa, la_pi, la_pj, la_pa]; assumption)) only [b_X6_settle_0, b_X6_settle_25, b_X6_settle_4, b_X6_settle_10, b_X6_settle_14, b_X6_settle_20, b_X6_settle_27, b_X6_settle_69, b_X6_settle_50, b_X6_settle_75, b_X6_settle_58, b_X6_settle_93, b_X6_settle_63, b_X6_settle_61, b_X6_settle_142, b_X6_settle_101, b_X6_settle_152, b_X6_settle_108, b_X6_settle_159, b_X6_settle_155, b_X6_settle_132, b_X6_settle_180, b_X6_settle_175, b_X6_settle_137, i_lit, i_m1, i_31, il_t, il_f, iq_t, iq_f, it_t, it_f, im_e, im_l, im_g, im_g2, nI_add, pk_mul, i_sub, i_div, sdm, i_dec, i_cl, iv_t, bI_or2, bI_t0, bI_one, not_true_eq_false, not_false_eq_true, ↓reduceIte, am_tl, am_tn, am_t0, am_n0, and_true, true_and, List.cons_append, List.nil_append, List.append_nil]
    refine c_layRows F1 h4 A1 rq1 (by omega) (fun p hp => ⟨by have := hps p hp; omega, rows1 p hp, (ok p (hps p hp)).2.2.2.2, (ok p (hps p hp)).2.2.2.1⟩) (fun h2 fr2 ms => ?_)
    generalize od_R T ps = R0 at inv0 ms k
    have fr2' : am_fr h h2 (or_P o c) := fr1.tr (fr2.le (fun a k z => by unfold or_M at z; unfold or_P; omega))
    have F2 : y_Orders h2 o := fr2.orders F1
    have F3 : y_Orders (p_i h2 (o + 3) (c * 11) (nI c)) o := F2
    have ms3 : ∀ r, r ≤ ps.length → mr (p_i h2 (o + 3) (c * 11) (nI c)) o r (R0 r) := fun r hr => mr.fr (P := fun a _ => a = o + 3) (am_fr_pi rfl) (ms r hr) (fun k _ z => by omega) (fun a _ _ z => by omega)
    simp (disch := first | assumption | omega | (simp only [ya_pi, ya_pj, ya_pa, ya_pr, yo_pi, yo_pj, yo_pa, yf_pi, yf_pj, yf_pa, yh_pi, yh_pj, yh_pa, yt_pi, yt_pj, yt_pa, la_pi, la_pj, la_pa]; assumption)) only [b_X6_settle_0, b_X6_settle_25, b_X6_settle_4, b_X6_settle_10, b_X6_settle_14, b_X6_settle_20, b_X6_settle_27, b_X6_settle_69, b_X6_settle_50, b_X6_settle_75, b_X6_settle_58, b_X6_settle_93, b_X6_settle_63, b_X6_settle_61, b_X6_settle_142, b_X6_settle_101, b_X6_settle_152, b_X6_settle_108, b_X6_settle_159, b_X6_settle_155, b_X6_settle_132, b_X6_settle_180, b_X6_settle_175, b_X6_settle_137, i_lit, i_m1, i_31, il_t, il_f, iq_t, iq_f, it_t, it_f, im_e, im_l, im_g, im_g2, nI_add, pk_mul, i_sub, i_div, sdm, i_dec, i_cl, iv_t, bI_or2, bI_t0, bI_one, not_true_eq_false, not_false_eq_true, ↓reduceIte, am_tl, am_tn, am_t0, am_n0, and_true, true_and, List.cons_append, List.nil_append, List.append_nil, c_firstFree F3 h4 ms3 (fun k hk x hx => ((inv0.1 k hk).2 x hx).1)]
    refine lp_wf (fun (s : List Nat × (Nat → List Nat)) => mf_len s.2 ps.length) (fun s => [some (v_r (some o)), some (v_i (nI c)), some (v_r (some q)), some (v_i (nI ps.length)), some (v_i (nI (s.1.length + 1))), some (v_i (oI (mf_pick ps.length s.2 0)))]) (fun s h' => am_fr h h' (or_P o c) ∧ (∀ k, k ≤ ps.length → mr h' o k (s.2 k)) ∧ mf_inv ps.length s.2 s.1 ∧ ro h' (o + 3) (11 * c) (c :: s.1) ∧ mf ps.length R0 = (mf ps.length s.2).map (fun l => s.1 ++ l)) ?_ (s := ([], R0)) ⟨fr2'.pi (by unfold or_P; omega), ms3, inv0, ?_, ?_⟩
    · rintro ⟨acc, R⟩ h4' ⟨fr4, ms4, inv4, ro4, eq4⟩ nx
      dsimp only at ms4 inv4 ro4 eq4 nx ⊢
      have F4 : y_Orders h4' o := fr4.orders F0
      have A41 : y_arr h4' (o + 1) 20 11 := F4.1 1 rfl
      have A42 : y_arr h4' (o + 2) 20 11 := F4.1 2 rfl
      have hx4 := fun k hk x hx => ((inv4.1 k hk).2 x hx).1
      have acl := nd_len inv4.2.1 inv4.2.2
      rw [b_X6_settle_95]
      cases hp : mf_pick ps.length R 0 with
      | none =>
        rw [mf_none hp] at eq4
        by_cases he : mf_emp ps.length R = true
        · rw [if_pos he, Option.map_some, List.append_nil] at eq4
          rw [eq4] at k
          simp (disch := first | assumption | omega | (simp only [ya_pi, ya_pj, ya_pa, ya_pr, yo_pi, yo_pj, yo_pa, yf_pi, yf_pj, yf_pa, yh_pi, yh_pj, yh_pa, yt_pi, yt_pj, yt_pa, la_pi, la_pj, la_pa]; assumption)) only [b_X6_settle_0, b_X6_settle_25, b_X6_settle_4, b_X6_settle_10, b_X6_settle_14, b_X6_settle_20, b_X6_settle_27, b_X6_settle_69, b_X6_settle_50, b_X6_settle_75, b_X6_settle_58, b_X6_settle_93, b_X6_settle_63, b_X6_settle_61, b_X6_settle_142, b_X6_settle_101, b_X6_settle_152, b_X6_settle_108, b_X6_settle_159, b_X6_settle_155, b_X6_settle_132, b_X6_settle_180, b_X6_settle_175, b_X6_settle_137, i_lit, i_m1, i_31, il_t, il_f, iq_t, iq_f, it_t, it_f, im_e, im_l, im_g, im_g2, nI_add, pk_mul, i_sub, i_div, sdm, i_dec, i_cl, iv_t, bI_or2, bI_t0, bI_one, not_true_eq_false, not_false_eq_true, ↓reduceIte, am_tl, am_tn, am_t0, am_n0, and_true, true_and, List.cons_append, List.nil_append, List.append_nil, hi_s, hi_o, hi_k, hr_pi, hj_pi, hn_pi, hi_pas, hi_pao, hr_pa, hj_pa, oI, c_isAllTaken F4 h4 ms4 hx4, he]
          refine k _ ((fr4.pi (by unfold or_P; omega)).pi (by unfold or_P; omega)) ⟨by simp (disch := first | assumption | omega | (simp only [ya_pi, ya_pj, ya_pa, ya_pr, yo_pi, yo_pj, yo_pa, yf_pi, yf_pj, yf_pa, yh_pi, yh_pj, yh_pa, yt_pi, yt_pj, yt_pa, la_pi, la_pj, la_pa]; assumption)) only [hi_s, hi_o, hi_k, hr_pi, hj_pi, hn_pi, hi_pas, hi_pao, hr_pa, hj_pa], by simp (disch := first | assumption | omega | (simp only [ya_pi, ya_pj, ya_pa, ya_pr, yo_pi, yo_pj, yo_pa, yf_pi, yf_pj, yf_pa, yh_pi, yh_pj, yh_pa, yt_pi, yt_pj, yt_pa, la_pi, la_pj, la_pa]; assumption)) only [hi_s, hi_o, hi_k, hr_pi, hj_pi, hn_pi, hi_pas, hi_pao, hr_pa, hj_pa]; rfl, fun j hj => ?_⟩
          rw [hi_o (by omega), hi_o (by omega)]
          exact ro4 j hj
        · rw [if_neg he, Option.map_none] at eq4
          rw [eq4] at k
          simp (disch := first | assumption | omega | (simp only [ya_pi, ya_pj, ya_pa, ya_pr, yo_pi, yo_pj, yo_pa, yf_pi, yf_pj, yf_pa, yh_pi, yh_pj, yh_pa, yt_pi, yt_pj, yt_pa, la_pi, la_pj, la_pa]; assumption)) only [b_X6_settle_0, b_X6_settle_25, b_X6_settle_4, b_X6_settle_10, b_X6_settle_14, b_X6_settle_20, b_X6_settle_27, b_X6_settle_69, b_X6_settle_50, b_X6_settle_75, b_X6_settle_58, b_X6_settle_93, b_X6_settle_63, b_X6_settle_61, b_X6_settle_142, b_X6_settle_101, b_X6_settle_152, b_X6_settle_108, b_X6_settle_159, b_X6_settle_155, b_X6_settle_132, b_X6_settle_180, b_X6_settle_175, b_X6_settle_137, i_lit, i_m1, i_31, il_t, il_f, iq_t, iq_f, it_t, it_f, im_e, im_l, im_g, im_g2, nI_add, pk_mul, i_sub, i_div, sdm, i_dec, i_cl, iv_t, bI_or2, bI_t0, bI_one, not_true_eq_false, not_false_eq_true, ↓reduceIte, am_tl, am_tn, am_t0, am_n0, and_true, true_and, List.cons_append, List.nil_append, List.append_nil, hi_s, hi_o, hi_k, hr_pi, hj_pi, hn_pi, hi_pas, hi_pao, hr_pa, hj_pa, oI, c_isAllTaken F4 h4 ms4 hx4, he]
          exact k _ ((fr4.pi (by unfold or_P; omega)).pi (by unfold or_P; omega)) ⟨by simp (disch := first | assumption | omega | (simp only [ya_pi, ya_pj, ya_pa, ya_pr, yo_pi, yo_pj, yo_pa, yf_pi, yf_pj, yf_pa, yh_pi, yh_pj, yh_pa, yt_pi, yt_pj, yt_pa, la_pi, la_pj, la_pa]; assumption)) only [hi_s, hi_o, hi_k, hr_pi, hj_pi, hn_pi, hi_pas, hi_pao, hr_pa, hj_pa], by simp (disch := first | assumption | omega | (simp only [ya_pi, ya_pj, ya_pa, ya_pr, yo_pi, yo_pj, yo_pa, yf_pi, yf_pj, yf_pa, yh_pi, yh_pj, yh_pa, yt_pi, yt_pj, yt_pa, la_pi, la_pj, la_pa]; assumption)) only [hi_s, hi_o, hi_k, hr_pi, hj_pi, hn_pi, hi_pas, hi_pao, hr_pa, hj_pa]; rfl, ro_nil⟩
      | some x =>
        have st := mf_step inv4 hp
        obtain ⟨hf, j, hj, hh⟩ := mf_pick_mem (ps.length + 1) 0 (by omega) hp
        have hlt := mf_len_lt hh ps.length hj
        rw [mf_some hp] at eq4
        have x10 := st.2.1
        have ms5 : ∀ r, r ≤ ps.length → mr (p_i h4' (o + 3) (c * 11 + (acc.length + 1)) (nI x)) o r (R r) := fun r hr => mr.fr (P := fun a _ => a = o + 3) (am_fr_pi rfl) (ms4 r hr) (fun k _ z => by omega) (fun a _ _ z => by omega)
        simp (disch := first | assumption | omega | (simp only [ya_pi, ya_pj, ya_pa, ya_pr, yo_pi, yo_pj, yo_pa, yf_pi, yf_pj, yf_pa, yh_pi, yh_pj, yh_pa, yt_pi, yt_pj, yt_pa, la_pi, la_pj, la_pa]; assumption)) only [b_X6_settle_0, b_X6_settle_25, b_X6_settle_4, b_X6_settle_10, b_X6_settle_14, b_X6_settle_20, b_X6_settle_27, b_X6_settle_69, b_X6_settle_50, b_X6_settle_75, b_X6_settle_58, b_X6_settle_93, b_X6_settle_63, b_X6_settle_61, b_X6_settle_142, b_X6_settle_101, b_X6_settle_152, b_X6_settle_108, b_X6_settle_159, b_X6_settle_155, b_X6_settle_132, b_X6_settle_180, b_X6_settle_175, b_X6_settle_137, i_lit, i_m1, i_31, il_t, il_f, iq_t, iq_f, it_t, it_f, im_e, im_l, im_g, im_g2, nI_add, pk_mul, i_sub, i_div, sdm, i_dec, i_cl, iv_t, bI_or2, bI_t0, bI_one, not_true_eq_false, not_false_eq_true, ↓reduceIte, am_tl, am_tn, am_t0, am_n0, and_true, true_and, List.cons_append, List.nil_append, List.append_nil, hi_s, hi_o, hi_k, hr_pi, hj_pi, hn_pi, hi_pas, hi_pao, hr_pa, hj_pa, oI]
        have F5 : y_Orders (p_i h4' (o + 3) (c * 11 + (acc.length + 1)) (nI x)) o := F4
        refine c_takeFromAll (R := R) F5 h4 ms5 hx4 (fun k hk => (inv4.1 k hk).1) x10 (fun h6 fr6 ms6 => ?_)
        have fr6' : am_fr h h6 (or_P o c) := (fr4.pi (by unfold or_P; omega)).tr (fr6.le (fun a k z => by unfold or_M at z; unfold or_P; omega))
        have F6 : y_Orders h6 o := fr6'.orders F0
        simp (disch := first | assumption | omega | (simp only [ya_pi, ya_pj, ya_pa, ya_pr, yo_pi, yo_pj, yo_pa, yf_pi, yf_pj, yf_pa, yh_pi, yh_pj, yh_pa, yt_pi, yt_pj, yt_pa, la_pi, la_pj, la_pa]; assumption)) only [b_X6_settle_0, b_X6_settle_25, b_X6_settle_4, b_X6_settle_10, b_X6_settle_14, b_X6_settle_20, b_X6_settle_27, b_X6_settle_69, b_X6_settle_50, b_X6_settle_75, b_X6_settle_58, b_X6_settle_93, b_X6_settle_63, b_X6_settle_61, b_X6_settle_142, b_X6_settle_101, b_X6_settle_152, b_X6_settle_108, b_X6_settle_159, b_X6_settle_155, b_X6_settle_132, b_X6_settle_180, b_X6_settle_175, b_X6_settle_137, i_lit, i_m1, i_31, il_t, il_f, iq_t, iq_f, it_t, it_f, im_e, im_l, im_g, im_g2, nI_add, pk_mul, i_sub, i_div, sdm, i_dec, i_cl, iv_t, bI_or2, bI_t0, bI_one, not_true_eq_false, not_false_eq_true, ↓reduceIte, am_tl, am_tn, am_t0, am_n0, and_true, true_and, List.cons_append, List.nil_append, List.append_nil, c_firstFree F6 h4 ms6 (fun k hk x hx => ((st.1.1 k hk).2 x hx).1)]
        have nxt := nx (acc ++ [x], mf_drop x R) h6 hlt ⟨fr6', ms6, st.1, ?_, ?_⟩
        · dsimp only at nxt
          rw [List.length_append, List.length_singleton] at nxt
          exact nxt
        · have := ro_app (q := x) ro4
          rw [List.length_cons, show 11 * c + (acc.length + 1) = c * 11 + (acc.length + 1) from by omega] at this
          exact fr6.ro this (fun k _ z => by unfold or_M at z; omega)
        · dsimp only
          rw [eq4, Option.map_map]
          congr 1
          funext l
          simp
    · intro j hj
      dsimp only at hj
      simp at hj
      subst hj
      rw [show 11 * c + 0 = c * 11 from by omega, hi_s]
      rfl
    · dsimp only
      cases mf ps.length R0 with
      | none => rfl
      | some l => rfl
