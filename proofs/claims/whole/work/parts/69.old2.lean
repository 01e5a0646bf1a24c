/-! ===== old orders: the class ===== -/
def ol (h : am_H) (c : Nat) (l : List Nat) : Prop := h_i h 48 c = nI l.length ∧ ro h 49 (10 * c) l
def oP (c a k : Nat) : Prop := (a = 48 ∧ k = c) ∨ (a = 49 ∧ 10 * c ≤ k ∧ k < 10 * c + 10)
def oF (a k : Nat) : Prop := 48 ≤ a ∧ a ≤ 50
theorem ol.fr {h h' : am_H} {P : Nat → Nat → Prop} {c : Nat} {l : List Nat} (m : ol h c l) (hl : l.length ≤ 10) (fr : am_fr h h' P) (h1 : ¬ P 48 c) (h2 : ∀ k, k < 10 → ¬ P 49 (10 * c + k)) : ol h' c l := ⟨by rw [fr.i h1, m.1], fr.ro m.2 (fun k hk => h2 k (by omega))⟩
theorem c_oSize {d : Nat} {Q : Option am_V → am_H → Prop} {h : am_H} {c : Nat} {l : List Nat} (L0 : Lay h) (m : ol h c l) (hc : c < 10) : ex_ d 64 0 [some (v_r (some 47)), some (v_i (nI c))] [] h Q ↔ Q (some (v_i (nI l.length))) h := by
  have e := m.1
  simp (disch := first | assumption | omega | (simp only [ya_pi, ya_pj, ya_pa, ya_pr, yo_pi, yo_pj, yo_pa, yf_pi, yf_pj, yf_pa, yh_pi, yh_pj, yh_pa, yt_pi, yt_pj, yt_pa, la_pi, la_pj, la_pa]; assumption)) only [b_X5_sizeOf_0, b_X5_sizeOf_19, b_X5_sizeOf_4, b_X5_sizeOf_10, i_lit, i_m1, i_31, il_t, il_f, iq_t, iq_f, it_t, it_f, im_e, im_l, im_g, im_g2, nI_add, pk_mul, i_sub, i_div, sdm, i_dec, i_cl, iv_t, bI_or2, bI_t0, bI_one, not_true_eq_false, not_false_eq_true, ↓reduceIte, am_tl, am_tn, am_t0, am_n0, and_true, true_and, List.cons_append, List.nil_append, List.append_nil, or_true, true_or, or_false, false_or, eq_self, ior0, iand0, im_e2, oI, e]
theorem c_oAt {d : Nat} {Q : Option am_V → am_H → Prop} {h : am_H} {c i : Nat} {l : List Nat} (L0 : Lay h) (m : ol h c l) (hc : c < 10) (hl : l.length ≤ 10) (hi : i < l.length) : ex_ (d + 1) 65 0 [some (v_r (some 47)), some (v_i (nI c)), some (v_i (nI i))] [] h Q ↔ Q (some (v_i (nI (l.getD i 0)))) h := by
  have e := m.2 i hi
  rw [show 10 * c + i = c * 10 + i from by omega] at e
  simp (disch := first | assumption | omega | (simp only [ya_pi, ya_pj, ya_pa, ya_pr, yo_pi, yo_pj, yo_pa, yf_pi, yf_pj, yf_pa, yh_pi, yh_pj, yh_pa, yt_pi, yt_pj, yt_pa, la_pi, la_pj, la_pa]; assumption)) only [b_X5_at_0, b_X5_at_33, b_X5_at_4, b_X5_at_10, b_X5_at_13, b_X5_at_19, i_lit, i_m1, i_31, il_t, il_f, iq_t, iq_f, it_t, it_f, im_e, im_l, im_g, im_g2, nI_add, pk_mul, i_sub, i_div, sdm, i_dec, i_cl, iv_t, bI_or2, bI_t0, bI_one, not_true_eq_false, not_false_eq_true, ↓reduceIte, am_tl, am_tn, am_t0, am_n0, and_true, true_and, List.cons_append, List.nil_append, List.append_nil, or_true, true_or, or_false, false_or, eq_self, ior0, iand0, im_e2, oI, c_oSize L0 m hc, e]
theorem c_oAtN {d : Nat} {Q : Option am_V → am_H → Prop} {h : am_H} {c i : Nat} {l : List Nat} (L0 : Lay h) (m : ol h c l) (hc : c < 10) (hi : l.length ≤ i) (hi2 : i < 2147483648) : ex_ (d + 1) 65 0 [some (v_r (some 47)), some (v_i (nI c)), some (v_i (nI i))] [] h Q ↔ Q (some (v_i mI)) h := by
  simp (disch := first | assumption | omega | (simp only [ya_pi, ya_pj, ya_pa, ya_pr, yo_pi, yo_pj, yo_pa, yf_pi, yf_pj, yf_pa, yh_pi, yh_pj, yh_pa, yt_pi, yt_pj, yt_pa, la_pi, la_pj, la_pa]; assumption)) only [b_X5_at_0, b_X5_at_33, b_X5_at_4, b_X5_at_10, b_X5_at_13, b_X5_at_19, i_lit, i_m1, i_31, il_t, il_f, iq_t, iq_f, it_t, it_f, im_e, im_l, im_g, im_g2, nI_add, pk_mul, i_sub, i_div, sdm, i_dec, i_cl, iv_t, bI_or2, bI_t0, bI_one, not_true_eq_false, not_false_eq_true, ↓reduceIte, am_tl, am_tn, am_t0, am_n0, and_true, true_and, List.cons_append, List.nil_append, List.append_nil, or_true, true_or, or_false, false_or, eq_self, ior0, iand0, im_e2, oI, c_oSize L0 m hc]
theorem c_oAppend {d : Nat} {Q : Option am_V → am_H → Prop} {h : am_H} {c x : Nat} {l : List Nat} (L0 : Lay h) (m : ol h c l) (hc : c < 10) (hl : l.length < 10) (k : ∀ h', am_fr h h' (oP c) → ol h' c (l ++ [x]) → Q none h') : ex_ d 66 0 [some (v_r (some 47)), some (v_i (nI c)), some (v_i (nI x))] [] h Q := by
  have e := m.1
  simp (disch := first | assumption | omega | (simp only [ya_pi, ya_pj, ya_pa, ya_pr, yo_pi, yo_pj, yo_pa, yf_pi, yf_pj, yf_pa, yh_pi, yh_pj, yh_pa, yt_pi, yt_pj, yt_pa, la_pi, la_pj, la_pa]; assumption)) only [b_X5_append_0, b_X5_append_48, b_X5_append_4, b_X5_append_10, b_X5_append_21, i_lit, i_m1, i_31, il_t, il_f, iq_t, iq_f, it_t, it_f, im_e, im_l, im_g, im_g2, nI_add, pk_mul, i_sub, i_div, sdm, i_dec, i_cl, iv_t, bI_or2, bI_t0, bI_one, not_true_eq_false, not_false_eq_true, ↓reduceIte, am_tl, am_tn, am_t0, am_n0, and_true, true_and, List.cons_append, List.nil_append, List.append_nil, or_true, true_or, or_false, false_or, eq_self, ior0, iand0, im_e2, oI, hi_s, hi_o, hi_k, hr_pi, hj_pi, hn_pi, hi_pas, hi_pao, hr_pa, hj_pa, e]
  refine k _ ((am_fr_pi (by unfold oP; omega)).pi (by unfold oP; omega)) ⟨by rw [hi_s, List.length_append]; rfl, fun j hj => ?_⟩
  have := ro_app (q := x) m.2
  rw [show 10 * c + l.length = c * 10 + l.length from by omega] at this
  rw [hi_o (by omega)]
  exact this j hj
theorem bmem_s {A : List Nat} {x : Nat} : nI (bs (fun k => decide (k ∈ A) || decide (k = x))) = nI (bs (fun k => decide (k ∈ A ++ [x]))) := by
  refine congrArg nI (bs_ext (fun k _ => ?_))
  rw [← Bool.decide_or]
  exact decide_eq_decide.2 (by rw [List.mem_append, List.mem_singleton])
theorem bmem_0 : nI (bs (fun k => decide (k ∈ ([] : List Nat)))) = nI 0 := by
  rw [← bs_0]
  exact congrArg nI (bs_ext (fun k _ => by simp))
theorem c_byDepth {d : Nat} {Q : Option am_V → am_H → Prop} {h : am_H} {f : fa_S} {c : Nat} {S : Nat → List Nat} (L0 : Lay h) (ok : fa_ok f) (F : fa_at h 11 f) (hc : c < f_n f) (hS : ∀ q, q < c → ol h q (S q) ∧ (S q).length ≤ 10 ∧ ∀ x ∈ S q, x < c) (m : ol h c [c]) {l3 l4 l5 l6 l7 : Option am_V} (k : ∀ h', am_fr h h' (oP c) → ol h' c (c :: fad [] ((f_p f c).flatMap S)) → Q none h') : ex_ (d + 2) 67 0 [some (v_r (some 47)), some (v_r (some 11)), some (v_i (nI c)), l3, l4, l5, l6, l7] [] h Q := by
  have hn := ok.1
  have h4 := (ok.2 c).1
  have c10 : c < 10 := by omega
  have hps : ∀ i, i < (f_p f c).length → (f_p f c).getD i 0 < c := fun i hi => (ok.2 c).2.1 _ (gd_mem hi)
  have fit : ∀ {A : List Nat} {x : Nat}, A.Nodup → (∀ y ∈ A, y < c) → x < c → ¬ x ∈ A → (c :: A).length < 10 := fun {A x} nd hA hx hxA => by
    have := nd_len (ad_nd (x := x) nd) (n := c) (fun y hy => by
      rcases ad_mem.1 hy with z | z
      · exact hA y z
      · omega)
    rw [ad_n hxA, List.length_append, List.length_singleton] at this
    rw [List.length_cons]
    omega
  have st := lp_up (d := d + 2) (k := 67) (pc := 5) (Q := Q) (f_p f c).length (fun i (s : List Nat × Option am_V × Option am_V × Option am_V) => [some (v_r (some 47)), some (v_r (some 11)), some (v_i (nI c)), some (v_i (nI (bs (fun k => decide (k ∈ s.1))))), some (v_i (nI i)), s.2.1, s.2.2.1, s.2.2.2]) (fun i s h' => am_fr h h' (oP c) ∧ ol h' c (c :: s.1) ∧ s.1 = fad [] (((f_p f c).take i).flatMap S)) ?_ ?_ (Nat.zero_le _) (s := ([], l5, l6, l7)) (h := h) ⟨am_fr.rf, m, rfl⟩
  · dsimp only at st
    rw [bmem_0] at st
    rw [b_X5_appendByDepth_0 _ _ _ _ _ _ _ _ _]
    exact st
  · rintro i ⟨A, l5, l6, l7⟩ h' hi ⟨fr, m1, eA⟩ nx
    dsimp only at m1 eA ⊢
    have L1 : Lay h' := fr.lay L0
    have F1 : fa_at h' 11 f := fr.fa F (fun q k _ _ => by unfold oP; omega)
    have F10 := F1.1
    have pc := hps i hi
    obtain ⟨mp, lp, xp⟩ := hS _ pc
    generalize hp : (f_p f c).getD i 0 = p at pc mp lp xp
    rw [b_X5_appendByDepth_5 _ _ _ _ _ _ _ _ _ F10]
    simp (disch := first | assumption | omega | (simp only [ya_pi, ya_pj, ya_pa, ya_pr, yo_pi, yo_pj, yo_pa, yf_pi, yf_pj, yf_pa, yh_pi, yh_pj, yh_pa, yt_pi, yt_pj, yt_pa, la_pi, la_pj, la_pa]; assumption)) only [b_X5_appendByDepth_0, b_X5_appendByDepth_12, b_X5_appendByDepth_83, b_X5_appendByDepth_15, b_X5_appendByDepth_22, b_X5_appendByDepth_35, b_X5_appendByDepth_77, b_X5_appendByDepth_38, b_X5_appendByDepth_46, b_X5_appendByDepth_71, b_X5_appendByDepth_57, i_lit, i_m1, i_31, il_t, il_f, iq_t, iq_f, it_t, it_f, im_e, im_l, im_g, im_g2, nI_add, pk_mul, i_sub, i_div, sdm, i_dec, i_cl, iv_t, bI_or2, bI_t0, bI_one, not_true_eq_false, not_false_eq_true, ↓reduceIte, am_tl, am_tn, am_t0, am_n0, and_true, true_and, List.cons_append, List.nil_append, List.append_nil, or_true, true_or, or_false, false_or, eq_self, ior0, iand0, im_e2, oI, c_parentCount F1 c10, c_parentAt ok F1 c10 hi, hp]
    refine lp_up (S p).length (fun j (s : List Nat × Option am_V) => [some (v_r (some 47)), some (v_r (some 11)), some (v_i (nI c)), some (v_i (nI (bs (fun k => decide (k ∈ s.1))))), some (v_i (nI i)), some (v_i (nI p)), some (v_i (nI j)), s.2]) (fun j s h2 => am_fr h h2 (oP c) ∧ ol h2 c (c :: s.1) ∧ s.1.Nodup ∧ (∀ y ∈ s.1, y < c) ∧ s.1 = fad A ((S p).take j)) ?_ ?_ (Nat.zero_le _) ⟨fr, m1, ?_, ?_, rfl⟩ (s := (A, l7))
    · rintro j ⟨B, l7⟩ h2 hj ⟨fr2, m2, nd2, lt2, eB⟩ nx2
      dsimp only at m2 nd2 lt2 eB ⊢
      have L2 : Lay h2 := fr2.lay L0
      have mp2 : ol h2 p (S p) := mp.fr lp fr2 (by unfold oP; omega) (fun k _ => by unfold oP; omega)
      have x1 := xp _ (gd_mem hj)
      have x16 : (S p).getD j 0 < 16 := by omega
      have eB2 : fad A ((S p).take (j + 1)) = ad B ((S p).getD j 0) := by rw [tk_s hj, fad_app, fad_one, ← eB]
      rw [b_X5_appendByDepth_27 _ _ _ _ _ _ _ _ L2]
      by_cases z : (S p).getD j 0 ∈ B
      · have zz : decide ((S p).getD j 0 ∈ B) = true := decide_eq_true z
        simp (disch := first | assumption | omega | (simp only [ya_pi, ya_pj, ya_pa, ya_pr, yo_pi, yo_pj, yo_pa, yf_pi, yf_pj, yf_pa, yh_pi, yh_pj, yh_pa, yt_pi, yt_pj, yt_pa, la_pi, la_pj, la_pa]; assumption)) only [b_X5_appendByDepth_0, b_X5_appendByDepth_12, b_X5_appendByDepth_83, b_X5_appendByDepth_15, b_X5_appendByDepth_22, b_X5_appendByDepth_35, b_X5_appendByDepth_77, b_X5_appendByDepth_38, b_X5_appendByDepth_46, b_X5_appendByDepth_71, b_X5_appendByDepth_57, i_lit, i_m1, i_31, il_t, il_f, iq_t, iq_f, it_t, it_f, im_e, im_l, im_g, im_g2, nI_add, pk_mul, i_sub, i_div, sdm, i_dec, i_cl, iv_t, bI_or2, bI_t0, bI_one, not_true_eq_false, not_false_eq_true, ↓reduceIte, am_tl, am_tn, am_t0, am_n0, and_true, true_and, List.cons_append, List.nil_append, List.append_nil, or_true, true_or, or_false, false_or, eq_self, ior0, iand0, im_e2, oI, c_oSize L2 mp2 (show p < 10 by omega), c_oAt L2 mp2 (show p < 10 by omega) lp hj, i_31, zz, Bool.true_eq_false]
        exact nx2 (B, some (v_i (nI ((S p).getD j 0)))) h2 ⟨fr2, m2, nd2, lt2, by rw [eB2, ad_y z]⟩
      · have zz : decide ((S p).getD j 0 ∈ B) = false := decide_eq_false z
        simp (disch := first | assumption | omega | (simp only [ya_pi, ya_pj, ya_pa, ya_pr, yo_pi, yo_pj, yo_pa, yf_pi, yf_pj, yf_pa, yh_pi, yh_pj, yh_pa, yt_pi, yt_pj, yt_pa, la_pi, la_pj, la_pa]; assumption)) only [b_X5_appendByDepth_0, b_X5_appendByDepth_12, b_X5_appendByDepth_83, b_X5_appendByDepth_15, b_X5_appendByDepth_22, b_X5_appendByDepth_35, b_X5_appendByDepth_77, b_X5_appendByDepth_38, b_X5_appendByDepth_46, b_X5_appendByDepth_71, b_X5_appendByDepth_57, i_lit, i_m1, i_31, il_t, il_f, iq_t, iq_f, it_t, it_f, im_e, im_l, im_g, im_g2, nI_add, pk_mul, i_sub, i_div, sdm, i_dec, i_cl, iv_t, bI_or2, bI_t0, bI_one, not_true_eq_false, not_false_eq_true, ↓reduceIte, am_tl, am_tn, am_t0, am_n0, and_true, true_and, List.cons_append, List.nil_append, List.append_nil, or_true, true_or, or_false, false_or, eq_self, ior0, iand0, im_e2, oI, c_oSize L2 mp2 (show p < 10 by omega), c_oAt L2 mp2 (show p < 10 by omega) lp hj, i_31, zz]
        refine c_oAppend L2 m2 c10 (fit nd2 lt2 x1 z) (fun h3 fr3 m3 => ?_)
        simp (disch := first | assumption | omega | (simp only [ya_pi, ya_pj, ya_pa, ya_pr, yo_pi, yo_pj, yo_pa, yf_pi, yf_pj, yf_pa, yh_pi, yh_pj, yh_pa, yt_pi, yt_pj, yt_pa, la_pi, la_pj, la_pa]; assumption)) only [b_X5_appendByDepth_0, b_X5_appendByDepth_12, b_X5_appendByDepth_83, b_X5_appendByDepth_15, b_X5_appendByDepth_22, b_X5_appendByDepth_35, b_X5_appendByDepth_77, b_X5_appendByDepth_38, b_X5_appendByDepth_46, b_X5_appendByDepth_71, b_X5_appendByDepth_57, i_lit, i_m1, i_31, il_t, il_f, iq_t, iq_f, it_t, it_f, im_e, im_l, im_g, im_g2, nI_add, pk_mul, i_sub, i_div, sdm, i_dec, i_cl, iv_t, bI_or2, bI_t0, bI_one, not_true_eq_false, not_false_eq_true, ↓reduceIte, am_tl, am_tn, am_t0, am_n0, and_true, true_and, List.cons_append, List.nil_append, List.append_nil, or_true, true_or, or_false, false_or, eq_self, ior0, iand0, im_e2, oI, bmem_s]
        exact nx2 (B ++ [(S p).getD j 0], _) h3 ⟨fr2.tr fr3, m3, by rw [← ad_n z]; exact ad_nd nd2, fun y hy => by
          rcases List.mem_append.1 hy with w | w
          · exact lt2 y w
          · rw [List.mem_singleton.1 w]; exact x1, by rw [eB2, ad_n z]⟩
    · rintro ⟨B, l7⟩ h2 ⟨fr2, m2, nd2, lt2, eB⟩
      dsimp only at m2 nd2 lt2 eB ⊢
      have L2 : Lay h2 := fr2.lay L0
      have mp2 : ol h2 p (S p) := mp.fr lp fr2 (by unfold oP; omega) (fun k _ => by unfold oP; omega)
      rw [List.take_length] at eB
      rw [b_X5_appendByDepth_27 _ _ _ _ _ _ _ _ L2]
      simp (disch := first | assumption | omega | (simp only [ya_pi, ya_pj, ya_pa, ya_pr, yo_pi, yo_pj, yo_pa, yf_pi, yf_pj, yf_pa, yh_pi, yh_pj, yh_pa, yt_pi, yt_pj, yt_pa, la_pi, la_pj, la_pa]; assumption)) only [b_X5_appendByDepth_0, b_X5_appendByDepth_12, b_X5_appendByDepth_83, b_X5_appendByDepth_15, b_X5_appendByDepth_22, b_X5_appendByDepth_35, b_X5_appendByDepth_77, b_X5_appendByDepth_38, b_X5_appendByDepth_46, b_X5_appendByDepth_71, b_X5_appendByDepth_57, i_lit, i_m1, i_31, il_t, il_f, iq_t, iq_f, it_t, it_f, im_e, im_l, im_g, im_g2, nI_add, pk_mul, i_sub, i_div, sdm, i_dec, i_cl, iv_t, bI_or2, bI_t0, bI_one, not_true_eq_false, not_false_eq_true, ↓reduceIte, am_tl, am_tn, am_t0, am_n0, and_true, true_and, List.cons_append, List.nil_append, List.append_nil, or_true, true_or, or_false, false_or, eq_self, ior0, iand0, im_e2, oI, c_oSize L2 mp2 (show p < 10 by omega)]
      refine nx (B, _, _, _) h2 ⟨fr2, m2, ?_⟩
      dsimp only
      rw [tk_s hi, List.flatMap_append, fad_app, ← eA, hp, eB, List.flatMap_singleton]
    · dsimp only
      rw [eA]
      exact fad_nd List.nodup_nil
    · dsimp only
      rw [eA]
      intro y hy
      rcases fad_mem.1 hy with z | z
      · cases z
      · obtain ⟨q, hq, hy2⟩ := List.mem_flatMap.1 z
        have hq2 := (ok.2 c).2.1 q (List.mem_of_mem_take hq)
        exact (hS q hq2).2.2 y hy2
  · rintro ⟨A, l5, l6, l7⟩ h' ⟨fr, m1, eA⟩
    dsimp only at m1 eA ⊢
    have F1 : fa_at h' 11 f := fr.fa F (fun q k _ _ => by unfold oP; omega)
    have F10 := F1.1
    rw [List.take_length] at eA
    rw [b_X5_appendByDepth_5 _ _ _ _ _ _ _ _ _ F10]
    simp (disch := first | assumption | omega | (simp only [ya_pi, ya_pj, ya_pa, ya_pr, yo_pi, yo_pj, yo_pa, yf_pi, yf_pj, yf_pa, yh_pi, yh_pj, yh_pa, yt_pi, yt_pj, yt_pa, la_pi, la_pj, la_pa]; assumption)) only [b_X5_appendByDepth_0, b_X5_appendByDepth_12, b_X5_appendByDepth_83, b_X5_appendByDepth_15, b_X5_appendByDepth_22, b_X5_appendByDepth_35, b_X5_appendByDepth_77, b_X5_appendByDepth_38, b_X5_appendByDepth_46, b_X5_appendByDepth_71, b_X5_appendByDepth_57, i_lit, i_m1, i_31, il_t, il_f, iq_t, iq_f, it_t, it_f, im_e, im_l, im_g, im_g2, nI_add, pk_mul, i_sub, i_div, sdm, i_dec, i_cl, iv_t, bI_or2, bI_t0, bI_one, not_true_eq_false, not_false_eq_true, ↓reduceIte, am_tl, am_tn, am_t0, am_n0, and_true, true_and, List.cons_append, List.nil_append, List.append_nil, or_true, true_or, or_false, false_or, eq_self, ior0, iand0, im_e2, oI, c_parentCount F1 c10]
    exact k h' fr (eA ▸ m1)
theorem gd_rev {l : List Nat} {i : Nat} (h : i < l.length) : l.reverse.getD i 0 = l.getD (l.length - 1 - i) 0 := by
  rw [List.getD_eq_getElem?_getD, List.getD_eq_getElem?_getD, List.getElem?_reverse h]
def oL (c a k : Nat) : Prop := oP c a k ∨ a = 50
theorem c_lastOnes {d : Nat} {Q : Option am_V → am_H → Prop} {h : am_H} {f : fa_S} {c : Nat} {S : Nat → List Nat} (L0 : Lay h) (ok : fa_ok f) (F : fa_at h 11 f) (hc : c < f_n f) (hS : ∀ q, q < c → ol h q (S q) ∧ (S q).length ≤ 10 ∧ ∀ x ∈ S q, x < c) (m : ol h c [c]) {l3 l4 l5 l6 l7 l8 : Option am_V} (k : ∀ h', am_fr h h' (oL c) → ol h' c (c :: (fad [] ((f_p f c).flatMap S).reverse).reverse) → Q none h') : ex_ (d + 2) 68 0 [some (v_r (some 47)), some (v_r (some 11)), some (v_i (nI c)), l3, l4, l5, l6, l7, l8] [] h Q := by
  have hn := ok.1
  have h4 := (ok.2 c).1
  have c10 : c < 10 := by omega
  have F0 := F.1
  have fit : ∀ {A : List Nat} {x : Nat}, A.Nodup → (∀ y ∈ A, y < c) → x < c → ¬ x ∈ A → A.length + 1 < 10 := fun {A x} nd hA hx hxA => by
    have := nd_len (ad_nd (x := x) nd) (n := c) (fun y hy => by
      rcases ad_mem.1 hy with z | z
      · exact hA y z
      · omega)
    rw [ad_n hxA, List.length_append, List.length_singleton] at this
    omega
  have rl : (f_p f c).reverse.length = (f_p f c).length := List.length_reverse
  rw [List.reverse_flatMap] at k
  have st := lp_up (d := d + 2) (k := 68) (pc := 14) (Q := Q) (f_p f c).length (fun i (s : List Nat × Option am_V × Option am_V × Option am_V) => [some (v_r (some 47)), some (v_r (some 11)), some (v_i (nI c)), some (v_i (nI (bs (fun k => decide (k ∈ s.1))))), some (v_i (nI s.1.length)), some (v_i (lfL (f_p f c).length i)), s.2.1, s.2.2.1, s.2.2.2]) (fun i s h' => am_fr h h' (fun a _ => a = 50) ∧ ro h' 50 0 s.1 ∧ s.1 = fad [] (((f_p f c).reverse.take i).flatMap (List.reverse ∘ S))) ?_ ?_ (Nat.zero_le _) (s := ([], l6, l7, l8)) (h := h) ⟨am_fr.rf, ro_nil, rfl⟩
  · dsimp only at st
    rw [bmem_0] at st
    simp (disch := first | assumption | omega | (simp only [ya_pi, ya_pj, ya_pa, ya_pr, yo_pi, yo_pj, yo_pa, yf_pi, yf_pj, yf_pa, yh_pi, yh_pj, yh_pa, yt_pi, yt_pj, yt_pa, la_pi, la_pj, la_pa]; assumption)) only [b_X5_appendLastOnes_0, b_X5_appendLastOnes_10, b_X5_appendLastOnes_103, b_X5_appendLastOnes_19, b_X5_appendLastOnes_26, b_X5_appendLastOnes_132, b_X5_appendLastOnes_114, b_X5_appendLastOnes_34, b_X5_appendLastOnes_126, b_X5_appendLastOnes_97, b_X5_appendLastOnes_43, b_X5_appendLastOnes_51, b_X5_appendLastOnes_91, b_X5_appendLastOnes_62, b_X5_appendLastOnes_72, i_lit, i_m1, i_31, il_t, il_f, iq_t, iq_f, it_t, it_f, im_e, im_l, im_g, im_g2, nI_add, pk_mul, i_sub, i_div, sdm, i_dec, i_cl, iv_t, bI_or2, bI_t0, bI_one, not_true_eq_false, not_false_eq_true, ↓reduceIte, am_tl, am_tn, am_t0, am_n0, and_true, true_and, List.cons_append, List.nil_append, List.append_nil, or_true, true_or, or_false, false_or, eq_self, ior0, iand0, im_e2, oI, c_parentCount F c10, lfL_0]
    exact st
  · rintro i ⟨A, l6, l7, l8⟩ h' hi ⟨fr, m1, eA⟩ nx
    dsimp only at m1 eA ⊢
    have L1 : Lay h' := fr.lay L0
    have F1 : fa_at h' 11 f := fr.fa F (fun q k _ _ => by omega)
    have F10 := F1.1
    have hi2 : (f_p f c).length - 1 - i < (f_p f c).length := by omega
    have pc : (f_p f c).getD ((f_p f c).length - 1 - i) 0 < c := (ok.2 c).2.1 _ (gd_mem hi2)
    have hrev := gd_rev hi
    obtain ⟨mp, lp, xp⟩ := hS _ pc
    generalize hp : (f_p f c).getD ((f_p f c).length - 1 - i) 0 = p at pc mp lp xp hrev
    have mp1 : ol h' p (S p) := mp.fr lp fr (by omega) (fun k _ => by omega)
    have eS : (f_p f c).reverse.take (i + 1) = (f_p f c).reverse.take i ++ [p] := by rw [tk_s (by omega), hrev]
    rw [b_X5_appendLastOnes_14 _ _ _ _ _ _ _ _ _ _, lfL_y hi]
    simp (disch := first | assumption | omega | (simp only [ya_pi, ya_pj, ya_pa, ya_pr, yo_pi, yo_pj, yo_pa, yf_pi, yf_pj, yf_pa, yh_pi, yh_pj, yh_pa, yt_pi, yt_pj, yt_pa, la_pi, la_pj, la_pa]; assumption)) only [b_X5_appendLastOnes_0, b_X5_appendLastOnes_10, b_X5_appendLastOnes_103, b_X5_appendLastOnes_19, b_X5_appendLastOnes_26, b_X5_appendLastOnes_132, b_X5_appendLastOnes_114, b_X5_appendLastOnes_34, b_X5_appendLastOnes_126, b_X5_appendLastOnes_97, b_X5_appendLastOnes_43, b_X5_appendLastOnes_51, b_X5_appendLastOnes_91, b_X5_appendLastOnes_62, b_X5_appendLastOnes_72, i_lit, i_m1, i_31, il_t, il_f, iq_t, iq_f, it_t, it_f, im_e, im_l, im_g, im_g2, nI_add, pk_mul, i_sub, i_div, sdm, i_dec, i_cl, iv_t, bI_or2, bI_t0, bI_one, not_true_eq_false, not_false_eq_true, ↓reduceIte, am_tl, am_tn, am_t0, am_n0, and_true, true_and, List.cons_append, List.nil_append, List.append_nil, or_true, true_or, or_false, false_or, eq_self, ior0, iand0, im_e2, oI, c_parentAt ok F1 c10 hi2, hp, c_oSize L1 mp1 (show p < 10 by omega), lfL_0, lfL_s hi]
    refine lp_up (S p).length (fun j (s : List Nat × Option am_V) => [some (v_r (some 47)), some (v_r (some 11)), some (v_i (nI c)), some (v_i (nI (bs (fun k => decide (k ∈ s.1))))), some (v_i (nI s.1.length)), some (v_i (nI ((f_p f c).length - 1 - i))), some (v_i (nI p)), some (v_i (lfL (S p).length j)), s.2]) (fun j s h2 => am_fr h h2 (fun a _ => a = 50) ∧ ro h2 50 0 s.1 ∧ s.1.Nodup ∧ (∀ y ∈ s.1, y < c) ∧ s.1 = fad A ((S p).reverse.take j)) ?_ ?_ (Nat.zero_le _) ⟨fr, m1, ?_, ?_, rfl⟩ (s := (A, l8))
    · rintro j ⟨B, l8⟩ h2 hj ⟨fr2, m2, nd2, lt2, eB⟩ nx2
      dsimp only at m2 nd2 lt2 eB ⊢
      have L2 : Lay h2 := fr2.lay L0
      have mp2 : ol h2 p (S p) := mp.fr lp fr2 (by omega) (fun k _ => by omega)
      have hj2 : (S p).length - 1 - j < (S p).length := by omega
      have x1 := xp _ (gd_mem hj2)
      have eB2 : fad A ((S p).reverse.take (j + 1)) = ad B ((S p).getD ((S p).length - 1 - j) 0) := by
        rw [tk_s (by rw [List.length_reverse]; exact hj), fad_app, fad_one, ← eB, gd_rev hj]
      generalize hx : (S p).getD ((S p).length - 1 - j) 0 = x at x1 eB2
      have x16 : x < 16 := by omega
      rw [b_X5_appendLastOnes_38 _ _ _ _ _ _ _ _ _ _, lfL_y hj]
      by_cases z : x ∈ B
      · have zz : decide (x ∈ B) = true := decide_eq_true z
        simp (disch := first | assumption | omega | (simp only [ya_pi, ya_pj, ya_pa, ya_pr, yo_pi, yo_pj, yo_pa, yf_pi, yf_pj, yf_pa, yh_pi, yh_pj, yh_pa, yt_pi, yt_pj, yt_pa, la_pi, la_pj, la_pa]; assumption)) only [b_X5_appendLastOnes_0, b_X5_appendLastOnes_10, b_X5_appendLastOnes_103, b_X5_appendLastOnes_19, b_X5_appendLastOnes_26, b_X5_appendLastOnes_132, b_X5_appendLastOnes_114, b_X5_appendLastOnes_34, b_X5_appendLastOnes_126, b_X5_appendLastOnes_97, b_X5_appendLastOnes_43, b_X5_appendLastOnes_51, b_X5_appendLastOnes_91, b_X5_appendLastOnes_62, b_X5_appendLastOnes_72, i_lit, i_m1, i_31, il_t, il_f, iq_t, iq_f, it_t, it_f, im_e, im_l, im_g, im_g2, nI_add, pk_mul, i_sub, i_div, sdm, i_dec, i_cl, iv_t, bI_or2, bI_t0, bI_one, not_true_eq_false, not_false_eq_true, ↓reduceIte, am_tl, am_tn, am_t0, am_n0, and_true, true_and, List.cons_append, List.nil_append, List.append_nil, or_true, true_or, or_false, false_or, eq_self, ior0, iand0, im_e2, oI, c_oAt L2 mp2 (show p < 10 by omega) lp hj2, hx, i_31, zz, Bool.true_eq_false, lfL_s hj]
        exact nx2 (B, some (v_i (nI x))) h2 ⟨fr2, m2, nd2, lt2, by rw [eB2, ad_y z]⟩
      · have zz : decide (x ∈ B) = false := decide_eq_false z
        have ft := fit nd2 lt2 x1 z
        simp (disch := first | assumption | omega | (simp only [ya_pi, ya_pj, ya_pa, ya_pr, yo_pi, yo_pj, yo_pa, yf_pi, yf_pj, yf_pa, yh_pi, yh_pj, yh_pa, yt_pi, yt_pj, yt_pa, la_pi, la_pj, la_pa]; assumption)) only [b_X5_appendLastOnes_0, b_X5_appendLastOnes_10, b_X5_appendLastOnes_103, b_X5_appendLastOnes_19, b_X5_appendLastOnes_26, b_X5_appendLastOnes_132, b_X5_appendLastOnes_114, b_X5_appendLastOnes_34, b_X5_appendLastOnes_126, b_X5_appendLastOnes_97, b_X5_appendLastOnes_43, b_X5_appendLastOnes_51, b_X5_appendLastOnes_91, b_X5_appendLastOnes_62, b_X5_appendLastOnes_72, i_lit, i_m1, i_31, il_t, il_f, iq_t, iq_f, it_t, it_f, im_e, im_l, im_g, im_g2, nI_add, pk_mul, i_sub, i_div, sdm, i_dec, i_cl, iv_t, bI_or2, bI_t0, bI_one, not_true_eq_false, not_false_eq_true, ↓reduceIte, am_tl, am_tn, am_t0, am_n0, and_true, true_and, List.cons_append, List.nil_append, List.append_nil, or_true, true_or, or_false, false_or, eq_self, ior0, iand0, im_e2, oI, c_oAt L2 mp2 (show p < 10 by omega) lp hj2, hx, i_31, zz, lfL_s hj, bmem_s]
        have nxt := nx2 (B ++ [x], some (v_i (nI x))) (p_i h2 50 B.length (nI x)) ⟨fr2.pi rfl, ?_, by rw [← ad_n z]; exact ad_nd nd2, fun y hy => by
          rcases List.mem_append.1 hy with w | w
          · exact lt2 y w
          · rw [List.mem_singleton.1 w]; exact x1, by rw [eB2, ad_n z]⟩
        · dsimp only at nxt
          rw [List.length_append, List.length_singleton] at nxt
          exact nxt
        · have := ro_app (q := x) m2
          rw [Nat.zero_add] at this
          exact this
    · rintro ⟨B, l8⟩ h2 ⟨fr2, m2, nd2, lt2, eB⟩
      dsimp only at m2 nd2 lt2 eB ⊢
      have er : (S p).reverse.take (S p).length = (S p).reverse := by rw [← List.length_reverse, List.take_length]
      rw [er] at eB
      rw [b_X5_appendLastOnes_38 _ _ _ _ _ _ _ _ _ _, lfL_e]
      simp (disch := first | assumption | omega | (simp only [ya_pi, ya_pj, ya_pa, ya_pr, yo_pi, yo_pj, yo_pa, yf_pi, yf_pj, yf_pa, yh_pi, yh_pj, yh_pa, yt_pi, yt_pj, yt_pa, la_pi, la_pj, la_pa]; assumption)) only [b_X5_appendLastOnes_0, b_X5_appendLastOnes_10, b_X5_appendLastOnes_103, b_X5_appendLastOnes_19, b_X5_appendLastOnes_26, b_X5_appendLastOnes_132, b_X5_appendLastOnes_114, b_X5_appendLastOnes_34, b_X5_appendLastOnes_126, b_X5_appendLastOnes_97, b_X5_appendLastOnes_43, b_X5_appendLastOnes_51, b_X5_appendLastOnes_91, b_X5_appendLastOnes_62, b_X5_appendLastOnes_72, i_lit, i_m1, i_31, il_t, il_f, iq_t, iq_f, it_t, it_f, im_e, im_l, im_g, im_g2, nI_add, pk_mul, i_sub, i_div, sdm, i_dec, i_cl, iv_t, bI_or2, bI_t0, bI_one, not_true_eq_false, not_false_eq_true, ↓reduceIte, am_tl, am_tn, am_t0, am_n0, and_true, true_and, List.cons_append, List.nil_append, List.append_nil, or_true, true_or, or_false, false_or, eq_self, ior0, iand0, im_e2, oI, mI_lt0, lfL_s hi]
      refine nx (B, _, _, _) h2 ⟨fr2, m2, ?_⟩
      dsimp only
      rw [eS, List.flatMap_append, fad_app, ← eA, eB, List.flatMap_singleton]
      rfl
    · dsimp only
      rw [eA]
      exact fad_nd List.nodup_nil
    · dsimp only
      rw [eA]
      intro y hy
      rcases fad_mem.1 hy with z | z
      · cases z
      · obtain ⟨q, hq, hy2⟩ := List.mem_flatMap.1 z
        have hq2 := (ok.2 c).2.1 q (List.mem_reverse.1 (List.mem_of_mem_take hq))
        exact (hS q hq2).2.2 y (List.mem_reverse.1 hy2)
  · rintro ⟨A, l6, l7, l8⟩ h' ⟨fr, m1, eA⟩
    dsimp only at m1 eA ⊢
    have er : (f_p f c).reverse.take (f_p f c).length = (f_p f c).reverse := by rw [← List.length_reverse, List.take_length]
    rw [er] at eA
    rw [← eA] at k
    have ndA : A.Nodup := by rw [eA]; exact fad_nd List.nodup_nil
    have ltA : ∀ y ∈ A, y < c := by
      rw [eA]
      intro y hy
      rcases fad_mem.1 hy with z | z
      · cases z
      · obtain ⟨q, hq, hy2⟩ := List.mem_flatMap.1 z
        have hq2 := (ok.2 c).2.1 q (List.mem_reverse.1 hq)
        exact (hS q hq2).2.2 y (List.mem_reverse.1 hy2)
    have lenA := nd_len ndA ltA
    rw [b_X5_appendLastOnes_14 _ _ _ _ _ _ _ _ _ _, lfL_e]
    simp (disch := first | assumption | omega | (simp only [ya_pi, ya_pj, ya_pa, ya_pr, yo_pi, yo_pj, yo_pa, yf_pi, yf_pj, yf_pa, yh_pi, yh_pj, yh_pa, yt_pi, yt_pj, yt_pa, la_pi, la_pj, la_pa]; assumption)) only [b_X5_appendLastOnes_0, b_X5_appendLastOnes_10, b_X5_appendLastOnes_103, b_X5_appendLastOnes_19, b_X5_appendLastOnes_26, b_X5_appendLastOnes_132, b_X5_appendLastOnes_114, b_X5_appendLastOnes_34, b_X5_appendLastOnes_126, b_X5_appendLastOnes_97, b_X5_appendLastOnes_43, b_X5_appendLastOnes_51, b_X5_appendLastOnes_91, b_X5_appendLastOnes_62, b_X5_appendLastOnes_72, i_lit, i_m1, i_31, il_t, il_f, iq_t, iq_f, it_t, it_f, im_e, im_l, im_g, im_g2, nI_add, pk_mul, i_sub, i_div, sdm, i_dec, i_cl, iv_t, bI_or2, bI_t0, bI_one, not_true_eq_false, not_false_eq_true, ↓reduceIte, am_tl, am_tn, am_t0, am_n0, and_true, true_and, List.cons_append, List.nil_append, List.append_nil, or_true, true_or, or_false, false_or, eq_self, ior0, iand0, im_e2, oI, mI_lt0, lfL_0]
    have m0 : ol h' c [c] := m.fr (show 1 ≤ 10 by omega) fr (by omega) (fun k _ => by omega)
    refine lp_up A.length (fun i (_ : Unit) => [some (v_r (some 47)), some (v_r (some 11)), some (v_i (nI c)), some (v_i (nI (bs (fun k => decide (k ∈ A))))), some (v_i (nI A.length)), some (v_i (lfL A.length i)), l6, l7, l8]) (fun i _ h2 => am_fr h' h2 (oP c) ∧ ol h2 c (c :: A.reverse.take i)) ?_ ?_ (Nat.zero_le _) ⟨am_fr.rf, m0⟩ (s := ())
    · rintro i - h2 hi ⟨fr2, m2⟩ nx
      have L2 : Lay h2 := fr2.lay (fr.lay L0)
      have hi2 : A.length - 1 - i < A.length := by omega
      have e50 := m1 _ hi2
      rw [Nat.zero_add] at e50
      have e50' : h_i h2 50 (A.length - 1 - i) = nI (A.getD (A.length - 1 - i) 0) := by rw [fr2.i (by unfold oP; omega), e50]
      rw [b_X5_appendLastOnes_109 _ _ _ _ _ _ _ _ _ _, lfL_y hi]
      simp (disch := first | assumption | omega | (simp only [ya_pi, ya_pj, ya_pa, ya_pr, yo_pi, yo_pj, yo_pa, yf_pi, yf_pj, yf_pa, yh_pi, yh_pj, yh_pa, yt_pi, yt_pj, yt_pa, la_pi, la_pj, la_pa]; assumption)) only [b_X5_appendLastOnes_0, b_X5_appendLastOnes_10, b_X5_appendLastOnes_103, b_X5_appendLastOnes_19, b_X5_appendLastOnes_26, b_X5_appendLastOnes_132, b_X5_appendLastOnes_114, b_X5_appendLastOnes_34, b_X5_appendLastOnes_126, b_X5_appendLastOnes_97, b_X5_appendLastOnes_43, b_X5_appendLastOnes_51, b_X5_appendLastOnes_91, b_X5_appendLastOnes_62, b_X5_appendLastOnes_72, i_lit, i_m1, i_31, il_t, il_f, iq_t, iq_f, it_t, it_f, im_e, im_l, im_g, im_g2, nI_add, pk_mul, i_sub, i_div, sdm, i_dec, i_cl, iv_t, bI_or2, bI_t0, bI_one, not_true_eq_false, not_false_eq_true, ↓reduceIte, am_tl, am_tn, am_t0, am_n0, and_true, true_and, List.cons_append, List.nil_append, List.append_nil, or_true, true_or, or_false, false_or, eq_self, ior0, iand0, im_e2, oI, e50', lfL_s hi]
      refine c_oAppend L2 m2 c10 (by rw [List.length_cons, tk_l (by rw [List.length_reverse]; omega)]; omega) (fun h3 fr3 m3 => ?_)
      simp (disch := first | assumption | omega | (simp only [ya_pi, ya_pj, ya_pa, ya_pr, yo_pi, yo_pj, yo_pa, yf_pi, yf_pj, yf_pa, yh_pi, yh_pj, yh_pa, yt_pi, yt_pj, yt_pa, la_pi, la_pj, la_pa]; assumption)) only [b_X5_appendLastOnes_0, b_X5_appendLastOnes_10, b_X5_appendLastOnes_103, b_X5_appendLastOnes_19, b_X5_appendLastOnes_26, b_X5_appendLastOnes_132, b_X5_appendLastOnes_114, b_X5_appendLastOnes_34, b_X5_appendLastOnes_126, b_X5_appendLastOnes_97, b_X5_appendLastOnes_43, b_X5_appendLastOnes_51, b_X5_appendLastOnes_91, b_X5_appendLastOnes_62, b_X5_appendLastOnes_72, i_lit, i_m1, i_31, il_t, il_f, iq_t, iq_f, it_t, it_f, im_e, im_l, im_g, im_g2, nI_add, pk_mul, i_sub, i_div, sdm, i_dec, i_cl, iv_t, bI_or2, bI_t0, bI_one, not_true_eq_false, not_false_eq_true, ↓reduceIte, am_tl, am_tn, am_t0, am_n0, and_true, true_and, List.cons_append, List.nil_append, List.append_nil, or_true, true_or, or_false, false_or, eq_self, ior0, iand0, im_e2, oI, lfL_s hi]
      refine nx () h3 ⟨fr2.tr fr3, ?_⟩
      rw [tk_s (by rw [List.length_reverse]; exact hi), gd_rev hi]
      exact m3
    · rintro - h2 ⟨fr2, m2⟩
      have er2 : A.reverse.take A.length = A.reverse := by rw [← List.length_reverse, List.take_length]
      rw [er2] at m2
      rw [b_X5_appendLastOnes_109 _ _ _ _ _ _ _ _ _ _, lfL_e]
      simp (disch := first | assumption | omega | (simp only [ya_pi, ya_pj, ya_pa, ya_pr, yo_pi, yo_pj, yo_pa, yf_pi, yf_pj, yf_pa, yh_pi, yh_pj, yh_pa, yt_pi, yt_pj, yt_pa, la_pi, la_pj, la_pa]; assumption)) only [b_X5_appendLastOnes_0, b_X5_appendLastOnes_10, b_X5_appendLastOnes_103, b_X5_appendLastOnes_19, b_X5_appendLastOnes_26, b_X5_appendLastOnes_132, b_X5_appendLastOnes_114, b_X5_appendLastOnes_34, b_X5_appendLastOnes_126, b_X5_appendLastOnes_97, b_X5_appendLastOnes_43, b_X5_appendLastOnes_51, b_X5_appendLastOnes_91, b_X5_appendLastOnes_62, b_X5_appendLastOnes_72, i_lit, i_m1, i_31, il_t, il_f, iq_t, iq_f, it_t, it_f, im_e, im_l, im_g, im_g2, nI_add, pk_mul, i_sub, i_div, sdm, i_dec, i_cl, iv_t, bI_or2, bI_t0, bI_one, not_true_eq_false, not_false_eq_true, ↓reduceIte, am_tl, am_tn, am_t0, am_n0, and_true, true_and, List.cons_append, List.nil_append, List.append_nil, or_true, true_or, or_false, false_or, eq_self, ior0, iand0, im_e2, oI, mI_lt0]
      exact k h2 ((fr.le (fun a k z => Or.inr z)).tr (fr2.le (fun a k z => Or.inl z))) m2
theorem bmem_1 {c : Nat} : nI (bs (fun j => decide (j = c))) = nI (bs (fun k => decide (k ∈ [c]))) := congrArg nI (bs_ext (fun k _ => decide_eq_decide.2 List.mem_singleton.symm))
theorem c_byBreadth {d : Nat} {Q : Option am_V → am_H → Prop} {h : am_H} {f : fa_S} {c : Nat} (L0 : Lay h) (ok : fa_ok f) (F : fa_at h 11 f) (hc : c < f_n f) (m : ol h c [c]) {l3 l4 l5 l6 l7 : Option am_V} (k : ∀ h', am_fr h h' (oP c) → ol h' c (bf (f_p f) 10 [c] 0) → Q none h') : ex_ (d + 2) 69 0 [some (v_r (some 47)), some (v_r (some 11)), some (v_i (nI c)), l3, l4, l5, l6, l7] [] h Q := by
  have hn := ok.1
  have c10 : c < 10 := by omega
  have hp := fa_plt ok
  rw [b_X5_appendByBreadth_0 _ _ _ _ _ _ _ _ _]
  have st := lp_up (d := d + 2) (k := 69) (pc := 7) (Q := Q) 10 (fun i (s : List Nat × Option am_V × Option am_V × Option am_V) => [some (v_r (some 47)), some (v_r (some 11)), some (v_i (nI c)), some (v_i (nI (bs (fun k => decide (k ∈ s.1))))), some (v_i (nI i)), s.2.1, s.2.2.1, s.2.2.2]) (fun i s h' => am_fr h h' (oP c) ∧ ol h' c s.1 ∧ bok (f_p f) c s.1 i ∧ bf (f_p f) (10 - i) s.1 i = bf (f_p f) 10 [c] 0) ?_ ?_ (Nat.zero_le _) (s := ([c], l5, l6, l7)) (h := h) ⟨am_fr.rf, m, bok_0 hp, rfl⟩
  · dsimp only at st
    rw [← bmem_1] at st
    simp (disch := first | assumption | omega | (simp only [ya_pi, ya_pj, ya_pa, ya_pr, yo_pi, yo_pj, yo_pa, yf_pi, yf_pj, yf_pa, yh_pi, yh_pj, yh_pa, yt_pi, yt_pj, yt_pa, la_pi, la_pj, la_pa]; assumption)) only [i_lit, i_m1, i_31, il_t, il_f, iq_t, iq_f, it_t, it_f, im_e, im_l, im_g, im_g2, nI_add, pk_mul, i_sub, i_div, sdm, i_dec, i_cl, iv_t, bI_or2, bI_t0, bI_one, not_true_eq_false, not_false_eq_true, ↓reduceIte, am_tl, am_tn, am_t0, am_n0, and_true, true_and, List.cons_append, List.nil_append, List.append_nil, or_true, true_or, or_false, false_or, eq_self, ior0, iand0, im_e2, oI, i_31]
    exact st
  · rintro i ⟨A, l5, l6, l7⟩ h' hi ⟨fr, m1, o1, eA⟩ nx
    dsimp only at m1 o1 eA ⊢
    have L1 : Lay h' := fr.lay L0
    have F1 : fa_at h' 11 f := fr.fa F (fun q k _ _ => by unfold oP; omega)
    have ltA : ∀ x ∈ A, x ≤ c := fun x hx => up_lt ok (o1.2.1 x hx)
    have lenA : A.length ≤ 10 := nd_len o1.1 (fun x hx => by have := ltA x hx; omega)
    rw [show 10 - i = (10 - (i + 1)) + 1 from by omega, bf] at eA
    rw [b_X5_appendByBreadth_7 _ _ _ _ _ _ _ _ L1]
    by_cases z : i < A.length
    · rw [if_pos z] at eA
      have o2 := bok_s hp o1 z
      have xA := ltA _ (gd_mem z)
      have h44 := (ok.2 (A.getD i 0)).1
      unfold bst at eA o2
      generalize hx : A.getD i 0 = x at xA eA o2 h44
      simp (disch := first | assumption | omega | (simp only [ya_pi, ya_pj, ya_pa, ya_pr, yo_pi, yo_pj, yo_pa, yf_pi, yf_pj, yf_pa, yh_pi, yh_pj, yh_pa, yt_pi, yt_pj, yt_pa, la_pi, la_pj, la_pa]; assumption)) only [b_X5_appendByBreadth_0, b_X5_appendByBreadth_14, b_X5_appendByBreadth_85, b_X5_appendByBreadth_17, b_X5_appendByBreadth_24, b_X5_appendByBreadth_37, b_X5_appendByBreadth_79, b_X5_appendByBreadth_40, b_X5_appendByBreadth_48, b_X5_appendByBreadth_73, b_X5_appendByBreadth_59, i_lit, i_m1, i_31, il_t, il_f, iq_t, iq_f, it_t, it_f, im_e, im_l, im_g, im_g2, nI_add, pk_mul, i_sub, i_div, sdm, i_dec, i_cl, iv_t, bI_or2, bI_t0, bI_one, not_true_eq_false, not_false_eq_true, ↓reduceIte, am_tl, am_tn, am_t0, am_n0, and_true, true_and, List.cons_append, List.nil_append, List.append_nil, or_true, true_or, or_false, false_or, eq_self, ior0, iand0, im_e2, oI, c_oSize L1 m1 c10, c_oAt L1 m1 c10 lenA z, hx]
      refine lp_up (f_p f x).length (fun j (s : List Nat × Option am_V) => [some (v_r (some 47)), some (v_r (some 11)), some (v_i (nI c)), some (v_i (nI (bs (fun k => decide (k ∈ s.1))))), some (v_i (nI i)), some (v_i (nI x)), some (v_i (nI j)), s.2]) (fun j s h2 => am_fr h h2 (oP c) ∧ ol h2 c s.1 ∧ s.1 = fad A ((f_p f x).take j)) ?_ ?_ (Nat.zero_le _) ⟨fr, m1, rfl⟩ (s := (A, l7))
      · rintro j ⟨B, l7⟩ h2 hj ⟨fr2, m2, eB⟩ nx2
        dsimp only at m2 eB ⊢
        have L2 : Lay h2 := fr2.lay L0
        have F2 : fa_at h2 11 f := fr2.fa F (fun q k _ _ => by unfold oP; omega)
        have F20 := F2.1
        have hy := (ok.2 x).2.1 _ (gd_mem hj)
        have eB2 : fad A ((f_p f x).take (j + 1)) = ad B ((f_p f x).getD j 0) := by rw [tk_s hj, fad_app, fad_one, ← eB]
        have ndB : B.Nodup := by rw [eB]; exact fad_nd o1.1
        have ltB : ∀ y ∈ B, y ≤ c := fun y hy2 => by
          rw [eB] at hy2
          rcases fad_mem.1 hy2 with w | w
          · exact ltA y w
          · have := (ok.2 x).2.1 _ (List.mem_of_mem_take w)
            omega
        generalize hyy : (f_p f x).getD j 0 = y at hy eB2
        have y16 : y < 16 := by omega
        rw [b_X5_appendByBreadth_29 _ _ _ _ _ _ _ _ _ F20]
        by_cases z2 : y ∈ B
        · have zz : decide (y ∈ B) = true := decide_eq_true z2
          simp (disch := first | assumption | omega | (simp only [ya_pi, ya_pj, ya_pa, ya_pr, yo_pi, yo_pj, yo_pa, yf_pi, yf_pj, yf_pa, yh_pi, yh_pj, yh_pa, yt_pi, yt_pj, yt_pa, la_pi, la_pj, la_pa]; assumption)) only [b_X5_appendByBreadth_0, b_X5_appendByBreadth_14, b_X5_appendByBreadth_85, b_X5_appendByBreadth_17, b_X5_appendByBreadth_24, b_X5_appendByBreadth_37, b_X5_appendByBreadth_79, b_X5_appendByBreadth_40, b_X5_appendByBreadth_48, b_X5_appendByBreadth_73, b_X5_appendByBreadth_59, i_lit, i_m1, i_31, il_t, il_f, iq_t, iq_f, it_t, it_f, im_e, im_l, im_g, im_g2, nI_add, pk_mul, i_sub, i_div, sdm, i_dec, i_cl, iv_t, bI_or2, bI_t0, bI_one, not_true_eq_false, not_false_eq_true, ↓reduceIte, am_tl, am_tn, am_t0, am_n0, and_true, true_and, List.cons_append, List.nil_append, List.append_nil, or_true, true_or, or_false, false_or, eq_self, ior0, iand0, im_e2, oI, c_parentCount F2 (show x < 10 by omega), c_parentAt ok F2 (show x < 10 by omega) hj, hyy, i_31, zz, Bool.true_eq_false]
          exact nx2 (B, some (v_i (nI y))) h2 ⟨fr2, m2, by rw [eB2, ad_y z2]⟩
        · have zz : decide (y ∈ B) = false := decide_eq_false z2
          have ft := nd_len (ad_nd (x := y) ndB) (n := 10) (fun w hw => by
            rcases ad_mem.1 hw with q | q
            · have := ltB w q
              omega
            · omega)
          rw [ad_n z2, List.length_append, List.length_singleton] at ft
          simp (disch := first | assumption | omega | (simp only [ya_pi, ya_pj, ya_pa, ya_pr, yo_pi, yo_pj, yo_pa, yf_pi, yf_pj, yf_pa, yh_pi, yh_pj, yh_pa, yt_pi, yt_pj, yt_pa, la_pi, la_pj, la_pa]; assumption)) only [b_X5_appendByBreadth_0, b_X5_appendByBreadth_14, b_X5_appendByBreadth_85, b_X5_appendByBreadth_17, b_X5_appendByBreadth_24, b_X5_appendByBreadth_37, b_X5_appendByBreadth_79, b_X5_appendByBreadth_40, b_X5_appendByBreadth_48, b_X5_appendByBreadth_73, b_X5_appendByBreadth_59, i_lit, i_m1, i_31, il_t, il_f, iq_t, iq_f, it_t, it_f, im_e, im_l, im_g, im_g2, nI_add, pk_mul, i_sub, i_div, sdm, i_dec, i_cl, iv_t, bI_or2, bI_t0, bI_one, not_true_eq_false, not_false_eq_true, ↓reduceIte, am_tl, am_tn, am_t0, am_n0, and_true, true_and, List.cons_append, List.nil_append, List.append_nil, or_true, true_or, or_false, false_or, eq_self, ior0, iand0, im_e2, oI, c_parentCount F2 (show x < 10 by omega), c_parentAt ok F2 (show x < 10 by omega) hj, hyy, i_31, zz]
          refine c_oAppend L2 m2 c10 (by omega) (fun h3 fr3 m3 => ?_)
          simp (disch := first | assumption | omega | (simp only [ya_pi, ya_pj, ya_pa, ya_pr, yo_pi, yo_pj, yo_pa, yf_pi, yf_pj, yf_pa, yh_pi, yh_pj, yh_pa, yt_pi, yt_pj, yt_pa, la_pi, la_pj, la_pa]; assumption)) only [b_X5_appendByBreadth_0, b_X5_appendByBreadth_14, b_X5_appendByBreadth_85, b_X5_appendByBreadth_17, b_X5_appendByBreadth_24, b_X5_appendByBreadth_37, b_X5_appendByBreadth_79, b_X5_appendByBreadth_40, b_X5_appendByBreadth_48, b_X5_appendByBreadth_73, b_X5_appendByBreadth_59, i_lit, i_m1, i_31, il_t, il_f, iq_t, iq_f, it_t, it_f, im_e, im_l, im_g, im_g2, nI_add, pk_mul, i_sub, i_div, sdm, i_dec, i_cl, iv_t, bI_or2, bI_t0, bI_one, not_true_eq_false, not_false_eq_true, ↓reduceIte, am_tl, am_tn, am_t0, am_n0, and_true, true_and, List.cons_append, List.nil_append, List.append_nil, or_true, true_or, or_false, false_or, eq_self, ior0, iand0, im_e2, oI, bmem_s]
          exact nx2 (B ++ [y], some (v_i (nI y))) h3 ⟨fr2.tr fr3, m3, by rw [eB2, ad_n z2]⟩
      · rintro ⟨B, l7⟩ h2 ⟨fr2, m2, eB⟩
        dsimp only at m2 eB ⊢
        have F2 : fa_at h2 11 f := fr2.fa F (fun q k _ _ => by unfold oP; omega)
        have F20 := F2.1
        rw [List.take_length] at eB
        rw [b_X5_appendByBreadth_29 _ _ _ _ _ _ _ _ _ F20]
        simp (disch := first | assumption | omega | (simp only [ya_pi, ya_pj, ya_pa, ya_pr, yo_pi, yo_pj, yo_pa, yf_pi, yf_pj, yf_pa, yh_pi, yh_pj, yh_pa, yt_pi, yt_pj, yt_pa, la_pi, la_pj, la_pa]; assumption)) only [b_X5_appendByBreadth_0, b_X5_appendByBreadth_14, b_X5_appendByBreadth_85, b_X5_appendByBreadth_17, b_X5_appendByBreadth_24, b_X5_appendByBreadth_37, b_X5_appendByBreadth_79, b_X5_appendByBreadth_40, b_X5_appendByBreadth_48, b_X5_appendByBreadth_73, b_X5_appendByBreadth_59, i_lit, i_m1, i_31, il_t, il_f, iq_t, iq_f, it_t, it_f, im_e, im_l, im_g, im_g2, nI_add, pk_mul, i_sub, i_div, sdm, i_dec, i_cl, iv_t, bI_or2, bI_t0, bI_one, not_true_eq_false, not_false_eq_true, ↓reduceIte, am_tl, am_tn, am_t0, am_n0, and_true, true_and, List.cons_append, List.nil_append, List.append_nil, or_true, true_or, or_false, false_or, eq_self, ior0, iand0, im_e2, oI, c_parentCount F2 (show x < 10 by omega)]
        exact nx (B, _, _, _) h2 ⟨fr2, m2, by rw [eB]; exact o2, by rw [eB]; exact eA⟩
    · rw [if_neg z] at eA
      simp (disch := first | assumption | omega | (simp only [ya_pi, ya_pj, ya_pa, ya_pr, yo_pi, yo_pj, yo_pa, yf_pi, yf_pj, yf_pa, yh_pi, yh_pj, yh_pa, yt_pi, yt_pj, yt_pa, la_pi, la_pj, la_pa]; assumption)) only [b_X5_appendByBreadth_0, b_X5_appendByBreadth_14, b_X5_appendByBreadth_85, b_X5_appendByBreadth_17, b_X5_appendByBreadth_24, b_X5_appendByBreadth_37, b_X5_appendByBreadth_79, b_X5_appendByBreadth_40, b_X5_appendByBreadth_48, b_X5_appendByBreadth_73, b_X5_appendByBreadth_59, i_lit, i_m1, i_31, il_t, il_f, iq_t, iq_f, it_t, it_f, im_e, im_l, im_g, im_g2, nI_add, pk_mul, i_sub, i_div, sdm, i_dec, i_cl, iv_t, bI_or2, bI_t0, bI_one, not_true_eq_false, not_false_eq_true, ↓reduceIte, am_tl, am_tn, am_t0, am_n0, and_true, true_and, List.cons_append, List.nil_append, List.append_nil, or_true, true_or, or_false, false_or, eq_self, ior0, iand0, im_e2, oI, c_oSize L1 m1 c10]
      exact k h' fr (eA ▸ m1)
  · rintro ⟨A, l5, l6, l7⟩ h' ⟨fr, m1, o1, eA⟩
    dsimp only at m1 o1 eA ⊢
    have L1 : Lay h' := fr.lay L0
    have lenA : A.length ≤ 10 := nd_len o1.1 (fun x hx => by have := up_lt ok (o1.2.1 x hx); omega)
    rw [b_X5_appendByBreadth_7 _ _ _ _ _ _ _ _ L1]
    simp (disch := first | assumption | omega | (simp only [ya_pi, ya_pj, ya_pa, ya_pr, yo_pi, yo_pj, yo_pa, yf_pi, yf_pj, yf_pa, yh_pi, yh_pj, yh_pa, yt_pi, yt_pj, yt_pa, la_pi, la_pj, la_pa]; assumption)) only [b_X5_appendByBreadth_0, b_X5_appendByBreadth_14, b_X5_appendByBreadth_85, b_X5_appendByBreadth_17, b_X5_appendByBreadth_24, b_X5_appendByBreadth_37, b_X5_appendByBreadth_79, b_X5_appendByBreadth_40, b_X5_appendByBreadth_48, b_X5_appendByBreadth_73, b_X5_appendByBreadth_59, i_lit, i_m1, i_31, il_t, il_f, iq_t, iq_f, it_t, it_f, im_e, im_l, im_g, im_g2, nI_add, pk_mul, i_sub, i_div, sdm, i_dec, i_cl, iv_t, bI_or2, bI_t0, bI_one, not_true_eq_false, not_false_eq_true, ↓reduceIte, am_tl, am_tn, am_t0, am_n0, and_true, true_and, List.cons_append, List.nil_append, List.append_nil, or_true, true_or, or_false, false_or, eq_self, ior0, iand0, im_e2, oI, c_oSize L1 m1 c10]
    exact k h' fr (eA ▸ m1)
theorem c_build {d : Nat} {Q : Option am_V → am_H → Prop} {h : am_H} {f : fa_S} {kd : Nat} (L0 : Lay h) (ok : fa_ok f) (F : fa_at h 11 f) (hk : 1 ≤ kd ∧ kd ≤ 3) {l3 : Option am_V} (k : ∀ h', am_fr h h' oF → (∀ c, c < f_n f → ol h' c (oS (f_p f) kd c)) → Q none h') : ex_ (d + 3) 70 0 [some (v_r (some 47)), some (v_r (some 11)), some (v_i (nI kd)), l3] [] h Q := by
  have hn := ok.1
  have hp := fa_plt ok
  simp (disch := first | assumption | omega | (simp only [ya_pi, ya_pj, ya_pa, ya_pr, yo_pi, yo_pj, yo_pa, yf_pi, yf_pj, yf_pa, yh_pi, yh_pj, yh_pa, yt_pi, yt_pj, yt_pa, la_pi, la_pj, la_pa]; assumption)) only [b_X5_build_0, b_X5_build_8, b_X5_build_64, b_X5_build_18, b_X5_build_24, b_X5_build_38, b_X5_build_29, b_X5_build_52, b_X5_build_43, b_X5_build_35, b_X5_build_58, b_X5_build_49, i_lit, i_m1, i_31, il_t, il_f, iq_t, iq_f, it_t, it_f, im_e, im_l, im_g, im_g2, nI_add, pk_mul, i_sub, i_div, sdm, i_dec, i_cl, iv_t, bI_or2, bI_t0, bI_one, not_true_eq_false, not_false_eq_true, ↓reduceIte, am_tl, am_tn, am_t0, am_n0, and_true, true_and, List.cons_append, List.nil_append, List.append_nil, or_true, true_or, or_false, false_or, eq_self, ior0, iand0, im_e2, oI]
  refine c_fill (la_y L0 rfl) (by omega) (fun h1 fr1 e1 => ?_)
  simp (disch := first | assumption | omega | (simp only [ya_pi, ya_pj, ya_pa, ya_pr, yo_pi, yo_pj, yo_pa, yf_pi, yf_pj, yf_pa, yh_pi, yh_pj, yh_pa, yt_pi, yt_pj, yt_pa, la_pi, la_pj, la_pa]; assumption)) only [b_X5_build_0, b_X5_build_8, b_X5_build_64, b_X5_build_18, b_X5_build_24, b_X5_build_38, b_X5_build_29, b_X5_build_52, b_X5_build_43, b_X5_build_35, b_X5_build_58, b_X5_build_49, i_lit, i_m1, i_31, il_t, il_f, iq_t, iq_f, it_t, it_f, im_e, im_l, im_g, im_g2, nI_add, pk_mul, i_sub, i_div, sdm, i_dec, i_cl, iv_t, bI_or2, bI_t0, bI_one, not_true_eq_false, not_false_eq_true, ↓reduceIte, am_tl, am_tn, am_t0, am_n0, and_true, true_and, List.cons_append, List.nil_append, List.append_nil, or_true, true_or, or_false, false_or, eq_self, ior0, iand0, im_e2, oI]
  refine lp_up (f_n f) (fun i (_ : Unit) => [some (v_r (some 47)), some (v_r (some 11)), some (v_i (nI kd)), some (v_i (nI i))]) (fun i _ h' => am_fr h h' oF ∧ (∀ c, c < i → ol h' c (oS (f_p f) kd c)) ∧ ∀ c, i ≤ c → c < 10 → h_i h' 48 c = nI 0) ?_ ?_ (Nat.zero_le _) ⟨fr1.le (fun a k z => by unfold oF; omega), fun c hc => absurd hc (Nat.not_lt_zero _), fun c _ hc => e1 c hc⟩ (s := ())
  · rintro i - h' hi ⟨fr, r, e⟩ nx
    have L1 : Lay h' := fr.lay L0
    have F1 : fa_at h' 11 f := fr.fa F (fun q k _ _ => by unfold oF; omega)
    have F10 := F1.1
    have en := F1.2.1
    have i10 : i < 10 := by omega
    rw [b_X5_build_10 _ _ _ _ _ F10]
    simp (disch := first | assumption | omega | (simp only [ya_pi, ya_pj, ya_pa, ya_pr, yo_pi, yo_pj, yo_pa, yf_pi, yf_pj, yf_pa, yh_pi, yh_pj, yh_pa, yt_pi, yt_pj, yt_pa, la_pi, la_pj, la_pa]; assumption)) only [b_X5_build_0, b_X5_build_8, b_X5_build_64, b_X5_build_18, b_X5_build_24, b_X5_build_38, b_X5_build_29, b_X5_build_52, b_X5_build_43, b_X5_build_35, b_X5_build_58, b_X5_build_49, i_lit, i_m1, i_31, il_t, il_f, iq_t, iq_f, it_t, it_f, im_e, im_l, im_g, im_g2, nI_add, pk_mul, i_sub, i_div, sdm, i_dec, i_cl, iv_t, bI_or2, bI_t0, bI_one, not_true_eq_false, not_false_eq_true, ↓reduceIte, am_tl, am_tn, am_t0, am_n0, and_true, true_and, List.cons_append, List.nil_append, List.append_nil, or_true, true_or, or_false, false_or, eq_self, ior0, iand0, im_e2, oI, en]
    refine c_oAppend (l := []) L1 ⟨e i (Nat.le_refl _) i10, ro_nil⟩ i10 (by decide) (fun h2 fr2 m2 => ?_)
    have L2 : Lay h2 := fr2.lay L1
    have F2 : fa_at h2 11 f := fr2.fa F1 (fun q k _ _ => by unfold oP; omega)
    have F20 := F2.1
    have m2' : ol h2 i [i] := m2
    have hS : ∀ q, q < i → ol h2 q (oS (f_p f) kd q) ∧ (oS (f_p f) kd q).length ≤ 10 ∧ ∀ x ∈ oS (f_p f) kd q, x < i := fun q hq => by
      have l10 := oS_len hp (kd := kd) (show q < 10 by omega)
      refine ⟨(r q hq).fr l10 fr2 (by unfold oP; omega) (fun k _ => by unfold oP; omega), l10, fun x hx => ?_⟩
      have := up_lt ok ((oS_mem hp (show q < 10 by omega)).1 hx)
      omega
    have fin : ∀ h3, am_fr h2 h3 (oL i) → ol h3 i (oS (f_p f) kd i) → ex_ (d + 3) 70 10 [some (v_r (some 47)), some (v_r (some 11)), some (v_i (nI kd)), some (v_i (nI (i + 1)))] [] h3 Q := fun h3 fr3 m3 => by
      refine nx () h3 ⟨(fr.tr (fr2.le (fun a k z => by unfold oP at z; unfold oF; omega))).tr (fr3.le (fun a k z => by unfold oL oP at z; unfold oF; omega)), fun c hc => ?_, fun c hc hc2 => ?_⟩
      · by_cases z : c = i
        · rw [z]
          exact m3
        · have := hS c (by omega)
          exact this.1.fr this.2.1 fr3 (by unfold oL oP; omega) (fun k _ => by unfold oL oP; omega)
      · rw [fr3.i (by unfold oL oP; omega), fr2.i (by unfold oP; omega)]
        exact e c (by omega) hc2
    rcases (show kd = 1 ∨ kd = 2 ∨ kd = 3 by omega) with rfl | rfl | rfl
    · simp (disch := first | assumption | omega | (simp only [ya_pi, ya_pj, ya_pa, ya_pr, yo_pi, yo_pj, yo_pa, yf_pi, yf_pj, yf_pa, yh_pi, yh_pj, yh_pa, yt_pi, yt_pj, yt_pa, la_pi, la_pj, la_pa]; assumption)) only [b_X5_build_0, b_X5_build_8, b_X5_build_64, b_X5_build_18, b_X5_build_24, b_X5_build_38, b_X5_build_29, b_X5_build_52, b_X5_build_43, b_X5_build_35, b_X5_build_58, b_X5_build_49, i_lit, i_m1, i_31, il_t, il_f, iq_t, iq_f, it_t, it_f, im_e, im_l, im_g, im_g2, nI_add, pk_mul, i_sub, i_div, sdm, i_dec, i_cl, iv_t, bI_or2, bI_t0, bI_one, not_true_eq_false, not_false_eq_true, ↓reduceIte, am_tl, am_tn, am_t0, am_n0, and_true, true_and, List.cons_append, List.nil_append, List.append_nil, or_true, true_or, or_false, false_or, eq_self, ior0, iand0, im_e2, oI]
      refine c_byDepth L2 ok F2 hi hS m2' (fun h3 fr3 m3 => ?_)
      simp (disch := first | assumption | omega | (simp only [ya_pi, ya_pj, ya_pa, ya_pr, yo_pi, yo_pj, yo_pa, yf_pi, yf_pj, yf_pa, yh_pi, yh_pj, yh_pa, yt_pi, yt_pj, yt_pa, la_pi, la_pj, la_pa]; assumption)) only [b_X5_build_0, b_X5_build_8, b_X5_build_64, b_X5_build_18, b_X5_build_24, b_X5_build_38, b_X5_build_29, b_X5_build_52, b_X5_build_43, b_X5_build_35, b_X5_build_58, b_X5_build_49, i_lit, i_m1, i_31, il_t, il_f, iq_t, iq_f, it_t, it_f, im_e, im_l, im_g, im_g2, nI_add, pk_mul, i_sub, i_div, sdm, i_dec, i_cl, iv_t, bI_or2, bI_t0, bI_one, not_true_eq_false, not_false_eq_true, ↓reduceIte, am_tl, am_tn, am_t0, am_n0, and_true, true_and, List.cons_append, List.nil_append, List.append_nil, or_true, true_or, or_false, false_or, eq_self, ior0, iand0, im_e2, oI]
      refine fin h3 (fr3.le (fun a k z => Or.inl z)) ?_
      rw [oS, if_pos rfl, d1_eq hp]
      exact m3
    · simp (disch := first | assumption | omega | (simp only [ya_pi, ya_pj, ya_pa, ya_pr, yo_pi, yo_pj, yo_pa, yf_pi, yf_pj, yf_pa, yh_pi, yh_pj, yh_pa, yt_pi, yt_pj, yt_pa, la_pi, la_pj, la_pa]; assumption)) only [b_X5_build_0, b_X5_build_8, b_X5_build_64, b_X5_build_18, b_X5_build_24, b_X5_build_38, b_X5_build_29, b_X5_build_52, b_X5_build_43, b_X5_build_35, b_X5_build_58, b_X5_build_49, i_lit, i_m1, i_31, il_t, il_f, iq_t, iq_f, it_t, it_f, im_e, im_l, im_g, im_g2, nI_add, pk_mul, i_sub, i_div, sdm, i_dec, i_cl, iv_t, bI_or2, bI_t0, bI_one, not_true_eq_false, not_false_eq_true, ↓reduceIte, am_tl, am_tn, am_t0, am_n0, and_true, true_and, List.cons_append, List.nil_append, List.append_nil, or_true, true_or, or_false, false_or, eq_self, ior0, iand0, im_e2, oI]
      refine c_lastOnes L2 ok F2 hi hS m2' (fun h3 fr3 m3 => ?_)
      simp (disch := first | assumption | omega | (simp only [ya_pi, ya_pj, ya_pa, ya_pr, yo_pi, yo_pj, yo_pa, yf_pi, yf_pj, yf_pa, yh_pi, yh_pj, yh_pa, yt_pi, yt_pj, yt_pa, la_pi, la_pj, la_pa]; assumption)) only [b_X5_build_0, b_X5_build_8, b_X5_build_64, b_X5_build_18, b_X5_build_24, b_X5_build_38, b_X5_build_29, b_X5_build_52, b_X5_build_43, b_X5_build_35, b_X5_build_58, b_X5_build_49, i_lit, i_m1, i_31, il_t, il_f, iq_t, iq_f, it_t, it_f, im_e, im_l, im_g, im_g2, nI_add, pk_mul, i_sub, i_div, sdm, i_dec, i_cl, iv_t, bI_or2, bI_t0, bI_one, not_true_eq_false, not_false_eq_true, ↓reduceIte, am_tl, am_tn, am_t0, am_n0, and_true, true_and, List.cons_append, List.nil_append, List.append_nil, or_true, true_or, or_false, false_or, eq_self, ior0, iand0, im_e2, oI]
      refine fin h3 fr3 ?_
      rw [oS, if_neg (by omega), if_pos rfl, d2_eq hp]
      exact m3
    · simp (disch := first | assumption | omega | (simp only [ya_pi, ya_pj, ya_pa, ya_pr, yo_pi, yo_pj, yo_pa, yf_pi, yf_pj, yf_pa, yh_pi, yh_pj, yh_pa, yt_pi, yt_pj, yt_pa, la_pi, la_pj, la_pa]; assumption)) only [b_X5_build_0, b_X5_build_8, b_X5_build_64, b_X5_build_18, b_X5_build_24, b_X5_build_38, b_X5_build_29, b_X5_build_52, b_X5_build_43, b_X5_build_35, b_X5_build_58, b_X5_build_49, i_lit, i_m1, i_31, il_t, il_f, iq_t, iq_f, it_t, it_f, im_e, im_l, im_g, im_g2, nI_add, pk_mul, i_sub, i_div, sdm, i_dec, i_cl, iv_t, bI_or2, bI_t0, bI_one, not_true_eq_false, not_false_eq_true, ↓reduceIte, am_tl, am_tn, am_t0, am_n0, and_true, true_and, List.cons_append, List.nil_append, List.append_nil, or_true, true_or, or_false, false_or, eq_self, ior0, iand0, im_e2, oI]
      refine c_byBreadth L2 ok F2 hi m2' (fun h3 fr3 m3 => ?_)
      simp (disch := first | assumption | omega | (simp only [ya_pi, ya_pj, ya_pa, ya_pr, yo_pi, yo_pj, yo_pa, yf_pi, yf_pj, yf_pa, yh_pi, yh_pj, yh_pa, yt_pi, yt_pj, yt_pa, la_pi, la_pj, la_pa]; assumption)) only [b_X5_build_0, b_X5_build_8, b_X5_build_64, b_X5_build_18, b_X5_build_24, b_X5_build_38, b_X5_build_29, b_X5_build_52, b_X5_build_43, b_X5_build_35, b_X5_build_58, b_X5_build_49, i_lit, i_m1, i_31, il_t, il_f, iq_t, iq_f, it_t, it_f, im_e, im_l, im_g, im_g2, nI_add, pk_mul, i_sub, i_div, sdm, i_dec, i_cl, iv_t, bI_or2, bI_t0, bI_one, not_true_eq_false, not_false_eq_true, ↓reduceIte, am_tl, am_tn, am_t0, am_n0, and_true, true_and, List.cons_append, List.nil_append, List.append_nil, or_true, true_or, or_false, false_or, eq_self, ior0, iand0, im_e2, oI]
      refine fin h3 (fr3.le (fun a k z => Or.inl z)) ?_
      rw [oS, if_neg (by omega), if_neg (by omega)]
      exact m3
  · rintro - h' ⟨fr, r, e⟩
    have F1 : fa_at h' 11 f := fr.fa F (fun q k _ _ => by unfold oF; omega)
    have F10 := F1.1
    have en := F1.2.1
    rw [b_X5_build_10 _ _ _ _ _ F10]
    simp (disch := first | assumption | omega | (simp only [ya_pi, ya_pj, ya_pa, ya_pr, yo_pi, yo_pj, yo_pa, yf_pi, yf_pj, yf_pa, yh_pi, yh_pj, yh_pa, yt_pi, yt_pj, yt_pa, la_pi, la_pj, la_pa]; assumption)) only [b_X5_build_0, b_X5_build_8, b_X5_build_64, b_X5_build_18, b_X5_build_24, b_X5_build_38, b_X5_build_29, b_X5_build_52, b_X5_build_43, b_X5_build_35, b_X5_build_58, b_X5_build_49, i_lit, i_m1, i_31, il_t, il_f, iq_t, iq_f, it_t, it_f, im_e, im_l, im_g, im_g2, nI_add, pk_mul, i_sub, i_div, sdm, i_dec, i_cl, iv_t, bI_or2, bI_t0, bI_one, not_true_eq_false, not_false_eq_true, ↓reduceIte, am_tl, am_tn, am_t0, am_n0, and_true, true_and, List.cons_append, List.nil_append, List.append_nil, or_true, true_or, or_false, false_or, eq_self, ior0, iand0, im_e2, oI, en]
    exact k h' fr r
