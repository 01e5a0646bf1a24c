/-! ===== old orders: the reference ===== -/
def rol (h : am_H) (l : List Nat) : Prop := h_i h 93 31 = nI l.length ∧ ro h 109 0 l
def r9 (a k : Nat) : Prop := (a = 93 ∧ k = 31) ∨ a = 109
theorem r9.S {a k : Nat} (z : r9 a k) : rS a k := by unfold r9 at z; unfold rS; omega
theorem rfa9 {h h' : am_H} {f : fa_S} (ok : fa_ok f) (F : rfa h f) (fr : am_fr h h' r9) : rfa h' f := fr.rfa ok F (fun k _ => by unfold r9; omega)
theorem c_goesDeep {f : fa_S} (ok : fa_ok f) : ∀ (m c : Nat), c < m → c < 10 → ∀ {d : Nat} {Q : Option am_V → am_H → Prop} {h : am_H} {A : List Nat} (F : rfa h f) (R : rol h A) (hA : A.length + (df (f_p f) c).length ≤ 4096) {l2 : Option am_V} (k : ∀ h', am_fr h h' r9 → rol h' (A ++ df (f_p f) c) → Q none h'), ex_ (d + c + 1) 322 0 [some (v_r (some 93)), some (v_i (nI c)), l2] [] h Q := by
  intro m
  induction m with
  | zero => intro c h; omega
  | succ m ih =>
    intro c hcm hc d Q h A F R hA l2 k
    have hp := fa_plt ok
    have h4 := (ok.2 c).1
    have L0 := F.1
    have e31 := R.1
    rw [df_eq hp, List.length_cons] at hA
    have F1 : rfa (p_i (p_i h 109 A.length (nI c)) 93 31 (nI (A.length + 1))) f := rfa9 ok F ((am_fr_pi (by unfold r9; omega)).pi (by unfold r9; omega))
    have R1 : rol (p_i (p_i h 109 A.length (nI c)) 93 31 (nI (A.length + 1))) (A ++ [c]) := by
      refine ⟨by rw [hi_s, List.length_append]; rfl, fun j hj => ?_⟩
      have := ro_app (q := c) R.2
      rw [Nat.zero_add] at this
      rw [hi_o (by omega)]
      exact this j hj
    simp (disch := first | assumption | omega | (simp only [ya_pi, ya_pj, ya_pa, ya_pr, yo_pi, yo_pj, yo_pa, yf_pi, yf_pj, yf_pa, yh_pi, yh_pj, yh_pa, yt_pi, yt_pj, yt_pa, la_pi, la_pj, la_pa]; assumption)) only [b_X12_goesDeep_51, b_X12_goesDeep_35, b_X12_goesDeep_42, b_X12_goesDeep_45, b_X12_goesDeep_0 _ _ _ L0, i_lit, i_m1, i_31, il_t, il_f, iq_t, iq_f, it_t, it_f, im_e, im_l, im_g, im_g2, nI_add, pk_mul, i_sub, i_div, sdm, i_dec, i_cl, iv_t, bI_or2, bI_t0, bI_one, not_true_eq_false, not_false_eq_true, ↓reduceIte, am_tl, am_tn, am_t0, am_n0, and_true, true_and, List.cons_append, List.nil_append, List.append_nil, or_true, true_or, or_false, false_or, eq_self, ior0, iand0, im_e2, oI, hi_s, hi_o, hi_k, hr_pi, hj_pi, hn_pi, hi_pas, hi_pao, hr_pa, hj_pa, e31]
    refine lp_up (f_p f c).length (fun i (_ : Unit) => [some (v_r (some 93)), some (v_i (nI c)), some (v_i (nI i))]) (fun i _ h' => am_fr h h' r9 ∧ rol h' (A ++ [c] ++ ((f_p f c).take i).flatMap (df (f_p f)))) ?_ ?_ (Nat.zero_le _) ⟨(am_fr_pi (by unfold r9; omega)).pi (by unfold r9; omega), by rw [List.take_zero, List.flatMap_nil, List.append_nil]; exact R1⟩ (s := ())
    · rintro i - h2 hi ⟨fr2, R2⟩ nx
      have F2 : rfa h2 f := rfa9 ok F fr2
      have L2 := F2.1
      have e0 := r_cnt F2 hc
      have hq := hp c _ (gd_mem hi)
      have eS : ((f_p f c).take (i + 1)).flatMap (df (f_p f)) = ((f_p f c).take i).flatMap (df (f_p f)) ++ df (f_p f) ((f_p f c).getD i 0) := by
        rw [tk_s hi, List.flatMap_append, List.flatMap_singleton]
      have len : ((f_p f c).flatMap (df (f_p f))).length = (((f_p f c).take (i + 1)).flatMap (df (f_p f))).length + (((f_p f c).drop (i + 1)).flatMap (df (f_p f))).length := by
        rw [← List.length_append, ← List.flatMap_append, List.take_append_drop]
      rw [eS, List.length_append] at len
      rw [b_X12_goesDeep_22 _ _ _ L2]
      simp (disch := first | assumption | omega | (simp only [ya_pi, ya_pj, ya_pa, ya_pr, yo_pi, yo_pj, yo_pa, yf_pi, yf_pj, yf_pa, yh_pi, yh_pj, yh_pa, yt_pi, yt_pj, yt_pa, la_pi, la_pj, la_pa]; assumption)) only [b_X12_goesDeep_51, b_X12_goesDeep_35, b_X12_goesDeep_42, b_X12_goesDeep_45, i_lit, i_m1, i_31, il_t, il_f, iq_t, iq_f, it_t, it_f, im_e, im_l, im_g, im_g2, nI_add, pk_mul, i_sub, i_div, sdm, i_dec, i_cl, iv_t, bI_or2, bI_t0, bI_one, not_true_eq_false, not_false_eq_true, ↓reduceIte, am_tl, am_tn, am_t0, am_n0, and_true, true_and, List.cons_append, List.nil_append, List.append_nil, or_true, true_or, or_false, false_or, eq_self, ior0, iand0, im_e2, oI, e0, c_rParentAt F2 hc hi h4]
      have cc := ih _ (show (f_p f c).getD i 0 < m by omega) (by omega) (d := d + (c - (f_p f c).getD i 0 - 1)) (Q := fun r h' => ex_ (d + c + 1) 322 45 [some (v_r (some 93)), some (v_i (nI c)), some (v_i (nI i))] r.toList h' Q) (l2 := none) F2 R2 (by simp only [List.length_append, List.length_singleton]; omega) (fun h3 fr3 R3 => ?_)
      · rw [show d + (c - (f_p f c).getD i 0 - 1) + (f_p f c).getD i 0 + 1 = d + c from by omega] at cc
        exact cc
      · simp (disch := first | assumption | omega | (simp only [ya_pi, ya_pj, ya_pa, ya_pr, yo_pi, yo_pj, yo_pa, yf_pi, yf_pj, yf_pa, yh_pi, yh_pj, yh_pa, yt_pi, yt_pj, yt_pa, la_pi, la_pj, la_pa]; assumption)) only [b_X12_goesDeep_51, b_X12_goesDeep_35, b_X12_goesDeep_42, b_X12_goesDeep_45, i_lit, i_m1, i_31, il_t, il_f, iq_t, iq_f, it_t, it_f, im_e, im_l, im_g, im_g2, nI_add, pk_mul, i_sub, i_div, sdm, i_dec, i_cl, iv_t, bI_or2, bI_t0, bI_one, not_true_eq_false, not_false_eq_true, ↓reduceIte, am_tl, am_tn, am_t0, am_n0, and_true, true_and, List.cons_append, List.nil_append, List.append_nil, or_true, true_or, or_false, false_or, eq_self, ior0, iand0, im_e2, oI]
        refine nx () h3 ⟨fr2.tr fr3, ?_⟩
        rw [eS, ← List.append_assoc]
        exact R3
    · rintro - h2 ⟨fr2, R2⟩
      have F2 : rfa h2 f := rfa9 ok F fr2
      have L2 := F2.1
      have e0 := r_cnt F2 hc
      rw [List.take_length, List.append_assoc] at R2
      rw [b_X12_goesDeep_22 _ _ _ L2]
      simp (disch := first | assumption | omega | (simp only [ya_pi, ya_pj, ya_pa, ya_pr, yo_pi, yo_pj, yo_pa, yf_pi, yf_pj, yf_pa, yh_pi, yh_pj, yh_pa, yt_pi, yt_pj, yt_pa, la_pi, la_pj, la_pa]; assumption)) only [b_X12_goesDeep_51, b_X12_goesDeep_35, b_X12_goesDeep_42, b_X12_goesDeep_45, i_lit, i_m1, i_31, il_t, il_f, iq_t, iq_f, it_t, it_f, im_e, im_l, im_g, im_g2, nI_add, pk_mul, i_sub, i_div, sdm, i_dec, i_cl, iv_t, bI_or2, bI_t0, bI_one, not_true_eq_false, not_false_eq_true, ↓reduceIte, am_tl, am_tn, am_t0, am_n0, and_true, true_and, List.cons_append, List.nil_append, List.append_nil, or_true, true_or, or_false, false_or, eq_self, ior0, iand0, im_e2, oI, e0]
      refine k h2 fr2 ?_
      rw [df_eq hp]
      exact R2
theorem c_placeOld {d : Nat} {Q : Option am_V → am_H → Prop} {h : am_H} {l : List Nat} (L0 : Lay h) (R : rol h l) (hl : l.length ≤ 4096) (hv : ∀ x ∈ l, x < 10) {q : Nat} (hq : q < 2147483648) {l2 : Option am_V} : ex_ d 323 0 [some (v_r (some 93)), some (v_i (nI q)), l2] [] h Q ↔ Q (some (v_i (oI (pl l q)))) h := by
  have e0 := R.1
  apply ex_iff
  rw [b_X12_placeOld_0 _ _ _ _]
  refine lp_up l.length (fun i (_ : Unit) => [some (v_r (some 93)), some (v_i (nI q)), some (v_i (nI i))]) (fun i _ h' => h' = h ∧ fi (fun k => l.getD k 0 == q) l.length i = pl l q) ?_ ?_ (Nat.zero_le _) ⟨rfl, rfl⟩ (s := ())
  · rintro i - h' hi ⟨rfl, e⟩ nx
    have e1 := R.2 i hi
    rw [Nat.zero_add] at e1
    have x10 := hv _ (gd_mem hi)
    rw [b_X12_placeOld_2 _ _ _ L0]
    by_cases he : l.getD i 0 = q
    · rw [pl_y hi he] at e
      simp (disch := first | assumption | omega | (simp only [ya_pi, ya_pj, ya_pa, ya_pr, yo_pi, yo_pj, yo_pa, yf_pi, yf_pj, yf_pa, yh_pi, yh_pj, yh_pa, yt_pi, yt_pj, yt_pa, la_pi, la_pj, la_pa]; assumption)) only [b_X12_placeOld_0, b_X12_placeOld_28, b_X12_placeOld_10, b_X12_placeOld_22, b_X12_placeOld_20, i_lit, i_m1, i_31, il_t, il_f, iq_t, iq_f, it_t, it_f, im_e, im_l, im_g, im_g2, nI_add, pk_mul, i_sub, i_div, sdm, i_dec, i_cl, iv_t, bI_or2, bI_t0, bI_one, not_true_eq_false, not_false_eq_true, ↓reduceIte, am_tl, am_tn, am_t0, am_n0, and_true, true_and, List.cons_append, List.nil_append, List.append_nil, or_true, true_or, or_false, false_or, eq_self, ior0, iand0, im_e2, oI, e0, e1]
      rw [← e]
    · rw [pl_x he] at e
      simp (disch := first | assumption | omega | (simp only [ya_pi, ya_pj, ya_pa, ya_pr, yo_pi, yo_pj, yo_pa, yf_pi, yf_pj, yf_pa, yh_pi, yh_pj, yh_pa, yt_pi, yt_pj, yt_pa, la_pi, la_pj, la_pa]; assumption)) only [b_X12_placeOld_0, b_X12_placeOld_28, b_X12_placeOld_10, b_X12_placeOld_22, b_X12_placeOld_20, i_lit, i_m1, i_31, il_t, il_f, iq_t, iq_f, it_t, it_f, im_e, im_l, im_g, im_g2, nI_add, pk_mul, i_sub, i_div, sdm, i_dec, i_cl, iv_t, bI_or2, bI_t0, bI_one, not_true_eq_false, not_false_eq_true, ↓reduceIte, am_tl, am_tn, am_t0, am_n0, and_true, true_and, List.cons_append, List.nil_append, List.append_nil, or_true, true_or, or_false, false_or, eq_self, ior0, iand0, im_e2, oI, e0, e1]
      exact nx () _ ⟨rfl, e⟩
  · rintro - h' ⟨rfl, e⟩
    rw [fi_end (by omega)] at e
    rw [b_X12_placeOld_2 _ _ _ L0]
    simp (disch := first | assumption | omega | (simp only [ya_pi, ya_pj, ya_pa, ya_pr, yo_pi, yo_pj, yo_pa, yf_pi, yf_pj, yf_pa, yh_pi, yh_pj, yh_pa, yt_pi, yt_pj, yt_pa, la_pi, la_pj, la_pa]; assumption)) only [b_X12_placeOld_0, b_X12_placeOld_28, b_X12_placeOld_10, b_X12_placeOld_22, b_X12_placeOld_20, i_lit, i_m1, i_31, il_t, il_f, iq_t, iq_f, it_t, it_f, im_e, im_l, im_g, im_g2, nI_add, pk_mul, i_sub, i_div, sdm, i_dec, i_cl, iv_t, bI_or2, bI_t0, bI_one, not_true_eq_false, not_false_eq_true, ↓reduceIte, am_tl, am_tn, am_t0, am_n0, and_true, true_and, List.cons_append, List.nil_append, List.append_nil, or_true, true_or, or_false, false_or, eq_self, ior0, iand0, im_e2, oI, e0]
    rw [← e]
theorem c_laysBroad {d : Nat} {Q : Option am_V → am_H → Prop} {h : am_H} {f : fa_S} {c : Nat} (ok : fa_ok f) (F : rfa h f) (hc : c < f_n f) {l2 l3 l4 l5 : Option am_V} (k : ∀ h', am_fr h h' r9 → rol h' (bf (f_p f) 10 [c] 0) → Q none h') : ex_ (d + 1) 324 0 [some (v_r (some 93)), some (v_i (nI c)), l2, l3, l4, l5] [] h Q := by
  have hn := ok.1
  have c10 : c < 10 := by omega
  have hp := fa_plt ok
  have L0 := F.1
  simp (disch := first | assumption | omega | (simp only [ya_pi, ya_pj, ya_pa, ya_pr, yo_pi, yo_pj, yo_pa, yf_pi, yf_pj, yf_pa, yh_pi, yh_pj, yh_pa, yt_pi, yt_pj, yt_pa, la_pi, la_pj, la_pa]; assumption)) only [b_X12_laysBroad_0, b_X12_laysBroad_115, b_X12_laysBroad_26, b_X12_laysBroad_109, b_X12_laysBroad_48, b_X12_laysBroad_60, b_X12_laysBroad_69, b_X12_laysBroad_75, b_X12_laysBroad_72, i_lit, i_m1, i_31, il_t, il_f, iq_t, iq_f, it_t, it_f, im_e, im_l, im_g, im_g2, nI_add, pk_mul, i_sub, i_div, sdm, i_dec, i_cl, iv_t, bI_or2, bI_t0, bI_one, not_true_eq_false, not_false_eq_true, ↓reduceIte, am_tl, am_tn, am_t0, am_n0, and_true, true_and, List.cons_append, List.nil_append, List.append_nil, or_true, true_or, or_false, false_or, eq_self, ior0, iand0, im_e2, oI, i_31, bmem_1]
  refine lp_up 10 (fun i (s : List Nat × Option am_V × Option am_V) => [some (v_r (some 93)), some (v_i (nI c)), some (v_i (nI (bs (fun k => decide (k ∈ s.1))))), some (v_i (nI i)), s.2.1, s.2.2]) (fun i s h' => am_fr h h' r9 ∧ rol h' s.1 ∧ bok (f_p f) c s.1 i ∧ bf (f_p f) (10 - i) s.1 i = bf (f_p f) 10 [c] 0) ?_ ?_ (Nat.zero_le _) (s := ([c], l4, l5)) ⟨(am_fr_pi (by unfold r9; omega)).pi (by unfold r9; omega), ⟨hi_s, fun j hj => ?_⟩, bok_0 hp, rfl⟩
  · rintro i ⟨A, l4, l5⟩ h' hi ⟨fr, m1, o1, eA⟩ nx
    dsimp only at m1 o1 eA ⊢
    have F1 : rfa h' f := rfa9 ok F fr
    have L1 := F1.1
    have e31 := m1.1
    have ltA : ∀ x ∈ A, x ≤ c := fun x hx => up_lt ok (o1.2.1 x hx)
    have lenA : A.length ≤ 10 := nd_len o1.1 (fun x hx => by have := ltA x hx; omega)
    rw [show 10 - i = (10 - (i + 1)) + 1 from by omega, bf] at eA
    rw [b_X12_laysBroad_18 _ _ _ _ _ _ L1]
    by_cases z : i < A.length
    · rw [if_pos z] at eA
      have o2 := bok_s hp o1 z
      have xA := ltA _ (gd_mem z)
      have h44 := (ok.2 (A.getD i 0)).1
      have x109 := m1.2 i z
      rw [Nat.zero_add] at x109
      unfold bst at eA o2
      generalize hx : A.getD i 0 = x at xA eA o2 h44 x109
      simp (disch := first | assumption | omega | (simp only [ya_pi, ya_pj, ya_pa, ya_pr, yo_pi, yo_pj, yo_pa, yf_pi, yf_pj, yf_pa, yh_pi, yh_pj, yh_pa, yt_pi, yt_pj, yt_pa, la_pi, la_pj, la_pa]; assumption)) only [b_X12_laysBroad_0, b_X12_laysBroad_115, b_X12_laysBroad_26, b_X12_laysBroad_109, b_X12_laysBroad_48, b_X12_laysBroad_60, b_X12_laysBroad_69, b_X12_laysBroad_75, b_X12_laysBroad_72, i_lit, i_m1, i_31, il_t, il_f, iq_t, iq_f, it_t, it_f, im_e, im_l, im_g, im_g2, nI_add, pk_mul, i_sub, i_div, sdm, i_dec, i_cl, iv_t, bI_or2, bI_t0, bI_one, not_true_eq_false, not_false_eq_true, ↓reduceIte, am_tl, am_tn, am_t0, am_n0, and_true, true_and, List.cons_append, List.nil_append, List.append_nil, or_true, true_or, or_false, false_or, eq_self, ior0, iand0, im_e2, oI, e31]
      refine lp_up (f_p f x).length (fun j (s : List Nat × Option am_V) => [some (v_r (some 93)), some (v_i (nI c)), some (v_i (nI (bs (fun k => decide (k ∈ s.1))))), some (v_i (nI i)), some (v_i (nI j)), s.2]) (fun j s h2 => am_fr h h2 r9 ∧ rol h2 s.1 ∧ h_i h2 109 i = nI x ∧ s.1 = fad A ((f_p f x).take j)) ?_ ?_ (Nat.zero_le _) ⟨fr, m1, x109, rfl⟩ (s := (A, l5))
      · rintro j ⟨B, l5⟩ h2 hj ⟨fr2, m2, x2, eB⟩ nx2
        dsimp only at m2 eB ⊢
        have F2 : rfa h2 f := rfa9 ok F fr2
        have L2 := F2.1
        have e0 := r_cnt F2 (show x < 10 by omega)
        have e312 := m2.1
        have hy := (ok.2 x).2.1 _ (gd_mem hj)
        have eB2 : fad A ((f_p f x).take (j + 1)) = ad B ((f_p f x).getD j 0) := by rw [tk_s hj, fad_app, fad_one, ← eB]
        have ndB : B.Nodup := by rw [eB]; exact fad_nd o1.1
        have ltB : ∀ y ∈ B, y ≤ c := fun y hy2 => by
          rw [eB] at hy2
          rcases fad_mem.1 hy2 with w | w
          · exact ltA y w
          · have := (ok.2 x).2.1 _ (List.mem_of_mem_take w)
            omega
        have lenB : B.length ≤ 10 := nd_len ndB (fun y hy => by have := ltB y hy; omega)
        have iB : i < B.length := by
          obtain ⟨r, hr⟩ := fad_pre (l := (f_p f x).take j) (acc := A)
          rw [eB, hr, List.length_append]
          omega
        generalize hyy : (f_p f x).getD j 0 = y at hy eB2
        have y16 : y < 16 := by omega
        rw [b_X12_laysBroad_29 _ _ _ _ _ _ L2]
        by_cases z2 : y ∈ B
        · have zz : decide (y ∈ B) = true := decide_eq_true z2
          simp (disch := first | assumption | omega | (simp only [ya_pi, ya_pj, ya_pa, ya_pr, yo_pi, yo_pj, yo_pa, yf_pi, yf_pj, yf_pa, yh_pi, yh_pj, yh_pa, yt_pi, yt_pj, yt_pa, la_pi, la_pj, la_pa]; assumption)) only [b_X12_laysBroad_0, b_X12_laysBroad_115, b_X12_laysBroad_26, b_X12_laysBroad_109, b_X12_laysBroad_48, b_X12_laysBroad_60, b_X12_laysBroad_69, b_X12_laysBroad_75, b_X12_laysBroad_72, i_lit, i_m1, i_31, il_t, il_f, iq_t, iq_f, it_t, it_f, im_e, im_l, im_g, im_g2, nI_add, pk_mul, i_sub, i_div, sdm, i_dec, i_cl, iv_t, bI_or2, bI_t0, bI_one, not_true_eq_false, not_false_eq_true, ↓reduceIte, am_tl, am_tn, am_t0, am_n0, and_true, true_and, List.cons_append, List.nil_append, List.append_nil, or_true, true_or, or_false, false_or, eq_self, ior0, iand0, im_e2, oI, x2, e0, c_rParentAt F2 (show x < 10 by omega) hj h44, hyy, c_isInI y16, zz]
          exact nx2 (B, some (v_i (nI y))) h2 ⟨fr2, m2, x2, by rw [eB2, ad_y z2]⟩
        · have zz : decide (y ∈ B) = false := decide_eq_false z2
          simp (disch := first | assumption | omega | (simp only [ya_pi, ya_pj, ya_pa, ya_pr, yo_pi, yo_pj, yo_pa, yf_pi, yf_pj, yf_pa, yh_pi, yh_pj, yh_pa, yt_pi, yt_pj, yt_pa, la_pi, la_pj, la_pa]; assumption)) only [b_X12_laysBroad_0, b_X12_laysBroad_115, b_X12_laysBroad_26, b_X12_laysBroad_109, b_X12_laysBroad_48, b_X12_laysBroad_60, b_X12_laysBroad_69, b_X12_laysBroad_75, b_X12_laysBroad_72, i_lit, i_m1, i_31, il_t, il_f, iq_t, iq_f, it_t, it_f, im_e, im_l, im_g, im_g2, nI_add, pk_mul, i_sub, i_div, sdm, i_dec, i_cl, iv_t, bI_or2, bI_t0, bI_one, not_true_eq_false, not_false_eq_true, ↓reduceIte, am_tl, am_tn, am_t0, am_n0, and_true, true_and, List.cons_append, List.nil_append, List.append_nil, or_true, true_or, or_false, false_or, eq_self, ior0, iand0, im_e2, oI, hi_s, hi_o, hi_k, hr_pi, hj_pi, hn_pi, hi_pas, hi_pao, hr_pa, hj_pa, x2, e0, c_rParentAt F2 (show x < 10 by omega) hj h44, hyy, c_isInI y16, zz, Bool.false_eq_true, e312, i_31, bmem_s]
          refine nx2 (B ++ [y], some (v_i (nI y))) _ ⟨(fr2.pi (by unfold r9; omega)).pi (by unfold r9; omega), ⟨by rw [hi_s, List.length_append]; rfl, fun j hj => ?_⟩, by rw [hi_o (by omega), hi_k (by omega), x2], by rw [eB2, ad_n z2]⟩
          have := ro_app (q := y) m2.2
          rw [Nat.zero_add] at this
          rw [hi_o (by omega)]
          exact this j hj
      · rintro ⟨B, l5⟩ h2 ⟨fr2, m2, x2, eB⟩
        dsimp only at m2 eB ⊢
        have F2 : rfa h2 f := rfa9 ok F fr2
        have L2 := F2.1
        have e0 := r_cnt F2 (show x < 10 by omega)
        rw [List.take_length] at eB
        rw [b_X12_laysBroad_29 _ _ _ _ _ _ L2]
        simp (disch := first | assumption | omega | (simp only [ya_pi, ya_pj, ya_pa, ya_pr, yo_pi, yo_pj, yo_pa, yf_pi, yf_pj, yf_pa, yh_pi, yh_pj, yh_pa, yt_pi, yt_pj, yt_pa, la_pi, la_pj, la_pa]; assumption)) only [b_X12_laysBroad_0, b_X12_laysBroad_115, b_X12_laysBroad_26, b_X12_laysBroad_109, b_X12_laysBroad_48, b_X12_laysBroad_60, b_X12_laysBroad_69, b_X12_laysBroad_75, b_X12_laysBroad_72, i_lit, i_m1, i_31, il_t, il_f, iq_t, iq_f, it_t, it_f, im_e, im_l, im_g, im_g2, nI_add, pk_mul, i_sub, i_div, sdm, i_dec, i_cl, iv_t, bI_or2, bI_t0, bI_one, not_true_eq_false, not_false_eq_true, ↓reduceIte, am_tl, am_tn, am_t0, am_n0, and_true, true_and, List.cons_append, List.nil_append, List.append_nil, or_true, true_or, or_false, false_or, eq_self, ior0, iand0, im_e2, oI, x2, e0]
        exact nx (B, _, _) h2 ⟨fr2, m2, by rw [eB]; exact o2, by rw [eB]; exact eA⟩
    · rw [if_neg z] at eA
      simp (disch := first | assumption | omega | (simp only [ya_pi, ya_pj, ya_pa, ya_pr, yo_pi, yo_pj, yo_pa, yf_pi, yf_pj, yf_pa, yh_pi, yh_pj, yh_pa, yt_pi, yt_pj, yt_pa, la_pi, la_pj, la_pa]; assumption)) only [b_X12_laysBroad_0, b_X12_laysBroad_115, b_X12_laysBroad_26, b_X12_laysBroad_109, b_X12_laysBroad_48, b_X12_laysBroad_60, b_X12_laysBroad_69, b_X12_laysBroad_75, b_X12_laysBroad_72, i_lit, i_m1, i_31, il_t, il_f, iq_t, iq_f, it_t, it_f, im_e, im_l, im_g, im_g2, nI_add, pk_mul, i_sub, i_div, sdm, i_dec, i_cl, iv_t, bI_or2, bI_t0, bI_one, not_true_eq_false, not_false_eq_true, ↓reduceIte, am_tl, am_tn, am_t0, am_n0, and_true, true_and, List.cons_append, List.nil_append, List.append_nil, or_true, true_or, or_false, false_or, eq_self, ior0, iand0, im_e2, oI, e31]
      exact k h' fr (eA ▸ m1)
  · rintro ⟨A, l4, l5⟩ h' ⟨fr, m1, o1, eA⟩
    dsimp only at m1 o1 eA ⊢
    have L1 : Lay h' := fr.lay L0
    have e31 := m1.1
    have lenA : A.length ≤ 10 := nd_len o1.1 (fun x hx => by have := up_lt ok (o1.2.1 x hx); omega)
    rw [b_X12_laysBroad_18 _ _ _ _ _ _ L1]
    simp (disch := first | assumption | omega | (simp only [ya_pi, ya_pj, ya_pa, ya_pr, yo_pi, yo_pj, yo_pa, yf_pi, yf_pj, yf_pa, yh_pi, yh_pj, yh_pa, yt_pi, yt_pj, yt_pa, la_pi, la_pj, la_pa]; assumption)) only [b_X12_laysBroad_0, b_X12_laysBroad_115, b_X12_laysBroad_26, b_X12_laysBroad_109, b_X12_laysBroad_48, b_X12_laysBroad_60, b_X12_laysBroad_69, b_X12_laysBroad_75, b_X12_laysBroad_72, i_lit, i_m1, i_31, il_t, il_f, iq_t, iq_f, it_t, it_f, im_e, im_l, im_g, im_g2, nI_add, pk_mul, i_sub, i_div, sdm, i_dec, i_cl, iv_t, bI_or2, bI_t0, bI_one, not_true_eq_false, not_false_eq_true, ↓reduceIte, am_tl, am_tn, am_t0, am_n0, and_true, true_and, List.cons_append, List.nil_append, List.append_nil, or_true, true_or, or_false, false_or, eq_self, ior0, iand0, im_e2, oI, e31]
    exact k h' fr (eA ▸ m1)
  · dsimp only at hj ⊢
    simp at hj
    subst hj
    rw [hi_o (by omega), Nat.add_zero, hi_s]
    rfl
theorem c_laysOld {d : Nat} {Q : Option am_V → am_H → Prop} {h : am_H} {f : fa_S} {c kd : Nat} (ok : fa_ok f) (F : rfa h f) (hc : c < f_n f) (hk : 1 ≤ kd ∧ kd ≤ 3) {l3 l4 l5 l6 : Option am_V} (k : ∀ h', am_fr h h' r9 → rol h' (oS (f_p f) kd c) → Q none h') : ex_ (d + 11) 325 0 [some (v_r (some 93)), some (v_i (nI c)), some (v_i (nI kd)), l3, l4, l5, l6] [] h Q := by
  have hn := ok.1
  have c10 : c < 10 := by omega
  have hp := fa_plt ok
  have L0 := F.1
  have F1 : rfa (p_i h 93 31 (nI 0)) f := p0_rfa ok F
  have L1 := F1.1
  have fr1 : am_fr h (p_i h 93 31 (nI 0)) r9 := am_fr_pi (by unfold r9; omega)
  have len : (df (f_p f) c).length ≤ 512 := by
    have h1 := df_len (fa_pok ok) (c + 1) c (by omega)
    have h2 : 2 ^ c ≤ 2 ^ 9 := Nat.pow_le_pow_right (by omega) (by omega)
    omega
  have xl : ∀ x ∈ df (f_p f) c, x < 10 := fun x hx => by
    have := up_lt ok ((df_mem hp (c + 1) c (by omega)).1 hx)
    omega
  have deep : ∀ (Q : Option am_V → am_H → Prop), (∀ h', am_fr h h' r9 → rol h' (df (f_p f) c) → Q none h') → ex_ (d + 10) 322 0 [some (v_r (some 93)), some (v_i (nI c)), none] [] (p_i h 93 31 (nI 0)) Q := by
    intro Q k
    have cc := c_goesDeep ok (c + 1) c (by omega) c10 (d := d + (9 - c)) (Q := Q) (A := []) (l2 := none) F1 ⟨hi_s, ro_nil⟩ (by rw [List.length_nil]; omega) (fun h' fr R => k h' (fr1.tr fr) R)
    rw [show d + (9 - c) + c + 1 = d + 10 from by omega] at cc
    exact cc
  rcases (show kd = 1 ∨ kd = 2 ∨ kd = 3 by omega) with rfl | rfl | rfl
  · rw [oS, if_pos rfl] at k
    simp (disch := first | assumption | omega | (simp only [ya_pi, ya_pj, ya_pa, ya_pr, yo_pi, yo_pj, yo_pa, yf_pi, yf_pj, yf_pa, yh_pi, yh_pj, yh_pa, yt_pi, yt_pj, yt_pa, la_pi, la_pj, la_pa]; assumption)) only [b_X12_laysOld_0, b_X12_laysOld_16, b_X12_laysOld_10, b_X12_laysOld_21, b_X12_laysOld_15, b_X12_laysOld_114, b_X12_laysOld_34, b_X12_laysOld_183, b_X12_laysOld_127, b_X12_laysOld_113, b_X12_laysOld_48, b_X12_laysOld_140, b_X12_laysOld_61, b_X12_laysOld_226, b_X12_laysOld_203, b_X12_laysOld_146, b_X12_laysOld_143, b_X12_laysOld_67, b_X12_laysOld_64, i_lit, i_m1, i_31, il_t, il_f, iq_t, iq_f, it_t, it_f, im_e, im_l, im_g, im_g2, nI_add, pk_mul, i_sub, i_div, sdm, i_dec, i_cl, iv_t, bI_or2, bI_t0, bI_one, not_true_eq_false, not_false_eq_true, ↓reduceIte, am_tl, am_tn, am_t0, am_n0, and_true, true_and, List.cons_append, List.nil_append, List.append_nil, or_true, true_or, or_false, false_or, eq_self, ior0, iand0, im_e2, oI]
    refine deep _ (fun h2 fr2 R2 => ?_)
    have L2 : Lay h2 := fr2.lay L0
    have e31 := R2.1
    generalize df (f_p f) c = l at k len xl R2 e31
    simp (disch := first | assumption | omega | (simp only [ya_pi, ya_pj, ya_pa, ya_pr, yo_pi, yo_pj, yo_pa, yf_pi, yf_pj, yf_pa, yh_pi, yh_pj, yh_pa, yt_pi, yt_pj, yt_pa, la_pi, la_pj, la_pa]; assumption)) only [b_X12_laysOld_0, b_X12_laysOld_16, b_X12_laysOld_10, b_X12_laysOld_21, b_X12_laysOld_15, b_X12_laysOld_114, b_X12_laysOld_34, b_X12_laysOld_183, b_X12_laysOld_127, b_X12_laysOld_113, b_X12_laysOld_48, b_X12_laysOld_140, b_X12_laysOld_61, b_X12_laysOld_226, b_X12_laysOld_203, b_X12_laysOld_146, b_X12_laysOld_143, b_X12_laysOld_67, b_X12_laysOld_64, i_lit, i_m1, i_31, il_t, il_f, iq_t, iq_f, it_t, it_f, im_e, im_l, im_g, im_g2, nI_add, pk_mul, i_sub, i_div, sdm, i_dec, i_cl, iv_t, bI_or2, bI_t0, bI_one, not_true_eq_false, not_false_eq_true, ↓reduceIte, am_tl, am_tn, am_t0, am_n0, and_true, true_and, List.cons_append, List.nil_append, List.append_nil, or_true, true_or, or_false, false_or, eq_self, ior0, iand0, im_e2, oI, e31]
    have st := lp_up (d := d + 11) (k := 325) (pc := 42) (Q := Q) l.length (fun i (s : List Nat) => [some (v_r (some 93)), some (v_i (nI c)), some (v_i (nI 1)), some (v_i (nI l.length)), some (v_i (nI (bs (fun k => decide (k ∈ s))))), some (v_i (nI i)), l6]) (fun i s h' => am_fr h h' r9 ∧ rol h' s ∧ s.length ≤ i ∧ (∀ j, i ≤ j → j < l.length → h_i h' 109 j = nI (l.getD j 0)) ∧ s = fad [] (l.take i)) ?_ ?_ (Nat.zero_le _) (s := []) (h := p_i h2 93 31 (nI 0)) ⟨fr2.pi (by unfold r9; omega), ⟨hi_s, ro_nil⟩, Nat.zero_le _, fun j _ hj => by
      have := R2.2 j hj
      rw [Nat.zero_add] at this
      rw [hi_o (by omega), this], rfl⟩
    · rw [bmem_0] at st
      exact st
    · rintro i B h3 hi ⟨fr3, R3, hB, e3, eB⟩ nx
      have L3 : Lay h3 := fr3.lay L0
      have e313 := R3.1
      have e4 := e3 i (Nat.le_refl _) hi
      have x1 := xl _ (gd_mem hi)
      have eB2 : fad [] (l.take (i + 1)) = ad B (l.getD i 0) := by rw [tk_s hi, fad_app, fad_one, ← eB]
      generalize l.getD i 0 = x at e4 x1 eB2
      have x16 : x < 16 := by omega
      rw [b_X12_laysOld_42 _ _ _ _ _ _ _ _]
      by_cases z : x ∈ B
      · have zz : decide (x ∈ B) = true := decide_eq_true z
        simp (disch := first | assumption | omega | (simp only [ya_pi, ya_pj, ya_pa, ya_pr, yo_pi, yo_pj, yo_pa, yf_pi, yf_pj, yf_pa, yh_pi, yh_pj, yh_pa, yt_pi, yt_pj, yt_pa, la_pi, la_pj, la_pa]; assumption)) only [b_X12_laysOld_0, b_X12_laysOld_16, b_X12_laysOld_10, b_X12_laysOld_21, b_X12_laysOld_15, b_X12_laysOld_114, b_X12_laysOld_34, b_X12_laysOld_183, b_X12_laysOld_127, b_X12_laysOld_113, b_X12_laysOld_48, b_X12_laysOld_140, b_X12_laysOld_61, b_X12_laysOld_226, b_X12_laysOld_203, b_X12_laysOld_146, b_X12_laysOld_143, b_X12_laysOld_67, b_X12_laysOld_64, i_lit, i_m1, i_31, il_t, il_f, iq_t, iq_f, it_t, it_f, im_e, im_l, im_g, im_g2, nI_add, pk_mul, i_sub, i_div, sdm, i_dec, i_cl, iv_t, bI_or2, bI_t0, bI_one, not_true_eq_false, not_false_eq_true, ↓reduceIte, am_tl, am_tn, am_t0, am_n0, and_true, true_and, List.cons_append, List.nil_append, List.append_nil, or_true, true_or, or_false, false_or, eq_self, ior0, iand0, im_e2, oI, e4, c_isInI x16, zz]
        exact nx B h3 ⟨fr3, R3, by omega, fun j h1 h2 => e3 j (by omega) h2, by rw [eB2, ad_y z]⟩
      · have zz : decide (x ∈ B) = false := decide_eq_false z
        simp (disch := first | assumption | omega | (simp only [ya_pi, ya_pj, ya_pa, ya_pr, yo_pi, yo_pj, yo_pa, yf_pi, yf_pj, yf_pa, yh_pi, yh_pj, yh_pa, yt_pi, yt_pj, yt_pa, la_pi, la_pj, la_pa]; assumption)) only [b_X12_laysOld_0, b_X12_laysOld_16, b_X12_laysOld_10, b_X12_laysOld_21, b_X12_laysOld_15, b_X12_laysOld_114, b_X12_laysOld_34, b_X12_laysOld_183, b_X12_laysOld_127, b_X12_laysOld_113, b_X12_laysOld_48, b_X12_laysOld_140, b_X12_laysOld_61, b_X12_laysOld_226, b_X12_laysOld_203, b_X12_laysOld_146, b_X12_laysOld_143, b_X12_laysOld_67, b_X12_laysOld_64, i_lit, i_m1, i_31, il_t, il_f, iq_t, iq_f, it_t, it_f, im_e, im_l, im_g, im_g2, nI_add, pk_mul, i_sub, i_div, sdm, i_dec, i_cl, iv_t, bI_or2, bI_t0, bI_one, not_true_eq_false, not_false_eq_true, ↓reduceIte, am_tl, am_tn, am_t0, am_n0, and_true, true_and, List.cons_append, List.nil_append, List.append_nil, or_true, true_or, or_false, false_or, eq_self, ior0, iand0, im_e2, oI, hi_s, hi_o, hi_k, hr_pi, hj_pi, hn_pi, hi_pas, hi_pao, hr_pa, hj_pa, e4, c_isInI x16, zz, Bool.false_eq_true, e313, i_31, bmem_s]
        refine nx (B ++ [x]) _ ⟨(fr3.pi (by unfold r9; omega)).pi (by unfold r9; omega), ⟨by rw [hi_s, List.length_append]; rfl, fun j hj => ?_⟩, by rw [List.length_append, List.length_singleton]; omega, fun j h1 h2 => by rw [hi_o (by omega), hi_k (by omega)]; exact e3 j (by omega) h2, by rw [eB2, ad_n z]⟩
        have := ro_app (q := x) R3.2
        rw [Nat.zero_add] at this
        rw [hi_o (by omega)]
        exact this j hj
    · rintro B h3 ⟨fr3, R3, hB, e3, eB⟩
      rw [List.take_length] at eB
      rw [b_X12_laysOld_42 _ _ _ _ _ _ _ _]
      simp (disch := first | assumption | omega | (simp only [ya_pi, ya_pj, ya_pa, ya_pr, yo_pi, yo_pj, yo_pa, yf_pi, yf_pj, yf_pa, yh_pi, yh_pj, yh_pa, yt_pi, yt_pj, yt_pa, la_pi, la_pj, la_pa]; assumption)) only [b_X12_laysOld_0, b_X12_laysOld_16, b_X12_laysOld_10, b_X12_laysOld_21, b_X12_laysOld_15, b_X12_laysOld_114, b_X12_laysOld_34, b_X12_laysOld_183, b_X12_laysOld_127, b_X12_laysOld_113, b_X12_laysOld_48, b_X12_laysOld_140, b_X12_laysOld_61, b_X12_laysOld_226, b_X12_laysOld_203, b_X12_laysOld_146, b_X12_laysOld_143, b_X12_laysOld_67, b_X12_laysOld_64, i_lit, i_m1, i_31, il_t, il_f, iq_t, iq_f, it_t, it_f, im_e, im_l, im_g, im_g2, nI_add, pk_mul, i_sub, i_div, sdm, i_dec, i_cl, iv_t, bI_or2, bI_t0, bI_one, not_true_eq_false, not_false_eq_true, ↓reduceIte, am_tl, am_tn, am_t0, am_n0, and_true, true_and, List.cons_append, List.nil_append, List.append_nil, or_true, true_or, or_false, false_or, eq_self, ior0, iand0, im_e2, oI]
      exact k h3 fr3 (show rol h3 (fad [] l) from eB ▸ R3)
  · rw [oS, if_neg (by omega), if_pos rfl] at k
    simp (disch := first | assumption | omega | (simp only [ya_pi, ya_pj, ya_pa, ya_pr, yo_pi, yo_pj, yo_pa, yf_pi, yf_pj, yf_pa, yh_pi, yh_pj, yh_pa, yt_pi, yt_pj, yt_pa, la_pi, la_pj, la_pa]; assumption)) only [b_X12_laysOld_0, b_X12_laysOld_16, b_X12_laysOld_10, b_X12_laysOld_21, b_X12_laysOld_15, b_X12_laysOld_114, b_X12_laysOld_34, b_X12_laysOld_183, b_X12_laysOld_127, b_X12_laysOld_113, b_X12_laysOld_48, b_X12_laysOld_140, b_X12_laysOld_61, b_X12_laysOld_226, b_X12_laysOld_203, b_X12_laysOld_146, b_X12_laysOld_143, b_X12_laysOld_67, b_X12_laysOld_64, i_lit, i_m1, i_31, il_t, il_f, iq_t, iq_f, it_t, it_f, im_e, im_l, im_g, im_g2, nI_add, pk_mul, i_sub, i_div, sdm, i_dec, i_cl, iv_t, bI_or2, bI_t0, bI_one, not_true_eq_false, not_false_eq_true, ↓reduceIte, am_tl, am_tn, am_t0, am_n0, and_true, true_and, List.cons_append, List.nil_append, List.append_nil, or_true, true_or, or_false, false_or, eq_self, ior0, iand0, im_e2, oI]
    refine deep _ (fun h2 fr2 R2 => ?_)
    have L2 : Lay h2 := fr2.lay L0
    have e31 := R2.1
    generalize df (f_p f) c = l at k len xl R2 e31
    simp (disch := first | assumption | omega | (simp only [ya_pi, ya_pj, ya_pa, ya_pr, yo_pi, yo_pj, yo_pa, yf_pi, yf_pj, yf_pa, yh_pi, yh_pj, yh_pa, yt_pi, yt_pj, yt_pa, la_pi, la_pj, la_pa]; assumption)) only [b_X12_laysOld_0, b_X12_laysOld_16, b_X12_laysOld_10, b_X12_laysOld_21, b_X12_laysOld_15, b_X12_laysOld_114, b_X12_laysOld_34, b_X12_laysOld_183, b_X12_laysOld_127, b_X12_laysOld_113, b_X12_laysOld_48, b_X12_laysOld_140, b_X12_laysOld_61, b_X12_laysOld_226, b_X12_laysOld_203, b_X12_laysOld_146, b_X12_laysOld_143, b_X12_laysOld_67, b_X12_laysOld_64, i_lit, i_m1, i_31, il_t, il_f, iq_t, iq_f, it_t, it_f, im_e, im_l, im_g, im_g2, nI_add, pk_mul, i_sub, i_div, sdm, i_dec, i_cl, iv_t, bI_or2, bI_t0, bI_one, not_true_eq_false, not_false_eq_true, ↓reduceIte, am_tl, am_tn, am_t0, am_n0, and_true, true_and, List.cons_append, List.nil_append, List.append_nil, or_true, true_or, or_false, false_or, eq_self, ior0, iand0, im_e2, oI, e31, lfL_0]
    have st := lp_up (d := d + 11) (k := 325) (pc := 122) (Q := Q) l.length (fun i (s : List Nat) => [some (v_r (some 93)), some (v_i (nI c)), some (v_i (nI 2)), some (v_i (nI l.length)), some (v_i (nI (bs (fun k => decide (k ∈ s))))), some (v_i (nI (l.length - s.length))), some (v_i (lfL l.length i))]) (fun i s h' => am_fr h h' r9 ∧ s.length ≤ i ∧ ro h' 109 (l.length - s.length) s.reverse ∧ (∀ j, j < l.length - i → h_i h' 109 j = nI (l.getD j 0)) ∧ s = fad [] (l.reverse.take i)) ?_ ?_ (Nat.zero_le _) (s := []) (h := h2) ⟨fr2, Nat.zero_le _, ro_nil, fun j hj => by
      have := R2.2 j (by omega)
      rw [Nat.zero_add] at this
      exact this, rfl⟩
    · rw [bmem_0] at st
      exact st
    · rintro i B h3 hi ⟨fr3, hB, R3, e3, eB⟩ nx
      have L3 : Lay h3 := fr3.lay L0
      have e4 := e3 (l.length - 1 - i) (by omega)
      have x1 := xl _ (gd_mem (show l.length - 1 - i < l.length by omega))
      have eB2 : fad [] (l.reverse.take (i + 1)) = ad B (l.getD (l.length - 1 - i) 0) := by rw [tk_s (by rw [List.length_reverse]; exact hi), fad_app, fad_one, ← eB, gd_rev hi]
      generalize l.getD (l.length - 1 - i) 0 = x at e4 x1 eB2
      have x16 : x < 16 := by omega
      rw [b_X12_laysOld_122 _ _ _ _ _ _ _ _, lfL_y hi]
      by_cases z : x ∈ B
      · have zz : decide (x ∈ B) = true := decide_eq_true z
        simp (disch := first | assumption | omega | (simp only [ya_pi, ya_pj, ya_pa, ya_pr, yo_pi, yo_pj, yo_pa, yf_pi, yf_pj, yf_pa, yh_pi, yh_pj, yh_pa, yt_pi, yt_pj, yt_pa, la_pi, la_pj, la_pa]; assumption)) only [b_X12_laysOld_0, b_X12_laysOld_16, b_X12_laysOld_10, b_X12_laysOld_21, b_X12_laysOld_15, b_X12_laysOld_114, b_X12_laysOld_34, b_X12_laysOld_183, b_X12_laysOld_127, b_X12_laysOld_113, b_X12_laysOld_48, b_X12_laysOld_140, b_X12_laysOld_61, b_X12_laysOld_226, b_X12_laysOld_203, b_X12_laysOld_146, b_X12_laysOld_143, b_X12_laysOld_67, b_X12_laysOld_64, i_lit, i_m1, i_31, il_t, il_f, iq_t, iq_f, it_t, it_f, im_e, im_l, im_g, im_g2, nI_add, pk_mul, i_sub, i_div, sdm, i_dec, i_cl, iv_t, bI_or2, bI_t0, bI_one, not_true_eq_false, not_false_eq_true, ↓reduceIte, am_tl, am_tn, am_t0, am_n0, and_true, true_and, List.cons_append, List.nil_append, List.append_nil, or_true, true_or, or_false, false_or, eq_self, ior0, iand0, im_e2, oI, e4, c_isInI x16, zz, lfL_s hi]
        exact nx B h3 ⟨fr3, by omega, R3, fun j h1 => e3 j (by omega), by rw [eB2, ad_y z]⟩
      · have zz : decide (x ∈ B) = false := decide_eq_false z
        simp (disch := first | assumption | omega | (simp only [ya_pi, ya_pj, ya_pa, ya_pr, yo_pi, yo_pj, yo_pa, yf_pi, yf_pj, yf_pa, yh_pi, yh_pj, yh_pa, yt_pi, yt_pj, yt_pa, la_pi, la_pj, la_pa]; assumption)) only [b_X12_laysOld_0, b_X12_laysOld_16, b_X12_laysOld_10, b_X12_laysOld_21, b_X12_laysOld_15, b_X12_laysOld_114, b_X12_laysOld_34, b_X12_laysOld_183, b_X12_laysOld_127, b_X12_laysOld_113, b_X12_laysOld_48, b_X12_laysOld_140, b_X12_laysOld_61, b_X12_laysOld_226, b_X12_laysOld_203, b_X12_laysOld_146, b_X12_laysOld_143, b_X12_laysOld_67, b_X12_laysOld_64, i_lit, i_m1, i_31, il_t, il_f, iq_t, iq_f, it_t, it_f, im_e, im_l, im_g, im_g2, nI_add, pk_mul, i_sub, i_div, sdm, i_dec, i_cl, iv_t, bI_or2, bI_t0, bI_one, not_true_eq_false, not_false_eq_true, ↓reduceIte, am_tl, am_tn, am_t0, am_n0, and_true, true_and, List.cons_append, List.nil_append, List.append_nil, or_true, true_or, or_false, false_or, eq_self, ior0, iand0, im_e2, oI, hi_s, hi_o, hi_k, hr_pi, hj_pi, hn_pi, hi_pas, hi_pao, hr_pa, hj_pa, e4, c_isInI x16, zz, Bool.false_eq_true, i_31, bmem_s, lfL_s hi]
        have nxt := nx (B ++ [x]) (p_i h3 109 (l.length - B.length - 1) (nI x)) ⟨fr3.pi (by unfold r9; omega), by rw [List.length_append, List.length_singleton]; omega, ?_, fun j h1 => by rw [hi_k (by omega)]; exact e3 j (by omega), by rw [eB2, ad_n z]⟩
        · rw [List.length_append, List.length_singleton, ← Nat.sub_sub] at nxt
          exact nxt
        · rw [List.length_append, List.length_singleton, List.reverse_append, ← Nat.sub_sub]
          intro j hj
          cases j with
          | zero =>
            rw [Nat.add_zero, hi_s]
            rfl
          | succ j =>
            rw [hi_k (by omega)]
            have := R3 j (by simp at hj ⊢; omega)
            rw [show l.length - B.length - 1 + (j + 1) = l.length - B.length + j from by omega, this]
            rfl
    · rintro B h3 ⟨fr3, hB, R3, e3, eB⟩
      have L3 : Lay h3 := fr3.lay L0
      have er : l.reverse.take l.length = l.reverse := by rw [← List.length_reverse, List.take_length]
      rw [er] at eB
      rw [d2, ← eB] at k
      have rl : B.reverse.length = B.length := List.length_reverse
      have es : l.length - (l.length - B.length) = B.length := by omega
      rw [b_X12_laysOld_122 _ _ _ _ _ _ _ _, lfL_e]
      simp (disch := first | assumption | omega | (simp only [ya_pi, ya_pj, ya_pa, ya_pr, yo_pi, yo_pj, yo_pa, yf_pi, yf_pj, yf_pa, yh_pi, yh_pj, yh_pa, yt_pi, yt_pj, yt_pa, la_pi, la_pj, la_pa]; assumption)) only [b_X12_laysOld_0, b_X12_laysOld_16, b_X12_laysOld_10, b_X12_laysOld_21, b_X12_laysOld_15, b_X12_laysOld_114, b_X12_laysOld_34, b_X12_laysOld_183, b_X12_laysOld_127, b_X12_laysOld_113, b_X12_laysOld_48, b_X12_laysOld_140, b_X12_laysOld_61, b_X12_laysOld_226, b_X12_laysOld_203, b_X12_laysOld_146, b_X12_laysOld_143, b_X12_laysOld_67, b_X12_laysOld_64, i_lit, i_m1, i_31, il_t, il_f, iq_t, iq_f, it_t, it_f, im_e, im_l, im_g, im_g2, nI_add, pk_mul, i_sub, i_div, sdm, i_dec, i_cl, iv_t, bI_or2, bI_t0, bI_one, not_true_eq_false, not_false_eq_true, ↓reduceIte, am_tl, am_tn, am_t0, am_n0, and_true, true_and, List.cons_append, List.nil_append, List.append_nil, or_true, true_or, or_false, false_or, eq_self, ior0, iand0, im_e2, oI, mI_lt0, es]
      refine lp_up B.length (fun i (_ : Unit) => [some (v_r (some 93)), some (v_i (nI c)), some (v_i (nI 2)), some (v_i (nI l.length)), some (v_i (nI (bs (fun k => decide (k ∈ B))))), some (v_i (nI (l.length - B.length))), some (v_i (nI i))]) (fun i _ h' => am_fr h h' r9 ∧ h_i h' 93 31 = nI B.length ∧ (∀ j, j < i → h_i h' 109 (0 + j) = nI (B.reverse.getD j 0)) ∧ ∀ j, i ≤ j → j < B.length → h_i h' 109 (l.length - B.length + j) = nI (B.reverse.getD j 0)) ?_ ?_ (Nat.zero_le _) (s := ()) ⟨fr3.pi (by unfold r9; omega), hi_s, fun j hj => absurd hj (Nat.not_lt_zero _), fun j _ hj => by rw [hi_o (by omega)]; exact R3 j (by omega)⟩
      · rintro i - h4 hi ⟨fr4, e5, e6, e7⟩ nx
        have L4 : Lay h4 := fr4.lay L0
        have e8 := e7 i (Nat.le_refl _) hi
        rw [b_X12_laysOld_194 _ _ _ _ _ _ _ L4]
        simp (disch := first | assumption | omega | (simp only [ya_pi, ya_pj, ya_pa, ya_pr, yo_pi, yo_pj, yo_pa, yf_pi, yf_pj, yf_pa, yh_pi, yh_pj, yh_pa, yt_pi, yt_pj, yt_pa, la_pi, la_pj, la_pa]; assumption)) only [b_X12_laysOld_0, b_X12_laysOld_16, b_X12_laysOld_10, b_X12_laysOld_21, b_X12_laysOld_15, b_X12_laysOld_114, b_X12_laysOld_34, b_X12_laysOld_183, b_X12_laysOld_127, b_X12_laysOld_113, b_X12_laysOld_48, b_X12_laysOld_140, b_X12_laysOld_61, b_X12_laysOld_226, b_X12_laysOld_203, b_X12_laysOld_146, b_X12_laysOld_143, b_X12_laysOld_67, b_X12_laysOld_64, i_lit, i_m1, i_31, il_t, il_f, iq_t, iq_f, it_t, it_f, im_e, im_l, im_g, im_g2, nI_add, pk_mul, i_sub, i_div, sdm, i_dec, i_cl, iv_t, bI_or2, bI_t0, bI_one, not_true_eq_false, not_false_eq_true, ↓reduceIte, am_tl, am_tn, am_t0, am_n0, and_true, true_and, List.cons_append, List.nil_append, List.append_nil, or_true, true_or, or_false, false_or, eq_self, ior0, iand0, im_e2, oI, e5, e8]
        refine nx () _ ⟨fr4.pi (by unfold r9; omega), by rw [hi_o (by omega), e5], fun j hj => ?_, fun j h1 h2 => by rw [hi_k (by omega)]; exact e7 j (by omega) h2⟩
        by_cases z : j = i
        · rw [z, Nat.zero_add, hi_s]
        · rw [hi_k (by omega)]
          exact e6 j (by omega)
      · rintro - h4 ⟨fr4, e5, e6, e7⟩
        have L4 : Lay h4 := fr4.lay L0
        rw [b_X12_laysOld_194 _ _ _ _ _ _ _ L4]
        simp (disch := first | assumption | omega | (simp only [ya_pi, ya_pj, ya_pa, ya_pr, yo_pi, yo_pj, yo_pa, yf_pi, yf_pj, yf_pa, yh_pi, yh_pj, yh_pa, yt_pi, yt_pj, yt_pa, la_pi, la_pj, la_pa]; assumption)) only [b_X12_laysOld_0, b_X12_laysOld_16, b_X12_laysOld_10, b_X12_laysOld_21, b_X12_laysOld_15, b_X12_laysOld_114, b_X12_laysOld_34, b_X12_laysOld_183, b_X12_laysOld_127, b_X12_laysOld_113, b_X12_laysOld_48, b_X12_laysOld_140, b_X12_laysOld_61, b_X12_laysOld_226, b_X12_laysOld_203, b_X12_laysOld_146, b_X12_laysOld_143, b_X12_laysOld_67, b_X12_laysOld_64, i_lit, i_m1, i_31, il_t, il_f, iq_t, iq_f, it_t, it_f, im_e, im_l, im_g, im_g2, nI_add, pk_mul, i_sub, i_div, sdm, i_dec, i_cl, iv_t, bI_or2, bI_t0, bI_one, not_true_eq_false, not_false_eq_true, ↓reduceIte, am_tl, am_tn, am_t0, am_n0, and_true, true_and, List.cons_append, List.nil_append, List.append_nil, or_true, true_or, or_false, false_or, eq_self, ior0, iand0, im_e2, oI, e5]
        exact k h4 fr4 ⟨by rw [e5, rl], fun j hj => e6 j (by omega)⟩
  · rw [oS, if_neg (by omega), if_neg (by omega)] at k
    simp (disch := first | assumption | omega | (simp only [ya_pi, ya_pj, ya_pa, ya_pr, yo_pi, yo_pj, yo_pa, yf_pi, yf_pj, yf_pa, yh_pi, yh_pj, yh_pa, yt_pi, yt_pj, yt_pa, la_pi, la_pj, la_pa]; assumption)) only [b_X12_laysOld_0, b_X12_laysOld_16, b_X12_laysOld_10, b_X12_laysOld_21, b_X12_laysOld_15, b_X12_laysOld_114, b_X12_laysOld_34, b_X12_laysOld_183, b_X12_laysOld_127, b_X12_laysOld_113, b_X12_laysOld_48, b_X12_laysOld_140, b_X12_laysOld_61, b_X12_laysOld_226, b_X12_laysOld_203, b_X12_laysOld_146, b_X12_laysOld_143, b_X12_laysOld_67, b_X12_laysOld_64, i_lit, i_m1, i_31, il_t, il_f, iq_t, iq_f, it_t, it_f, im_e, im_l, im_g, im_g2, nI_add, pk_mul, i_sub, i_div, sdm, i_dec, i_cl, iv_t, bI_or2, bI_t0, bI_one, not_true_eq_false, not_false_eq_true, ↓reduceIte, am_tl, am_tn, am_t0, am_n0, and_true, true_and, List.cons_append, List.nil_append, List.append_nil, or_true, true_or, or_false, false_or, eq_self, ior0, iand0, im_e2, oI]
    refine c_laysBroad ok F1 hc (fun h2 fr2 R2 => ?_)
    simp (disch := first | assumption | omega | (simp only [ya_pi, ya_pj, ya_pa, ya_pr, yo_pi, yo_pj, yo_pa, yf_pi, yf_pj, yf_pa, yh_pi, yh_pj, yh_pa, yt_pi, yt_pj, yt_pa, la_pi, la_pj, la_pa]; assumption)) only [b_X12_laysOld_0, b_X12_laysOld_16, b_X12_laysOld_10, b_X12_laysOld_21, b_X12_laysOld_15, b_X12_laysOld_114, b_X12_laysOld_34, b_X12_laysOld_183, b_X12_laysOld_127, b_X12_laysOld_113, b_X12_laysOld_48, b_X12_laysOld_140, b_X12_laysOld_61, b_X12_laysOld_226, b_X12_laysOld_203, b_X12_laysOld_146, b_X12_laysOld_143, b_X12_laysOld_67, b_X12_laysOld_64, i_lit, i_m1, i_31, il_t, il_f, iq_t, iq_f, it_t, it_f, im_e, im_l, im_g, im_g2, nI_add, pk_mul, i_sub, i_div, sdm, i_dec, i_cl, iv_t, bI_or2, bI_t0, bI_one, not_true_eq_false, not_false_eq_true, ↓reduceIte, am_tl, am_tn, am_t0, am_n0, and_true, true_and, List.cons_append, List.nil_append, List.append_nil, or_true, true_or, or_false, false_or, eq_self, ior0, iand0, im_e2, oI]
    exact k h2 (fr1.tr fr2) R2
