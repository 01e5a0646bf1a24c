/-! ===== rings: the class ===== -/
def ds (h : am_H) (t : Nat → Nat → Nat) : Prop := ∀ a b, a < 10 → b < 10 → h_i h 44 (a * 10 + b) = nI (t a b)
theorem c_isDemanded {d : Nat} {Q : Option am_V → am_H → Prop} {h : am_H} {D : Nat → Nat → Bool} (L0 : Lay h) (R : dr h D) {a b : Nat} (ha : a < 10) (hb : b < 10) : ex_ (d + 1) 13 0 [some (v_r (some 41)), some (v_i (nI a)), some (v_i (nI b))] [] h Q ↔ Q (some (v_i (nI (if D a b = true then 1 else 0)))) h := by
  have e := R.1 a ha
  cases z : D a b with
  | true => simp (disch := first | assumption | omega | (simp only [ya_pi, ya_pj, ya_pa, ya_pr, yo_pi, yo_pj, yo_pa, yf_pi, yf_pj, yf_pa, yh_pi, yh_pj, yh_pa, yt_pi, yt_pj, yt_pa, la_pi, la_pj, la_pa]; assumption)) only [b_X0_isDemanded_0, b_X0_isDemanded_4, b_X0_isDemanded_31, b_X0_isDemanded_7, b_X0_isDemanded_11, b_X0_isDemanded_14, b_X0_isDemanded_27, i_lit, i_m1, i_31, il_t, il_f, iq_t, iq_f, it_t, it_f, im_e, im_l, im_g, im_g2, nI_add, pk_mul, i_sub, i_div, sdm, i_dec, i_cl, iv_t, bI_or2, bI_t0, bI_one, not_true_eq_false, not_false_eq_true, ↓reduceIte, am_tl, am_tn, am_t0, am_n0, and_true, true_and, List.cons_append, List.nil_append, List.append_nil, or_true, true_or, or_false, false_or, eq_self, ior0, iand0, im_e2, oI, c_isMember ha, c_isMember hb, e, i_31, z, Bool.true_eq_false]
  | false => simp (disch := first | assumption | omega | (simp only [ya_pi, ya_pj, ya_pa, ya_pr, yo_pi, yo_pj, yo_pa, yf_pi, yf_pj, yf_pa, yh_pi, yh_pj, yh_pa, yt_pi, yt_pj, yt_pa, la_pi, la_pj, la_pa]; assumption)) only [b_X0_isDemanded_0, b_X0_isDemanded_4, b_X0_isDemanded_31, b_X0_isDemanded_7, b_X0_isDemanded_11, b_X0_isDemanded_14, b_X0_isDemanded_27, i_lit, i_m1, i_31, il_t, il_f, iq_t, iq_f, it_t, it_f, im_e, im_l, im_g, im_g2, nI_add, pk_mul, i_sub, i_div, sdm, i_dec, i_cl, iv_t, bI_or2, bI_t0, bI_one, not_true_eq_false, not_false_eq_true, ↓reduceIte, am_tl, am_tn, am_t0, am_n0, and_true, true_and, List.cons_append, List.nil_append, List.append_nil, or_true, true_or, or_false, false_or, eq_self, ior0, iand0, im_e2, oI, c_isMember ha, c_isMember hb, e, i_31, z, Bool.false_eq_true]
theorem c_distance {d : Nat} {Q : Option am_V → am_H → Prop} {h : am_H} {t : Nat → Nat → Nat} (L0 : Lay h) (R : ds h t) {a b : Nat} (ha : a < 10) (hb : b < 10) : ex_ (d + 1) 18 0 [some (v_r (some 41)), some (v_i (nI a)), some (v_i (nI b))] [] h Q ↔ Q (some (v_i (nI (t a b)))) h := by
  have e := R a b ha hb
  simp (disch := first | assumption | omega | (simp only [ya_pi, ya_pj, ya_pa, ya_pr, yo_pi, yo_pj, yo_pa, yf_pi, yf_pj, yf_pa, yh_pi, yh_pj, yh_pa, yt_pi, yt_pj, yt_pa, la_pi, la_pj, la_pa]; assumption)) only [b_X0_distance_0, b_X0_distance_4, b_X0_distance_28, b_X0_distance_7, b_X0_distance_11, b_X0_distance_14, i_lit, i_m1, i_31, il_t, il_f, iq_t, iq_f, it_t, it_f, im_e, im_l, im_g, im_g2, nI_add, pk_mul, i_sub, i_div, sdm, i_dec, i_cl, iv_t, bI_or2, bI_t0, bI_one, not_true_eq_false, not_false_eq_true, ↓reduceIte, am_tl, am_tn, am_t0, am_n0, and_true, true_and, List.cons_append, List.nil_append, List.append_nil, or_true, true_or, or_false, false_or, eq_self, ior0, iand0, im_e2, oI, c_isMember ha, c_isMember hb, e]
def d4 (a k : Nat) : Prop := a = 44
theorem dr.fr {h h' : am_H} {P : Nat → Nat → Prop} {D : Nat → Nat → Bool} (R : dr h D) (fr : am_fr h h' P) (h1 : ∀ k, ¬ P 42 k) (h2 : ∀ k, ¬ P 43 k) : dr h' D := ⟨fun a ha => by rw [fr.i (h1 _), R.1 a ha], fun a ha => by rw [fr.i (h2 _), R.2 a ha]⟩
theorem ds_up {h : am_H} {t : Nat → Nat → Nat} (R : ds h t) {a b : Nat} (ha : a < 10) (hb : b < 10) {v : Nat} : ds (p_i h 44 (a * 10 + b) (nI v)) (fun x y => if x = a ∧ y = b then v else t x y) := fun x y hx hy => by
  by_cases z : x = a ∧ y = b
  · dsimp only
    rw [if_pos z, z.1, z.2, hi_s]
  · dsimp only
    rw [if_neg z, hi_k (by omega)]
    exact R x y hx hy
theorem c_measure {d : Nat} {Q : Option am_V → am_H → Prop} {h : am_H} {D : Nat → Nat → Bool} (L0 : Lay h) (R : dr h D) {l1 l2 l3 l4 : Option am_V} (k : ∀ h' t, am_fr h h' d4 → dgd D t → ds h' t → Q none h') : ex_ (d + 2) 19 0 [some (v_r (some 41)), l1, l2, l3, l4] [] h Q := by
  rw [b_X0_measure_0 _ _ _ _ _ _]
  refine lp_up 10 (fun i (s : Option am_V × Option am_V × Option am_V) => [some (v_r (some 41)), some (v_i (nI i)), s.1, s.2.1, s.2.2]) (fun i _ h' => am_fr h h' d4 ∧ ∀ a b, a < i → b < 10 → h_i h' 44 (a * 10 + b) = nI (t_0 D a b)) ?_ ?_ (Nat.zero_le _) ⟨am_fr.rf, fun a b ha => absurd ha (Nat.not_lt_zero _)⟩ (s := (l2, l3, l4))
  · rintro i ⟨l2, l3, l4⟩ h' hi ⟨fr, e⟩ nx
    dsimp only
    rw [b_X0_measure_2 _ _ _ _ _ _]
    simp (disch := first | assumption | omega | (simp only [ya_pi, ya_pj, ya_pa, ya_pr, yo_pi, yo_pj, yo_pa, yf_pi, yf_pj, yf_pa, yh_pi, yh_pj, yh_pa, yt_pi, yt_pj, yt_pa, la_pi, la_pj, la_pa]; assumption)) only [b_X0_measure_0, b_X0_measure_54, b_X0_measure_8, b_X0_measure_133, b_X0_measure_62, b_X0_measure_48, b_X0_measure_16, b_X0_measure_32, b_X0_measure_127, b_X0_measure_70, b_X0_measure_39, b_X0_measure_35, b_X0_measure_121, b_X0_measure_78, b_X0_measure_84, b_X0_measure_90, b_X0_measure_109, i_lit, i_m1, i_31, il_t, il_f, iq_t, iq_f, it_t, it_f, im_e, im_l, im_g, im_g2, nI_add, pk_mul, i_sub, i_div, sdm, i_dec, i_cl, iv_t, bI_or2, bI_t0, bI_one, not_true_eq_false, not_false_eq_true, ↓reduceIte, am_tl, am_tn, am_t0, am_n0, and_true, true_and, List.cons_append, List.nil_append, List.append_nil, or_true, true_or, or_false, false_or, eq_self, ior0, iand0, im_e2, oI]
    refine lp_up 10 (fun j (_ : Unit) => [some (v_r (some 41)), some (v_i (nI i)), some (v_i (nI j)), l3, l4]) (fun j _ h2 => am_fr h h2 d4 ∧ (∀ a b, a < i → b < 10 → h_i h2 44 (a * 10 + b) = nI (t_0 D a b)) ∧ ∀ b, b < j → h_i h2 44 (i * 10 + b) = nI (t_0 D i b)) ?_ ?_ (Nat.zero_le _) ⟨fr, e, fun b hb => absurd hb (Nat.not_lt_zero _)⟩ (s := ())
    · rintro j - h2 hj ⟨fr2, e2, e3⟩ nx2
      have L2 : Lay h2 := fr2.lay L0
      have R2 : dr h2 D := R.fr fr2 (fun k => by unfold d4; omega) (fun k => by unfold d4; omega)
      have A2 : y_arr h2 44 20 100 := la_y L2 rfl
      have fin : ∀ v, v = t_0 D i j → ex_ (d + 2) 19 10 [some (v_r (some 41)), some (v_i (nI i)), some (v_i (nI (j + 1))), l3, l4] [] (p_i h2 44 (i * 10 + j) (nI v)) Q := by
        rintro v rfl
        refine nx2 () _ ⟨fr2.pi rfl, fun a b ha hb => by rw [hi_k (by omega)]; exact e2 a b ha hb, fun b hb => ?_⟩
        by_cases z : b = j
        · rw [z, hi_s]
        · rw [hi_k (by omega)]
          exact e3 b (by omega)
      rw [b_X0_measure_10 _ _ _ _ _ _]
      cases z : D i j with
      | true =>
        simp (disch := first | assumption | omega | (simp only [ya_pi, ya_pj, ya_pa, ya_pr, yo_pi, yo_pj, yo_pa, yf_pi, yf_pj, yf_pa, yh_pi, yh_pj, yh_pa, yt_pi, yt_pj, yt_pa, la_pi, la_pj, la_pa]; assumption)) only [b_X0_measure_0, b_X0_measure_54, b_X0_measure_8, b_X0_measure_133, b_X0_measure_62, b_X0_measure_48, b_X0_measure_16, b_X0_measure_32, b_X0_measure_127, b_X0_measure_70, b_X0_measure_39, b_X0_measure_35, b_X0_measure_121, b_X0_measure_78, b_X0_measure_84, b_X0_measure_90, b_X0_measure_109, i_lit, i_m1, i_31, il_t, il_f, iq_t, iq_f, it_t, it_f, im_e, im_l, im_g, im_g2, nI_add, pk_mul, i_sub, i_div, sdm, i_dec, i_cl, iv_t, bI_or2, bI_t0, bI_one, not_true_eq_false, not_false_eq_true, ↓reduceIte, am_tl, am_tn, am_t0, am_n0, and_true, true_and, List.cons_append, List.nil_append, List.append_nil, or_true, true_or, or_false, false_or, eq_self, ior0, iand0, im_e2, oI, c_isDemanded L2 R2 hi hj, z]
        exact fin 1 (by rw [t_0, if_pos z])
      | false =>
        simp (disch := first | assumption | omega | (simp only [ya_pi, ya_pj, ya_pa, ya_pr, yo_pi, yo_pj, yo_pa, yf_pi, yf_pj, yf_pa, yh_pi, yh_pj, yh_pa, yt_pi, yt_pj, yt_pa, la_pi, la_pj, la_pa]; assumption)) only [b_X0_measure_0, b_X0_measure_54, b_X0_measure_8, b_X0_measure_133, b_X0_measure_62, b_X0_measure_48, b_X0_measure_16, b_X0_measure_32, b_X0_measure_127, b_X0_measure_70, b_X0_measure_39, b_X0_measure_35, b_X0_measure_121, b_X0_measure_78, b_X0_measure_84, b_X0_measure_90, b_X0_measure_109, i_lit, i_m1, i_31, il_t, il_f, iq_t, iq_f, it_t, it_f, im_e, im_l, im_g, im_g2, nI_add, pk_mul, i_sub, i_div, sdm, i_dec, i_cl, iv_t, bI_or2, bI_t0, bI_one, not_true_eq_false, not_false_eq_true, ↓reduceIte, am_tl, am_tn, am_t0, am_n0, and_true, true_and, List.cons_append, List.nil_append, List.append_nil, or_true, true_or, or_false, false_or, eq_self, ior0, iand0, im_e2, oI, c_isDemanded L2 R2 hi hj, z, Bool.false_eq_true]
        exact fin 100 (by rw [t_0, if_neg (by rw [z]; decide)])
    · rintro - h2 ⟨fr2, e2, e3⟩
      rw [b_X0_measure_10 _ _ _ _ _ _]
      simp (disch := first | assumption | omega | (simp only [ya_pi, ya_pj, ya_pa, ya_pr, yo_pi, yo_pj, yo_pa, yf_pi, yf_pj, yf_pa, yh_pi, yh_pj, yh_pa, yt_pi, yt_pj, yt_pa, la_pi, la_pj, la_pa]; assumption)) only [b_X0_measure_0, b_X0_measure_54, b_X0_measure_8, b_X0_measure_133, b_X0_measure_62, b_X0_measure_48, b_X0_measure_16, b_X0_measure_32, b_X0_measure_127, b_X0_measure_70, b_X0_measure_39, b_X0_measure_35, b_X0_measure_121, b_X0_measure_78, b_X0_measure_84, b_X0_measure_90, b_X0_measure_109, i_lit, i_m1, i_31, il_t, il_f, iq_t, iq_f, it_t, it_f, im_e, im_l, im_g, im_g2, nI_add, pk_mul, i_sub, i_div, sdm, i_dec, i_cl, iv_t, bI_or2, bI_t0, bI_one, not_true_eq_false, not_false_eq_true, ↓reduceIte, am_tl, am_tn, am_t0, am_n0, and_true, true_and, List.cons_append, List.nil_append, List.append_nil, or_true, true_or, or_false, false_or, eq_self, ior0, iand0, im_e2, oI]
      refine nx (_, _, _) h2 ⟨fr2, fun a b ha hb => ?_⟩
      by_cases z : a = i
      · rw [z]
        exact e3 b hb
      · exact e2 a b (by omega) hb
  rintro ⟨l2, l3, l4⟩ h1 ⟨fr1, e1⟩
  dsimp only
  rw [b_X0_measure_2 _ _ _ _ _ _]
  simp (disch := first | assumption | omega | (simp only [ya_pi, ya_pj, ya_pa, ya_pr, yo_pi, yo_pj, yo_pa, yf_pi, yf_pj, yf_pa, yh_pi, yh_pj, yh_pa, yt_pi, yt_pj, yt_pa, la_pi, la_pj, la_pa]; assumption)) only [b_X0_measure_0, b_X0_measure_54, b_X0_measure_8, b_X0_measure_133, b_X0_measure_62, b_X0_measure_48, b_X0_measure_16, b_X0_measure_32, b_X0_measure_127, b_X0_measure_70, b_X0_measure_39, b_X0_measure_35, b_X0_measure_121, b_X0_measure_78, b_X0_measure_84, b_X0_measure_90, b_X0_measure_109, i_lit, i_m1, i_31, il_t, il_f, iq_t, iq_f, it_t, it_f, im_e, im_l, im_g, im_g2, nI_add, pk_mul, i_sub, i_div, sdm, i_dec, i_cl, iv_t, bI_or2, bI_t0, bI_one, not_true_eq_false, not_false_eq_true, ↓reduceIte, am_tl, am_tn, am_t0, am_n0, and_true, true_and, List.cons_append, List.nil_append, List.append_nil, or_true, true_or, or_false, false_or, eq_self, ior0, iand0, im_e2, oI]
  refine lp_up 10 (fun i (s : (Nat → Nat → Nat) × Option am_V × Option am_V × Option am_V) => [some (v_r (some 41)), some (v_i (nI i)), s.2.1, s.2.2.1, s.2.2.2]) (fun i s h' => am_fr h h' d4 ∧ ds h' s.1 ∧ dok D s.1 ∧ ∀ a b, a < 10 → b < 10 → dlo D i s.1 a b) ?_ ?_ (Nat.zero_le _) ⟨fr1, fun a b ha hb => e1 a b ha hb, dok_0, fun a b _ _ => dlo_0⟩ (s := (t_0 D, l2, l3, l4))
  · rintro i ⟨t, l2, l3, l4⟩ h' hi ⟨fr, q, o, lo⟩ nx
    dsimp only at q o lo ⊢
    rw [b_X0_measure_56 _ _ _ _ _ _]
    simp (disch := first | assumption | omega | (simp only [ya_pi, ya_pj, ya_pa, ya_pr, yo_pi, yo_pj, yo_pa, yf_pi, yf_pj, yf_pa, yh_pi, yh_pj, yh_pa, yt_pi, yt_pj, yt_pa, la_pi, la_pj, la_pa]; assumption)) only [b_X0_measure_0, b_X0_measure_54, b_X0_measure_8, b_X0_measure_133, b_X0_measure_62, b_X0_measure_48, b_X0_measure_16, b_X0_measure_32, b_X0_measure_127, b_X0_measure_70, b_X0_measure_39, b_X0_measure_35, b_X0_measure_121, b_X0_measure_78, b_X0_measure_84, b_X0_measure_90, b_X0_measure_109, i_lit, i_m1, i_31, il_t, il_f, iq_t, iq_f, it_t, it_f, im_e, im_l, im_g, im_g2, nI_add, pk_mul, i_sub, i_div, sdm, i_dec, i_cl, iv_t, bI_or2, bI_t0, bI_one, not_true_eq_false, not_false_eq_true, ↓reduceIte, am_tl, am_tn, am_t0, am_n0, and_true, true_and, List.cons_append, List.nil_append, List.append_nil, or_true, true_or, or_false, false_or, eq_self, ior0, iand0, im_e2, oI]
    refine lp_up 10 (fun j (s : (Nat → Nat → Nat) × Option am_V × Option am_V) => [some (v_r (some 41)), some (v_i (nI i)), some (v_i (nI j)), s.2.1, s.2.2]) (fun j s h2 => am_fr h h2 d4 ∧ ds h2 s.1 ∧ dok D s.1 ∧ ∀ a b, a < 10 → b < 10 → dlo D i s.1 a b ∧ (a < j → dlo D (i + 1) s.1 a b)) ?_ ?_ (Nat.zero_le _) ⟨fr, q, o, fun a b ha hb => ⟨lo a b ha hb, fun z => absurd z (Nat.not_lt_zero _)⟩⟩ (s := (t, l3, l4))
    · rintro j ⟨t, l3, l4⟩ h2 hj ⟨fr2, q2, o2, lo2⟩ nx2
      dsimp only at q2 o2 lo2 ⊢
      rw [b_X0_measure_64 _ _ _ _ _ _]
      simp (disch := first | assumption | omega | (simp only [ya_pi, ya_pj, ya_pa, ya_pr, yo_pi, yo_pj, yo_pa, yf_pi, yf_pj, yf_pa, yh_pi, yh_pj, yh_pa, yt_pi, yt_pj, yt_pa, la_pi, la_pj, la_pa]; assumption)) only [b_X0_measure_0, b_X0_measure_54, b_X0_measure_8, b_X0_measure_133, b_X0_measure_62, b_X0_measure_48, b_X0_measure_16, b_X0_measure_32, b_X0_measure_127, b_X0_measure_70, b_X0_measure_39, b_X0_measure_35, b_X0_measure_121, b_X0_measure_78, b_X0_measure_84, b_X0_measure_90, b_X0_measure_109, i_lit, i_m1, i_31, il_t, il_f, iq_t, iq_f, it_t, it_f, im_e, im_l, im_g, im_g2, nI_add, pk_mul, i_sub, i_div, sdm, i_dec, i_cl, iv_t, bI_or2, bI_t0, bI_one, not_true_eq_false, not_false_eq_true, ↓reduceIte, am_tl, am_tn, am_t0, am_n0, and_true, true_and, List.cons_append, List.nil_append, List.append_nil, or_true, true_or, or_false, false_or, eq_self, ior0, iand0, im_e2, oI]
      refine lp_up 10 (fun m (s : (Nat → Nat → Nat) × Option am_V) => [some (v_r (some 41)), some (v_i (nI i)), some (v_i (nI j)), some (v_i (nI m)), s.2]) (fun m s h3 => am_fr h h3 d4 ∧ ds h3 s.1 ∧ dok D s.1 ∧ ∀ a b, a < 10 → b < 10 → dlo D i s.1 a b ∧ ((a < j ∨ (a = j ∧ b < m)) → dlo D (i + 1) s.1 a b)) ?_ ?_ (Nat.zero_le _) ⟨fr2, q2, o2, fun a b ha hb => ⟨(lo2 a b ha hb).1, fun z => (lo2 a b ha hb).2 (by omega)⟩⟩ (s := (t, l4))
      · rintro m ⟨t, l4⟩ h3 hm ⟨fr3, q3, o3, lo3⟩ nx3
        dsimp only at q3 o3 lo3 ⊢
        have L3 : Lay h3 := fr3.lay L0
        have A3 : y_arr h3 44 20 100 := la_y L3 rfl
        have b1 := (o3 j i hj hi).1
        have b2 := (o3 i m hi hm).1
        have b3 := (o3 j m hj hm).1
        have fin : ∀ v, v = (if t j i + t i m < t j m then t j i + t i m else t j m) → ∀ l4, ex_ (d + 2) 19 72 [some (v_r (some 41)), some (v_i (nI i)), some (v_i (nI j)), some (v_i (nI (m + 1))), l4] [] (p_i h3 44 (j * 10 + m) (nI v)) Q := by
          rintro v rfl l4
          refine nx3 (t_up t i j m, l4) _ ⟨fr3.pi rfl, ds_up q3 hj hm, dok_up o3 hi hj hm, fun a b ha hb => ⟨dlo_le (lo3 a b ha hb).1 t_up_le, fun z => ?_⟩⟩
          by_cases w : a = j ∧ b = m
          · rw [w.1, w.2]
            exact dlo_up (lo3 j m hj hm).1 (lo3 j i hj hi).1 (lo3 i m hi hm).1
          · exact dlo_le ((lo3 a b ha hb).2 (by omega)) t_up_le
        rw [b_X0_measure_72 _ _ _ _ _ _]
        by_cases z : t j i + t i m < t j m
        · simp (disch := first | assumption | omega | (simp only [ya_pi, ya_pj, ya_pa, ya_pr, yo_pi, yo_pj, yo_pa, yf_pi, yf_pj, yf_pa, yh_pi, yh_pj, yh_pa, yt_pi, yt_pj, yt_pa, la_pi, la_pj, la_pa]; assumption)) only [b_X0_measure_0, b_X0_measure_54, b_X0_measure_8, b_X0_measure_133, b_X0_measure_62, b_X0_measure_48, b_X0_measure_16, b_X0_measure_32, b_X0_measure_127, b_X0_measure_70, b_X0_measure_39, b_X0_measure_35, b_X0_measure_121, b_X0_measure_78, b_X0_measure_84, b_X0_measure_90, b_X0_measure_109, i_lit, i_m1, i_31, il_t, il_f, iq_t, iq_f, it_t, it_f, im_e, im_l, im_g, im_g2, nI_add, pk_mul, i_sub, i_div, sdm, i_dec, i_cl, iv_t, bI_or2, bI_t0, bI_one, not_true_eq_false, not_false_eq_true, ↓reduceIte, am_tl, am_tn, am_t0, am_n0, and_true, true_and, List.cons_append, List.nil_append, List.append_nil, or_true, true_or, or_false, false_or, eq_self, ior0, iand0, im_e2, oI, c_distance L3 q3 hj hi, c_distance L3 q3 hi hm, c_distance L3 q3 hj hm]
          exact fin _ (by rw [if_pos z]) _
        · simp (disch := first | assumption | omega | (simp only [ya_pi, ya_pj, ya_pa, ya_pr, yo_pi, yo_pj, yo_pa, yf_pi, yf_pj, yf_pa, yh_pi, yh_pj, yh_pa, yt_pi, yt_pj, yt_pa, la_pi, la_pj, la_pa]; assumption)) only [b_X0_measure_0, b_X0_measure_54, b_X0_measure_8, b_X0_measure_133, b_X0_measure_62, b_X0_measure_48, b_X0_measure_16, b_X0_measure_32, b_X0_measure_127, b_X0_measure_70, b_X0_measure_39, b_X0_measure_35, b_X0_measure_121, b_X0_measure_78, b_X0_measure_84, b_X0_measure_90, b_X0_measure_109, i_lit, i_m1, i_31, il_t, il_f, iq_t, iq_f, it_t, it_f, im_e, im_l, im_g, im_g2, nI_add, pk_mul, i_sub, i_div, sdm, i_dec, i_cl, iv_t, bI_or2, bI_t0, bI_one, not_true_eq_false, not_false_eq_true, ↓reduceIte, am_tl, am_tn, am_t0, am_n0, and_true, true_and, List.cons_append, List.nil_append, List.append_nil, or_true, true_or, or_false, false_or, eq_self, ior0, iand0, im_e2, oI, c_distance L3 q3 hj hi, c_distance L3 q3 hi hm, c_distance L3 q3 hj hm]
          exact fin _ (by rw [if_neg z]) _
      · rintro ⟨t, l4⟩ h3 ⟨fr3, q3, o3, lo3⟩
        dsimp only at q3 o3 lo3 ⊢
        rw [b_X0_measure_72 _ _ _ _ _ _]
        simp (disch := first | assumption | omega | (simp only [ya_pi, ya_pj, ya_pa, ya_pr, yo_pi, yo_pj, yo_pa, yf_pi, yf_pj, yf_pa, yh_pi, yh_pj, yh_pa, yt_pi, yt_pj, yt_pa, la_pi, la_pj, la_pa]; assumption)) only [b_X0_measure_0, b_X0_measure_54, b_X0_measure_8, b_X0_measure_133, b_X0_measure_62, b_X0_measure_48, b_X0_measure_16, b_X0_measure_32, b_X0_measure_127, b_X0_measure_70, b_X0_measure_39, b_X0_measure_35, b_X0_measure_121, b_X0_measure_78, b_X0_measure_84, b_X0_measure_90, b_X0_measure_109, i_lit, i_m1, i_31, il_t, il_f, iq_t, iq_f, it_t, it_f, im_e, im_l, im_g, im_g2, nI_add, pk_mul, i_sub, i_div, sdm, i_dec, i_cl, iv_t, bI_or2, bI_t0, bI_one, not_true_eq_false, not_false_eq_true, ↓reduceIte, am_tl, am_tn, am_t0, am_n0, and_true, true_and, List.cons_append, List.nil_append, List.append_nil, or_true, true_or, or_false, false_or, eq_self, ior0, iand0, im_e2, oI]
        exact nx2 (t, _, _) h3 ⟨fr3, q3, o3, fun a b ha hb => ⟨(lo3 a b ha hb).1, fun z => (lo3 a b ha hb).2 (by omega)⟩⟩
    · rintro ⟨t, l3, l4⟩ h2 ⟨fr2, q2, o2, lo2⟩
      dsimp only at q2 o2 lo2 ⊢
      rw [b_X0_measure_64 _ _ _ _ _ _]
      simp (disch := first | assumption | omega | (simp only [ya_pi, ya_pj, ya_pa, ya_pr, yo_pi, yo_pj, yo_pa, yf_pi, yf_pj, yf_pa, yh_pi, yh_pj, yh_pa, yt_pi, yt_pj, yt_pa, la_pi, la_pj, la_pa]; assumption)) only [b_X0_measure_0, b_X0_measure_54, b_X0_measure_8, b_X0_measure_133, b_X0_measure_62, b_X0_measure_48, b_X0_measure_16, b_X0_measure_32, b_X0_measure_127, b_X0_measure_70, b_X0_measure_39, b_X0_measure_35, b_X0_measure_121, b_X0_measure_78, b_X0_measure_84, b_X0_measure_90, b_X0_measure_109, i_lit, i_m1, i_31, il_t, il_f, iq_t, iq_f, it_t, it_f, im_e, im_l, im_g, im_g2, nI_add, pk_mul, i_sub, i_div, sdm, i_dec, i_cl, iv_t, bI_or2, bI_t0, bI_one, not_true_eq_false, not_false_eq_true, ↓reduceIte, am_tl, am_tn, am_t0, am_n0, and_true, true_and, List.cons_append, List.nil_append, List.append_nil, or_true, true_or, or_false, false_or, eq_self, ior0, iand0, im_e2, oI]
      exact nx (t, _, _, _) h2 ⟨fr2, q2, o2, fun a b ha hb => (lo2 a b ha hb).2 ha⟩
  · rintro ⟨t, l2, l3, l4⟩ h' ⟨fr, q, o, lo⟩
    dsimp only at q o lo ⊢
    rw [b_X0_measure_56 _ _ _ _ _ _]
    simp (disch := first | assumption | omega | (simp only [ya_pi, ya_pj, ya_pa, ya_pr, yo_pi, yo_pj, yo_pa, yf_pi, yf_pj, yf_pa, yh_pi, yh_pj, yh_pa, yt_pi, yt_pj, yt_pa, la_pi, la_pj, la_pa]; assumption)) only [b_X0_measure_0, b_X0_measure_54, b_X0_measure_8, b_X0_measure_133, b_X0_measure_62, b_X0_measure_48, b_X0_measure_16, b_X0_measure_32, b_X0_measure_127, b_X0_measure_70, b_X0_measure_39, b_X0_measure_35, b_X0_measure_121, b_X0_measure_78, b_X0_measure_84, b_X0_measure_90, b_X0_measure_109, i_lit, i_m1, i_31, il_t, il_f, iq_t, iq_f, it_t, it_f, im_e, im_l, im_g, im_g2, nI_add, pk_mul, i_sub, i_div, sdm, i_dec, i_cl, iv_t, bI_or2, bI_t0, bI_one, not_true_eq_false, not_false_eq_true, ↓reduceIte, am_tl, am_tn, am_t0, am_n0, and_true, true_and, List.cons_append, List.nil_append, List.append_nil, or_true, true_or, or_false, false_or, eq_self, ior0, iand0, im_e2, oI]
    exact k h' t fr ⟨o, lo⟩ q
theorem rst_le {t : Nat → Nat → Nat} : ∀ n, (rst t n).1 ≤ 100 ∧ ∀ s, (rst t n).2 = some s → s < n := by
  intro n
  rcases rst_sp (t := t) n with ⟨e, -⟩ | ⟨s, hs, e, h1, -⟩
  · rw [e]
    exact ⟨Nat.le_refl _, fun s z => by cases z⟩
  · rw [e]
    exact ⟨by dsimp only; omega, fun s z => by cases z; exact hs⟩
theorem c_startOfRing {d : Nat} {Q : Option am_V → am_H → Prop} {h : am_H} {D : Nat → Nat → Bool} {t : Nat → Nat → Nat} (L0 : Lay h) (q : ds h t) (o : dok D t) {r : Nat × Option Nat} (N : Nat) (hN : N = 10) (hr : rst t N = r) {l1 l2 l3 : Option am_V} : ex_ (d + 2) 20 0 [some (v_r (some 41)), l1, l2, l3] [] h Q ↔ Q (some (v_i (oI r.2))) h := by
  subst hr
  apply ex_iff
  rw [b_X0_startOfRing_0 _ _ _ _ _]
  refine lp_up N (fun i (_ : Unit) => [some (v_r (some 41)), some (v_i (oI (rst t i).2)), some (v_i (nI (rst t i).1)), some (v_i (nI i))]) (fun i _ h' => h' = h) ?_ ?_ (Nat.zero_le _) rfl (s := ())
  · rintro i - h' hi rfl nx
    have hi : i < 10 := by omega
    have b1 := (o i i hi hi).1
    have b2 := (rst_le (t := t) i).1
    have nxt := nx () h' rfl
    rw [show rst t (i + 1) = if t i i < (rst t i).1 then (t i i, some i) else rst t i from rfl] at nxt
    rw [b_X0_startOfRing_7 _ _ _ _ _]
    by_cases z : t i i < (rst t i).1
    · rw [if_pos z] at nxt
      simp (disch := first | assumption | omega | (simp only [ya_pi, ya_pj, ya_pa, ya_pr, yo_pi, yo_pj, yo_pa, yf_pi, yf_pj, yf_pa, yh_pi, yh_pj, yh_pa, yt_pi, yt_pj, yt_pa, la_pi, la_pj, la_pa]; assumption)) only [b_X0_startOfRing_0, b_X0_startOfRing_38, b_X0_startOfRing_13, b_X0_startOfRing_19, b_X0_startOfRing_32, b_X0_startOfRing_23, b_X0_startOfRing_29, i_lit, i_m1, i_31, il_t, il_f, iq_t, iq_f, it_t, it_f, im_e, im_l, im_g, im_g2, nI_add, pk_mul, i_sub, i_div, sdm, i_dec, i_cl, iv_t, bI_or2, bI_t0, bI_one, not_true_eq_false, not_false_eq_true, ↓reduceIte, am_tl, am_tn, am_t0, am_n0, and_true, true_and, List.cons_append, List.nil_append, List.append_nil, or_true, true_or, or_false, false_or, eq_self, ior0, iand0, im_e2, oI, c_distance L0 q hi hi]
      exact nxt
    · rw [if_neg z] at nxt
      simp (disch := first | assumption | omega | (simp only [ya_pi, ya_pj, ya_pa, ya_pr, yo_pi, yo_pj, yo_pa, yf_pi, yf_pj, yf_pa, yh_pi, yh_pj, yh_pa, yt_pi, yt_pj, yt_pa, la_pi, la_pj, la_pa]; assumption)) only [b_X0_startOfRing_0, b_X0_startOfRing_38, b_X0_startOfRing_13, b_X0_startOfRing_19, b_X0_startOfRing_32, b_X0_startOfRing_23, b_X0_startOfRing_29, i_lit, i_m1, i_31, il_t, il_f, iq_t, iq_f, it_t, it_f, im_e, im_l, im_g, im_g2, nI_add, pk_mul, i_sub, i_div, sdm, i_dec, i_cl, iv_t, bI_or2, bI_t0, bI_one, not_true_eq_false, not_false_eq_true, ↓reduceIte, am_tl, am_tn, am_t0, am_n0, and_true, true_and, List.cons_append, List.nil_append, List.append_nil, or_true, true_or, or_false, false_or, eq_self, ior0, iand0, im_e2, oI, c_distance L0 q hi hi]
      exact nxt
  · rintro - h' rfl
    rw [b_X0_startOfRing_7 _ _ _ _ _]
    simp (disch := first | assumption | omega | (simp only [ya_pi, ya_pj, ya_pa, ya_pr, yo_pi, yo_pj, yo_pa, yf_pi, yf_pj, yf_pa, yh_pi, yh_pj, yh_pa, yt_pi, yt_pj, yt_pa, la_pi, la_pj, la_pa]; assumption)) only [b_X0_startOfRing_0, b_X0_startOfRing_38, b_X0_startOfRing_13, b_X0_startOfRing_19, b_X0_startOfRing_32, b_X0_startOfRing_23, b_X0_startOfRing_29, i_lit, i_m1, i_31, il_t, il_f, iq_t, iq_f, it_t, it_f, im_e, im_l, im_g, im_g2, nI_add, pk_mul, i_sub, i_div, sdm, i_dec, i_cl, iv_t, bI_or2, bI_t0, bI_one, not_true_eq_false, not_false_eq_true, ↓reduceIte, am_tl, am_tn, am_t0, am_n0, and_true, true_and, List.cons_append, List.nil_append, List.append_nil, or_true, true_or, or_false, false_or, eq_self, ior0, iand0, im_e2, oI]
theorem c_nextOfRing {d : Nat} {Q : Option am_V → am_H → Prop} {h : am_H} {D : Nat → Nat → Bool} {t : Nat → Nat → Nat} (L0 : Lay h) (R : dr h D) (q : ds h t) (o : dok D t) {x s m : Nat} (hx : x < 10) (hs : s < 10) (hm : m < 1000) {l4 : Option am_V} : ex_ (d + 2) 21 0 [some (v_r (some 41)), some (v_i (nI x)), some (v_i (nI s)), some (v_i (nI m)), l4] [] h Q ↔ Q (some (v_i (oI (rnx D t s x m)))) h := by
  apply ex_iff
  rw [b_X0_nextOfRing_0 _ _ _ _ _ _]
  refine lp_up 10 (fun i (_ : Unit) => [some (v_r (some 41)), some (v_i (nI x)), some (v_i (nI s)), some (v_i (nI m)), some (v_i (nI i))]) (fun i _ h' => h' = h ∧ fi (fun c => D x c && t c s == m) 10 i = rnx D t s x m) ?_ ?_ (Nat.zero_le _) ⟨rfl, rfl⟩ (s := ())
  · rintro i - h' hi ⟨rfl, e⟩ nx
    have b1 := (o i s hi hs).1
    rw [b_X0_nextOfRing_3 _ _ _ _ _ _]
    cases z : D x i with
    | false =>
      rw [fi_no (by simp [z])] at e
      simp (disch := first | assumption | omega | (simp only [ya_pi, ya_pj, ya_pa, ya_pr, yo_pi, yo_pj, yo_pa, yf_pi, yf_pj, yf_pa, yh_pi, yh_pj, yh_pa, yt_pi, yt_pj, yt_pa, la_pi, la_pj, la_pa]; assumption)) only [b_X0_nextOfRing_0, b_X0_nextOfRing_40, b_X0_nextOfRing_10, b_X0_nextOfRing_17, b_X0_nextOfRing_34, b_X0_nextOfRing_20, b_X0_nextOfRing_27, b_X0_nextOfRing_31, i_lit, i_m1, i_31, il_t, il_f, iq_t, iq_f, it_t, it_f, im_e, im_l, im_g, im_g2, nI_add, pk_mul, i_sub, i_div, sdm, i_dec, i_cl, iv_t, bI_or2, bI_t0, bI_one, not_true_eq_false, not_false_eq_true, ↓reduceIte, am_tl, am_tn, am_t0, am_n0, and_true, true_and, List.cons_append, List.nil_append, List.append_nil, or_true, true_or, or_false, false_or, eq_self, ior0, iand0, im_e2, oI, c_isDemanded L0 R hx hi, z, Bool.false_eq_true]
      exact nx () h' ⟨rfl, e⟩
    | true =>
      by_cases y : t i s = m
      · rw [fi_yes hi (by simp [z, y])] at e
        simp (disch := first | assumption | omega | (simp only [ya_pi, ya_pj, ya_pa, ya_pr, yo_pi, yo_pj, yo_pa, yf_pi, yf_pj, yf_pa, yh_pi, yh_pj, yh_pa, yt_pi, yt_pj, yt_pa, la_pi, la_pj, la_pa]; assumption)) only [b_X0_nextOfRing_0, b_X0_nextOfRing_40, b_X0_nextOfRing_10, b_X0_nextOfRing_17, b_X0_nextOfRing_34, b_X0_nextOfRing_20, b_X0_nextOfRing_27, b_X0_nextOfRing_31, i_lit, i_m1, i_31, il_t, il_f, iq_t, iq_f, it_t, it_f, im_e, im_l, im_g, im_g2, nI_add, pk_mul, i_sub, i_div, sdm, i_dec, i_cl, iv_t, bI_or2, bI_t0, bI_one, not_true_eq_false, not_false_eq_true, ↓reduceIte, am_tl, am_tn, am_t0, am_n0, and_true, true_and, List.cons_append, List.nil_append, List.append_nil, or_true, true_or, or_false, false_or, eq_self, ior0, iand0, im_e2, oI, c_isDemanded L0 R hx hi, z, c_distance L0 q hi hs, y]
        rw [← e]
      · rw [fi_no (by simp [z, y])] at e
        simp (disch := first | assumption | omega | (simp only [ya_pi, ya_pj, ya_pa, ya_pr, yo_pi, yo_pj, yo_pa, yf_pi, yf_pj, yf_pa, yh_pi, yh_pj, yh_pa, yt_pi, yt_pj, yt_pa, la_pi, la_pj, la_pa]; assumption)) only [b_X0_nextOfRing_0, b_X0_nextOfRing_40, b_X0_nextOfRing_10, b_X0_nextOfRing_17, b_X0_nextOfRing_34, b_X0_nextOfRing_20, b_X0_nextOfRing_27, b_X0_nextOfRing_31, i_lit, i_m1, i_31, il_t, il_f, iq_t, iq_f, it_t, it_f, im_e, im_l, im_g, im_g2, nI_add, pk_mul, i_sub, i_div, sdm, i_dec, i_cl, iv_t, bI_or2, bI_t0, bI_one, not_true_eq_false, not_false_eq_true, ↓reduceIte, am_tl, am_tn, am_t0, am_n0, and_true, true_and, List.cons_append, List.nil_append, List.append_nil, or_true, true_or, or_false, false_or, eq_self, ior0, iand0, im_e2, oI, c_isDemanded L0 R hx hi, z, c_distance L0 q hi hs]
        exact nx () h' ⟨rfl, e⟩
  · rintro - h' ⟨rfl, e⟩
    rw [fi_end (by omega)] at e
    rw [b_X0_nextOfRing_3 _ _ _ _ _ _]
    simp (disch := first | assumption | omega | (simp only [ya_pi, ya_pj, ya_pa, ya_pr, yo_pi, yo_pj, yo_pa, yf_pi, yf_pj, yf_pa, yh_pi, yh_pj, yh_pa, yt_pi, yt_pj, yt_pa, la_pi, la_pj, la_pa]; assumption)) only [b_X0_nextOfRing_0, b_X0_nextOfRing_40, b_X0_nextOfRing_10, b_X0_nextOfRing_17, b_X0_nextOfRing_34, b_X0_nextOfRing_20, b_X0_nextOfRing_27, b_X0_nextOfRing_31, i_lit, i_m1, i_31, il_t, il_f, iq_t, iq_f, it_t, it_f, im_e, im_l, im_g, im_g2, nI_add, pk_mul, i_sub, i_div, sdm, i_dec, i_cl, iv_t, bI_or2, bI_t0, bI_one, not_true_eq_false, not_false_eq_true, ↓reduceIte, am_tl, am_tn, am_t0, am_n0, and_true, true_and, List.cons_append, List.nil_append, List.append_nil, or_true, true_or, or_false, false_or, eq_self, ior0, iand0, im_e2, oI]
    rw [← e]
def rgM (D : Nat → Nat → Bool) (t : Nat → Nat → Nat) (r : Nat × Option Nat) : List Nat := match r.2 with
  | none => []
  | some s => (List.range (t s s)).map (rpt D t s)
def rgL (D : Nat → Nat → Bool) (t : Nat → Nat → Nat) : List Nat := rgM D t (rst t 10)
def d5 (a k : Nat) : Prop := a = 44 ∨ a = 45 ∨ (a = 41 ∧ k = 7)
def lfL (L k : Nat) : Int32 := if k < L then nI (L - 1 - k) else mI
theorem rmap_s {g : Nat → Nat} {k : Nat} : (List.range (k + 1)).map g = (List.range k).map g ++ [g k] := by
  rw [List.range_succ, List.map_append]
  rfl
theorem rmap_l {g : Nat → Nat} {k : Nat} : ((List.range k).map g).length = k := by rw [List.length_map, List.length_range]
theorem c_findRing {d : Nat} {Q : Option am_V → am_H → Prop} {h : am_H} {D : Nat → Nat → Bool} (L0 : Lay h) (R : dr h D) {l1 l2 l3 l4 : Option am_V} (k : ∀ h' t, am_fr h h' d5 → dgd D t → h_i h' 41 7 = nI (rgL D t).length → (rgL D t).length ≤ 10 → ro h' 45 0 (rgL D t) → Q none h') : ex_ (d + 3) 22 0 [some (v_r (some 41)), l1, l2, l3, l4] [] h Q := by
  simp (disch := first | assumption | omega | (simp only [ya_pi, ya_pj, ya_pa, ya_pr, yo_pi, yo_pj, yo_pa, yf_pi, yf_pj, yf_pa, yh_pi, yh_pj, yh_pa, yt_pi, yt_pj, yt_pa, la_pi, la_pj, la_pa]; assumption)) only [b_X0_findRing_0, b_X0_findRing_4, b_X0_findRing_13, b_X0_findRing_20, b_X0_findRing_19, b_X0_findRing_26, b_X0_findRing_91, b_X0_findRing_39, b_X0_findRing_44, b_X0_findRing_56, b_X0_findRing_84, i_lit, i_m1, i_31, il_t, il_f, iq_t, iq_f, it_t, it_f, im_e, im_l, im_g, im_g2, nI_add, pk_mul, i_sub, i_div, sdm, i_dec, i_cl, iv_t, bI_or2, bI_t0, bI_one, not_true_eq_false, not_false_eq_true, ↓reduceIte, am_tl, am_tn, am_t0, am_n0, and_true, true_and, List.cons_append, List.nil_append, List.append_nil, or_true, true_or, or_false, false_or, eq_self, ior0, iand0, im_e2, oI]
  refine c_measure L0 R (fun h1 t fr1 g q1 => ?_)
  have L1 : Lay h1 := fr1.lay L0
  have q2 : ds (p_i h1 41 7 (nI 0)) t := fun a b ha hb => by rw [hi_o (by omega)]; exact q1 a b ha hb
  have L2 : Lay (p_i h1 41 7 (nI 0)) := L1
  have fr2 : am_fr h (p_i h1 41 7 (nI 0)) d5 := (fr1.le (fun a k z => by unfold d4 at z; unfold d5; omega)).pi (by unfold d5; omega)
  have e2 : h_i (p_i h1 41 7 (nI 0)) 41 7 = nI 0 := hi_s
  simp (disch := first | assumption | omega | (simp only [ya_pi, ya_pj, ya_pa, ya_pr, yo_pi, yo_pj, yo_pa, yf_pi, yf_pj, yf_pa, yh_pi, yh_pj, yh_pa, yt_pi, yt_pj, yt_pa, la_pi, la_pj, la_pa]; assumption)) only [b_X0_findRing_0, b_X0_findRing_4, b_X0_findRing_13, b_X0_findRing_20, b_X0_findRing_19, b_X0_findRing_26, b_X0_findRing_91, b_X0_findRing_39, b_X0_findRing_44, b_X0_findRing_56, b_X0_findRing_84, i_lit, i_m1, i_31, il_t, il_f, iq_t, iq_f, it_t, it_f, im_e, im_l, im_g, im_g2, nI_add, pk_mul, i_sub, i_div, sdm, i_dec, i_cl, iv_t, bI_or2, bI_t0, bI_one, not_true_eq_false, not_false_eq_true, ↓reduceIte, am_tl, am_tn, am_t0, am_n0, and_true, true_and, List.cons_append, List.nil_append, List.append_nil, or_true, true_or, or_false, false_or, eq_self, ior0, iand0, im_e2, oI]
  generalize p_i h1 41 7 (nI 0) = h2 at q2 L2 fr2 e2
  rcases rst_sp (t := t) 10 with ⟨e, -⟩ | ⟨s, hs, e, hL, hmin, hleast⟩
  · have k2 := k h2 t fr2 g
    rw [rgL, e] at k2
    simp (disch := first | assumption | omega | (simp only [ya_pi, ya_pj, ya_pa, ya_pr, yo_pi, yo_pj, yo_pa, yf_pi, yf_pj, yf_pa, yh_pi, yh_pj, yh_pa, yt_pi, yt_pj, yt_pa, la_pi, la_pj, la_pa]; assumption)) only [b_X0_findRing_0, b_X0_findRing_4, b_X0_findRing_13, b_X0_findRing_20, b_X0_findRing_19, b_X0_findRing_26, b_X0_findRing_91, b_X0_findRing_39, b_X0_findRing_44, b_X0_findRing_56, b_X0_findRing_84, i_lit, i_m1, i_31, il_t, il_f, iq_t, iq_f, it_t, it_f, im_e, im_l, im_g, im_g2, nI_add, pk_mul, i_sub, i_div, sdm, i_dec, i_cl, iv_t, bI_or2, bI_t0, bI_one, not_true_eq_false, not_false_eq_true, ↓reduceIte, am_tl, am_tn, am_t0, am_n0, and_true, true_and, List.cons_append, List.nil_append, List.append_nil, or_true, true_or, or_false, false_or, eq_self, ior0, iand0, im_e2, oI, c_startOfRing L2 q2 g.1 10 rfl e]
    exact k2 e2 (Nat.zero_le _) ro_nil
  · simp (disch := first | assumption | omega | (simp only [ya_pi, ya_pj, ya_pa, ya_pr, yo_pi, yo_pj, yo_pa, yf_pi, yf_pj, yf_pa, yh_pi, yh_pj, yh_pa, yt_pi, yt_pj, yt_pa, la_pi, la_pj, la_pa]; assumption)) only [b_X0_findRing_0, b_X0_findRing_4, b_X0_findRing_13, b_X0_findRing_20, b_X0_findRing_19, b_X0_findRing_26, b_X0_findRing_91, b_X0_findRing_39, b_X0_findRing_44, b_X0_findRing_56, b_X0_findRing_84, i_lit, i_m1, i_31, il_t, il_f, iq_t, iq_f, it_t, it_f, im_e, im_l, im_g, im_g2, nI_add, pk_mul, i_sub, i_div, sdm, i_dec, i_cl, iv_t, bI_or2, bI_t0, bI_one, not_true_eq_false, not_false_eq_true, ↓reduceIte, am_tl, am_tn, am_t0, am_n0, and_true, true_and, List.cons_append, List.nil_append, List.append_nil, or_true, true_or, or_false, false_or, eq_self, ior0, iand0, im_e2, oI, c_startOfRing L2 q2 g.1 10 rfl e]
    have hL1 := (g.1 s s hs hs).2.1
    have hL10 : t s s ≤ 10 := rpt_10 g hs hL (fun k hk => (rpt_sp g hs hL k hk).1)
    have k2 := fun h' fr => k h' t fr g
    rw [rgL, e] at k2
    have el0 : (rgM D t (t s s, some s)).length = t s s := rmap_l
    rw [el0] at k2
    simp (disch := first | assumption | omega | (simp only [ya_pi, ya_pj, ya_pa, ya_pr, yo_pi, yo_pj, yo_pa, yf_pi, yf_pj, yf_pa, yh_pi, yh_pj, yh_pa, yt_pi, yt_pj, yt_pa, la_pi, la_pj, la_pa]; assumption)) only [b_X0_findRing_0, b_X0_findRing_4, b_X0_findRing_13, b_X0_findRing_20, b_X0_findRing_19, b_X0_findRing_26, b_X0_findRing_91, b_X0_findRing_39, b_X0_findRing_44, b_X0_findRing_56, b_X0_findRing_84, i_lit, i_m1, i_31, il_t, il_f, iq_t, iq_f, it_t, it_f, im_e, im_l, im_g, im_g2, nI_add, pk_mul, i_sub, i_div, sdm, i_dec, i_cl, iv_t, bI_or2, bI_t0, bI_one, not_true_eq_false, not_false_eq_true, ↓reduceIte, am_tl, am_tn, am_t0, am_n0, and_true, true_and, List.cons_append, List.nil_append, List.append_nil, or_true, true_or, or_false, false_or, eq_self, ior0, iand0, im_e2, oI, c_distance L2 q2 hs hs]
    have st : ex_ (d + 3) 22 34 [some (v_r (some 41)), some (v_i (nI s)), some (v_i (nI (t s s))), some (v_i (nI s)), some (v_i (lfL (t s s) 0))] [] h2 Q := by
      refine lp_up (t s s) (fun i (one : Int32) => [some (v_r (some 41)), some (v_i (nI s)), some (v_i (nI (t s s))), some (v_i one), some (v_i (lfL (t s s) i))]) (fun i one h' => am_fr h h' d5 ∧ ds h' t ∧ (i < t s s → one = nI (rpt D t s i)) ∧ h_i h' 41 7 = nI i ∧ ro h' 45 0 ((List.range i).map (rpt D t s))) ?_ ?_ (Nat.zero_le _) ⟨fr2, q2, fun _ => rfl, e2, ro_nil⟩
      · rintro i one h3 hi ⟨fr3, q3, e3, e4, e5⟩ nx
        obtain rfl := e3 hi
        have L3 : Lay h3 := fr3.lay L0
        have sp := rpt_sp g hs hL i hi
        have x10 := sp.1
        have fr4 : am_fr h (p_i (p_i h3 45 i (nI (rpt D t s i))) 41 7 (nI (i + 1))) d5 := (fr3.pi (by unfold d5; omega)).pi (by unfold d5; omega)
        have L4 : Lay (p_i (p_i h3 45 i (nI (rpt D t s i))) 41 7 (nI (i + 1))) := L3
        have R4 : dr (p_i (p_i h3 45 i (nI (rpt D t s i))) 41 7 (nI (i + 1))) D := R.fr fr4 (fun k => by unfold d5; omega) (fun k => by unfold d5; omega)
        have q4 : ds (p_i (p_i h3 45 i (nI (rpt D t s i))) 41 7 (nI (i + 1))) t := fun a b ha hb => by rw [hi_o (by omega), hi_o (by omega)]; exact q3 a b ha hb
        have ro4 : ro (p_i (p_i h3 45 i (nI (rpt D t s i))) 41 7 (nI (i + 1))) 45 0 ((List.range (i + 1)).map (rpt D t s)) := by
          rw [rmap_s]
          have := ro_app (q := rpt D t s i) e5
          rw [rmap_l, Nat.zero_add] at this
          intro j hj
          rw [hi_o (by omega)]
          exact this j hj
        have el : lfL (t s s) i = nI (t s s - 1 - i) := if_pos hi
        have el2 : nI (t s s - 1 - i) + mI = lfL (t s s) (i + 1) := by
          unfold lfL
          by_cases z : i + 1 < t s s
          · rw [if_pos z, i_dec (by omega)]
            exact congrArg nI (by omega)
          · rw [if_neg z, show t s s - 1 - i = 0 from by omega]
            decide
        rw [b_X0_findRing_34 _ _ _ _ _ _]
        simp (disch := first | assumption | omega | (simp only [ya_pi, ya_pj, ya_pa, ya_pr, yo_pi, yo_pj, yo_pa, yf_pi, yf_pj, yf_pa, yh_pi, yh_pj, yh_pa, yt_pi, yt_pj, yt_pa, la_pi, la_pj, la_pa]; assumption)) only [b_X0_findRing_0, b_X0_findRing_4, b_X0_findRing_13, b_X0_findRing_20, b_X0_findRing_19, b_X0_findRing_26, b_X0_findRing_91, b_X0_findRing_39, b_X0_findRing_44, b_X0_findRing_56, b_X0_findRing_84, i_lit, i_m1, i_31, il_t, il_f, iq_t, iq_f, it_t, it_f, im_e, im_l, im_g, im_g2, nI_add, pk_mul, i_sub, i_div, sdm, i_dec, i_cl, iv_t, bI_or2, bI_t0, bI_one, not_true_eq_false, not_false_eq_true, ↓reduceIte, am_tl, am_tn, am_t0, am_n0, and_true, true_and, List.cons_append, List.nil_append, List.append_nil, or_true, true_or, or_false, false_or, eq_self, ior0, iand0, im_e2, oI, hi_s, hi_o, hi_k, hr_pi, hj_pi, hn_pi, hi_pas, hi_pao, hr_pa, hj_pa, el, e4, c_nextOfRing L4 R4 q4 g.1 x10 hs (show t s s - 1 - i < 1000 by omega)]
        rw [el2]
        refine nx _ _ ⟨fr4, q4, fun z => ?_, hi_s, ro4⟩
        rw [(sp.2.2 z).1]
      · rintro one h3 ⟨fr3, q3, e3, e4, e5⟩
        have el : lfL (t s s) (t s s) = mI := if_neg (by omega)
        rw [b_X0_findRing_34 _ _ _ _ _ _, el, if_pos (by decide)]
        simp (disch := first | assumption | omega | (simp only [ya_pi, ya_pj, ya_pa, ya_pr, yo_pi, yo_pj, yo_pa, yf_pi, yf_pj, yf_pa, yh_pi, yh_pj, yh_pa, yt_pi, yt_pj, yt_pa, la_pi, la_pj, la_pa]; assumption)) only [b_X0_findRing_0, b_X0_findRing_4, b_X0_findRing_13, b_X0_findRing_20, b_X0_findRing_19, b_X0_findRing_26, b_X0_findRing_91, b_X0_findRing_39, b_X0_findRing_44, b_X0_findRing_56, b_X0_findRing_84, i_lit, i_m1, i_31, il_t, il_f, iq_t, iq_f, it_t, it_f, im_e, im_l, im_g, im_g2, nI_add, pk_mul, i_sub, i_div, sdm, i_dec, i_cl, iv_t, bI_or2, bI_t0, bI_one, not_true_eq_false, not_false_eq_true, ↓reduceIte, am_tl, am_tn, am_t0, am_n0, and_true, true_and, List.cons_append, List.nil_append, List.append_nil, or_true, true_or, or_false, false_or, eq_self, ior0, iand0, im_e2, oI]
        exact k2 h3 fr3 e4 hL10 e5
    have el : lfL (t s s) 0 = nI (t s s - 1) := by
      rw [lfL, if_pos (by omega)]
      rfl
    rw [el] at st
    exact st
theorem c_ringAt {d : Nat} {Q : Option am_V → am_H → Prop} {h : am_H} {l : List Nat} (L0 : Lay h) (e : h_i h 41 7 = nI l.length) (hl : l.length ≤ 10) (r : ro h 45 0 l) {i : Nat} (hi : i < 2147483648) : ex_ d 17 0 [some (v_r (some 41)), some (v_i (nI i))] [] h Q ↔ Q (some (v_i (oI l[i]?))) h := by
  by_cases z : i < l.length
  · have e2 := r i z
    rw [Nat.zero_add, List.getD_eq_getElem?_getD, List.getElem?_eq_getElem z] at e2
    rw [List.getElem?_eq_getElem z]
    simp (disch := first | assumption | omega | (simp only [ya_pi, ya_pj, ya_pa, ya_pr, yo_pi, yo_pj, yo_pa, yf_pi, yf_pj, yf_pa, yh_pi, yh_pj, yh_pa, yt_pi, yt_pj, yt_pa, la_pi, la_pj, la_pa]; assumption)) only [b_X0_ringAt_0, b_X0_ringAt_30, b_X0_ringAt_4, b_X0_ringAt_12, b_X0_ringAt_21, i_lit, i_m1, i_31, il_t, il_f, iq_t, iq_f, it_t, it_f, im_e, im_l, im_g, im_g2, nI_add, pk_mul, i_sub, i_div, sdm, i_dec, i_cl, iv_t, bI_or2, bI_t0, bI_one, not_true_eq_false, not_false_eq_true, ↓reduceIte, am_tl, am_tn, am_t0, am_n0, and_true, true_and, List.cons_append, List.nil_append, List.append_nil, or_true, true_or, or_false, false_or, eq_self, ior0, iand0, im_e2, oI, e, e2]
    rfl
  · rw [List.getElem?_eq_none (by omega)]
    simp (disch := first | assumption | omega | (simp only [ya_pi, ya_pj, ya_pa, ya_pr, yo_pi, yo_pj, yo_pa, yf_pi, yf_pj, yf_pa, yh_pi, yh_pj, yh_pa, yt_pi, yt_pj, yt_pa, la_pi, la_pj, la_pa]; assumption)) only [b_X0_ringAt_0, b_X0_ringAt_30, b_X0_ringAt_4, b_X0_ringAt_12, b_X0_ringAt_21, i_lit, i_m1, i_31, il_t, il_f, iq_t, iq_f, it_t, it_f, im_e, im_l, im_g, im_g2, nI_add, pk_mul, i_sub, i_div, sdm, i_dec, i_cl, iv_t, bI_or2, bI_t0, bI_one, not_true_eq_false, not_false_eq_true, ↓reduceIte, am_tl, am_tn, am_t0, am_n0, and_true, true_and, List.cons_append, List.nil_append, List.append_nil, or_true, true_or, or_false, false_or, eq_self, ior0, iand0, im_e2, oI, e]
