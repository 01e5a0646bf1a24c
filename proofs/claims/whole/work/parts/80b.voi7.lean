/-! ===== dead definitions, the reference ===== -/
theorem fi_at {p : Nat → Bool} {n j : Nat} (hj : j < n) (hp : p j = true) (hi : ∀ i, i < j → p i = false) : fi p n 0 = some j := by
  rcases fi_sp p n with ⟨a, e, ha, pa, la⟩ | ⟨e, la⟩
  · have : a = j := by
      rcases Nat.lt_trichotomy a j with z | z | z
      · rw [hi a z] at pa; cases pa
      · exact z
      · rw [la j z] at hp; cases hp
    rw [e, this]
  · rw [la j hj] at hp; cases hp
theorem fi_u0 {p q : Nat → Bool} {n x : Nat} (hx : x < n) (qx : q x = true) (e : ∀ t, t < n → ¬ t = x → q t = p t) (h : fi p n 0 = none) : fi q n 0 = some x := by
  rcases fi_sp p n with ⟨a, e1, ha, pa, la⟩ | ⟨e1, la⟩
  · rw [h] at e1; cases e1
  · exact fi_at hx qx (fun i hi => by rw [e i (by omega) (by omega)]; exact la i (by omega))
theorem fi_u1 {p q : Nat → Bool} {n x j : Nat} (hx : x < n) (qx : q x = true) (e : ∀ t, t < n → ¬ t = x → q t = p t) (h : fi p n 0 = some j) : fi q n 0 = some (if x < j then x else j) := by
  rcases fi_sp p n with ⟨a, e1, ha, pa, la⟩ | ⟨e1, la⟩
  · rw [h] at e1
    cases e1
    by_cases z : x < j
    · rw [if_pos z]
      exact fi_at hx qx (fun i hi => by rw [e i (by omega) (by omega)]; exact la i (by omega))
    · rw [if_neg z]
      by_cases y : x = j
      · rw [← y]
        exact fi_at hx qx (fun i hi => by rw [e i (by omega) (by omega)]; exact la i (by omega))
      · exact fi_at ha (by rw [e j ha (by omega)]; exact pa) (fun i hi => by rw [e i (by omega) (by omega)]; exact la i (by omega))
  · rw [h] at e1; cases e1
theorem ct_u1 {p q : Nat → Bool} {x : Nat} (px : p x = false) (qx : q x = true) : ∀ {n : Nat}, x < n → (∀ t, t < n → ¬ t = x → q t = p t) → ct q n = ct p n + 1 := by
  intro n
  induction n with
  | zero => intro hx; omega
  | succ n ih =>
    intro hx e
    by_cases z : x = n
    · rw [← z, ct_y qx, ct_n px, ct_cong (fun k hk => e k (by omega) (by omega))]
    · have := ih (by omega) (fun t ht => e t (by omega))
      rw [ct, ct, e n (by omega) (by omega), this]
      omega
def dqd (f : fa_S) (seen : Option (List Nat)) (m i t : Nat) : Bool := ddP f seen t && (decide (t % 10 < m) || (decide (t % 10 = m) && decide (t / 10 < i)))
theorem dqd_n {f : fa_S} {seen : Option (List Nat)} {m i t : Nat} (h : ¬ t = 10 * i + m) (hm : m < 10) : dqd f seen m (i + 1) t = dqd f seen m i t := by
  unfold dqd
  congr 2
  by_cases z : t % 10 = m
  · congr 1
    rw [decide_eq_decide]
    omega
  · rw [decide_eq_false z, Bool.false_and, Bool.false_and]
theorem dqd_x {f : fa_S} {seen : Option (List Nat)} {m i : Nat} (hm : m < 10) : dqd f seen m i (10 * i + m) = false ∧ dqd f seen m (i + 1) (10 * i + m) = ddP f seen (10 * i + m) := by
  unfold dqd
  have e1 : (10 * i + m) % 10 = m := by omega
  have e2 : (10 * i + m) / 10 = i := by omega
  rw [e1, e2]
  simp
theorem dqd_e {f : fa_S} (gd : fa_gd f) {seen : Option (List Nat)} {m t : Nat} : dqd f seen m (f_n f) t = dqd f seen (m + 1) 0 t := by
  unfold dqd
  by_cases z : t / 10 < f_n f
  · congr 1
    rw [Bool.eq_iff_iff]
    simp
    omega
  · have : ddP f seen t = false := by
      unfold ddP
      rw [gd.2.2.1 (t / 10) (t % 10) (by omega)]
      simp
    rw [this, Bool.false_and, Bool.false_and]
theorem dqd_8 {f : fa_S} {seen : Option (List Nat)} {t : Nat} : dqd f seen 8 0 t = ddP f seen t := by
  unfold dqd
  by_cases z : t % 10 < 8
  · rw [decide_eq_true z, Bool.true_or, Bool.and_true]
  · have : ddP f seen t = false := by
      unfold ddP
      rw [decide_eq_false z]
      rfl
    rw [this, Bool.false_and]
theorem dqd_0 {f : fa_S} {seen : Option (List Nat)} {t : Nat} : dqd f seen 0 0 t = false := by
  unfold dqd
  simp
theorem fi_lt {p : Nat → Bool} {n j : Nat} (h : fi p n 0 = some j) : j < n := by
  rcases fi_sp p n with ⟨a, e1, ha, pa, la⟩ | ⟨e1, la⟩
  · rw [h] at e1; cases e1; exact ha
  · rw [h] at e1; cases e1
theorem ct_0 : ∀ n, ct (fun _ => false) n = 0 := by
  intro n
  induction n with
  | zero => rfl
  | succ n ih => rw [ct_n rfl, ih]
theorem c_deadOnes {d : Nat} {Q : Option am_V → am_H → Prop} {h : am_H} {f : fa_S} {says seen : Option (List Nat)} (G : hk f says seen) (R : rH h f says seen) {b : Nat} (hb : b < 2) {l2 l3 l4 l5 l6 l7 : Option am_V} (k : ∀ h', am_fr h h' rS → Q (some (v_i (if b = 1 then a_firstDead f seen else a_dead f seen))) h') : ex_ (d + 5) 340 0 [some (v_r (some 93)), some (v_i (nI b)), l2, l3, l4, l5, l6, l7] [] h Q := by
  have ok := G.1.1
  have L0 := R.1.1
  have hn := ok.1
  simp (disch := first | assumption | omega | (simp only [ya_pi, ya_pj, ya_pa, ya_pr, yo_pi, yo_pj, yo_pa, yf_pi, yf_pj, yf_pa, yh_pi, yh_pj, yh_pa, yt_pi, yt_pj, yt_pa, la_pi, la_pj, la_pa]; assumption)) only [b_X12_deadOnes_0, b_X12_deadOnes_4, b_X12_deadOnes_192, b_X12_deadOnes_18, b_X12_deadOnes_200, b_X12_deadOnes_196, b_X12_deadOnes_100, b_X12_deadOnes_35, b_X12_deadOnes_51, b_X12_deadOnes_186, b_X12_deadOnes_114, b_X12_deadOnes_180, b_X12_deadOnes_133, b_X12_deadOnes_94, b_X12_deadOnes_63, b_X12_deadOnes_141, b_X12_deadOnes_147, b_X12_deadOnes_144, b_X12_deadOnes_167, b_X12_deadOnes_155, b_X12_deadOnes_178, i_lit, i_m1, i_31, il_t, il_f, iq_t, iq_f, it_t, it_f, im_e, im_l, im_g, im_g2, nI_add, pk_mul, i_sub, i_div, sdm, i_dec, i_cl, iv_t, bI_or2, bI_t0, bI_one, not_true_eq_false, not_false_eq_true, ↓reduceIte, am_tl, am_tn, am_t0, am_n0, and_true, true_and, List.cons_append, List.nil_append, List.append_nil, or_true, true_or, or_false, false_or, eq_self, ior0, iand0, im_e2, oI]
  refine c_laysOrders ok R.1 (fun h1 fr1 (A1 : ra h1 (fT f) (f_n f)) => ?_)
  have fr1' : am_fr h h1 rS := fr1.le (fun a k (z : rA a k) => z.S)
  simp (disch := first | assumption | omega | (simp only [ya_pi, ya_pj, ya_pa, ya_pr, yo_pi, yo_pj, yo_pa, yf_pi, yf_pj, yf_pa, yh_pi, yh_pj, yh_pa, yt_pi, yt_pj, yt_pa, la_pi, la_pj, la_pa]; assumption)) only [b_X12_deadOnes_0, b_X12_deadOnes_4, b_X12_deadOnes_192, b_X12_deadOnes_18, b_X12_deadOnes_200, b_X12_deadOnes_196, b_X12_deadOnes_100, b_X12_deadOnes_35, b_X12_deadOnes_51, b_X12_deadOnes_186, b_X12_deadOnes_114, b_X12_deadOnes_180, b_X12_deadOnes_133, b_X12_deadOnes_94, b_X12_deadOnes_63, b_X12_deadOnes_141, b_X12_deadOnes_147, b_X12_deadOnes_144, b_X12_deadOnes_167, b_X12_deadOnes_155, b_X12_deadOnes_178, i_lit, i_m1, i_31, il_t, il_f, iq_t, iq_f, it_t, it_f, im_e, im_l, im_g, im_g2, nI_add, pk_mul, i_sub, i_div, sdm, i_dec, i_cl, iv_t, bI_or2, bI_t0, bI_one, not_true_eq_false, not_false_eq_true, ↓reduceIte, am_tl, am_tn, am_t0, am_n0, and_true, true_and, List.cons_append, List.nil_append, List.append_nil, or_true, true_or, or_false, false_or, eq_self, ior0, iand0, im_e2, oI]
  have st := lp_up (d := d + 5) (k := 340) (pc := 11) (Q := Q) 8 (fun m (s : Option am_V × Option am_V × Option am_V) => [some (v_r (some 93)), some (v_i (nI b)), some (v_i (nI (ct (dqd f seen m 0) 100))), some (v_i (oI (fi (dqd f seen m 0) 100 0))), some (v_i (nI m)), s.1, s.2.1, s.2.2]) (fun m _ h' => am_fr h h' rS ∧ ra h' (fT f) (f_n f)) ?_ ?_ (Nat.zero_le _) (s := (l5, l6, l7)) (h := h1) ⟨fr1', A1⟩
  · rw [show dqd f seen 0 0 = fun _ => false from funext (fun t => dqd_0), ct_0] at st
    have e0 : fi (fun _ => false) 100 0 = none := by
      rcases fi_sp (fun _ => false) 100 with ⟨a, _, _, pa, _⟩ | ⟨e, _⟩
      · cases pa
      · exact e
    rw [e0] at st
    exact st
  · rintro m ⟨l5, l6, l7⟩ h2 hm ⟨fr2, A2⟩ nx
    dsimp only
    rw [b_X12_deadOnes_11 _ _ _ _ _ _ _ _ _]
    simp (disch := first | assumption | omega) only [b_X12_deadOnes_0, b_X12_deadOnes_4, b_X12_deadOnes_192, b_X12_deadOnes_18, b_X12_deadOnes_200, b_X12_deadOnes_196, b_X12_deadOnes_100, b_X12_deadOnes_35, b_X12_deadOnes_51, b_X12_deadOnes_186, b_X12_deadOnes_114, b_X12_deadOnes_180, b_X12_deadOnes_133, b_X12_deadOnes_94, b_X12_deadOnes_63, b_X12_deadOnes_141, b_X12_deadOnes_147, b_X12_deadOnes_144, b_X12_deadOnes_167, b_X12_deadOnes_155, b_X12_deadOnes_178, i_lit, i_m1, i_31, il_t, il_f, iq_t, iq_f, it_t, it_f, im_e, im_l, im_g, im_g2, nI_add, pk_mul, i_sub, i_div, sdm, i_dec, i_cl, iv_t, bI_or2, bI_t0, bI_one, not_true_eq_false, not_false_eq_true, ↓reduceIte, am_tl, am_tn, am_t0, am_n0, and_true, true_and, List.cons_append, List.nil_append, List.append_nil]
    have st2 := lp_up (d := d + 5) (k := 340) (pc := 24) (Q := Q) (f_n f) (fun i (l7 : Option am_V) => [some (v_r (some 93)), some (v_i (nI b)), some (v_i (nI (ct (dqd f seen m 0) 100))), some (v_i (oI (fi (dqd f seen m 0) 100 0))), some (v_i (nI m)), some (v_i (nI (bs (rch f seen m i)))), some (v_i (nI i)), l7]) (fun i _ h' => am_fr h h' rS ∧ ra h' (fT f) (f_n f)) ?_ ?_ (Nat.zero_le _) (s := l7) (h := h2) ⟨fr2, A2⟩
    · rw [show bs (rch f seen m 0) = 0 from bs_0] at st2
      exact st2
    · rintro i l7 h3 hi ⟨fr3, A3⟩ nx2
      have R3 : rH h3 f says seen := R.fr ok fr3
      have L3 := A3.1
      have en := R3.1.2.1
      have em : h_i h3 94 138 = f_m f := R3.1.2.2.2.2.2
      have ho := fT_ok ok i hi
      rw [b_X12_deadOnes_24 _ _ _ _ _ _ _ _ L3]
      simp (disch := first | assumption | omega | (simp only [ya_pi, ya_pj, ya_pa, ya_pr, yo_pi, yo_pj, yo_pa, yf_pi, yf_pj, yf_pa, yh_pi, yh_pj, yh_pa, yt_pi, yt_pj, yt_pa, la_pi, la_pj, la_pa]; assumption)) only [b_X12_deadOnes_0, b_X12_deadOnes_4, b_X12_deadOnes_192, b_X12_deadOnes_18, b_X12_deadOnes_200, b_X12_deadOnes_196, b_X12_deadOnes_100, b_X12_deadOnes_35, b_X12_deadOnes_51, b_X12_deadOnes_186, b_X12_deadOnes_114, b_X12_deadOnes_180, b_X12_deadOnes_133, b_X12_deadOnes_94, b_X12_deadOnes_63, b_X12_deadOnes_141, b_X12_deadOnes_147, b_X12_deadOnes_144, b_X12_deadOnes_167, b_X12_deadOnes_155, b_X12_deadOnes_178, i_lit, i_m1, i_31, il_t, il_f, iq_t, iq_f, it_t, it_f, im_e, im_l, im_g, im_g2, nI_add, pk_mul, i_sub, i_div, sdm, i_dec, i_cl, iv_t, bI_or2, bI_t0, bI_one, not_true_eq_false, not_false_eq_true, ↓reduceIte, am_tl, am_tn, am_t0, am_n0, and_true, true_and, List.cons_append, List.nil_append, List.append_nil, en, em]
      refine c_laysCall G.1 R3.1 A3 R3.2.2 G.2.2 hi hm (fun h4 fr4 e35 r112 => ?_)
      have L4 : Lay h4 := fr4.lay L3
      have A4 : ra h4 (fT f) (f_n f) := A3.fr (fT_ok ok) fr4 (fun a k _ _ => by unfold rV; omega)
      have fr4' : am_fr h h4 rS := fr3.tr (fr4.le (fun a k z => z.S))
      have hlen : (trl f seen i m (f_m f)).length ≤ 10 := Nat.le_trans trc_len ho.2.2.2.2
      simp (disch := first | assumption | omega | (simp only [ya_pi, ya_pj, ya_pa, ya_pr, yo_pi, yo_pj, yo_pa, yf_pi, yf_pj, yf_pa, yh_pi, yh_pj, yh_pa, yt_pi, yt_pj, yt_pa, la_pi, la_pj, la_pa]; assumption)) only [b_X12_deadOnes_0, b_X12_deadOnes_4, b_X12_deadOnes_192, b_X12_deadOnes_18, b_X12_deadOnes_200, b_X12_deadOnes_196, b_X12_deadOnes_100, b_X12_deadOnes_35, b_X12_deadOnes_51, b_X12_deadOnes_186, b_X12_deadOnes_114, b_X12_deadOnes_180, b_X12_deadOnes_133, b_X12_deadOnes_94, b_X12_deadOnes_63, b_X12_deadOnes_141, b_X12_deadOnes_147, b_X12_deadOnes_144, b_X12_deadOnes_167, b_X12_deadOnes_155, b_X12_deadOnes_178, i_lit, i_m1, i_31, il_t, il_f, iq_t, iq_f, it_t, it_f, im_e, im_l, im_g, im_g2, nI_add, pk_mul, i_sub, i_div, sdm, i_dec, i_cl, iv_t, bI_or2, bI_t0, bI_one, not_true_eq_false, not_false_eq_true, ↓reduceIte, am_tl, am_tn, am_t0, am_n0, and_true, true_and, List.cons_append, List.nil_append, List.append_nil]
      have st3 := lp_up (d := d + 5) (k := 340) (pc := 54) (Q := Q) (trl f seen i m (f_m f)).length (fun j (_ : Unit) => [some (v_r (some 93)), some (v_i (nI b)), some (v_i (nI (ct (dqd f seen m 0) 100))), some (v_i (oI (fi (dqd f seen m 0) 100 0))), some (v_i (nI m)), some (v_i (nI (bs (fun y => rch f seen m i y || ((pas f seen i m).take j).contains y)))), some (v_i (nI i)), some (v_i (nI j))]) (fun j _ h' => h' = h4) ?_ ?_ (Nat.zero_le _) (s := ()) (h := h4) rfl
      · rw [List.take_zero, brc_0] at st3
        exact st3
      · rintro j - h5 hj rfl nx3
        have nxt := nx3 () h5 rfl
        have e112 := r112 j hj
        rw [Nat.zero_add] at e112
        have kl := trl_lt (gd_mem hj)
        have e99 := (A4.2 i hi).2.2 _ kl
        have x10 := pas_lt ok hi (gd_mem (show j < (pas f seen i m).length by rw [pas_len]; exact hj))
        have ts : (pas f seen i m).take (j + 1) = (pas f seen i m).take j ++ [(pas f seen i m).getD j 0] := tk_s (by rw [pas_len]; exact hj)
        rw [ts, ← brc_s] at nxt
        rw [← pas_gd hj] at e99
        have l10 := ho.2.2.2.2
        generalize (pas f seen i m).getD j 0 = x at e99 x10 nxt
        generalize (trl f seen i m (f_m f)).getD j 0 = k0 at e112 kl e99
        rw [b_X12_deadOnes_54 _ _ _ _ _ _ _ _ L4]
        simp (disch := first | assumption | omega | (simp only [ya_pi, ya_pj, ya_pa, ya_pr, yo_pi, yo_pj, yo_pa, yf_pi, yf_pj, yf_pa, yh_pi, yh_pj, yh_pa, yt_pi, yt_pj, yt_pa, la_pi, la_pj, la_pa]; assumption)) only [b_X12_deadOnes_0, b_X12_deadOnes_4, b_X12_deadOnes_192, b_X12_deadOnes_18, b_X12_deadOnes_200, b_X12_deadOnes_196, b_X12_deadOnes_100, b_X12_deadOnes_35, b_X12_deadOnes_51, b_X12_deadOnes_186, b_X12_deadOnes_114, b_X12_deadOnes_180, b_X12_deadOnes_133, b_X12_deadOnes_94, b_X12_deadOnes_63, b_X12_deadOnes_141, b_X12_deadOnes_147, b_X12_deadOnes_144, b_X12_deadOnes_167, b_X12_deadOnes_155, b_X12_deadOnes_178, i_lit, i_m1, i_31, il_t, il_f, iq_t, iq_f, it_t, it_f, im_e, im_l, im_g, im_g2, nI_add, pk_mul, i_sub, i_div, sdm, i_dec, i_cl, iv_t, bI_or2, bI_t0, bI_one, not_true_eq_false, not_false_eq_true, ↓reduceIte, am_tl, am_tn, am_t0, am_n0, and_true, true_and, List.cons_append, List.nil_append, List.append_nil, e35, e112, e99, i_31]
        rw [bI_or2] at nxt
        exact nxt
      · rintro - h5 rfl
        rw [← pas_len, List.take_length, brc_e, pas_len]
        rw [b_X12_deadOnes_54 _ _ _ _ _ _ _ _ L4]
        simp (disch := first | assumption | omega | (simp only [ya_pi, ya_pj, ya_pa, ya_pr, yo_pi, yo_pj, yo_pa, yf_pi, yf_pj, yf_pa, yh_pi, yh_pj, yh_pa, yt_pi, yt_pj, yt_pa, la_pi, la_pj, la_pa]; assumption)) only [b_X12_deadOnes_0, b_X12_deadOnes_4, b_X12_deadOnes_192, b_X12_deadOnes_18, b_X12_deadOnes_200, b_X12_deadOnes_196, b_X12_deadOnes_100, b_X12_deadOnes_35, b_X12_deadOnes_51, b_X12_deadOnes_186, b_X12_deadOnes_114, b_X12_deadOnes_180, b_X12_deadOnes_133, b_X12_deadOnes_94, b_X12_deadOnes_63, b_X12_deadOnes_141, b_X12_deadOnes_147, b_X12_deadOnes_144, b_X12_deadOnes_167, b_X12_deadOnes_155, b_X12_deadOnes_178, i_lit, i_m1, i_31, il_t, il_f, iq_t, iq_f, it_t, it_f, im_e, im_l, im_g, im_g2, nI_add, pk_mul, i_sub, i_div, sdm, i_dec, i_cl, iv_t, bI_or2, bI_t0, bI_one, not_true_eq_false, not_false_eq_true, ↓reduceIte, am_tl, am_tn, am_t0, am_n0, and_true, true_and, List.cons_append, List.nil_append, List.append_nil, e35]
        exact nx2 _ h5 ⟨fr4', A4⟩
    · rintro l7 h3 ⟨fr3, A3⟩
      have R3 : rH h3 f says seen := R.fr ok fr3
      have L3 := A3.1
      have en := R3.1.2.1
      rw [b_X12_deadOnes_24 _ _ _ _ _ _ _ _ L3]
      simp (disch := first | assumption | omega | (simp only [ya_pi, ya_pj, ya_pa, ya_pr, yo_pi, yo_pj, yo_pa, yf_pi, yf_pj, yf_pa, yh_pi, yh_pj, yh_pa, yt_pi, yt_pj, yt_pa, la_pi, la_pj, la_pa]; assumption)) only [b_X12_deadOnes_0, b_X12_deadOnes_4, b_X12_deadOnes_192, b_X12_deadOnes_18, b_X12_deadOnes_200, b_X12_deadOnes_196, b_X12_deadOnes_100, b_X12_deadOnes_35, b_X12_deadOnes_51, b_X12_deadOnes_186, b_X12_deadOnes_114, b_X12_deadOnes_180, b_X12_deadOnes_133, b_X12_deadOnes_94, b_X12_deadOnes_63, b_X12_deadOnes_141, b_X12_deadOnes_147, b_X12_deadOnes_144, b_X12_deadOnes_167, b_X12_deadOnes_155, b_X12_deadOnes_178, i_lit, i_m1, i_31, il_t, il_f, iq_t, iq_f, it_t, it_f, im_e, im_l, im_g, im_g2, nI_add, pk_mul, i_sub, i_div, sdm, i_dec, i_cl, iv_t, bI_or2, bI_t0, bI_one, not_true_eq_false, not_false_eq_true, ↓reduceIte, am_tl, am_tn, am_t0, am_n0, and_true, true_and, List.cons_append, List.nil_append, List.append_nil, en]
      refine lp_up (f_n f) (fun i (_ : Unit) => [some (v_r (some 93)), some (v_i (nI b)), some (v_i (nI (ct (dqd f seen m i) 100))), some (v_i (oI (fi (dqd f seen m i) 100 0))), some (v_i (nI m)), some (v_i (nI (bs (rch f seen m (f_n f))))), some (v_i (nI i)), l7]) (fun i _ h' => h' = h3) ?_ ?_ (Nat.zero_le _) rfl (s := ())
      · rintro i - h4 hi rfl nx2
        have nxt := nx2 () h4 rfl
        have dx := dqd_x (f := f) (seen := seen) (m := m) (i := i) (by omega)
        have dn := fun t (_ : t < 100) (ht : ¬ t = 10 * i + m) => dqd_n (f := f) (seen := seen) ht (show m < 10 by omega)
        have ed := r_def R3.1 (show i < 10 by omega) hm
        obtain ⟨v, hv, ev⟩ := G.1.2.1 i m
        have e1 : (10 * i + m) % 10 = m := by omega
        have e2 : (10 * i + m) / 10 = i := by omega
        have cl := ct_le (dqd f seen m i) 100
        have bsl := bs_lt (rch f seen m (f_n f))
        rw [b_X12_deadOnes_103 _ _ _ _ _ _ _ _ L3]
        by_cases z : v = 0
        · have dp : ddP f seen (10 * i + m) = false := by unfold ddP; rw [e1, e2, ev, z]; simp
          have ext : dqd f seen m (i + 1) = dqd f seen m i := funext (fun t => by
            by_cases y : t = 10 * i + m
            · rw [y, dx.1, dx.2, dp]
            · exact dqd_n y (by omega))
          rw [ext] at nxt
          simp (disch := first | assumption | omega | (simp only [ya_pi, ya_pj, ya_pa, ya_pr, yo_pi, yo_pj, yo_pa, yf_pi, yf_pj, yf_pa, yh_pi, yh_pj, yh_pa, yt_pi, yt_pj, yt_pa, la_pi, la_pj, la_pa]; assumption)) only [b_X12_deadOnes_0, b_X12_deadOnes_4, b_X12_deadOnes_192, b_X12_deadOnes_18, b_X12_deadOnes_200, b_X12_deadOnes_196, b_X12_deadOnes_100, b_X12_deadOnes_35, b_X12_deadOnes_51, b_X12_deadOnes_186, b_X12_deadOnes_114, b_X12_deadOnes_180, b_X12_deadOnes_133, b_X12_deadOnes_94, b_X12_deadOnes_63, b_X12_deadOnes_141, b_X12_deadOnes_147, b_X12_deadOnes_144, b_X12_deadOnes_167, b_X12_deadOnes_155, b_X12_deadOnes_178, i_lit, i_m1, i_31, il_t, il_f, iq_t, iq_f, it_t, it_f, im_e, im_l, im_g, im_g2, nI_add, pk_mul, i_sub, i_div, sdm, i_dec, i_cl, iv_t, bI_or2, bI_t0, bI_one, not_true_eq_false, not_false_eq_true, ↓reduceIte, am_tl, am_tn, am_t0, am_n0, and_true, true_and, List.cons_append, List.nil_append, List.append_nil, en, ed, ev, z]
          exact nxt
        · have nz : (nI v == nI 0) = false := beq_eq_false_iff_ne.2 (fun w => z ((nI_eq (by omega) (by omega)).1 w))
          have dp : ddP f seen (10 * i + m) = !rch f seen m (f_n f) i := by
            unfold ddP
            rw [e1, e2, ev, nz, decide_eq_true hm]
            rfl
          cases r : rch f seen m (f_n f) i with
          | true =>
            rw [r] at dp
            have ext : dqd f seen m (i + 1) = dqd f seen m i := funext (fun t => by
              by_cases y : t = 10 * i + m
              · rw [y, dx.1, dx.2, dp]; rfl
              · exact dqd_n y (by omega))
            rw [ext] at nxt
            simp (disch := first | assumption | omega | (simp only [ya_pi, ya_pj, ya_pa, ya_pr, yo_pi, yo_pj, yo_pa, yf_pi, yf_pj, yf_pa, yh_pi, yh_pj, yh_pa, yt_pi, yt_pj, yt_pa, la_pi, la_pj, la_pa]; assumption)) only [b_X12_deadOnes_0, b_X12_deadOnes_4, b_X12_deadOnes_192, b_X12_deadOnes_18, b_X12_deadOnes_200, b_X12_deadOnes_196, b_X12_deadOnes_100, b_X12_deadOnes_35, b_X12_deadOnes_51, b_X12_deadOnes_186, b_X12_deadOnes_114, b_X12_deadOnes_180, b_X12_deadOnes_133, b_X12_deadOnes_94, b_X12_deadOnes_63, b_X12_deadOnes_141, b_X12_deadOnes_147, b_X12_deadOnes_144, b_X12_deadOnes_167, b_X12_deadOnes_155, b_X12_deadOnes_178, i_lit, i_m1, i_31, il_t, il_f, iq_t, iq_f, it_t, it_f, im_e, im_l, im_g, im_g2, nI_add, pk_mul, i_sub, i_div, sdm, i_dec, i_cl, iv_t, bI_or2, bI_t0, bI_one, not_true_eq_false, not_false_eq_true, ↓reduceIte, am_tl, am_tn, am_t0, am_n0, and_true, true_and, List.cons_append, List.nil_append, List.append_nil, en, ed, ev, nI_l, c_isIn (show i < 16 by omega), r]
            exact nxt
          | false =>
            rw [r, Bool.not_false] at dp
            have cu := ct_u1 dx.1 (dx.2.trans dp) (show 10 * i + m < 100 by omega) dn
            rw [cu] at nxt
            cases e : fi (dqd f seen m i) 100 0 with
            | none =>
              rw [fi_u0 (show 10 * i + m < 100 by omega) (dx.2.trans dp) dn e] at nxt
              simp (disch := first | assumption | omega | (simp only [ya_pi, ya_pj, ya_pa, ya_pr, yo_pi, yo_pj, yo_pa, yf_pi, yf_pj, yf_pa, yh_pi, yh_pj, yh_pa, yt_pi, yt_pj, yt_pa, la_pi, la_pj, la_pa]; assumption)) only [b_X12_deadOnes_0, b_X12_deadOnes_4, b_X12_deadOnes_192, b_X12_deadOnes_18, b_X12_deadOnes_200, b_X12_deadOnes_196, b_X12_deadOnes_100, b_X12_deadOnes_35, b_X12_deadOnes_51, b_X12_deadOnes_186, b_X12_deadOnes_114, b_X12_deadOnes_180, b_X12_deadOnes_133, b_X12_deadOnes_94, b_X12_deadOnes_63, b_X12_deadOnes_141, b_X12_deadOnes_147, b_X12_deadOnes_144, b_X12_deadOnes_167, b_X12_deadOnes_155, b_X12_deadOnes_178, i_lit, i_m1, i_31, il_t, il_f, iq_t, iq_f, it_t, it_f, im_e, im_l, im_g, im_g2, nI_add, pk_mul, i_sub, i_div, sdm, i_dec, i_cl, iv_t, bI_or2, bI_t0, bI_one, not_true_eq_false, not_false_eq_true, ↓reduceIte, am_tl, am_tn, am_t0, am_n0, and_true, true_and, List.cons_append, List.nil_append, List.append_nil, or_true, true_or, or_false, false_or, eq_self, ior0, iand0, im_e2, oI, en, ed, ev, nI_l, c_isIn (show i < 16 by omega), r, Bool.false_eq_true, im_e2]
              exact nxt
            | some j =>
              have hj := fi_lt e
              rw [fi_u1 (show 10 * i + m < 100 by omega) (dx.2.trans dp) dn e] at nxt
              by_cases y : 10 * i + m < j
              · rw [if_pos y] at nxt
                simp (disch := first | assumption | omega | (simp only [ya_pi, ya_pj, ya_pa, ya_pr, yo_pi, yo_pj, yo_pa, yf_pi, yf_pj, yf_pa, yh_pi, yh_pj, yh_pa, yt_pi, yt_pj, yt_pa, la_pi, la_pj, la_pa]; assumption)) only [b_X12_deadOnes_0, b_X12_deadOnes_4, b_X12_deadOnes_192, b_X12_deadOnes_18, b_X12_deadOnes_200, b_X12_deadOnes_196, b_X12_deadOnes_100, b_X12_deadOnes_35, b_X12_deadOnes_51, b_X12_deadOnes_186, b_X12_deadOnes_114, b_X12_deadOnes_180, b_X12_deadOnes_133, b_X12_deadOnes_94, b_X12_deadOnes_63, b_X12_deadOnes_141, b_X12_deadOnes_147, b_X12_deadOnes_144, b_X12_deadOnes_167, b_X12_deadOnes_155, b_X12_deadOnes_178, i_lit, i_m1, i_31, il_t, il_f, iq_t, iq_f, it_t, it_f, im_e, im_l, im_g, im_g2, nI_add, pk_mul, i_sub, i_div, sdm, i_dec, i_cl, iv_t, bI_or2, bI_t0, bI_one, not_true_eq_false, not_false_eq_true, ↓reduceIte, am_tl, am_tn, am_t0, am_n0, and_true, true_and, List.cons_append, List.nil_append, List.append_nil, or_true, true_or, or_false, false_or, eq_self, ior0, iand0, im_e2, oI, en, ed, ev, nI_l, c_isIn (show i < 16 by omega), r, Bool.false_eq_true]
                exact nxt
              · rw [if_neg y] at nxt
                simp (disch := first | assumption | omega | (simp only [ya_pi, ya_pj, ya_pa, ya_pr, yo_pi, yo_pj, yo_pa, yf_pi, yf_pj, yf_pa, yh_pi, yh_pj, yh_pa, yt_pi, yt_pj, yt_pa, la_pi, la_pj, la_pa]; assumption)) only [b_X12_deadOnes_0, b_X12_deadOnes_4, b_X12_deadOnes_192, b_X12_deadOnes_18, b_X12_deadOnes_200, b_X12_deadOnes_196, b_X12_deadOnes_100, b_X12_deadOnes_35, b_X12_deadOnes_51, b_X12_deadOnes_186, b_X12_deadOnes_114, b_X12_deadOnes_180, b_X12_deadOnes_133, b_X12_deadOnes_94, b_X12_deadOnes_63, b_X12_deadOnes_141, b_X12_deadOnes_147, b_X12_deadOnes_144, b_X12_deadOnes_167, b_X12_deadOnes_155, b_X12_deadOnes_178, i_lit, i_m1, i_31, il_t, il_f, iq_t, iq_f, it_t, it_f, im_e, im_l, im_g, im_g2, nI_add, pk_mul, i_sub, i_div, sdm, i_dec, i_cl, iv_t, bI_or2, bI_t0, bI_one, not_true_eq_false, not_false_eq_true, ↓reduceIte, am_tl, am_tn, am_t0, am_n0, and_true, true_and, List.cons_append, List.nil_append, List.append_nil, or_true, true_or, or_false, false_or, eq_self, ior0, iand0, im_e2, oI, en, ed, ev, nI_l, c_isIn (show i < 16 by omega), r, Bool.false_eq_true]
                exact nxt
      · rintro - h4 rfl
        rw [show dqd f seen m (f_n f) = dqd f seen (m + 1) 0 from funext (fun t => dqd_e G.1)]
        rw [b_X12_deadOnes_103 _ _ _ _ _ _ _ _ L3]
        simp (disch := first | assumption | omega | (simp only [ya_pi, ya_pj, ya_pa, ya_pr, yo_pi, yo_pj, yo_pa, yf_pi, yf_pj, yf_pa, yh_pi, yh_pj, yh_pa, yt_pi, yt_pj, yt_pa, la_pi, la_pj, la_pa]; assumption)) only [b_X12_deadOnes_0, b_X12_deadOnes_4, b_X12_deadOnes_192, b_X12_deadOnes_18, b_X12_deadOnes_200, b_X12_deadOnes_196, b_X12_deadOnes_100, b_X12_deadOnes_35, b_X12_deadOnes_51, b_X12_deadOnes_186, b_X12_deadOnes_114, b_X12_deadOnes_180, b_X12_deadOnes_133, b_X12_deadOnes_94, b_X12_deadOnes_63, b_X12_deadOnes_141, b_X12_deadOnes_147, b_X12_deadOnes_144, b_X12_deadOnes_167, b_X12_deadOnes_155, b_X12_deadOnes_178, i_lit, i_m1, i_31, il_t, il_f, iq_t, iq_f, it_t, it_f, im_e, im_l, im_g, im_g2, nI_add, pk_mul, i_sub, i_div, sdm, i_dec, i_cl, iv_t, bI_or2, bI_t0, bI_one, not_true_eq_false, not_false_eq_true, ↓reduceIte, am_tl, am_tn, am_t0, am_n0, and_true, true_and, List.cons_append, List.nil_append, List.append_nil, en]
        exact nx (_, _, _) h4 ⟨fr3, A3⟩
  · rintro ⟨l5, l6, l7⟩ h2 ⟨fr2, A2⟩
    dsimp only
    rw [show dqd f seen 8 0 = ddP f seen from funext (fun t => dqd_8)]
    have fin := k h2 fr2
    unfold a_dead a_firstDead at fin
    rw [b_X12_deadOnes_11 _ _ _ _ _ _ _ _ _]
    by_cases z : b = 0
    · rw [if_neg (by omega)] at fin
      simp (disch := first | assumption | omega | (simp only [ya_pi, ya_pj, ya_pa, ya_pr, yo_pi, yo_pj, yo_pa, yf_pi, yf_pj, yf_pa, yh_pi, yh_pj, yh_pa, yt_pi, yt_pj, yt_pa, la_pi, la_pj, la_pa]; assumption)) only [b_X12_deadOnes_0, b_X12_deadOnes_4, b_X12_deadOnes_192, b_X12_deadOnes_18, b_X12_deadOnes_200, b_X12_deadOnes_196, b_X12_deadOnes_100, b_X12_deadOnes_35, b_X12_deadOnes_51, b_X12_deadOnes_186, b_X12_deadOnes_114, b_X12_deadOnes_180, b_X12_deadOnes_133, b_X12_deadOnes_94, b_X12_deadOnes_63, b_X12_deadOnes_141, b_X12_deadOnes_147, b_X12_deadOnes_144, b_X12_deadOnes_167, b_X12_deadOnes_155, b_X12_deadOnes_178, i_lit, i_m1, i_31, il_t, il_f, iq_t, iq_f, it_t, it_f, im_e, im_l, im_g, im_g2, nI_add, pk_mul, i_sub, i_div, sdm, i_dec, i_cl, iv_t, bI_or2, bI_t0, bI_one, not_true_eq_false, not_false_eq_true, ↓reduceIte, am_tl, am_tn, am_t0, am_n0, and_true, true_and, List.cons_append, List.nil_append, List.append_nil]
      exact fin
    · rw [if_pos (by omega)] at fin
      simp (disch := first | assumption | omega | (simp only [ya_pi, ya_pj, ya_pa, ya_pr, yo_pi, yo_pj, yo_pa, yf_pi, yf_pj, yf_pa, yh_pi, yh_pj, yh_pa, yt_pi, yt_pj, yt_pa, la_pi, la_pj, la_pa]; assumption)) only [b_X12_deadOnes_0, b_X12_deadOnes_4, b_X12_deadOnes_192, b_X12_deadOnes_18, b_X12_deadOnes_200, b_X12_deadOnes_196, b_X12_deadOnes_100, b_X12_deadOnes_35, b_X12_deadOnes_51, b_X12_deadOnes_186, b_X12_deadOnes_114, b_X12_deadOnes_180, b_X12_deadOnes_133, b_X12_deadOnes_94, b_X12_deadOnes_63, b_X12_deadOnes_141, b_X12_deadOnes_147, b_X12_deadOnes_144, b_X12_deadOnes_167, b_X12_deadOnes_155, b_X12_deadOnes_178, i_lit, i_m1, i_31, il_t, il_f, iq_t, iq_f, it_t, it_f, im_e, im_l, im_g, im_g2, nI_add, pk_mul, i_sub, i_div, sdm, i_dec, i_cl, iv_t, bI_or2, bI_t0, bI_one, not_true_eq_false, not_false_eq_true, ↓reduceIte, am_tl, am_tn, am_t0, am_n0, and_true, true_and, List.cons_append, List.nil_append, List.append_nil]
      exact fin
theorem c_rDead {d : Nat} {Q : Option am_V → am_H → Prop} {h : am_H} {f : fa_S} {says seen : Option (List Nat)} (G : hk f says seen) (R : rH h f says seen) (k : ∀ h', am_fr h h' rS → Q (some (v_i (a_dead f seen))) h') : ex_ (d + 6) 341 0 [some (v_r (some 93))] [] h Q := by
  have L0 := R.1.1
  have fr0 : am_fr h (p_i h 93 0 (nI 0)) rS := am_fr_pi (by unfold rS; omega)
  simp (disch := first | assumption | omega | (simp only [ya_pi, ya_pj, ya_pa, ya_pr, yo_pi, yo_pj, yo_pa, yf_pi, yf_pj, yf_pa, yh_pi, yh_pj, yh_pa, yt_pi, yt_pj, yt_pa, la_pi, la_pj, la_pa]; assumption)) only [b_X12_dead_0, b_X12_dead_10, i_lit, i_m1, i_31, il_t, il_f, iq_t, iq_f, it_t, it_f, im_e, im_l, im_g, im_g2, nI_add, pk_mul, i_sub, i_div, sdm, i_dec, i_cl, iv_t, bI_or2, bI_t0, bI_one, not_true_eq_false, not_false_eq_true, ↓reduceIte, am_tl, am_tn, am_t0, am_n0, and_true, true_and, List.cons_append, List.nil_append, List.append_nil]
  refine c_deadOnes G (R.fr G.1.1 fr0) (by omega) (fun h1 fr1 => ?_)
  simp (disch := first | assumption | omega | (simp only [ya_pi, ya_pj, ya_pa, ya_pr, yo_pi, yo_pj, yo_pa, yf_pi, yf_pj, yf_pa, yh_pi, yh_pj, yh_pa, yt_pi, yt_pj, yt_pa, la_pi, la_pj, la_pa]; assumption)) only [b_X12_dead_0, b_X12_dead_10, i_lit, i_m1, i_31, il_t, il_f, iq_t, iq_f, it_t, it_f, im_e, im_l, im_g, im_g2, nI_add, pk_mul, i_sub, i_div, sdm, i_dec, i_cl, iv_t, bI_or2, bI_t0, bI_one, not_true_eq_false, not_false_eq_true, ↓reduceIte, am_tl, am_tn, am_t0, am_n0, and_true, true_and, List.cons_append, List.nil_append, List.append_nil]
  exact k h1 (fr0.tr fr1)
theorem c_rFirstDead {d : Nat} {Q : Option am_V → am_H → Prop} {h : am_H} {f : fa_S} {says seen : Option (List Nat)} (G : hk f says seen) (R : rH h f says seen) (k : ∀ h', am_fr h h' rS → Q (some (v_i (a_firstDead f seen))) h') : ex_ (d + 6) 342 0 [some (v_r (some 93))] [] h Q := by
  have L0 := R.1.1
  have fr0 : am_fr h (p_i h 93 0 (nI 0)) rS := am_fr_pi (by unfold rS; omega)
  simp (disch := first | assumption | omega | (simp only [ya_pi, ya_pj, ya_pa, ya_pr, yo_pi, yo_pj, yo_pa, yf_pi, yf_pj, yf_pa, yh_pi, yh_pj, yh_pa, yt_pi, yt_pj, yt_pa, la_pi, la_pj, la_pa]; assumption)) only [b_X12_firstDead_0, b_X12_firstDead_10, i_lit, i_m1, i_31, il_t, il_f, iq_t, iq_f, it_t, it_f, im_e, im_l, im_g, im_g2, nI_add, pk_mul, i_sub, i_div, sdm, i_dec, i_cl, iv_t, bI_or2, bI_t0, bI_one, not_true_eq_false, not_false_eq_true, ↓reduceIte, am_tl, am_tn, am_t0, am_n0, and_true, true_and, List.cons_append, List.nil_append, List.append_nil]
  refine c_deadOnes G (R.fr G.1.1 fr0) (by omega) (fun h1 fr1 => ?_)
  simp (disch := first | assumption | omega | (simp only [ya_pi, ya_pj, ya_pa, ya_pr, yo_pi, yo_pj, yo_pa, yf_pi, yf_pj, yf_pa, yh_pi, yh_pj, yh_pa, yt_pi, yt_pj, yt_pa, la_pi, la_pj, la_pa]; assumption)) only [b_X12_firstDead_0, b_X12_firstDead_10, i_lit, i_m1, i_31, il_t, il_f, iq_t, iq_f, it_t, it_f, im_e, im_l, im_g, im_g2, nI_add, pk_mul, i_sub, i_div, sdm, i_dec, i_cl, iv_t, bI_or2, bI_t0, bI_one, not_true_eq_false, not_false_eq_true, ↓reduceIte, am_tl, am_tn, am_t0, am_n0, and_true, true_and, List.cons_append, List.nil_append, List.append_nil]
  exact k h1 (fr0.tr fr1)
