/-! ===== lots: the class ===== -/
def tl (n s : Nat) : Nat := ct (fun d => xs2 n 0 d == s) (10 ^ n)
def lP (a _ : Nat) : Prop := 69 ≤ a ∧ a ≤ 80
theorem c_tally {d : Nat} {Q : Option am_V → am_H → Prop} {h : am_H} {n : Nat} (L : Lay h) (hn : n ≤ 3) {l2 l3 l4 l5 : Option am_V} (k : ∀ h', am_fr h h' (fun a k => (a = 69 ∧ k = 2) ∨ a = 80) → h_i h' 69 2 = nI (10 ^ n) → (∀ s, s < 1024 → h_i h' 80 s = nI (tl n s)) → Q none h') : ex_ (d + 1) 46 0 [some (v_r (some 69)), some (v_i (nI n)), l2, l3, l4, l5] [] h Q := by
  have A80 : y_arr h 80 20 1024 := la_y L rfl
  simp (disch := first | assumption | omega | (simp only [ya_pi, ya_pj, ya_pa, ya_pr, yo_pi, yo_pj, yo_pa, yf_pi, yf_pj, yf_pa, yh_pi, yh_pj, yh_pa, yt_pi, yt_pj, yt_pa, la_pi, la_pj, la_pa]; assumption)) only [b_X3_tally_0, i_lit, i_m1, i_31, il_t, il_f, iq_t, iq_f, it_t, it_f, im_e, im_l, im_g, im_g2, nI_add, pk_mul, i_sub, i_div, sdm, i_dec, i_cl, iv_t, bI_or2, bI_t0, bI_one, not_true_eq_false, not_false_eq_true, ↓reduceIte, am_tl, am_tn, am_t0, am_n0, and_true, true_and, List.cons_append, List.nil_append, List.append_nil]
  refine c_fill A80 (by omega) (fun h1 fr1 e1 => ?_)
  have L1 := fr1.lay L
  simp (disch := first | assumption | omega | (simp only [ya_pi, ya_pj, ya_pa, ya_pr, yo_pi, yo_pj, yo_pa, yf_pi, yf_pj, yf_pa, yh_pi, yh_pj, yh_pa, yt_pi, yt_pj, yt_pa, la_pi, la_pj, la_pa]; assumption)) only [b_X3_tally_8, i_lit, i_m1, i_31, il_t, il_f, iq_t, iq_f, it_t, it_f, im_e, im_l, im_g, im_g2, nI_add, pk_mul, i_sub, i_div, sdm, i_dec, i_cl, iv_t, bI_or2, bI_t0, bI_one, not_true_eq_false, not_false_eq_true, ↓reduceIte, am_tl, am_tn, am_t0, am_n0, and_true, true_and, List.cons_append, List.nil_append, List.append_nil]
  have p3 := pw3 hn
  refine lp_up n (fun i (_ : Unit) => [some (v_r (some 69)), some (v_i (nI n)), some (v_i (nI i)), l3, l4, l5]) (fun i _ h' => am_fr h h' (fun a k => (a = 69 ∧ k = 2) ∨ a = 80) ∧ h_i h' 69 2 = nI (10 ^ i) ∧ ∀ s, s < 1024 → h_i h' 80 s = nI 0) ?_ ?_ (Nat.zero_le _) ⟨(fr1.le (fun a k z => Or.inr z)).pi (Or.inl ⟨rfl, rfl⟩), hi_s, fun s hs => by rw [hi_o (by omega)]; exact e1 s hs⟩ (s := ())
  · rintro i - h2 hi ⟨fr2, e2, t2⟩ nxt
    have L2 := fr2.lay L
    rw [b_X3_tally_15 _ _ _ _ _ _ _]
    simp (disch := first | assumption | omega | (simp only [ya_pi, ya_pj, ya_pa, ya_pr, yo_pi, yo_pj, yo_pa, yf_pi, yf_pj, yf_pa, yh_pi, yh_pj, yh_pa, yt_pi, yt_pj, yt_pa, la_pi, la_pj, la_pa]; assumption)) only [b_X3_tally_20, b_X3_tally_25, i_lit, i_m1, i_31, il_t, il_f, iq_t, iq_f, it_t, it_f, im_e, im_l, im_g, im_g2, nI_add, pk_mul, i_sub, i_div, sdm, i_dec, i_cl, iv_t, bI_or2, bI_t0, bI_one, not_true_eq_false, not_false_eq_true, ↓reduceIte, am_tl, am_tn, am_t0, am_n0, and_true, true_and, List.cons_append, List.nil_append, List.append_nil, e2]
    exact nxt () _ ⟨fr2.pi (Or.inl ⟨rfl, rfl⟩), by rw [hi_s, Nat.pow_succ], fun s hs => by rw [hi_o (by omega)]; exact t2 s hs⟩
  · rintro - h2 ⟨fr2, e2, t2⟩
    rw [b_X3_tally_15 _ _ _ _ _ _ _]
    simp (disch := first | assumption | omega | (simp only [ya_pi, ya_pj, ya_pa, ya_pr, yo_pi, yo_pj, yo_pa, yf_pi, yf_pj, yf_pa, yh_pi, yh_pj, yh_pa, yt_pi, yt_pj, yt_pa, la_pi, la_pj, la_pa]; assumption)) only [b_X3_tally_42, i_lit, i_m1, i_31, il_t, il_f, iq_t, iq_f, it_t, it_f, im_e, im_l, im_g, im_g2, nI_add, pk_mul, i_sub, i_div, sdm, i_dec, i_cl, iv_t, bI_or2, bI_t0, bI_one, not_true_eq_false, not_false_eq_true, ↓reduceIte, am_tl, am_tn, am_t0, am_n0, and_true, true_and, List.cons_append, List.nil_append, List.append_nil]
    have pl : ∀ m, m ≤ 10 ^ n → m ≤ 1000 := fun m hm => by omega
    refine lp_up (10 ^ n) (fun i (s : Option am_V × Option am_V × Option am_V) => [some (v_r (some 69)), some (v_i (nI n)), some (v_i (nI i)), s.1, s.2.1, s.2.2]) (fun i _ h' => am_fr h h' (fun a k => (a = 69 ∧ k = 2) ∨ a = 80) ∧ h_i h' 69 2 = nI (10 ^ n) ∧ ∀ s, s < 1024 → h_i h' 80 s = nI (ct (fun d => xs2 n 0 d == s) i)) ?_ ?_ (Nat.zero_le _) ⟨fr2, e2, t2⟩ (s := (l3, l4, l5))
    · rintro i ⟨m3, m4, m5⟩ h3 hi ⟨fr3, e3, t3⟩ nxt
      dsimp only at nxt ⊢
      have L3 := fr3.lay L
      have i1000 := pl i (by omega)
      rw [b_X3_tally_44 _ _ _ _ _ _ L3]
      simp (disch := first | assumption | omega | (simp only [ya_pi, ya_pj, ya_pa, ya_pr, yo_pi, yo_pj, yo_pa, yf_pi, yf_pj, yf_pa, yh_pi, yh_pj, yh_pa, yt_pi, yt_pj, yt_pa, la_pi, la_pj, la_pa]; assumption)) only [b_X3_tally_52, i_lit, i_m1, i_31, il_t, il_f, iq_t, iq_f, it_t, it_f, im_e, im_l, im_g, im_g2, nI_add, pk_mul, i_sub, i_div, sdm, i_dec, i_cl, iv_t, bI_or2, bI_t0, bI_one, not_true_eq_false, not_false_eq_true, ↓reduceIte, am_tl, am_tn, am_t0, am_n0, and_true, true_and, List.cons_append, List.nil_append, List.append_nil, e3]
      refine lp_up n (fun j (s : Nat × Nat) => [some (v_r (some 69)), some (v_i (nI n)), some (v_i (nI i)), some (v_i (nI s.1)), some (v_i (nI s.2)), some (v_i (nI j))]) (fun j s h' => h' = h3 ∧ s.1 < 1024 ∧ s.2 ≤ 1000 ∧ xs2 n 0 i = xs2 (n - j) s.1 s.2) ?_ ?_ (Nat.zero_le _) ⟨rfl, by omega, i1000, by rw [Nat.sub_zero]⟩ (s := (0, i))
      · rintro j ⟨s, r⟩ h4 hj ⟨rfl, s1, r1, eq⟩ nx2
        dsimp only at s1 r1 eq nx2 ⊢
        have r10 : r % 10 < 10 := Nat.mod_lt _ (by omega)
        have p10 : (2 : Nat) ^ (r % 10) < 2 ^ 10 := Nat.pow_lt_pow_right (by omega) r10
        rw [show n - j = (n - (j + 1)) + 1 from by omega, xs2] at eq
        rw [b_X3_tally_60 _ _ _ _ _ _ _]
        simp (disch := first | assumption | omega | (simp only [ya_pi, ya_pj, ya_pa, ya_pr, yo_pi, yo_pj, yo_pa, yf_pi, yf_pj, yf_pa, yh_pi, yh_pj, yh_pa, yt_pi, yt_pj, yt_pa, la_pi, la_pj, la_pa]; assumption)) only [b_X3_tally_66, b_X3_tally_72, i_lit, i_m1, i_31, il_t, il_f, iq_t, iq_f, it_t, it_f, im_e, im_l, im_g, im_g2, nI_add, pk_mul, i_sub, i_div, sdm, i_dec, i_cl, iv_t, bI_or2, bI_t0, bI_one, not_true_eq_false, not_false_eq_true, ↓reduceIte, am_tl, am_tn, am_t0, am_n0, and_true, true_and, List.cons_append, List.nil_append, List.append_nil, sdm]
        rw [← bs_one (show r % 10 < 16 by omega), ix_xor]
        exact nx2 (s ^^^ 2 ^ (r % 10), r / 10) h4 ⟨rfl, Nat.xor_lt_two_pow (n := 10) s1 p10, by dsimp only; omega, eq⟩
      · rintro ⟨s, r⟩ h4 ⟨rfl, s1, r1, eq⟩
        dsimp only at s1 r1 eq ⊢
        rw [Nat.sub_self, xs2] at eq
        have es := t3 s s1
        rw [b_X3_tally_60 _ _ _ _ _ _ _]
        simp (disch := first | assumption | omega | (simp only [ya_pi, ya_pj, ya_pa, ya_pr, yo_pi, yo_pj, yo_pa, yf_pi, yf_pj, yf_pa, yh_pi, yh_pj, yh_pa, yt_pi, yt_pj, yt_pa, la_pi, la_pj, la_pa]; assumption)) only [b_X3_tally_95, b_X3_tally_99, b_X3_tally_108, i_lit, i_m1, i_31, il_t, il_f, iq_t, iq_f, it_t, it_f, im_e, im_l, im_g, im_g2, nI_add, pk_mul, i_sub, i_div, sdm, i_dec, i_cl, iv_t, bI_or2, bI_t0, bI_one, not_true_eq_false, not_false_eq_true, ↓reduceIte, am_tl, am_tn, am_t0, am_n0, and_true, true_and, List.cons_append, List.nil_append, List.append_nil, es]
        refine nxt (_, _, _) _ ⟨fr3.pi (Or.inr rfl), by rw [hi_o (by omega)]; exact e3, fun q hq => ?_⟩
        by_cases z : q = s
        · rw [z, hi_s, ct_y (p := fun d => xs2 n 0 d == s) (beq_iff_eq.2 eq)]
        · rw [hi_k z, ct_n (p := fun d => xs2 n 0 d == q) (beq_eq_false_iff_ne.2 (by rw [eq]; exact fun w => z w.symm))]
          exact t3 q hq
    · rintro ⟨m3, m4, m5⟩ h3 ⟨fr3, e3, t3⟩
      dsimp only
      have L3 := fr3.lay L
      rw [b_X3_tally_44 _ _ _ _ _ _ L3]
      simp (disch := first | assumption | omega | (simp only [ya_pi, ya_pj, ya_pa, ya_pr, yo_pi, yo_pj, yo_pa, yf_pi, yf_pj, yf_pa, yh_pi, yh_pj, yh_pa, yt_pi, yt_pj, yt_pa, la_pi, la_pj, la_pa]; assumption)) only [b_X3_tally_124, i_lit, i_m1, i_31, il_t, il_f, iq_t, iq_f, it_t, it_f, im_e, im_l, im_g, im_g2, nI_add, pk_mul, i_sub, i_div, sdm, i_dec, i_cl, iv_t, bI_or2, bI_t0, bI_one, not_true_eq_false, not_false_eq_true, ↓reduceIte, am_tl, am_tn, am_t0, am_n0, and_true, true_and, List.cons_append, List.nil_append, List.append_nil, e3]
      exact k h3 fr3 e3 t3
theorem tl_le {n s : Nat} (hn : n ≤ 3) : tl n s ≤ 1000 := Nat.le_trans (ct_le _ _) (pw3 hn).1
theorem c_lLearn {d : Nat} {Q : Option am_V → am_H → Prop} {h : am_H} {f : fa_S} {n : Nat} (L : Lay h) (ok : fa_ok f) (F : fa_at h 11 f) (T : ltA h f) (hn : n ≤ 3) {l3 l4 : Option am_V} (k : ∀ h', am_fr h h' lP → h_i h' 69 5 = nI n → h_i h' 69 2 = nI (10 ^ n) → h_i h' 69 3 = nI (lA f n) → h_i h' 69 4 = nI (lO f n) → Q none h') : ex_ (d + 5) 56 0 [some (v_r (some 69)), some (v_r (some 11)), some (v_i (nI n)), l3, l4] [] h Q := by
  have n10 := ok.1
  have new : ¬ h_i h 69 5 = nI n → ex_ (d + 5) 56 0 [some (v_r (some 69)), some (v_r (some 11)), some (v_i (nI n)), l3, l4] [] h Q := by
    intro hne
    simp (disch := first | assumption | omega | (simp only [ya_pi, ya_pj, ya_pa, ya_pr, yo_pi, yo_pj, yo_pa, yf_pi, yf_pj, yf_pa, yh_pi, yh_pj, yh_pa, yt_pi, yt_pj, yt_pa, la_pi, la_pj, la_pa]; assumption)) only [b_X3_learn_0, b_X3_learn_9, i_lit, i_m1, i_31, il_t, il_f, iq_t, iq_f, it_t, it_f, im_e, im_l, im_g, im_g2, nI_add, pk_mul, i_sub, i_div, sdm, i_dec, i_cl, iv_t, bI_or2, bI_t0, bI_one, not_true_eq_false, not_false_eq_true, ↓reduceIte, am_tl, am_tn, am_t0, am_n0, and_true, true_and, List.cons_append, List.nil_append, List.append_nil, hne]
    have fr0 : am_fr h (p_i h 69 5 (nI n)) lP := am_fr_pi (by unfold lP; omega)
    refine c_tally (d := d + 3) (fr0.lay L) hn (fun h1 fr1 e1 t1 => ?_)
    have L1 := fr1.lay (fr0.lay L)
    simp (disch := first | assumption | omega | (simp only [ya_pi, ya_pj, ya_pa, ya_pr, yo_pi, yo_pj, yo_pa, yf_pi, yf_pj, yf_pa, yh_pi, yh_pj, yh_pa, yt_pi, yt_pj, yt_pa, la_pi, la_pj, la_pa]; assumption)) only [b_X3_learn_19, i_lit, i_m1, i_31, il_t, il_f, iq_t, iq_f, it_t, it_f, im_e, im_l, im_g, im_g2, nI_add, pk_mul, i_sub, i_div, sdm, i_dec, i_cl, iv_t, bI_or2, bI_t0, bI_one, not_true_eq_false, not_false_eq_true, ↓reduceIte, am_tl, am_tn, am_t0, am_n0, and_true, true_and, List.cons_append, List.nil_append, List.append_nil]
    have frs : am_fr h (p_i (p_i h1 69 3 (nI 0)) 69 4 (nI 0)) lP := ((fr0.tr (fr1.le (fun a k z => by unfold lP; omega))).pi (by unfold lP; omega)).pi (by unfold lP; omega)
    generalize hG : (fun s : Nat => lcnt f (fun k => s.testBit k)) = G
    have G10 : ∀ s, G s ≤ 10 := fun s => by rw [← hG]; exact lcnt_le ok
    have bO : ∀ m, sm (fun s => G s * tl n s) m ≤ 10000 * m := fun m => sm_le (fun s _ => by
      have h1 := G10 s
      have h2 := tl_le (s := s) hn
      have := Nat.mul_le_mul h1 h2
      omega)
    refine lp_up 1024 (fun i (l4 : Option am_V) => [some (v_r (some 69)), some (v_r (some 11)), some (v_i (nI n)), some (v_i (nI i)), l4]) (fun i _ h' => am_fr h h' lP ∧ h_i h' 69 5 = nI n ∧ h_i h' 69 2 = nI (10 ^ n) ∧ (∀ s, s < 1024 → h_i h' 80 s = nI (tl n s)) ∧ h_i h' 69 3 = nI (sm (fun s => (if G s = f_n f then 1 else 0) * tl n s) i) ∧ h_i h' 69 4 = nI (sm (fun s => G s * tl n s) i)) ?_ ?_ (Nat.zero_le _) ⟨frs, ?_, ?_, ?_, ?_, ?_⟩ (s := l4)
    · rintro i m4 h2 hi ⟨fr2, e5, e2, t2, e3, e4⟩ nxt
      have L2 := fr2.lay L
      have F2 : fa_at h2 11 f := fr2.fa F (fun a k h1 h2 z => by unfold lP at z; omega)
      have Y2 := F2.1
      have ei := t2 i hi
      have ti := tl_le (s := i) hn
      rw [b_X3_learn_31 _ _ _ _ _ L2]
      by_cases z : tl n i = 0
      · simp (disch := first | assumption | omega | (simp only [ya_pi, ya_pj, ya_pa, ya_pr, yo_pi, yo_pj, yo_pa, yf_pi, yf_pj, yf_pa, yh_pi, yh_pj, yh_pa, yt_pi, yt_pj, yt_pa, la_pi, la_pj, la_pa]; assumption)) only [b_X3_learn_40, b_X3_learn_103, i_lit, i_m1, i_31, il_t, il_f, iq_t, iq_f, it_t, it_f, im_e, im_l, im_g, im_g2, nI_add, pk_mul, i_sub, i_div, sdm, i_dec, i_cl, iv_t, bI_or2, bI_t0, bI_one, not_true_eq_false, not_false_eq_true, ↓reduceIte, am_tl, am_tn, am_t0, am_n0, and_true, true_and, List.cons_append, List.nil_append, List.append_nil, ei, z]
        refine nxt _ h2 ⟨fr2, e5, e2, t2, ?_, ?_⟩
        · rw [sm, z, Nat.mul_zero, Nat.add_zero]; exact e3
        · rw [sm, z, Nat.mul_zero, Nat.add_zero]; exact e4
      · have z' : 0 < tl n i := by omega
        simp (disch := first | assumption | omega | (simp only [ya_pi, ya_pj, ya_pa, ya_pr, yo_pi, yo_pj, yo_pa, yf_pi, yf_pj, yf_pa, yh_pi, yh_pj, yh_pa, yt_pi, yt_pj, yt_pa, la_pi, la_pj, la_pa]; assumption)) only [b_X3_learn_40, b_X3_learn_49, i_lit, i_m1, i_31, il_t, il_f, iq_t, iq_f, it_t, it_f, im_e, im_l, im_g, im_g2, nI_add, pk_mul, i_sub, i_div, sdm, i_dec, i_cl, iv_t, bI_or2, bI_t0, bI_one, not_true_eq_false, not_false_eq_true, ↓reduceIte, am_tl, am_tn, am_t0, am_n0, and_true, true_and, List.cons_append, List.nil_append, List.append_nil, ei]
        refine c_orderedIf L2 ok F2 hi (fun h3 fr3 => ?_)
        have L3 := fr3.lay L2
        have F3 : fa_at h3 11 f := fr3.fa F2 (fun a k h1 h2 z => by unfold or_A at z; omega)
        have Y3 := F3.1
        have eG : lcnt f (fun k => i.testBit k) = G i := by rw [← hG]
        rw [eG]
        have fr3' : am_fr h h3 lP := fr2.tr (fr3.le (fun a k z => by unfold or_A at z; unfold lP; omega))
        have ei3 : h_i h3 80 i = nI (tl n i) := by rw [fr3.i (by unfold or_A; omega)]; exact ei
        have e43 : h_i h3 69 4 = nI (sm (fun s => G s * tl n s) i) := by rw [fr3.i (by unfold or_A; omega)]; exact e4
        have e33 : h_i h3 69 3 = nI (sm (fun s => (if G s = f_n f then 1 else 0) * tl n s) i) := by rw [fr3.i (by unfold or_A; omega)]; exact e3
        have e53 : h_i h3 69 5 = nI n := by rw [fr3.i (by unfold or_A; omega)]; exact e5
        have e23 : h_i h3 69 2 = nI (10 ^ n) := by rw [fr3.i (by unfold or_A; omega)]; exact e2
        have t3 : ∀ s, s < 1024 → h_i h3 80 s = nI (tl n s) := fun s hs => by rw [fr3.i (by unfold or_A; omega)]; exact t2 s hs
        have g10 := G10 i
        have q0 : ∀ v, h_i (p_i h3 69 4 v) 11 0 = nI (f_n f) := fun v => by rw [hi_o (by omega)]; exact F3.2.1
        have q3 : ∀ v, h_i (p_i h3 69 4 v) 69 3 = nI (sm (fun s => (if G s = f_n f then 1 else 0) * tl n s) i) := fun v => by rw [hi_k (by omega)]; exact e33
        have q80 : ∀ v, h_i (p_i h3 69 4 v) 80 i = nI (tl n i) := fun v => by rw [hi_o (by omega)]; exact ei3
        by_cases y : G i = f_n f
        · simp (disch := first | assumption | omega | (simp only [ya_pi, ya_pj, ya_pa, ya_pr, yo_pi, yo_pj, yo_pa, yf_pi, yf_pj, yf_pa, yh_pi, yh_pj, yh_pa, yt_pi, yt_pj, yt_pa, la_pi, la_pj, la_pa]; assumption)) only [b_X3_learn_55, b_X3_learn_89, i_lit, i_m1, i_31, il_t, il_f, iq_t, iq_f, it_t, it_f, im_e, im_l, im_g, im_g2, nI_add, pk_mul, i_sub, i_div, sdm, i_dec, i_cl, iv_t, bI_or2, bI_t0, bI_one, not_true_eq_false, not_false_eq_true, ↓reduceIte, am_tl, am_tn, am_t0, am_n0, and_true, true_and, List.cons_append, List.nil_append, List.append_nil, ei3, e43, q0, q3, q80]
          refine nxt _ _ ⟨(fr3'.pi (by unfold lP; omega)).pi (by unfold lP; omega), ?_, ?_, fun s hs => ?_, ?_, ?_⟩
          · rw [hi_k (by omega), hi_k (by omega)]; exact e53
          · rw [hi_k (by omega), hi_k (by omega)]; exact e23
          · rw [hi_o (by omega), hi_o (by omega)]; exact t3 s hs
          · rw [hi_s, sm, if_pos y, Nat.one_mul]
          · rw [hi_k (by omega), hi_s, sm]
        · simp (disch := first | assumption | omega | (simp only [ya_pi, ya_pj, ya_pa, ya_pr, yo_pi, yo_pj, yo_pa, yf_pi, yf_pj, yf_pa, yh_pi, yh_pj, yh_pa, yt_pi, yt_pj, yt_pa, la_pi, la_pj, la_pa]; assumption)) only [b_X3_learn_55, b_X3_learn_98, i_lit, i_m1, i_31, il_t, il_f, iq_t, iq_f, it_t, it_f, im_e, im_l, im_g, im_g2, nI_add, pk_mul, i_sub, i_div, sdm, i_dec, i_cl, iv_t, bI_or2, bI_t0, bI_one, not_true_eq_false, not_false_eq_true, ↓reduceIte, am_tl, am_tn, am_t0, am_n0, and_true, true_and, List.cons_append, List.nil_append, List.append_nil, ei3, e43, q0, q3, q80]
          refine nxt _ _ ⟨(fr3'.pi (by unfold lP; omega)).pi (by unfold lP; omega), ?_, ?_, fun s hs => ?_, ?_, ?_⟩
          · rw [hi_k (by omega), hi_k (by omega)]; exact e53
          · rw [hi_k (by omega), hi_k (by omega)]; exact e23
          · rw [hi_o (by omega), hi_o (by omega)]; exact t3 s hs
          · rw [hi_s, sm, if_neg y, Nat.zero_mul]
          · rw [hi_k (by omega), hi_s, sm]
    · rintro m4 h2 ⟨fr2, e5, e2, t2, e3, e4⟩
      have L2 := fr2.lay L
      rw [b_X3_learn_31 _ _ _ _ _ L2]
      simp (disch := first | assumption | omega | (simp only [ya_pi, ya_pj, ya_pa, ya_pr, yo_pi, yo_pj, yo_pa, yf_pi, yf_pj, yf_pa, yh_pi, yh_pj, yh_pa, yt_pi, yt_pj, yt_pa, la_pi, la_pj, la_pa]; assumption)) only [b_X3_learn_109, i_lit, i_m1, i_31, il_t, il_f, iq_t, iq_f, it_t, it_f, im_e, im_l, im_g, im_g2, nI_add, pk_mul, i_sub, i_div, sdm, i_dec, i_cl, iv_t, bI_or2, bI_t0, bI_one, not_true_eq_false, not_false_eq_true, ↓reduceIte, am_tl, am_tn, am_t0, am_n0, and_true, true_and, List.cons_append, List.nil_append, List.append_nil]
      have hx : ∀ d, d < 10 ^ n → xs2 n 0 d < 1024 := fun d _ => xs2_lt n (by omega)
      have eO : sm (fun s => G s * tl n s) 1024 = lO f n := by
        unfold tl
        rw [sm_tal (10 ^ n) hx, ← hG]
        have := lS_xs (g := lcnt f) n (s := 0)
        rw [tb0] at this
        exact this
      have eA : sm (fun s => (if G s = f_n f then 1 else 0) * tl n s) 1024 = lA f n := by
        unfold tl
        rw [sm_tal (G := fun s => if G s = f_n f then 1 else 0) (10 ^ n) hx, ← hG]
        have := lS_xs (g := fun B => if lcnt f B = f_n f then 1 else 0) n (s := 0)
        rw [tb0] at this
        exact this
      rw [eA] at e3
      rw [eO] at e4
      exact k h2 fr2 e5 e2 e3 e4
    · rw [hi_k (by omega), hi_k (by omega), fr1.i (by omega), hi_s]
    · rw [hi_k (by omega), hi_k (by omega)]; exact e1
    · intro s hs
      rw [hi_o (by omega), hi_o (by omega)]; exact t1 s hs
    · rw [hi_k (by omega), hi_s]; rfl
    · rw [hi_s]; rfl
  rcases T with T | ⟨m, hm, T5, T2, T3, T4⟩
  · exact new (by rw [T, im_e2 (by omega)]; exact fun z => z)
  · by_cases z : m = n
    · subst z
      simp (disch := first | assumption | omega | (simp only [ya_pi, ya_pj, ya_pa, ya_pr, yo_pi, yo_pj, yo_pa, yf_pi, yf_pj, yf_pa, yh_pi, yh_pj, yh_pa, yt_pi, yt_pj, yt_pa, la_pi, la_pj, la_pa]; assumption)) only [b_X3_learn_0, b_X3_learn_9, b_X3_learn_8, b_X3_learn_19, b_X3_learn_109, b_X3_learn_40, b_X3_learn_103, b_X3_learn_49, b_X3_learn_55, b_X3_learn_98, b_X3_learn_89, i_lit, i_m1, i_31, il_t, il_f, iq_t, iq_f, it_t, it_f, im_e, im_l, im_g, im_g2, nI_add, pk_mul, i_sub, i_div, sdm, i_dec, i_cl, iv_t, bI_or2, bI_t0, bI_one, not_true_eq_false, not_false_eq_true, ↓reduceIte, am_tl, am_tn, am_t0, am_n0, and_true, true_and, List.cons_append, List.nil_append, List.append_nil, T5]
      exact k h am_fr.rf T5 T2 T3 T4
    · exact new (by rw [T5]; exact fun w => z ((nI_eq (by omega) (by omega)).1 w))
/-! fractions -/
/-- after two rounds the lesser number is halved -/
theorem mod_half {a b : Nat} (hb : 0 < a % b) (h0 : 0 < b) : b % (a % b) < (b + 1) / 2 := by
  have h1 : a % b < b := Nat.mod_lt _ h0
  have h2 : b % (a % b) < a % b := Nat.mod_lt _ hb
  by_cases z : a % b ≤ b / 2
  · omega
  · have e : b % (a % b) = b - a % b := by
      rw [Nat.mod_eq_sub_mod (by omega)]
      exact Nat.mod_eq_of_lt (by omega)
    omega
theorem c_low {d : Nat} {Q : Option am_V → am_H → Prop} {h : am_H} {o u w : Nat} {l6 : Option am_V} (hw : w < 2) (ho : o ≤ 10000) (hu : u ≤ 1000) : ∀ (m : Nat) {a b i : Nat} {l6 : Option am_V}, b < 2 ^ m → i + 2 * m ≤ 63 → a ≤ 10000 → b ≤ 10000 → 0 < a + b → Nat.gcd a b = Nat.gcd o u → Q (some (v_i (nI ((if w = 0 then o else u) / Nat.gcd o u)))) h → ex_ d 220 8 [some (v_i (nI o)), some (v_i (nI u)), some (v_i (nI w)), some (v_i (nI a)), some (v_i (nI b)), some (v_i (nI i)), l6] [] h Q := by
  have last : ∀ {a i : Nat} {l6 : Option am_V}, i ≤ 63 → a ≤ 10000 → 0 < a → Nat.gcd a 0 = Nat.gcd o u → Q (some (v_i (nI ((if w = 0 then o else u) / Nat.gcd o u)))) h → ex_ d 220 8 [some (v_i (nI o)), some (v_i (nI u)), some (v_i (nI w)), some (v_i (nI a)), some (v_i (nI 0)), some (v_i (nI i)), l6] [] h Q := by
    intro a i l6 hi ha h0 hg k
    rw [Nat.gcd_zero_right] at hg
    rw [← hg] at k
    rw [b_X11_inLowestTerms_8 _ _ _ _ _ _ _ _]
    rcases (show w = 0 ∨ w = 1 by omega) with rfl | rfl
    · rw [if_pos rfl] at k
      simp (disch := first | assumption | omega | (simp only [ya_pi, ya_pj, ya_pa, ya_pr, yo_pi, yo_pj, yo_pa, yf_pi, yf_pj, yf_pa, yh_pi, yh_pj, yh_pa, yt_pi, yt_pj, yt_pa, la_pi, la_pj, la_pa]; assumption)) only [b_X11_inLowestTerms_0, b_X11_inLowestTerms_39, b_X11_inLowestTerms_15, b_X11_inLowestTerms_47, b_X11_inLowestTerms_43, b_X11_inLowestTerms_20, b_X11_inLowestTerms_59, b_X11_inLowestTerms_54, i_lit, i_m1, i_31, il_t, il_f, iq_t, iq_f, it_t, it_f, im_e, im_l, im_g, im_g2, nI_add, pk_mul, i_sub, i_div, sdm, i_dec, i_cl, iv_t, bI_or2, bI_t0, bI_one, not_true_eq_false, not_false_eq_true, ↓reduceIte, am_tl, am_tn, am_t0, am_n0, and_true, true_and, List.cons_append, List.nil_append, List.append_nil]
      exact k
    · rw [if_neg (by omega)] at k
      simp (disch := first | assumption | omega | (simp only [ya_pi, ya_pj, ya_pa, ya_pr, yo_pi, yo_pj, yo_pa, yf_pi, yf_pj, yf_pa, yh_pi, yh_pj, yh_pa, yt_pi, yt_pj, yt_pa, la_pi, la_pj, la_pa]; assumption)) only [b_X11_inLowestTerms_0, b_X11_inLowestTerms_39, b_X11_inLowestTerms_15, b_X11_inLowestTerms_47, b_X11_inLowestTerms_43, b_X11_inLowestTerms_20, b_X11_inLowestTerms_59, b_X11_inLowestTerms_54, i_lit, i_m1, i_31, il_t, il_f, iq_t, iq_f, it_t, it_f, im_e, im_l, im_g, im_g2, nI_add, pk_mul, i_sub, i_div, sdm, i_dec, i_cl, iv_t, bI_or2, bI_t0, bI_one, not_true_eq_false, not_false_eq_true, ↓reduceIte, am_tl, am_tn, am_t0, am_n0, and_true, true_and, List.cons_append, List.nil_append, List.append_nil]
      exact k
  have one : ∀ {a b i : Nat} {l6 : Option am_V}, i ≤ 62 → a ≤ 10000 → b ≤ 10000 → 0 < b → ex_ d 220 8 [some (v_i (nI o)), some (v_i (nI u)), some (v_i (nI w)), some (v_i (nI b)), some (v_i (nI (a % b))), some (v_i (nI (i + 1))), some (v_i (nI (a % b)))] [] h Q → ex_ d 220 8 [some (v_i (nI o)), some (v_i (nI u)), some (v_i (nI w)), some (v_i (nI a)), some (v_i (nI b)), some (v_i (nI i)), l6] [] h Q := by
    intro a b i l6 hi ha hb h0 k
    rw [b_X11_inLowestTerms_8 _ _ _ _ _ _ _ _]
    have e1 : nI a - nI a / nI b * nI b = nI (a % b) := by rw [i_div (by omega) h0 (by omega), i_rem (by omega) h0 (by omega)]
    have b0 : ¬ b = 0 := by omega
    simp only [b_X11_inLowestTerms_15, b_X11_inLowestTerms_20, i_lit, e1, nI_add]
    simp (disch := first | assumption | omega | (simp only [ya_pi, ya_pj, ya_pa, ya_pr, yo_pi, yo_pj, yo_pa, yf_pi, yf_pj, yf_pa, yh_pi, yh_pj, yh_pa, yt_pi, yt_pj, yt_pa, la_pi, la_pj, la_pa]; assumption)) only [i_lit, i_m1, i_31, il_t, il_f, iq_t, iq_f, it_t, it_f, im_e, im_l, im_g, im_g2, nI_add, pk_mul, i_sub, i_div, sdm, i_dec, i_cl, iv_t, bI_or2, bI_t0, bI_one, not_true_eq_false, not_false_eq_true, ↓reduceIte, am_tl, am_tn, am_t0, am_n0, and_true, true_and, List.cons_append, List.nil_append, List.append_nil]
    exact k
  intro m
  induction m with
  | zero =>
    intro a b i l6 hb hi ha hb2 h0 hg k
    have : b = 0 := by simpa using hb
    subst this
    exact last (by omega) ha (by omega) hg k
  | succ m ih =>
    intro a b i l6 hb hi ha hb2 h0 hg k
    by_cases z : b = 0
    · subst z
      exact last (by omega) ha (by omega) hg k
    · have b0 : 0 < b := by omega
      have r1 : a % b < b := Nat.mod_lt _ b0
      have g1 : Nat.gcd b (a % b) = Nat.gcd o u := by
        rw [← hg, Nat.gcd_comm a b, Nat.gcd_rec b a, Nat.gcd_comm]
      refine one (by omega) ha hb2 b0 ?_
      by_cases y : a % b = 0
      · rw [y] at g1 ⊢
        exact last (by omega) hb2 b0 g1 k
      · have y0 : 0 < a % b := by omega
        have g2 : Nat.gcd (a % b) (b % (a % b)) = Nat.gcd o u := by
          rw [← g1, Nat.gcd_comm b (a % b), Nat.gcd_rec (a % b) b, Nat.gcd_comm]
        refine one (by omega) hb2 (by omega) y0 ?_
        have h2 := mod_half y0 b0
        rw [Nat.pow_succ] at hb
        exact ih (by omega) (by omega) (by omega) (by omega) (by omega) g2 k
def frc (o u w : Nat) : Nat := (if w = 0 then o else u) / Nat.gcd o u
def t_lots (g : Nat → Nat) (n w : Int32) : Int32 := if ¬ w < 0 ∧ w < nI 2 then (if ¬ n < 0 ∧ n < nI 4 then nI (frc (g n.toNatClampNeg) (10 ^ n.toNatClampNeg) w.toNatClampNeg) else -3) else -2
theorem cI.lots {h h' : am_H} {S : St} (ok : St_ok S) (C : cI h S) (fr : am_fr h h' lP) (T : ltA h' (s_f S)) : cI h' S := by
  obtain ⟨L, O, ⟨W, e, C1, C2, C3⟩, C4, C5, C6, C7, C8⟩ := C
  have g : gf h h' lP N0 N0 := fr.g
  have hf := ok.1.1.1
  exact ⟨fr.lay L, g.or O (fT_l11 hf.1) (fun c hc => ⟨by unfold lP; omega, by unfold lP; omega, fun k hk => by unfold lP; omega⟩) (fun k z => z), ⟨W, e, g.hoA ok.1 C1 (fun _ _ _ _ z => z) (fun a k h1 _ => by unfold lP; omega) (fun a k h1 h2 => by unfold lP; omega), g.paA L (fun q hq => (ok.2.1.2 q hq).1) C2 (by unfold lP; omega) (by unfold lP; omega) (fun _ z => z) (fun a k h1 _ _ => ⟨by unfold lP; omega, fun z => z⟩), g.imA L ok.2.2.1 C3 (fun _ z => z) (fun a k h1 _ => by unfold lP; omega) (fun a k h1 _ _ => ⟨by unfold lP; omega, fun z => z⟩)⟩, g.tyA L C4 (fun a k h1 h2 => by unfold lP; omega) (fun _ _ _ _ z => z), g.tpA L C5 (by unfold lP; omega) (fun k => by unfold lP; omega), ⟨(g.i (la_n L (by omega)) (by unfold lP; omega)).trans C6.1, (g.i (la_n L (by omega)) (by unfold lP; omega)).trans C6.2⟩, g.mnA L C7 (fun k _ _ => by unfold lP; omega) (fun k => by unfold lP; omega), T⟩
theorem c_inLow {d : Nat} {Q : Option am_V → am_H → Prop} {h : am_H} {o u w : Nat} {l3 l4 l5 l6 : Option am_V} (hw : w < 2) (ho : o ≤ 10000) (hu : u ≤ 1000) (hu1 : 1 ≤ u) (k : Q (some (v_i (nI (frc o u w)))) h) : ex_ d 220 0 [some (v_i (nI o)), some (v_i (nI u)), some (v_i (nI w)), l3, l4, l5, l6] [] h Q := by
  simp (disch := first | assumption | omega | (simp only [ya_pi, ya_pj, ya_pa, ya_pr, yo_pi, yo_pj, yo_pa, yf_pi, yf_pj, yf_pa, yh_pi, yh_pj, yh_pa, yt_pi, yt_pj, yt_pa, la_pi, la_pj, la_pa]; assumption)) only [b_X11_inLowestTerms_0, i_lit, i_m1, i_31, il_t, il_f, iq_t, iq_f, it_t, it_f, im_e, im_l, im_g, im_g2, nI_add, pk_mul, i_sub, i_div, sdm, i_dec, i_cl, iv_t, bI_or2, bI_t0, bI_one, not_true_eq_false, not_false_eq_true, ↓reduceIte, am_tl, am_tn, am_t0, am_n0, and_true, true_and, List.cons_append, List.nil_append, List.append_nil]
  exact c_low (l6 := l6) hw ho hu 14 (a := u) (b := o) (i := 0) (by omega) (by omega) (by omega) ho (by omega) (Nat.gcd_comm u o) k
theorem lt_code {n w : Int32} : ((∃ a, a < 2 ∧ w = nI a) ∧ (∃ b, b < 4 ∧ n = nI b)) ∨ (¬ (¬ w < 0 ∧ w < nI 2)) ∨ ((∃ a, a < 2 ∧ w = nI a) ∧ ¬ tr_ok n) := by
  rcases iw_cs w with z | z
  · rcases tr_cs n with y | y
    · exact Or.inl ⟨z, y⟩
    · exact Or.inr (Or.inr ⟨z, y⟩)
  · exact Or.inr (Or.inl z)
theorem c_lotsCode {d : Nat} {Q : Option am_V → am_H → Prop} {h : am_H} {n w : Int32} : ex_ d 219 0 [some (v_i n), some (v_i w)] [] h Q ↔ Q (some (v_i (if ¬ w < 0 ∧ w < nI 2 then (if ¬ n < 0 ∧ n < nI 4 then nI 0 else -3) else -2))) h := by
  rcases lt_code (n := n) (w := w) with ⟨⟨a, ha, rfl⟩, b, hb, rfl⟩ | z | ⟨⟨a, ha, rfl⟩, z⟩
  · rw [if_pos ⟨nI_pos (by omega), nI_lt ha (by omega)⟩, if_pos ⟨nI_pos (by omega), nI_lt hb (by omega)⟩]
    simp (disch := first | assumption | omega | (simp only [ya_pi, ya_pj, ya_pa, ya_pr, yo_pi, yo_pj, yo_pa, yf_pi, yf_pj, yf_pa, yh_pi, yh_pj, yh_pa, yt_pi, yt_pj, yt_pa, la_pi, la_pj, la_pa]; assumption)) only [b_X11_lotsCode_0, b_X11_lotsCode_9, b_X11_lotsCode_4, b_X11_lotsCode_12, b_X11_lotsCode_21, b_X11_lotsCode_16, b_X11_lotsCode_26, i_lit, i_m1, i_31, il_t, il_f, iq_t, iq_f, it_t, it_f, im_e, im_l, im_g, im_g2, nI_add, pk_mul, i_sub, i_div, sdm, i_dec, i_cl, iv_t, bI_or2, bI_t0, bI_one, not_true_eq_false, not_false_eq_true, ↓reduceIte, am_tl, am_tn, am_t0, am_n0, and_true, true_and, List.cons_append, List.nil_append, List.append_nil]
  · rw [if_neg z]
    by_cases y : w < 0
    · have y' : w < nI 0 := y
      simp (disch := first | assumption | omega | (simp only [ya_pi, ya_pj, ya_pa, ya_pr, yo_pi, yo_pj, yo_pa, yf_pi, yf_pj, yf_pa, yh_pi, yh_pj, yh_pa, yt_pi, yt_pj, yt_pa, la_pi, la_pj, la_pa]; assumption)) only [b_X11_lotsCode_0, b_X11_lotsCode_9, b_X11_lotsCode_4, b_X11_lotsCode_12, b_X11_lotsCode_21, b_X11_lotsCode_16, b_X11_lotsCode_26, i_lit, i_m1, i_31, il_t, il_f, iq_t, iq_f, it_t, it_f, im_e, im_l, im_g, im_g2, nI_add, pk_mul, i_sub, i_div, sdm, i_dec, i_cl, iv_t, bI_or2, bI_t0, bI_one, not_true_eq_false, not_false_eq_true, ↓reduceIte, am_tl, am_tn, am_t0, am_n0, and_true, true_and, List.cons_append, List.nil_append, List.append_nil, y']
    · obtain ⟨a, ha, rfl⟩ := nI_of y
      have : 2 ≤ a := by
        rcases Nat.lt_or_ge a 2 with u | u
        · exact absurd ⟨y, nI_lt u (by omega)⟩ z
        · exact u
      simp (disch := first | assumption | omega | (simp only [ya_pi, ya_pj, ya_pa, ya_pr, yo_pi, yo_pj, yo_pa, yf_pi, yf_pj, yf_pa, yh_pi, yh_pj, yh_pa, yt_pi, yt_pj, yt_pa, la_pi, la_pj, la_pa]; assumption)) only [b_X11_lotsCode_0, b_X11_lotsCode_9, b_X11_lotsCode_4, b_X11_lotsCode_12, b_X11_lotsCode_21, b_X11_lotsCode_16, b_X11_lotsCode_26, i_lit, i_m1, i_31, il_t, il_f, iq_t, iq_f, it_t, it_f, im_e, im_l, im_g, im_g2, nI_add, pk_mul, i_sub, i_div, sdm, i_dec, i_cl, iv_t, bI_or2, bI_t0, bI_one, not_true_eq_false, not_false_eq_true, ↓reduceIte, am_tl, am_tn, am_t0, am_n0, and_true, true_and, List.cons_append, List.nil_append, List.append_nil]
  · rw [if_pos ⟨nI_pos (by omega), nI_lt ha (by omega)⟩, if_neg z]
    by_cases y : n < 0
    · have y' : n < nI 0 := y
      simp (disch := first | assumption | omega | (simp only [ya_pi, ya_pj, ya_pa, ya_pr, yo_pi, yo_pj, yo_pa, yf_pi, yf_pj, yf_pa, yh_pi, yh_pj, yh_pa, yt_pi, yt_pj, yt_pa, la_pi, la_pj, la_pa]; assumption)) only [b_X11_lotsCode_0, b_X11_lotsCode_9, b_X11_lotsCode_4, b_X11_lotsCode_12, b_X11_lotsCode_21, b_X11_lotsCode_16, b_X11_lotsCode_26, i_lit, i_m1, i_31, il_t, il_f, iq_t, iq_f, it_t, it_f, im_e, im_l, im_g, im_g2, nI_add, pk_mul, i_sub, i_div, sdm, i_dec, i_cl, iv_t, bI_or2, bI_t0, bI_one, not_true_eq_false, not_false_eq_true, ↓reduceIte, am_tl, am_tn, am_t0, am_n0, and_true, true_and, List.cons_append, List.nil_append, List.append_nil, y']
    · obtain ⟨b, hb, rfl⟩ := nI_of y
      have : 4 ≤ b := by
        rcases Nat.lt_or_ge b 4 with u | u
        · exact absurd (tr_y4 u) z
        · exact u
      simp (disch := first | assumption | omega | (simp only [ya_pi, ya_pj, ya_pa, ya_pr, yo_pi, yo_pj, yo_pa, yf_pi, yf_pj, yf_pa, yh_pi, yh_pj, yh_pa, yt_pi, yt_pj, yt_pa, la_pi, la_pj, la_pa]; assumption)) only [b_X11_lotsCode_0, b_X11_lotsCode_9, b_X11_lotsCode_4, b_X11_lotsCode_12, b_X11_lotsCode_21, b_X11_lotsCode_16, b_X11_lotsCode_26, i_lit, i_m1, i_31, il_t, il_f, iq_t, iq_f, it_t, it_f, im_e, im_l, im_g, im_g2, nI_add, pk_mul, i_sub, i_div, sdm, i_dec, i_cl, iv_t, bI_or2, bI_t0, bI_one, not_true_eq_false, not_false_eq_true, ↓reduceIte, am_tl, am_tn, am_t0, am_n0, and_true, true_and, List.cons_append, List.nil_append, List.append_nil]
theorem c_chance {d : Nat} {Q : Option am_V → am_H → Prop} {h : am_H} {S : St} {n w : Int32} {l3 : Option am_V} (ok : St_ok S) (C : cI h S) (k : ∀ h', gC h h' → cI h' S → Q (some (v_i (t_lots (lA (s_f S)) n w))) h') : ex_ (d + 6) 221 0 [some (v_r (some 0)), some (v_i n), some (v_i w), l3] [] h Q := by
  have L := C.1
  have gd : fa_gd (s_f S) := ok.1.1.1
  unfold t_lots at k
  rcases lt_code (n := n) (w := w) with ⟨⟨a, ha, rfl⟩, b, hb, rfl⟩ | z | ⟨⟨a, ha, rfl⟩, z⟩
  · rw [if_pos ⟨nI_pos (by omega), nI_lt ha (by omega)⟩, if_pos ⟨nI_pos (by omega), nI_lt hb (by omega)⟩, nI_clamp (by omega), nI_clamp (by omega)] at k
    have h1 : ¬ nI a < 0 ∧ nI a < nI 2 := ⟨nI_pos (by omega), nI_lt ha (by omega)⟩
    have h2 : ¬ nI b < 0 ∧ nI b < nI 4 := ⟨nI_pos (by omega), nI_lt hb (by omega)⟩
    rw [b_X11_chance_0, c_lotsCode, if_pos h1, if_pos h2]
    simp (disch := first | assumption | omega | (simp only [ya_pi, ya_pj, ya_pa, ya_pr, yo_pi, yo_pj, yo_pa, yf_pi, yf_pj, yf_pa, yh_pi, yh_pj, yh_pa, yt_pi, yt_pj, yt_pa, la_pi, la_pj, la_pa]; assumption)) only [b_X11_chance_5, b_X11_chance_12, i_lit, i_m1, i_31, il_t, il_f, iq_t, iq_f, it_t, it_f, im_e, im_l, im_g, im_g2, nI_add, pk_mul, i_sub, i_div, sdm, i_dec, i_cl, iv_t, bI_or2, bI_t0, bI_one, not_true_eq_false, not_false_eq_true, ↓reduceIte, am_tl, am_tn, am_t0, am_n0, and_true, true_and, List.cons_append, List.nil_append, List.append_nil]
    refine c_lLearn L gd.1 C.cQ.2.1 C.2.2.2.2.2.2.2 (by omega) (fun h1 fr1 e5 e2 e3 e4 => ?_)
    have L1 := fr1.lay L
    have p3 := pw3 (show b ≤ 3 by omega)
    simp (disch := first | assumption | omega | (simp only [ya_pi, ya_pj, ya_pa, ya_pr, yo_pi, yo_pj, yo_pa, yf_pi, yf_pj, yf_pa, yh_pi, yh_pj, yh_pa, yt_pi, yt_pj, yt_pa, la_pi, la_pj, la_pa]; assumption)) only [b_X11_chance_27, i_lit, i_m1, i_31, il_t, il_f, iq_t, iq_f, it_t, it_f, im_e, im_l, im_g, im_g2, nI_add, pk_mul, i_sub, i_div, sdm, i_dec, i_cl, iv_t, bI_or2, bI_t0, bI_one, not_true_eq_false, not_false_eq_true, ↓reduceIte, am_tl, am_tn, am_t0, am_n0, and_true, true_and, List.cons_append, List.nil_append, List.append_nil, e2, e3]
    refine c_inLow ha (by have := lA_le (f := s_f S) (show b ≤ 3 by omega); omega) p3.1 p3.2 ?_
    simp (disch := first | assumption | omega | (simp only [ya_pi, ya_pj, ya_pa, ya_pr, yo_pi, yo_pj, yo_pa, yf_pi, yf_pj, yf_pa, yh_pi, yh_pj, yh_pa, yt_pi, yt_pj, yt_pa, la_pi, la_pj, la_pa]; assumption)) only [b_X11_chance_45, i_lit, i_m1, i_31, il_t, il_f, iq_t, iq_f, it_t, it_f, im_e, im_l, im_g, im_g2, nI_add, pk_mul, i_sub, i_div, sdm, i_dec, i_cl, iv_t, bI_or2, bI_t0, bI_one, not_true_eq_false, not_false_eq_true, ↓reduceIte, am_tl, am_tn, am_t0, am_n0, and_true, true_and, List.cons_append, List.nil_append, List.append_nil]
    exact k h1 (gC.fr fr1 (fun a k z => by unfold lP at z; unfold pC; omega)) (C.lots ok fr1 (Or.inr ⟨b, by omega, e5, e2, e3, e4⟩))
  · rw [if_neg z] at k
    rw [b_X11_chance_0, c_lotsCode, if_neg z]
    simp (disch := first | assumption | omega | (simp only [ya_pi, ya_pj, ya_pa, ya_pr, yo_pi, yo_pj, yo_pa, yf_pi, yf_pj, yf_pa, yh_pi, yh_pj, yh_pa, yt_pi, yt_pj, yt_pa, la_pi, la_pj, la_pa]; assumption)) only [b_X11_chance_5, b_X11_chance_10, i_lit, i_m1, i_31, il_t, il_f, iq_t, iq_f, it_t, it_f, im_e, im_l, im_g, im_g2, nI_add, pk_mul, i_sub, i_div, sdm, i_dec, i_cl, iv_t, bI_or2, bI_t0, bI_one, not_true_eq_false, not_false_eq_true, ↓reduceIte, am_tl, am_tn, am_t0, am_n0, and_true, true_and, List.cons_append, List.nil_append, List.append_nil, nI0_2, q20]
    exact k h gC.rf C
  · rw [if_pos ⟨nI_pos (by omega), nI_lt ha (by omega)⟩, if_neg z] at k
    rw [b_X11_chance_0, c_lotsCode, if_pos ⟨nI_pos (by omega), nI_lt ha (by omega)⟩, if_neg z]
    have q30 : (-(nI 3) = nI 0) = False := eq_false (by decide)
    simp (disch := first | assumption | omega | (simp only [ya_pi, ya_pj, ya_pa, ya_pr, yo_pi, yo_pj, yo_pa, yf_pi, yf_pj, yf_pa, yh_pi, yh_pj, yh_pa, yt_pi, yt_pj, yt_pa, la_pi, la_pj, la_pa]; assumption)) only [b_X11_chance_5, b_X11_chance_10, i_lit, i_m1, i_31, il_t, il_f, iq_t, iq_f, it_t, it_f, im_e, im_l, im_g, im_g2, nI_add, pk_mul, i_sub, i_div, sdm, i_dec, i_cl, iv_t, bI_or2, bI_t0, bI_one, not_true_eq_false, not_false_eq_true, ↓reduceIte, am_tl, am_tn, am_t0, am_n0, and_true, true_and, List.cons_append, List.nil_append, List.append_nil, q30]
    exact k h gC.rf C
theorem c_mean {d : Nat} {Q : Option am_V → am_H → Prop} {h : am_H} {S : St} {n w : Int32} {l3 : Option am_V} (ok : St_ok S) (C : cI h S) (k : ∀ h', gC h h' → cI h' S → Q (some (v_i (t_lots (lO (s_f S)) n w))) h') : ex_ (d + 6) 222 0 [some (v_r (some 0)), some (v_i n), some (v_i w), l3] [] h Q := by
  have L := C.1
  have gd : fa_gd (s_f S) := ok.1.1.1
  unfold t_lots at k
  rcases lt_code (n := n) (w := w) with ⟨⟨a, ha, rfl⟩, b, hb, rfl⟩ | z | ⟨⟨a, ha, rfl⟩, z⟩
  · rw [if_pos ⟨nI_pos (by omega), nI_lt ha (by omega)⟩, if_pos ⟨nI_pos (by omega), nI_lt hb (by omega)⟩, nI_clamp (by omega), nI_clamp (by omega)] at k
    have h1 : ¬ nI a < 0 ∧ nI a < nI 2 := ⟨nI_pos (by omega), nI_lt ha (by omega)⟩
    have h2 : ¬ nI b < 0 ∧ nI b < nI 4 := ⟨nI_pos (by omega), nI_lt hb (by omega)⟩
    rw [b_X11_mean_0, c_lotsCode, if_pos h1, if_pos h2]
    simp (disch := first | assumption | omega | (simp only [ya_pi, ya_pj, ya_pa, ya_pr, yo_pi, yo_pj, yo_pa, yf_pi, yf_pj, yf_pa, yh_pi, yh_pj, yh_pa, yt_pi, yt_pj, yt_pa, la_pi, la_pj, la_pa]; assumption)) only [b_X11_mean_5, b_X11_mean_12, i_lit, i_m1, i_31, il_t, il_f, iq_t, iq_f, it_t, it_f, im_e, im_l, im_g, im_g2, nI_add, pk_mul, i_sub, i_div, sdm, i_dec, i_cl, iv_t, bI_or2, bI_t0, bI_one, not_true_eq_false, not_false_eq_true, ↓reduceIte, am_tl, am_tn, am_t0, am_n0, and_true, true_and, List.cons_append, List.nil_append, List.append_nil]
    refine c_lLearn L gd.1 C.cQ.2.1 C.2.2.2.2.2.2.2 (by omega) (fun h1 fr1 e5 e2 e3 e4 => ?_)
    have L1 := fr1.lay L
    have p3 := pw3 (show b ≤ 3 by omega)
    simp (disch := first | assumption | omega | (simp only [ya_pi, ya_pj, ya_pa, ya_pr, yo_pi, yo_pj, yo_pa, yf_pi, yf_pj, yf_pa, yh_pi, yh_pj, yh_pa, yt_pi, yt_pj, yt_pa, la_pi, la_pj, la_pa]; assumption)) only [b_X11_mean_27, i_lit, i_m1, i_31, il_t, il_f, iq_t, iq_f, it_t, it_f, im_e, im_l, im_g, im_g2, nI_add, pk_mul, i_sub, i_div, sdm, i_dec, i_cl, iv_t, bI_or2, bI_t0, bI_one, not_true_eq_false, not_false_eq_true, ↓reduceIte, am_tl, am_tn, am_t0, am_n0, and_true, true_and, List.cons_append, List.nil_append, List.append_nil, e2, e4]
    refine c_inLow ha (lO_le gd.1 (show b ≤ 3 by omega)) p3.1 p3.2 ?_
    simp (disch := first | assumption | omega | (simp only [ya_pi, ya_pj, ya_pa, ya_pr, yo_pi, yo_pj, yo_pa, yf_pi, yf_pj, yf_pa, yh_pi, yh_pj, yh_pa, yt_pi, yt_pj, yt_pa, la_pi, la_pj, la_pa]; assumption)) only [b_X11_mean_45, i_lit, i_m1, i_31, il_t, il_f, iq_t, iq_f, it_t, it_f, im_e, im_l, im_g, im_g2, nI_add, pk_mul, i_sub, i_div, sdm, i_dec, i_cl, iv_t, bI_or2, bI_t0, bI_one, not_true_eq_false, not_false_eq_true, ↓reduceIte, am_tl, am_tn, am_t0, am_n0, and_true, true_and, List.cons_append, List.nil_append, List.append_nil]
    exact k h1 (gC.fr fr1 (fun a k z => by unfold lP at z; unfold pC; omega)) (C.lots ok fr1 (Or.inr ⟨b, by omega, e5, e2, e3, e4⟩))
  · rw [if_neg z] at k
    rw [b_X11_mean_0, c_lotsCode, if_neg z]
    simp (disch := first | assumption | omega | (simp only [ya_pi, ya_pj, ya_pa, ya_pr, yo_pi, yo_pj, yo_pa, yf_pi, yf_pj, yf_pa, yh_pi, yh_pj, yh_pa, yt_pi, yt_pj, yt_pa, la_pi, la_pj, la_pa]; assumption)) only [b_X11_mean_5, b_X11_mean_10, i_lit, i_m1, i_31, il_t, il_f, iq_t, iq_f, it_t, it_f, im_e, im_l, im_g, im_g2, nI_add, pk_mul, i_sub, i_div, sdm, i_dec, i_cl, iv_t, bI_or2, bI_t0, bI_one, not_true_eq_false, not_false_eq_true, ↓reduceIte, am_tl, am_tn, am_t0, am_n0, and_true, true_and, List.cons_append, List.nil_append, List.append_nil, nI0_2, q20]
    exact k h gC.rf C
  · rw [if_pos ⟨nI_pos (by omega), nI_lt ha (by omega)⟩, if_neg z] at k
    rw [b_X11_mean_0, c_lotsCode, if_pos ⟨nI_pos (by omega), nI_lt ha (by omega)⟩, if_neg z]
    have q30 : (-(nI 3) = nI 0) = False := eq_false (by decide)
    simp (disch := first | assumption | omega | (simp only [ya_pi, ya_pj, ya_pa, ya_pr, yo_pi, yo_pj, yo_pa, yf_pi, yf_pj, yf_pa, yh_pi, yh_pj, yh_pa, yt_pi, yt_pj, yt_pa, la_pi, la_pj, la_pa]; assumption)) only [b_X11_mean_5, b_X11_mean_10, i_lit, i_m1, i_31, il_t, il_f, iq_t, iq_f, it_t, it_f, im_e, im_l, im_g, im_g2, nI_add, pk_mul, i_sub, i_div, sdm, i_dec, i_cl, iv_t, bI_or2, bI_t0, bI_one, not_true_eq_false, not_false_eq_true, ↓reduceIte, am_tl, am_tn, am_t0, am_n0, and_true, true_and, List.cons_append, List.nil_append, List.append_nil, q30]
    exact k h gC.rf C
