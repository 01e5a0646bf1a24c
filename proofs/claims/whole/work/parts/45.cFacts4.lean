/-- a told deed, of a number -/
def d_doN (f : fa_S) (n : Nat) : Int32 × fa_S :=
  if n / 100 = 0 then d_mood f (nI (n - 10)) else if n / 100 = 1 then d_add f (nI (n % 100 / 10)) (nI (n % 100 % 10)) else if n / 100 = 2 then d_rem f (nI (n % 100 / 10)) (nI (n % 100 % 10)) else if n / 100 = 3 then d_swap f (nI (n % 100 / 10)) (nI (n % 100 % 10)) else if 10 ≤ n / 100 ∧ n / 100 ≤ 12 then d_def f (nI (n % 100 % 10)) (nI (n % 100 / 10)) (nI (n / 100 - 10)) else (nI 1, f)
def d_do (f : fa_S) (v : Int64) : Int32 × fa_S := if v < lN 10 ∨ lN 1299 < v then (nI 1, f) else d_doN f v.toInt32.toNatClampNeg
theorem lN_rng {v : Int64} {a b : Nat} (h1 : ¬ v < lN a) (h2 : ¬ lN b < v) (ha : a < 2147483648) (hb : b < 2147483648) : ∃ n, a ≤ n ∧ n ≤ b ∧ v = lN n := by
  have h0 : ¬ v < 0 := by
    intro z
    have q1 := Int64.lt_iff_toInt_lt.1 z
    apply h1
    rw [Int64.lt_iff_toInt_lt, lN_toInt ha]
    have : (0 : Int64).toInt = 0 := rfl
    omega
  obtain ⟨n, hn, rfl⟩ := pk_lOf h0
  refine ⟨n, ?_, ?_, rfl⟩
  · rcases Nat.lt_or_ge n a with z | z
    · exact absurd ((pk_lLT hn (by omega)).2 z) h1
    · exact z
  · rcases Nat.lt_or_ge b n with z | z
    · exact absurd ((pk_lLT (by omega) hn).2 z) h2
    · exact z
theorem c_doDeed {d : Nat} {Q : Option am_V → am_H → Prop} {h : am_H} {o : Nat} {f : fa_S} (ok : fa_ok f) (F : fa_at h o f) {v : Int64} {l2 l3 l4 : Option am_V} (k : ∀ h', am_fr h h' (fa_P o) → fa_at h' o (d_do f v).2 → Q (some (v_i (d_do f v).1)) h') : ex_ (d + 4) 41 0 [some (v_r (some o)), some (v_l v), l2, l3, l4] [] h Q := by
  have F0 := F.1
  unfold d_do at k
  by_cases h1 : v < lN 10
  · rw [if_pos (Or.inl h1)] at k
    simp (disch := first | assumption | omega) only [b_X1_doDeed_0, b_X1_doDeed_16, b_X1_doDeed_8, b_X1_doDeed_172, b_X1_doDeed_96, b_X1_doDeed_105, b_X1_doDeed_120, b_X1_doDeed_135, b_X1_doDeed_150, b_X1_doDeed_104, b_X1_doDeed_119, b_X1_doDeed_134, b_X1_doDeed_149, b_X1_doDeed_171, i_lit, i_m1, i_31, il_t, il_f, iq_t, iq_f, it_t, it_f, im_e, im_l, im_g, im_g2, nI_add, pk_mul, i_sub, i_div, sdm, i_dec, i_cl, iv_t, bI_or, bI_t0, bI_one, not_true_eq_false, not_false_eq_true, ↓reduceIte, am_tl, am_tn, am_t0, am_n0, and_true, true_and, List.cons_append, List.nil_append, List.append_nil, l_lit, lc_lt, lc_le, lc_gt, lc_ge, lc_eq, ll_t, ll_f, lt_t, lt_f, lq_t, lq_f, l_div, lN_add, lN_mul, lN_sub, lN_i]
    rw [if_pos h1]
    exact k h am_fr.rf F
  · by_cases h2 : lN 1299 < v
    · rw [if_pos (Or.inr h2)] at k
      have h3 : ¬ v ≤ lN 1299 := fun z => by
        rw [Int64.le_iff_toInt_le] at z
        rw [Int64.lt_iff_toInt_lt] at h2
        omega
      simp (disch := first | assumption | omega) only [b_X1_doDeed_0, b_X1_doDeed_16, b_X1_doDeed_8, b_X1_doDeed_172, b_X1_doDeed_96, b_X1_doDeed_105, b_X1_doDeed_120, b_X1_doDeed_135, b_X1_doDeed_150, b_X1_doDeed_104, b_X1_doDeed_119, b_X1_doDeed_134, b_X1_doDeed_149, b_X1_doDeed_171, i_lit, i_m1, i_31, il_t, il_f, iq_t, iq_f, it_t, it_f, im_e, im_l, im_g, im_g2, nI_add, pk_mul, i_sub, i_div, sdm, i_dec, i_cl, iv_t, bI_or, bI_t0, bI_one, not_true_eq_false, not_false_eq_true, ↓reduceIte, am_tl, am_tn, am_t0, am_n0, and_true, true_and, List.cons_append, List.nil_append, List.append_nil, l_lit, lc_lt, lc_le, lc_gt, lc_ge, lc_eq, ll_t, ll_f, lt_t, lt_f, lq_t, lq_f, l_div, lN_add, lN_mul, lN_sub, lN_i]
      rw [if_neg h1, if_neg h3]
      exact k h am_fr.rf F
    · obtain ⟨n, hn1, hn2, rfl⟩ := lN_rng h1 h2 (by omega) (by omega)
      rw [if_neg (fun z => by rcases z with z | z; exact h1 z; exact h2 z), lN_i, nI_clamp (by omega)] at k
      simp (disch := first | assumption | omega) only [b_X1_doDeed_0, b_X1_doDeed_16, b_X1_doDeed_8, b_X1_doDeed_172, b_X1_doDeed_96, b_X1_doDeed_105, b_X1_doDeed_120, b_X1_doDeed_135, b_X1_doDeed_150, b_X1_doDeed_104, b_X1_doDeed_119, b_X1_doDeed_134, b_X1_doDeed_149, b_X1_doDeed_171, i_lit, i_m1, i_31, il_t, il_f, iq_t, iq_f, it_t, it_f, im_e, im_l, im_g, im_g2, nI_add, pk_mul, i_sub, i_div, sdm, i_dec, i_cl, iv_t, bI_or, bI_t0, bI_one, not_true_eq_false, not_false_eq_true, ↓reduceIte, am_tl, am_tn, am_t0, am_n0, and_true, true_and, List.cons_append, List.nil_append, List.append_nil, l_lit, lc_lt, lc_le, lc_gt, lc_ge, lc_eq, ll_t, ll_f, lt_t, lt_f, lq_t, lq_f, l_div, lN_add, lN_mul, lN_sub, lN_i]
      rw [b_X1_doDeed_18]
      unfold d_doN at k
      by_cases z : n / 100 = 0
      · rw [if_pos z] at k
        simp (disch := first | assumption | omega) only [b_X1_doDeed_0, b_X1_doDeed_16, b_X1_doDeed_8, b_X1_doDeed_18, b_X1_doDeed_172, b_X1_doDeed_96, b_X1_doDeed_105, b_X1_doDeed_120, b_X1_doDeed_135, b_X1_doDeed_150, b_X1_doDeed_104, b_X1_doDeed_119, b_X1_doDeed_134, b_X1_doDeed_149, b_X1_doDeed_171, i_lit, i_m1, i_31, il_t, il_f, iq_t, iq_f, it_t, it_f, im_e, im_l, im_g, im_g2, nI_add, pk_mul, i_sub, i_div, sdm, i_dec, i_cl, iv_t, bI_or, bI_t0, bI_one, not_true_eq_false, not_false_eq_true, ↓reduceIte, am_tl, am_tn, am_t0, am_n0, and_true, true_and, List.cons_append, List.nil_append, List.append_nil, l_lit, lc_lt, lc_le, lc_gt, lc_ge, lc_eq, ll_t, ll_f, lt_t, lt_f, lq_t, lq_f, l_div, lN_add, lN_mul, lN_sub, lN_i]
        refine c_putMood F (fun h' fr F' => ?_)
        simp (disch := first | assumption | omega) only [b_X1_doDeed_0, b_X1_doDeed_16, b_X1_doDeed_8, b_X1_doDeed_18, b_X1_doDeed_172, b_X1_doDeed_96, b_X1_doDeed_105, b_X1_doDeed_120, b_X1_doDeed_135, b_X1_doDeed_150, b_X1_doDeed_104, b_X1_doDeed_119, b_X1_doDeed_134, b_X1_doDeed_149, b_X1_doDeed_171, i_lit, i_m1, i_31, il_t, il_f, iq_t, iq_f, it_t, it_f, im_e, im_l, im_g, im_g2, nI_add, pk_mul, i_sub, i_div, sdm, i_dec, i_cl, iv_t, bI_or, bI_t0, bI_one, not_true_eq_false, not_false_eq_true, ↓reduceIte, am_tl, am_tn, am_t0, am_n0, and_true, true_and, List.cons_append, List.nil_append, List.append_nil]
        exact k h' fr F'
      rw [if_neg z] at k
      by_cases z1 : n / 100 = 1
      · rw [if_pos z1] at k
        simp (disch := first | assumption | omega) only [b_X1_doDeed_0, b_X1_doDeed_16, b_X1_doDeed_8, b_X1_doDeed_18, b_X1_doDeed_172, b_X1_doDeed_96, b_X1_doDeed_105, b_X1_doDeed_120, b_X1_doDeed_135, b_X1_doDeed_150, b_X1_doDeed_104, b_X1_doDeed_119, b_X1_doDeed_134, b_X1_doDeed_149, b_X1_doDeed_171, i_lit, i_m1, i_31, il_t, il_f, iq_t, iq_f, it_t, it_f, im_e, im_l, im_g, im_g2, nI_add, pk_mul, i_sub, i_div, sdm, i_dec, i_cl, iv_t, bI_or, bI_t0, bI_one, not_true_eq_false, not_false_eq_true, ↓reduceIte, am_tl, am_tn, am_t0, am_n0, and_true, true_and, List.cons_append, List.nil_append, List.append_nil, l_lit, lc_lt, lc_le, lc_gt, lc_ge, lc_eq, ll_t, ll_f, lt_t, lt_f, lq_t, lq_f, l_div, lN_add, lN_mul, lN_sub, lN_i]
        refine c_addParent ok F (fun h' fr F' => ?_)
        simp (disch := first | assumption | omega) only [b_X1_doDeed_0, b_X1_doDeed_16, b_X1_doDeed_8, b_X1_doDeed_18, b_X1_doDeed_172, b_X1_doDeed_96, b_X1_doDeed_105, b_X1_doDeed_120, b_X1_doDeed_135, b_X1_doDeed_150, b_X1_doDeed_104, b_X1_doDeed_119, b_X1_doDeed_134, b_X1_doDeed_149, b_X1_doDeed_171, i_lit, i_m1, i_31, il_t, il_f, iq_t, iq_f, it_t, it_f, im_e, im_l, im_g, im_g2, nI_add, pk_mul, i_sub, i_div, sdm, i_dec, i_cl, iv_t, bI_or, bI_t0, bI_one, not_true_eq_false, not_false_eq_true, ↓reduceIte, am_tl, am_tn, am_t0, am_n0, and_true, true_and, List.cons_append, List.nil_append, List.append_nil]
        exact k h' fr F'
      rw [if_neg z1] at k
      by_cases z2 : n / 100 = 2
      · rw [if_pos z2] at k
        simp (disch := first | assumption | omega) only [b_X1_doDeed_0, b_X1_doDeed_16, b_X1_doDeed_8, b_X1_doDeed_18, b_X1_doDeed_172, b_X1_doDeed_96, b_X1_doDeed_105, b_X1_doDeed_120, b_X1_doDeed_135, b_X1_doDeed_150, b_X1_doDeed_104, b_X1_doDeed_119, b_X1_doDeed_134, b_X1_doDeed_149, b_X1_doDeed_171, i_lit, i_m1, i_31, il_t, il_f, iq_t, iq_f, it_t, it_f, im_e, im_l, im_g, im_g2, nI_add, pk_mul, i_sub, i_div, sdm, i_dec, i_cl, iv_t, bI_or, bI_t0, bI_one, not_true_eq_false, not_false_eq_true, ↓reduceIte, am_tl, am_tn, am_t0, am_n0, and_true, true_and, List.cons_append, List.nil_append, List.append_nil, l_lit, lc_lt, lc_le, lc_gt, lc_ge, lc_eq, ll_t, ll_f, lt_t, lt_f, lq_t, lq_f, l_div, lN_add, lN_mul, lN_sub, lN_i]
        refine c_removeParent ok F (fun h' fr F' => ?_)
        simp (disch := first | assumption | omega) only [b_X1_doDeed_0, b_X1_doDeed_16, b_X1_doDeed_8, b_X1_doDeed_18, b_X1_doDeed_172, b_X1_doDeed_96, b_X1_doDeed_105, b_X1_doDeed_120, b_X1_doDeed_135, b_X1_doDeed_150, b_X1_doDeed_104, b_X1_doDeed_119, b_X1_doDeed_134, b_X1_doDeed_149, b_X1_doDeed_171, i_lit, i_m1, i_31, il_t, il_f, iq_t, iq_f, it_t, it_f, im_e, im_l, im_g, im_g2, nI_add, pk_mul, i_sub, i_div, sdm, i_dec, i_cl, iv_t, bI_or, bI_t0, bI_one, not_true_eq_false, not_false_eq_true, ↓reduceIte, am_tl, am_tn, am_t0, am_n0, and_true, true_and, List.cons_append, List.nil_append, List.append_nil]
        exact k h' fr F'
      rw [if_neg z2] at k
      by_cases z3 : n / 100 = 3
      · rw [if_pos z3] at k
        simp (disch := first | assumption | omega) only [b_X1_doDeed_0, b_X1_doDeed_16, b_X1_doDeed_8, b_X1_doDeed_18, b_X1_doDeed_172, b_X1_doDeed_96, b_X1_doDeed_105, b_X1_doDeed_120, b_X1_doDeed_135, b_X1_doDeed_150, b_X1_doDeed_104, b_X1_doDeed_119, b_X1_doDeed_134, b_X1_doDeed_149, b_X1_doDeed_171, i_lit, i_m1, i_31, il_t, il_f, iq_t, iq_f, it_t, it_f, im_e, im_l, im_g, im_g2, nI_add, pk_mul, i_sub, i_div, sdm, i_dec, i_cl, iv_t, bI_or, bI_t0, bI_one, not_true_eq_false, not_false_eq_true, ↓reduceIte, am_tl, am_tn, am_t0, am_n0, and_true, true_and, List.cons_append, List.nil_append, List.append_nil, l_lit, lc_lt, lc_le, lc_gt, lc_ge, lc_eq, ll_t, ll_f, lt_t, lt_f, lq_t, lq_f, l_div, lN_add, lN_mul, lN_sub, lN_i]
        refine c_turnParents ok F (fun h' fr F' => ?_)
        simp (disch := first | assumption | omega) only [b_X1_doDeed_0, b_X1_doDeed_16, b_X1_doDeed_8, b_X1_doDeed_18, b_X1_doDeed_172, b_X1_doDeed_96, b_X1_doDeed_105, b_X1_doDeed_120, b_X1_doDeed_135, b_X1_doDeed_150, b_X1_doDeed_104, b_X1_doDeed_119, b_X1_doDeed_134, b_X1_doDeed_149, b_X1_doDeed_171, i_lit, i_m1, i_31, il_t, il_f, iq_t, iq_f, it_t, it_f, im_e, im_l, im_g, im_g2, nI_add, pk_mul, i_sub, i_div, sdm, i_dec, i_cl, iv_t, bI_or, bI_t0, bI_one, not_true_eq_false, not_false_eq_true, ↓reduceIte, am_tl, am_tn, am_t0, am_n0, and_true, true_and, List.cons_append, List.nil_append, List.append_nil]
        exact k h' fr F'
      rw [if_neg z3] at k
      by_cases z4 : 10 ≤ n / 100 ∧ n / 100 ≤ 12
      · rw [if_pos z4] at k
        have z5 : n / 100 = 10 ∨ n / 100 = 11 ∨ n / 100 = 12 := by omega
        rcases z5 with z5 | z5 | z5
        all_goals
          simp (disch := first | assumption | omega) only [b_X1_doDeed_0, b_X1_doDeed_16, b_X1_doDeed_8, b_X1_doDeed_18, b_X1_doDeed_172, b_X1_doDeed_96, b_X1_doDeed_105, b_X1_doDeed_120, b_X1_doDeed_135, b_X1_doDeed_150, b_X1_doDeed_104, b_X1_doDeed_119, b_X1_doDeed_134, b_X1_doDeed_149, b_X1_doDeed_171, i_lit, i_m1, i_31, il_t, il_f, iq_t, iq_f, it_t, it_f, im_e, im_l, im_g, im_g2, nI_add, pk_mul, i_sub, i_div, sdm, i_dec, i_cl, iv_t, bI_or, bI_t0, bI_one, not_true_eq_false, not_false_eq_true, ↓reduceIte, am_tl, am_tn, am_t0, am_n0, and_true, true_and, List.cons_append, List.nil_append, List.append_nil, l_lit, lc_lt, lc_le, lc_gt, lc_ge, lc_eq, ll_t, ll_f, lt_t, lt_f, lq_t, lq_f, l_div, lN_add, lN_mul, lN_sub, lN_i]
          refine c_putDefinition ok F (fun h' fr F' => ?_)
          simp (disch := first | assumption | omega) only [b_X1_doDeed_0, b_X1_doDeed_16, b_X1_doDeed_8, b_X1_doDeed_18, b_X1_doDeed_172, b_X1_doDeed_96, b_X1_doDeed_105, b_X1_doDeed_120, b_X1_doDeed_135, b_X1_doDeed_150, b_X1_doDeed_104, b_X1_doDeed_119, b_X1_doDeed_134, b_X1_doDeed_149, b_X1_doDeed_171, i_lit, i_m1, i_31, il_t, il_f, iq_t, iq_f, it_t, it_f, im_e, im_l, im_g, im_g2, nI_add, pk_mul, i_sub, i_div, sdm, i_dec, i_cl, iv_t, bI_or, bI_t0, bI_one, not_true_eq_false, not_false_eq_true, ↓reduceIte, am_tl, am_tn, am_t0, am_n0, and_true, true_and, List.cons_append, List.nil_append, List.append_nil]
          exact k h' fr F'
      · rw [if_neg z4] at k
        have z5 : n / 100 = 4 ∨ n / 100 = 5 ∨ n / 100 = 6 ∨ n / 100 = 7 ∨ n / 100 = 8 ∨ n / 100 = 9 := by omega
        rcases z5 with z5 | z5 | z5 | z5 | z5 | z5
        all_goals
          simp (disch := first | assumption | omega) only [b_X1_doDeed_0, b_X1_doDeed_16, b_X1_doDeed_8, b_X1_doDeed_18, b_X1_doDeed_172, b_X1_doDeed_96, b_X1_doDeed_105, b_X1_doDeed_120, b_X1_doDeed_135, b_X1_doDeed_150, b_X1_doDeed_104, b_X1_doDeed_119, b_X1_doDeed_134, b_X1_doDeed_149, b_X1_doDeed_171, i_lit, i_m1, i_31, il_t, il_f, iq_t, iq_f, it_t, it_f, im_e, im_l, im_g, im_g2, nI_add, pk_mul, i_sub, i_div, sdm, i_dec, i_cl, iv_t, bI_or, bI_t0, bI_one, not_true_eq_false, not_false_eq_true, ↓reduceIte, am_tl, am_tn, am_t0, am_n0, and_true, true_and, List.cons_append, List.nil_append, List.append_nil, l_lit, lc_lt, lc_le, lc_gt, lc_ge, lc_eq, ll_t, ll_f, lt_t, lt_f, lq_t, lq_f, l_div, lN_add, lN_mul, lN_sub, lN_i]
          exact k h am_fr.rf F
/-! counting, sets -/
/-- how many k below n have p -/
def ct (p : Nat → Bool) : Nat → Nat
  | 0 => 0
  | n + 1 => ct p n + (if p n = true then 1 else 0)
theorem ct_le (p : Nat → Bool) : ∀ n, ct p n ≤ n := by
  intro n
  induction n with
  | zero => exact Nat.le_refl _
  | succ n ih =>
    unfold ct
    split <;> omega
theorem ct_y {p : Nat → Bool} {n : Nat} (h : p n = true) : ct p (n + 1) = ct p n + 1 := by rw [ct, if_pos h]
theorem ct_n {p : Nat → Bool} {n : Nat} (h : p n = false) : ct p (n + 1) = ct p n := by rw [ct, if_neg (by rw [h]; decide)]; rfl
theorem ct_cong {p q : Nat → Bool} : ∀ {n : Nat}, (∀ k, k < n → p k = q k) → ct p n = ct q n := by
  intro n
  induction n with
  | zero => intro _; rfl
  | succ n ih =>
    intro h
    rw [ct, ct, ih (fun k hk => h k (by omega)), h n (by omega)]
theorem ct_more {p : Nat → Bool} {n : Nat} : ∀ m, (∀ k, n ≤ k → k < n + m → p k = false) → ct p (n + m) = ct p n := by
  intro m
  induction m with
  | zero => intro _; rfl
  | succ m ih =>
    intro h
    rw [← Nat.add_assoc, ct_n (h (n + m) (by omega) (by omega)), ih (fun k h1 h2 => h k h1 (by omega))]
/-- sums -/
def sm (g : Nat → Nat) : Nat → Nat
  | 0 => 0
  | n + 1 => sm g n + g n
theorem sm_le {g : Nat → Nat} {c : Nat} : ∀ {n : Nat}, (∀ k, k < n → g k ≤ c) → sm g n ≤ c * n := by
  intro n
  induction n with
  | zero => intro _; exact Nat.le_refl _
  | succ n ih =>
    intro h
    have h1 := ih (fun k hk => h k (by omega))
    have h2 := h n (by omega)
    rw [sm, Nat.mul_add, Nat.mul_one]
    omega
def f_lk (f : fa_S) : Nat := sm (fun c => (f_p f c).length) (f_n f)
theorem f_lk_le {f : fa_S} (ok : fa_ok f) : ∀ n, sm (fun c => (f_p f c).length) n ≤ 4 * n := fun n => sm_le (fun k _ => (ok.2 k).1)
theorem c_links {d : Nat} {Q : Option am_V → am_H → Prop} {h : am_H} {o : Nat} {f : fa_S} (ok : fa_ok f) (F : fa_at h o f) {l1 l2 : Option am_V} : ex_ (d + 1) 33 0 [some (v_r (some o)), l1, l2] [] h Q ↔ Q (some (v_i (nI (f_lk f)))) h := by
  have F0 := F.1
  have F1 := F.2.1
  have hn := ok.1
  apply ex_iff
  rw [b_X1_links_0]
  refine lp_up (f_n f) (fun i (_ : Unit) => [some (v_r (some o)), some (v_i (nI (sm (fun c => (f_p f c).length) i))), some (v_i (nI i))]) (fun i _ h' => h' = h) ?_ ?_ (Nat.zero_le _) rfl (s := ())
  · rintro i - h' hi rfl nx
    rw [b_X1_links_4 _ _ o _ F0]
    simp (disch := first | assumption | omega) only [b_X1_links_0, b_X1_links_26, b_X1_links_12, b_X1_links_18, i_lit, i_m1, i_31, il_t, il_f, iq_t, iq_f, it_t, it_f, im_e, im_l, im_g, im_g2, nI_add, pk_mul, i_sub, i_div, sdm, i_dec, i_cl, iv_t, bI_or, bI_t0, bI_one, not_true_eq_false, not_false_eq_true, ↓reduceIte, am_tl, am_tn, am_t0, am_n0, and_true, true_and, List.cons_append, List.nil_append, List.append_nil, F1, c_parentCount F (show i < 10 by omega)]
    exact nx () _ rfl
  · rintro - h' rfl
    rw [b_X1_links_4 _ _ o _ F0]
    simp (disch := first | assumption | omega) only [b_X1_links_0, b_X1_links_26, b_X1_links_12, b_X1_links_18, i_lit, i_m1, i_31, il_t, il_f, iq_t, iq_f, it_t, it_f, im_e, im_l, im_g, im_g2, nI_add, pk_mul, i_sub, i_div, sdm, i_dec, i_cl, iv_t, bI_or, bI_t0, bI_one, not_true_eq_false, not_false_eq_true, ↓reduceIte, am_tl, am_tn, am_t0, am_n0, and_true, true_and, List.cons_append, List.nil_append, List.append_nil, F1]
    rfl
/-- which places hold a definition -/
def f_df (f : fa_S) (k : Nat) : Bool := !(f_d f (k / 8) (k % 8) == nI 0)
theorem c_definitionCount {d : Nat} {Q : Option am_V → am_H → Prop} {h : am_H} {o : Nat} {f : fa_S} (F : fa_at h o f) {l1 l2 l3 l4 l5 : Option am_V} : ex_ d 34 0 [some (v_r (some o)), l1, l2, l3, l4, l5] [] h Q ↔ Q (some (v_i (nI (ct (f_df f) 80)))) h := by
  have F0 := F.1
  have A3 := y_f3 F0
  apply ex_iff
  rw [b_X1_definitionCount_0 h o _ _ _ _ _ F0]
  refine lp_up 80 (fun i (l5 : Option am_V) => [some (v_r (some o)), some (v_i (nI (ct (f_df f) i))), some (v_r (some (o + 3))), some (v_i (nI 80)), some (v_i (nI i)), l5]) (fun i _ h' => h' = h) ?_ ?_ (Nat.zero_le _) rfl
  · rintro i s h' hi rfl nx
    have e := F.2.2.2.2.2 (i / 8) (i % 8) (by omega) (by omega)
    rw [show 8 * (i / 8) + i % 8 = i from by omega] at e
    rw [b_X1_definitionCount_13]
    simp (disch := first | assumption | omega) only [b_X1_definitionCount_0, b_X1_definitionCount_39, b_X1_definitionCount_19, b_X1_definitionCount_22, b_X1_definitionCount_33, b_X1_definitionCount_30, i_lit, i_m1, i_31, il_t, il_f, iq_t, iq_f, it_t, it_f, im_e, im_l, im_g, im_g2, nI_add, pk_mul, i_sub, i_div, sdm, i_dec, i_cl, iv_t, bI_or, bI_t0, bI_one, not_true_eq_false, not_false_eq_true, ↓reduceIte, am_tl, am_tn, am_t0, am_n0, and_true, true_and, List.cons_append, List.nil_append, List.append_nil, e]
    by_cases z : f_d f (i / 8) (i % 8) = nI 0
    · have := nx (some (v_i (f_d f (i / 8) (i % 8)))) _ rfl
      rw [ct_n (by rw [f_df, z]; rfl)] at this
      rw [if_pos z]
      exact this
    · have := nx (some (v_i (f_d f (i / 8) (i % 8)))) _ rfl
      rw [ct_y (by rw [f_df]; simp [z])] at this
      rw [if_neg z]
      exact this
  · rintro s h' rfl
    rw [b_X1_definitionCount_13]
    simp (disch := first | assumption | omega) only [b_X1_definitionCount_0, b_X1_definitionCount_39, b_X1_definitionCount_19, b_X1_definitionCount_22, b_X1_definitionCount_33, b_X1_definitionCount_30, i_lit, i_m1, i_31, il_t, il_f, iq_t, iq_f, it_t, it_f, im_e, im_l, im_g, im_g2, nI_add, pk_mul, i_sub, i_div, sdm, i_dec, i_cl, iv_t, bI_or, bI_t0, bI_one, not_true_eq_false, not_false_eq_true, ↓reduceIte, am_tl, am_tn, am_t0, am_n0, and_true, true_and, List.cons_append, List.nil_append, List.append_nil]
/-- the parents in the places that P doesn't name -/
def lw (l : List Nat) (P : Nat → Bool) : Nat → List Nat
  | 0 => []
  | k + 1 => if P k = true then lw l P k else lw l P k ++ [l.getD k 0]
theorem lw_len (l : List Nat) (P : Nat → Bool) : ∀ k, (lw l P k).length ≤ k := by
  intro k
  induction k with
  | zero => exact Nat.le_refl _
  | succ k ih =>
    unfold lw
    split
    · omega
    · rw [List.length_append, List.length_singleton]
      omega
theorem ro_app {h : am_H} {a b : Nat} {l : List Nat} {q : Nat} (r : ro h a b l) : ro (p_i h a (b + l.length) (nI q)) a b (l ++ [q]) := by
  intro k hk
  rw [List.length_append, List.length_singleton] at hk
  rw [gd_app]
  by_cases z : k = l.length
  · rw [if_neg (by omega), if_pos z, z, hi_s]
  · rw [if_pos (by omega), hi_k (by omega), r k (by omega)]
theorem ro_nil {h : am_H} {a b : Nat} : ro h a b [] := fun k hk => absurd hk (Nat.not_lt_zero _)
theorem c_listParents {d : Nat} {Q : Option am_V → am_H → Prop} {h : am_H} {o : Nat} {f : fa_S} (ok : fa_ok f) (F : fa_at h o f) {c q : Nat} (hc : c < 10) (A : y_arr h q 20 4) (hq : q < o ∨ o + 4 ≤ q) {P : Nat → Bool} {l4 l5 : Option am_V} (k : ∀ h', am_fr h h' (fun a _ => a = q) → ro h' q 0 (lw (f_p f c) P (f_p f c).length) → Q (some (v_i (nI (lw (f_p f c) P (f_p f c).length).length))) h') : ex_ (d + 2) 30 0 [some (v_r (some o)), some (v_i (nI c)), some (v_i (nI (bs P))), some (v_r (some q)), l4, l5] [] h Q := by
  have h4 := (ok.2 c).1
  rw [b_X1_listParents_0]
  refine lp_up (f_p f c).length (fun i (_ : Unit) => [some (v_r (some o)), some (v_i (nI c)), some (v_i (nI (bs P))), some (v_r (some q)), some (v_i (nI (lw (f_p f c) P i).length)), some (v_i (nI i))]) (fun i _ h' => am_fr h h' (fun a _ => a = q) ∧ ro h' q 0 (lw (f_p f c) P i)) ?_ ?_ (Nat.zero_le _) ⟨am_fr.rf, ro_nil⟩ (s := ())
  · rintro i - h' hi ⟨fr, e⟩ nx
    have F' : fa_at h' o f := fr.fa F (fun a k h1 h2 => by omega)
    have F0 := F'.1
    have A' : y_arr h' q 20 4 := fr.c A
    have hl := lw_len (f_p f c) P i
    rw [b_X1_listParents_6 _ _ o _ _ _ _ F0]
    cases hp : P i with
    | true =>
      simp (disch := first | assumption | omega) only [b_X1_listParents_0, b_X1_listParents_13, b_X1_listParents_52, b_X1_listParents_16, b_X1_listParents_23, b_X1_listParents_46, b_X1_listParents_32, b_X1_listParents_42, i_lit, i_m1, i_31, il_t, il_f, iq_t, iq_f, it_t, it_f, im_e, im_l, im_g, im_g2, nI_add, pk_mul, i_sub, i_div, sdm, i_dec, i_cl, iv_t, bI_or, bI_t0, bI_one, not_true_eq_false, not_false_eq_true, ↓reduceIte, am_tl, am_tn, am_t0, am_n0, and_true, true_and, List.cons_append, List.nil_append, List.append_nil, c_parentCount F' hc, hp, Bool.true_eq_false]
      have := nx () h' ⟨fr, by rw [lw, if_pos hp]; exact e⟩
      rw [lw, if_pos hp] at this
      exact this
    | false =>
      simp (disch := first | assumption | omega) only [b_X1_listParents_0, b_X1_listParents_13, b_X1_listParents_52, b_X1_listParents_16, b_X1_listParents_23, b_X1_listParents_46, b_X1_listParents_32, b_X1_listParents_42, i_lit, i_m1, i_31, il_t, il_f, iq_t, iq_f, it_t, it_f, im_e, im_l, im_g, im_g2, nI_add, pk_mul, i_sub, i_div, sdm, i_dec, i_cl, iv_t, bI_or, bI_t0, bI_one, not_true_eq_false, not_false_eq_true, ↓reduceIte, am_tl, am_tn, am_t0, am_n0, and_true, true_and, List.cons_append, List.nil_append, List.append_nil, c_parentCount F' hc, hp, c_parentAt ok F' hc hi]
      have e2 : lw (f_p f c) P (i + 1) = lw (f_p f c) P i ++ [(f_p f c).getD i 0] := by rw [lw, if_neg (by rw [hp]; decide)]
      have e3 := ro_app (q := (f_p f c).getD i 0) e
      rw [Nat.zero_add] at e3
      have := nx () _ ⟨fr.pi rfl, by rw [e2]; exact e3⟩
      rw [e2, List.length_append] at this
      exact this
  · rintro - h' ⟨fr, e⟩
    have F' : fa_at h' o f := fr.fa F (fun a k h1 h2 => by omega)
    have F0 := F'.1
    rw [b_X1_listParents_6 _ _ o _ _ _ _ F0]
    simp (disch := first | assumption | omega) only [b_X1_listParents_0, b_X1_listParents_13, b_X1_listParents_52, b_X1_listParents_16, b_X1_listParents_23, b_X1_listParents_46, b_X1_listParents_32, b_X1_listParents_42, i_lit, i_m1, i_31, il_t, il_f, iq_t, iq_f, it_t, it_f, im_e, im_l, im_g, im_g2, nI_add, pk_mul, i_sub, i_div, sdm, i_dec, i_cl, iv_t, bI_or, bI_t0, bI_one, not_true_eq_false, not_false_eq_true, ↓reduceIte, am_tl, am_tn, am_t0, am_n0, and_true, true_and, List.cons_append, List.nil_append, List.append_nil, c_parentCount F' hc]
    exact k h' fr e
