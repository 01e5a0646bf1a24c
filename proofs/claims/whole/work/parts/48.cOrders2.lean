theorem im_e2 {a : Nat} (ha : a < 2147483648) : (mI = nI a) = False := eq_false (fun e => by
  have := congrArg Int32.toInt e
  rw [nI_toInt ha, mI_toInt] at this
  omega)
/-- what stands behind a first one, of the first i rows -/
def mb (R : Nat → List Nat) (i x : Nat) : Bool := (List.range i).any (fun k => decide (x ∈ (R k).tail))
theorem mb_0 {R : Nat → List Nat} : nI (bs (mb R 0)) = nI 0 := congrArg nI bs_0
theorem mb_s {R : Nat → List Nat} {i : Nat} : mb R (i + 1) = fun x => mb R i x || decide (x ∈ (R i).tail) := by
  funext x
  rw [mb, List.range_succ, List.any_append]
  simp [mb]
theorem mb_f {R : Nat → List Nat} {n x : Nat} : mb R (n + 1) x = false ↔ mf_free n R x = true := by
  rw [mf_free_iff, mb, List.any_eq_false]
  simp only [List.mem_range, decide_eq_true_eq]
  exact ⟨fun h k hk => h k (by omega), fun h k hk => h k (by omega)⟩
theorem c_firstFree {d : Nat} {Q : Option am_V → am_H → Prop} {h : am_H} {o n : Nat} {R : Nat → List Nat} (F0 : y_Orders h o) (hn : n ≤ 4) (ms : ∀ k, k ≤ n → mr h o k (R k)) (hx : ∀ k, k ≤ n → ∀ x ∈ R k, x < 10) {l2 l3 : Option am_V} : ex_ d 49 0 [some (v_r (some o)), some (v_i (nI n)), l2, l3] [] h Q ↔ Q (some (v_i (oI (mf_pick n R 0)))) h := by
  apply ex_iff
  rw [b_X6_firstFree_0]
  have L1 : ex_ d 49 4 [some (v_r (some o)), some (v_i (nI n)), some (v_i (nI (bs (mb R 0)))), some (v_i (nI 0))] [] h (fun r h' => r = some (v_i (oI (mf_pick n R 0))) ∧ h' = h) := by
    refine lp_up (n + 1) (fun i (_ : Unit) => [some (v_r (some o)), some (v_i (nI n)), some (v_i (nI (bs (mb R i)))), some (v_i (nI i))]) (fun i _ h' => h' = h) ?_ ?_ (Nat.zero_le _) rfl (s := ())
    · rintro i - h' hi rfl nx
      obtain ⟨t, t1, t2, t3, t4, t5, t6⟩ := ms i (by omega)
      rw [b_X6_firstFree_4]
      have nxt := nx () h' rfl
      rw [mb_s] at nxt
      simp (disch := first | assumption | omega | (simp only [ya_pi, ya_pj, ya_pa, ya_pr, yo_pi, yo_pj, yo_pa, yf_pi, yf_pj, yf_pa, yh_pi, yh_pj, yh_pa, yt_pi, yt_pj, yt_pa, la_pi, la_pj, la_pa]; assumption)) only [b_X6_firstFree_0, b_X6_firstFree_29, b_X6_firstFree_9, b_X6_firstFree_14, b_X6_firstFree_77, b_X6_firstFree_36, b_X6_firstFree_41, b_X6_firstFree_71, b_X6_firstFree_51, b_X6_firstFree_64, i_lit, i_m1, i_31, il_t, il_f, iq_t, iq_f, it_t, it_f, im_e, im_l, im_g, im_g2, nI_add, pk_mul, i_sub, i_div, sdm, i_dec, i_cl, iv_t, bI_or2, bI_t0, bI_one, not_true_eq_false, not_false_eq_true, ↓reduceIte, am_tl, am_tn, am_t0, am_n0, and_true, true_and, List.cons_append, List.nil_append, List.append_nil, t6]
      exact nxt
    · rintro - h' rfl
      rw [b_X6_firstFree_4]
      simp (disch := first | assumption | omega | (simp only [ya_pi, ya_pj, ya_pa, ya_pr, yo_pi, yo_pj, yo_pa, yf_pi, yf_pj, yf_pa, yh_pi, yh_pj, yh_pa, yt_pi, yt_pj, yt_pa, la_pi, la_pj, la_pa]; assumption)) only [b_X6_firstFree_0, b_X6_firstFree_29, b_X6_firstFree_9, b_X6_firstFree_14, b_X6_firstFree_77, b_X6_firstFree_36, b_X6_firstFree_41, b_X6_firstFree_71, b_X6_firstFree_51, b_X6_firstFree_64, i_lit, i_m1, i_31, il_t, il_f, iq_t, iq_f, it_t, it_f, im_e, im_l, im_g, im_g2, nI_add, pk_mul, i_sub, i_div, sdm, i_dec, i_cl, iv_t, bI_or2, bI_t0, bI_one, not_true_eq_false, not_false_eq_true, ↓reduceIte, am_tl, am_tn, am_t0, am_n0, and_true, true_and, List.cons_append, List.nil_append, List.append_nil]
      refine lp_up (n + 1) (fun i (_ : Unit) => [some (v_r (some o)), some (v_i (nI n)), some (v_i (nI (bs (mb R (n + 1))))), some (v_i (nI i))]) (fun i _ h2 => h2 = h' ∧ mf_pick n R i = mf_pick n R 0) ?_ ?_ (Nat.zero_le _) ⟨rfl, rfl⟩ (s := ())
      · rintro i - h2 hi ⟨rfl, e⟩ nx
        obtain ⟨t, t1, t2, t3, t4, t5, t6⟩ := ms i (by omega)
        rw [b_X6_firstFree_31]
        cases eR : R i with
        | nil =>
          rw [eR] at t5
          rw [mf_pick_nil (by omega) eR] at e
          simp (disch := first | assumption | omega | (simp only [ya_pi, ya_pj, ya_pa, ya_pr, yo_pi, yo_pj, yo_pa, yf_pi, yf_pj, yf_pa, yh_pi, yh_pj, yh_pa, yt_pi, yt_pj, yt_pa, la_pi, la_pj, la_pa]; assumption)) only [b_X6_firstFree_0, b_X6_firstFree_29, b_X6_firstFree_9, b_X6_firstFree_14, b_X6_firstFree_77, b_X6_firstFree_36, b_X6_firstFree_41, b_X6_firstFree_71, b_X6_firstFree_51, b_X6_firstFree_64, i_lit, i_m1, i_31, il_t, il_f, iq_t, iq_f, it_t, it_f, im_e, im_l, im_g, im_g2, nI_add, pk_mul, i_sub, i_div, sdm, i_dec, i_cl, iv_t, bI_or2, bI_t0, bI_one, not_true_eq_false, not_false_eq_true, ↓reduceIte, am_tl, am_tn, am_t0, am_n0, and_true, true_and, List.cons_append, List.nil_append, List.append_nil, t5, List.head?_nil, oI]
          exact nx () h2 ⟨rfl, e⟩
        | cons x l =>
          rw [eR] at t5
          have x10 := hx i (by omega) x (by rw [eR]; exact List.mem_cons_self)
          by_cases hf : mf_free n R x = true
          · rw [mf_pick_yes (by omega) eR hf] at e
            have hb := mb_f.2 hf
            simp (disch := first | assumption | omega | (simp only [ya_pi, ya_pj, ya_pa, ya_pr, yo_pi, yo_pj, yo_pa, yf_pi, yf_pj, yf_pa, yh_pi, yh_pj, yh_pa, yt_pi, yt_pj, yt_pa, la_pi, la_pj, la_pa]; assumption)) only [b_X6_firstFree_0, b_X6_firstFree_29, b_X6_firstFree_9, b_X6_firstFree_14, b_X6_firstFree_77, b_X6_firstFree_36, b_X6_firstFree_41, b_X6_firstFree_71, b_X6_firstFree_51, b_X6_firstFree_64, i_lit, i_m1, i_31, il_t, il_f, iq_t, iq_f, it_t, it_f, im_e, im_l, im_g, im_g2, nI_add, pk_mul, i_sub, i_div, sdm, i_dec, i_cl, iv_t, bI_or2, bI_t0, bI_one, not_true_eq_false, not_false_eq_true, ↓reduceIte, am_tl, am_tn, am_t0, am_n0, and_true, true_and, List.cons_append, List.nil_append, List.append_nil, t5, List.head?_cons, oI, hb]
            rw [← e]
          · rw [mf_pick_no (by omega) eR hf] at e
            have hb : mb R (n + 1) x = true := by
              cases z : mb R (n + 1) x with
              | true => rfl
              | false => exact absurd (mb_f.1 z) hf
            simp (disch := first | assumption | omega | (simp only [ya_pi, ya_pj, ya_pa, ya_pr, yo_pi, yo_pj, yo_pa, yf_pi, yf_pj, yf_pa, yh_pi, yh_pj, yh_pa, yt_pi, yt_pj, yt_pa, la_pi, la_pj, la_pa]; assumption)) only [b_X6_firstFree_0, b_X6_firstFree_29, b_X6_firstFree_9, b_X6_firstFree_14, b_X6_firstFree_77, b_X6_firstFree_36, b_X6_firstFree_41, b_X6_firstFree_71, b_X6_firstFree_51, b_X6_firstFree_64, i_lit, i_m1, i_31, il_t, il_f, iq_t, iq_f, it_t, it_f, im_e, im_l, im_g, im_g2, nI_add, pk_mul, i_sub, i_div, sdm, i_dec, i_cl, iv_t, bI_or2, bI_t0, bI_one, not_true_eq_false, not_false_eq_true, ↓reduceIte, am_tl, am_tn, am_t0, am_n0, and_true, true_and, List.cons_append, List.nil_append, List.append_nil, t5, List.head?_cons, oI, hb, Bool.true_eq_false]
            exact nx () h2 ⟨rfl, e⟩
      · rintro - h2 ⟨rfl, e⟩
        rw [mf_pick_out (by omega)] at e
        rw [b_X6_firstFree_31]
        simp (disch := first | assumption | omega | (simp only [ya_pi, ya_pj, ya_pa, ya_pr, yo_pi, yo_pj, yo_pa, yf_pi, yf_pj, yf_pa, yh_pi, yh_pj, yh_pa, yt_pi, yt_pj, yt_pa, la_pi, la_pj, la_pa]; assumption)) only [b_X6_firstFree_0, b_X6_firstFree_29, b_X6_firstFree_9, b_X6_firstFree_14, b_X6_firstFree_77, b_X6_firstFree_36, b_X6_firstFree_41, b_X6_firstFree_71, b_X6_firstFree_51, b_X6_firstFree_64, i_lit, i_m1, i_31, il_t, il_f, iq_t, iq_f, it_t, it_f, im_e, im_l, im_g, im_g2, nI_add, pk_mul, i_sub, i_div, sdm, i_dec, i_cl, iv_t, bI_or2, bI_t0, bI_one, not_true_eq_false, not_false_eq_true, ↓reduceIte, am_tl, am_tn, am_t0, am_n0, and_true, true_and, List.cons_append, List.nil_append, List.append_nil]
        rw [← e]
        rfl
  rw [mb_0] at L1
  exact L1
theorem c_isAllTaken {d : Nat} {Q : Option am_V → am_H → Prop} {h : am_H} {o n : Nat} {R : Nat → List Nat} (F0 : y_Orders h o) (hn : n ≤ 4) (ms : ∀ k, k ≤ n → mr h o k (R k)) (hx : ∀ k, k ≤ n → ∀ x ∈ R k, x < 10) {l2 : Option am_V} : ex_ d 51 0 [some (v_r (some o)), some (v_i (nI n)), l2] [] h Q ↔ Q (some (v_i (nI (if mf_emp n R = true then 1 else 0)))) h := by
  apply ex_iff
  rw [b_X6_isAllTaken_0]
  refine lp_up (n + 1) (fun i (_ : Unit) => [some (v_r (some o)), some (v_i (nI n)), some (v_i (nI i))]) (fun i _ h' => h' = h ∧ ∀ k, k < i → R k = []) ?_ ?_ (Nat.zero_le _) ⟨rfl, fun k hk => absurd hk (Nat.not_lt_zero _)⟩ (s := ())
  · rintro i - h' hi ⟨rfl, e⟩ nx
    obtain ⟨t, t1, t2, t3, t4, t5, t6⟩ := ms i (by omega)
    rw [b_X6_isAllTaken_2]
    cases eR : R i with
    | nil =>
      rw [eR] at t5
      simp (disch := first | assumption | omega | (simp only [ya_pi, ya_pj, ya_pa, ya_pr, yo_pi, yo_pj, yo_pa, yf_pi, yf_pj, yf_pa, yh_pi, yh_pj, yh_pa, yt_pi, yt_pj, yt_pa, la_pi, la_pj, la_pa]; assumption)) only [b_X6_isAllTaken_0, b_X6_isAllTaken_30, b_X6_isAllTaken_7, b_X6_isAllTaken_12, b_X6_isAllTaken_24, b_X6_isAllTaken_22, i_lit, i_m1, i_31, il_t, il_f, iq_t, iq_f, it_t, it_f, im_e, im_l, im_g, im_g2, nI_add, pk_mul, i_sub, i_div, sdm, i_dec, i_cl, iv_t, bI_or2, bI_t0, bI_one, not_true_eq_false, not_false_eq_true, ↓reduceIte, am_tl, am_tn, am_t0, am_n0, and_true, true_and, List.cons_append, List.nil_append, List.append_nil, t5, List.head?_nil, oI]
      refine nx () h' ⟨rfl, fun k hk => ?_⟩
      by_cases z : k = i
      · rw [z, eR]
      · exact e k (by omega)
    | cons x l =>
      rw [eR] at t5
      have x10 := hx i (by omega) x (by rw [eR]; exact List.mem_cons_self)
      simp (disch := first | assumption | omega | (simp only [ya_pi, ya_pj, ya_pa, ya_pr, yo_pi, yo_pj, yo_pa, yf_pi, yf_pj, yf_pa, yh_pi, yh_pj, yh_pa, yt_pi, yt_pj, yt_pa, la_pi, la_pj, la_pa]; assumption)) only [b_X6_isAllTaken_0, b_X6_isAllTaken_30, b_X6_isAllTaken_7, b_X6_isAllTaken_12, b_X6_isAllTaken_24, b_X6_isAllTaken_22, i_lit, i_m1, i_31, il_t, il_f, iq_t, iq_f, it_t, it_f, im_e, im_l, im_g, im_g2, nI_add, pk_mul, i_sub, i_div, sdm, i_dec, i_cl, iv_t, bI_or2, bI_t0, bI_one, not_true_eq_false, not_false_eq_true, ↓reduceIte, am_tl, am_tn, am_t0, am_n0, and_true, true_and, List.cons_append, List.nil_append, List.append_nil, t5, List.head?_cons, oI]
      rw [if_neg (fun z => by
        rw [mf_emp_iff] at z
        rw [z i (by omega)] at eR
        cases eR)]
  · rintro - h' ⟨rfl, e⟩
    rw [b_X6_isAllTaken_2]
    simp (disch := first | assumption | omega | (simp only [ya_pi, ya_pj, ya_pa, ya_pr, yo_pi, yo_pj, yo_pa, yf_pi, yf_pj, yf_pa, yh_pi, yh_pj, yh_pa, yt_pi, yt_pj, yt_pa, la_pi, la_pj, la_pa]; assumption)) only [b_X6_isAllTaken_0, b_X6_isAllTaken_30, b_X6_isAllTaken_7, b_X6_isAllTaken_12, b_X6_isAllTaken_24, b_X6_isAllTaken_22, i_lit, i_m1, i_31, il_t, il_f, iq_t, iq_f, it_t, it_f, im_e, im_l, im_g, im_g2, nI_add, pk_mul, i_sub, i_div, sdm, i_dec, i_cl, iv_t, bI_or2, bI_t0, bI_one, not_true_eq_false, not_false_eq_true, ↓reduceIte, am_tl, am_tn, am_t0, am_n0, and_true, true_and, List.cons_append, List.nil_append, List.append_nil]
    rw [if_pos (mf_emp_iff.2 (fun k hk => e k (by omega)))]
theorem c_takeFromAll {d : Nat} {Q : Option am_V → am_H → Prop} {h : am_H} {o n x : Nat} {R : Nat → List Nat} (F0 : y_Orders h o) (hn : n ≤ 4) (ms : ∀ k, k ≤ n → mr h o k (R k)) (hx : ∀ k, k ≤ n → ∀ x ∈ R k, x < 10) (nd : ∀ k, k ≤ n → (R k).Nodup) (x10 : x < 10) {l3 l4 : Option am_V} (k : ∀ h', am_fr h h' (or_M o) → (∀ k, k ≤ n → mr h' o k (mf_drop x R k)) → Q none h') : ex_ d 50 0 [some (v_r (some o)), some (v_i (nI x)), some (v_i (nI n)), l3, l4] [] h Q := by
  rw [b_X6_takeFromAll_0]
  refine lp_up (n + 1) (fun r (l4 : Option am_V) => [some (v_r (some o)), some (v_i (nI x)), some (v_i (nI n)), some (v_i (nI r)), l4]) (fun r _ h' => am_fr h h' (or_M o) ∧ ∀ k, k ≤ n → mr h' o k (if k < r then mf_drop x R k else R k)) ?_ ?_ (Nat.zero_le _) ⟨am_fr.rf, fun k hk => by rw [if_neg (Nat.not_lt_zero _)]; exact ms k hk⟩
  · rintro r l4 h' hr ⟨fr, m⟩ nx
    have F1 : y_Orders h' o := fr.orders F0
    have m1 := m r (by omega)
    rw [if_neg (by omega)] at m1
    have A8 : y_arr h' (o + 8) 20 5 := F1.1 8 rfl
    have A9 : y_arr h' (o + 9) 20 5 := F1.1 9 rfl
    rw [b_X6_takeFromAll_2]
    have same : ¬ (R r).head? = some x → ∀ k, k ≤ n → mr h' o k (if k < r + 1 then mf_drop x R k else R k) := by
      intro hh k hk
      have := m k hk
      by_cases z : k = r
      · subst z
        rw [if_pos (by omega), mf_drop, if_neg hh]
        exact m1
      · by_cases z2 : k < r
        · rw [if_pos z2] at this
          rw [if_pos (by omega)]
          exact this
        · rw [if_neg z2] at this
          rw [if_neg (by omega)]
          exact this
    have other : ∀ {h2 : am_H} {l : List Nat}, am_fr h' h2 (or_W o r) → (R r).head? = some x → mr h2 o r (R r).tail → ∀ k, k ≤ n → mr h2 o k (if k < r + 1 then mf_drop x R k else R k) := by
      intro h2 l fr2 hh m2 k hk
      by_cases z : k = r
      · subst z
        rw [if_pos (by omega), mf_drop, if_pos hh]
        exact m2
      · have := mr.fr fr2 (m k hk) (fun j hj z => by unfold or_W at z; omega) (fun a h1 h2 z => by unfold or_W at z; omega)
        by_cases z2 : k < r
        · rw [if_pos z2] at this
          rw [if_pos (by omega)]
          exact this
        · rw [if_neg z2] at this
          rw [if_neg (by omega)]
          exact this
    obtain ⟨t, t1, t2, t3, t4, t5, t6⟩ := m1
    cases eR : R r with
    | nil =>
      rw [eR] at t5 same
      simp (disch := first | assumption | omega | (simp only [ya_pi, ya_pj, ya_pa, ya_pr, yo_pi, yo_pj, yo_pa, yf_pi, yf_pj, yf_pa, yh_pi, yh_pj, yh_pa, yt_pi, yt_pj, yt_pa, la_pi, la_pj, la_pa]; assumption)) only [b_X6_takeFromAll_0, b_X6_takeFromAll_130, b_X6_takeFromAll_7, b_X6_takeFromAll_12, b_X6_takeFromAll_124, b_X6_takeFromAll_22, b_X6_takeFromAll_62, b_X6_takeFromAll_47, b_X6_takeFromAll_94, b_X6_takeFromAll_75, b_X6_takeFromAll_58, b_X6_takeFromAll_121, b_X6_takeFromAll_108, i_lit, i_m1, i_31, il_t, il_f, iq_t, iq_f, it_t, it_f, im_e, im_l, im_g, im_g2, nI_add, pk_mul, i_sub, i_div, sdm, i_dec, i_cl, iv_t, bI_or2, bI_t0, bI_one, not_true_eq_false, not_false_eq_true, ↓reduceIte, am_tl, am_tn, am_t0, am_n0, and_true, true_and, List.cons_append, List.nil_append, List.append_nil, t5, List.head?_nil, oI, im_e2]
      exact nx l4 h' ⟨fr, same (by simp)⟩
    | cons y l =>
      rw [eR] at t1 t3 t4 t5 t6
      have y10 := hx r (by omega) y (by rw [eR]; exact List.mem_cons_self)
      by_cases e : y = x
      · subst e
        have hh : (R r).head? = some y := by rw [eR]; rfl
        have ndr := nd r (by omega)
        rw [List.length_cons] at t1 t3
        have ew : am_fr h' h' (or_W o r) := am_fr.rf
        cases l with
        | nil =>
          rw [List.length_nil] at t1 t3
          simp (disch := first | assumption | omega | (simp only [ya_pi, ya_pj, ya_pa, ya_pr, yo_pi, yo_pj, yo_pa, yf_pi, yf_pj, yf_pa, yh_pi, yh_pj, yh_pa, yt_pi, yt_pj, yt_pa, la_pi, la_pj, la_pa]; assumption)) only [b_X6_takeFromAll_0, b_X6_takeFromAll_130, b_X6_takeFromAll_7, b_X6_takeFromAll_12, b_X6_takeFromAll_124, b_X6_takeFromAll_22, b_X6_takeFromAll_62, b_X6_takeFromAll_47, b_X6_takeFromAll_94, b_X6_takeFromAll_75, b_X6_takeFromAll_58, b_X6_takeFromAll_121, b_X6_takeFromAll_108, i_lit, i_m1, i_31, il_t, il_f, iq_t, iq_f, it_t, it_f, im_e, im_l, im_g, im_g2, nI_add, pk_mul, i_sub, i_div, sdm, i_dec, i_cl, iv_t, bI_or2, bI_t0, bI_one, not_true_eq_false, not_false_eq_true, ↓reduceIte, am_tl, am_tn, am_t0, am_n0, and_true, true_and, List.cons_append, List.nil_append, List.append_nil, hi_s, hi_o, hi_k, hr_pi, hj_pi, hn_pi, hi_pas, hi_pao, hr_pa, hj_pa, t2, t3, t5, t6, List.head?_cons, oI, iand0]
          refine nx _ _ ⟨((fr.pi (by unfold or_M; omega)).pi (by unfold or_M; omega)).pi (by unfold or_M; omega), other (l := []) (((ew.pi (by unfold or_W; omega)).pi (by unfold or_W; omega)).pi (by unfold or_W; omega)) hh ?_⟩
          rw [eR]
          refine ⟨t + 1, by simp; omega, by simp (disch := first | assumption | omega | (simp only [ya_pi, ya_pj, ya_pa, ya_pr, yo_pi, yo_pj, yo_pa, yf_pi, yf_pj, yf_pa, yh_pi, yh_pj, yh_pa, yt_pi, yt_pj, yt_pa, la_pi, la_pj, la_pa]; assumption)) only [hi_s, hi_o, hi_k, hr_pi, hj_pi, hn_pi, hi_pas, hi_pao, hr_pa, hj_pa], ?_, ro_nil, by simp (disch := first | assumption | omega | (simp only [ya_pi, ya_pj, ya_pa, ya_pr, yo_pi, yo_pj, yo_pa, yf_pi, yf_pj, yf_pa, yh_pi, yh_pj, yh_pa, yt_pi, yt_pj, yt_pa, la_pi, la_pj, la_pa]; assumption)) only [hi_s, hi_o, hi_k, hr_pi, hj_pi, hn_pi, hi_pas, hi_pao, hr_pa, hj_pa]; rfl, by simp (disch := first | assumption | omega | (simp only [ya_pi, ya_pj, ya_pa, ya_pr, yo_pi, yo_pj, yo_pa, yf_pi, yf_pj, yf_pa, yh_pi, yh_pj, yh_pa, yt_pi, yt_pj, yt_pa, la_pi, la_pj, la_pa]; assumption)) only [hi_s, hi_o, hi_k, hr_pi, hj_pi, hn_pi, hi_pas, hi_pao, hr_pa, hj_pa]; exact congrArg nI bs_0.symm⟩
          simp (disch := first | assumption | omega | (simp only [ya_pi, ya_pj, ya_pa, ya_pr, yo_pi, yo_pj, yo_pa, yf_pi, yf_pj, yf_pa, yh_pi, yh_pj, yh_pa, yt_pi, yt_pj, yt_pa, la_pi, la_pj, la_pa]; assumption)) only [hi_s, hi_o, hi_k, hr_pi, hj_pi, hn_pi, hi_pas, hi_pao, hr_pa, hj_pa, t3]
          rfl
        | cons z l =>
          rw [List.length_cons] at t1 t3
          have e5 := t4 1 (by simp)
          rw [show 11 * r + t + 1 = r * 11 + (t + 1) from by omega] at e5
          have z10 := hx r (by omega) z (by rw [eR]; simp)
          have e5' : h_i h' (o + 5) (r * 11 + (t + 1)) = nI z := e5
          simp (disch := first | assumption | omega | (simp only [ya_pi, ya_pj, ya_pa, ya_pr, yo_pi, yo_pj, yo_pa, yf_pi, yf_pj, yf_pa, yh_pi, yh_pj, yh_pa, yt_pi, yt_pj, yt_pa, la_pi, la_pj, la_pa]; assumption)) only [b_X6_takeFromAll_0, b_X6_takeFromAll_130, b_X6_takeFromAll_7, b_X6_takeFromAll_12, b_X6_takeFromAll_124, b_X6_takeFromAll_22, b_X6_takeFromAll_62, b_X6_takeFromAll_47, b_X6_takeFromAll_94, b_X6_takeFromAll_75, b_X6_takeFromAll_58, b_X6_takeFromAll_121, b_X6_takeFromAll_108, i_lit, i_m1, i_31, il_t, il_f, iq_t, iq_f, it_t, it_f, im_e, im_l, im_g, im_g2, nI_add, pk_mul, i_sub, i_div, sdm, i_dec, i_cl, iv_t, bI_or2, bI_t0, bI_one, not_true_eq_false, not_false_eq_true, ↓reduceIte, am_tl, am_tn, am_t0, am_n0, and_true, true_and, List.cons_append, List.nil_append, List.append_nil, hi_s, hi_o, hi_k, hr_pi, hj_pi, hn_pi, hi_pas, hi_pao, hr_pa, hj_pa, t2, t3, t5, t6, List.head?_cons, oI, e5', bI_andn]
          refine nx _ _ ⟨((fr.pi (by unfold or_M; omega)).pi (by unfold or_M; omega)).pi (by unfold or_M; omega), other (l := []) (((ew.pi (by unfold or_W; omega)).pi (by unfold or_W; omega)).pi (by unfold or_W; omega)) hh ?_⟩
          rw [eR]
          refine ⟨t + 1, by simp; omega, by simp (disch := first | assumption | omega | (simp only [ya_pi, ya_pj, ya_pa, ya_pr, yo_pi, yo_pj, yo_pa, yf_pi, yf_pj, yf_pa, yh_pi, yh_pj, yh_pa, yt_pi, yt_pj, yt_pa, la_pi, la_pj, la_pa]; assumption)) only [hi_s, hi_o, hi_k, hr_pi, hj_pi, hn_pi, hi_pas, hi_pao, hr_pa, hj_pa], ?_, ?_, by simp (disch := first | assumption | omega | (simp only [ya_pi, ya_pj, ya_pa, ya_pr, yo_pi, yo_pj, yo_pa, yf_pi, yf_pj, yf_pa, yh_pi, yh_pj, yh_pa, yt_pi, yt_pj, yt_pa, la_pi, la_pj, la_pa]; assumption)) only [hi_s, hi_o, hi_k, hr_pi, hj_pi, hn_pi, hi_pas, hi_pao, hr_pa, hj_pa]; rfl, ?_⟩
          · simp (disch := first | assumption | omega | (simp only [ya_pi, ya_pj, ya_pa, ya_pr, yo_pi, yo_pj, yo_pa, yf_pi, yf_pj, yf_pa, yh_pi, yh_pj, yh_pa, yt_pi, yt_pj, yt_pa, la_pi, la_pj, la_pa]; assumption)) only [hi_s, hi_o, hi_k, hr_pi, hj_pi, hn_pi, hi_pas, hi_pao, hr_pa, hj_pa, t3]
            refine congrArg nI ?_
            simp
            omega
          · intro j hj
            have := t4 (j + 1) (by simp at hj ⊢; omega)
            simp (disch := first | assumption | omega | (simp only [ya_pi, ya_pj, ya_pa, ya_pr, yo_pi, yo_pj, yo_pa, yf_pi, yf_pj, yf_pa, yh_pi, yh_pj, yh_pa, yt_pi, yt_pj, yt_pa, la_pi, la_pj, la_pa]; assumption)) only [hi_s, hi_o, hi_k, hr_pi, hj_pi, hn_pi, hi_pas, hi_pao, hr_pa, hj_pa]
            rw [show 11 * r + (t + 1) + j = 11 * r + t + (j + 1) from by omega, this]
            rfl
          · simp (disch := first | assumption | omega | (simp only [ya_pi, ya_pj, ya_pa, ya_pr, yo_pi, yo_pj, yo_pa, yf_pi, yf_pj, yf_pa, yh_pi, yh_pj, yh_pa, yt_pi, yt_pj, yt_pa, la_pi, la_pj, la_pa]; assumption)) only [hi_s, hi_o, hi_k, hr_pi, hj_pi, hn_pi, hi_pas, hi_pao, hr_pa, hj_pa]
            refine congrArg nI (bs_ext (fun w _ => ?_))
            rw [eR] at ndr
            have hz : ¬ z ∈ l := (List.nodup_cons.1 (List.nodup_cons.1 ndr).2).1
            show (decide (w ∈ z :: l) && !decide (w = z)) = decide (w ∈ l)
            by_cases q : w = z
            · subst q
              simp [hz]
            · simp [q]
      · have hh : ¬ (R r).head? = some x := by
          rw [eR]
          intro z
          exact e (Option.some.inj z)
        simp (disch := first | assumption | omega | (simp only [ya_pi, ya_pj, ya_pa, ya_pr, yo_pi, yo_pj, yo_pa, yf_pi, yf_pj, yf_pa, yh_pi, yh_pj, yh_pa, yt_pi, yt_pj, yt_pa, la_pi, la_pj, la_pa]; assumption)) only [b_X6_takeFromAll_0, b_X6_takeFromAll_130, b_X6_takeFromAll_7, b_X6_takeFromAll_12, b_X6_takeFromAll_124, b_X6_takeFromAll_22, b_X6_takeFromAll_62, b_X6_takeFromAll_47, b_X6_takeFromAll_94, b_X6_takeFromAll_75, b_X6_takeFromAll_58, b_X6_takeFromAll_121, b_X6_takeFromAll_108, i_lit, i_m1, i_31, il_t, il_f, iq_t, iq_f, it_t, it_f, im_e, im_l, im_g, im_g2, nI_add, pk_mul, i_sub, i_div, sdm, i_dec, i_cl, iv_t, bI_or2, bI_t0, bI_one, not_true_eq_false, not_false_eq_true, ↓reduceIte, am_tl, am_tn, am_t0, am_n0, and_true, true_and, List.cons_append, List.nil_append, List.append_nil, t5, List.head?_cons, oI]
        exact nx l4 h' ⟨fr, same hh⟩
  · rintro l4 h' ⟨fr, m⟩
    rw [b_X6_takeFromAll_2]
    simp (disch := first | assumption | omega | (simp only [ya_pi, ya_pj, ya_pa, ya_pr, yo_pi, yo_pj, yo_pa, yf_pi, yf_pj, yf_pa, yh_pi, yh_pj, yh_pa, yt_pi, yt_pj, yt_pa, la_pi, la_pj, la_pa]; assumption)) only [b_X6_takeFromAll_0, b_X6_takeFromAll_130, b_X6_takeFromAll_7, b_X6_takeFromAll_12, b_X6_takeFromAll_124, b_X6_takeFromAll_22, b_X6_takeFromAll_62, b_X6_takeFromAll_47, b_X6_takeFromAll_94, b_X6_takeFromAll_75, b_X6_takeFromAll_58, b_X6_takeFromAll_121, b_X6_takeFromAll_108, i_lit, i_m1, i_31, il_t, il_f, iq_t, iq_f, it_t, it_f, im_e, im_l, im_g, im_g2, nI_add, pk_mul, i_sub, i_div, sdm, i_dec, i_cl, iv_t, bI_or2, bI_t0, bI_one, not_true_eq_false, not_false_eq_true, ↓reduceIte, am_tl, am_tn, am_t0, am_n0, and_true, true_and, List.cons_append, List.nil_append, List.append_nil]
    exact k h' fr (fun r hr => by have := m r hr; rw [if_pos (by omega)] at this; exact this)
