theorem cp_ok {h : am_H} {a b n : Nat} (A : y_arr h a 20 n) (B : y_arr h b 20 n) (hn : n < 2147483648) : am_cp h (some a) (some b) (0 : Int32) (0 : Int32) (nI n) := by
  obtain ⟨a1, a2, a3⟩ := A
  obtain ⟨b1, b2, b3⟩ := B
  refine ⟨a, b, rfl, a1, a2, rfl, b1, b2, by decide, by decide, nI_pos hn, ?_, ?_⟩
  · rw [nI_clamp hn, a3]
    show 0 + n ≤ n
    omega
  · rw [nI_clamp hn, b3]
    show 0 + n ≤ n
    omega
theorem cpy0 {f g : Nat → Int32} {n j : Nat} (h : j < n) : va_cpy f g 0 0 n j = f j := by
  rw [pk_cpy_in (Nat.zero_le _) (by omega)]
  congr 1
  omega
theorem c_copyFrom {d : Nat} {Q : Option am_V → am_H → Prop} {h : am_H} {o o1 : Nat} {f : fa_S} (ok : fa_ok f) (Y : y_Facts h o) (F : fa_at h o1 f) (hd : o + 4 ≤ o1 ∨ o1 + 4 ≤ o) (k : ∀ h', am_fr h h' (fa_P o) → fa_at h' o f → Q none h') : ex_ d 28 0 [some (v_r (some o)), some (v_r (some o1))] [] h Q := by
  rw [b_X1_copyFrom_0 h o o1 Y F.1]
  refine ⟨cp_ok (y_f1 F.1) (y_f1 Y) (by omega), cp_ok (y_f2 F.1) (y_f2 Y) (by omega), cp_ok (y_f3 F.1) (y_f3 Y) (by omega), k _ ?_ ?_⟩
  · refine am_fr.tr (am_fr.tr (am_fr.tr (am_fr.pi (am_fr_pi ?_) ?_) (am_fr_pa ?_)) (am_fr_pa ?_)) (am_fr_pa ?_)
    all_goals
      intros
      unfold fa_P
      omega
  · obtain ⟨F0, F1, F2, F3, F4, F5⟩ := F
    refine ⟨Y, ?_, ?_, ?_, ?_, ?_⟩
    · simp (disch := first | assumption | omega) only [hi_s, hi_o, hi_k, hr_pi, hj_pi, hn_pi, hi_pas, hi_pao, hr_pa, hj_pa, F1]
    · simp (disch := first | assumption | omega) only [hi_s, hi_o, hi_k, hr_pi, hj_pi, hn_pi, hi_pas, hi_pao, hr_pa, hj_pa, F2]
    · intro c hc
      simp (disch := first | assumption | omega) only [hi_s, hi_o, hi_k, hr_pi, hj_pi, hn_pi, hi_pas, hi_pao, hr_pa, hj_pa, i_lit, i_cl]
      rw [cpy0 hc]
      simp (disch := first | assumption | omega) only [hi_s, hi_o, hi_k, hr_pi, hj_pi, hn_pi, hi_pas, hi_pao, hr_pa, hj_pa, F3 c hc]
    · intro c hc j hj
      have h4 := (ok.2 c).1
      simp (disch := first | assumption | omega) only [hi_s, hi_o, hi_k, hr_pi, hj_pi, hn_pi, hi_pas, hi_pao, hr_pa, hj_pa, i_lit, i_cl]
      rw [cpy0 (by omega)]
      simp (disch := first | assumption | omega) only [hi_s, hi_o, hi_k, hr_pi, hj_pi, hn_pi, hi_pas, hi_pao, hr_pa, hj_pa, F4 c hc j hj]
    · intro c m hc hm
      simp (disch := first | assumption | omega) only [hi_s, hi_o, hi_k, hr_pi, hj_pi, hn_pi, hi_pas, hi_pao, hr_pa, hj_pa, i_lit, i_cl]
      rw [cpy0 (by omega)]
      simp (disch := first | assumption | omega) only [hi_s, hi_o, hi_k, hr_pi, hj_pi, hn_pi, hi_pas, hi_pao, hr_pa, hj_pa, F5 c m hc hm]
def f_0 : fa_S := (0, nI 0, (fun _ => []), fun _ _ => nI 0)
theorem fa_ok0 : fa_ok f_0 := ⟨by decide, fun c => ⟨by show 0 ≤ 4; omega, fun p hp => (by cases hp), List.nodup_nil, fun _ => rfl⟩⟩
theorem c_clear {d : Nat} {Q : Option am_V → am_H → Prop} {h : am_H} {o : Nat} (Y : y_Facts h o) (k : ∀ h', am_fr h h' (fa_P o) → fa_at h' o f_0 → Q none h') : ex_ (d + 1) 27 0 [some (v_r (some o))] [] h Q := by
  rw [b_X1_clear_0 h o Y]
  have fr0 : am_fr h (p_i (p_i h o 0 (0 : Int32)) o 1 (0 : Int32)) (fa_P o) := am_fr.pi (am_fr_pi (by unfold fa_P; omega)) (by unfold fa_P; omega)
  refine c_fill (fr0.c (y_f1 Y)) (by omega) (fun h1 fr1 e1 => ?_)
  have fr1' : am_fr h h1 (fa_P o) := fr0.tr (fr1.le (fun a k z => by unfold fa_P; omega))
  rw [am_n0, List.nil_append, b_X1_clear_18 h1 o (fr1'.facts Y)]
  refine c_fill (fr1'.c (y_f2 Y)) (by omega) (fun h2 fr2 e2 => ?_)
  have fr2' : am_fr h h2 (fa_P o) := fr1'.tr (fr2.le (fun a k z => by unfold fa_P; omega))
  rw [am_n0, List.nil_append, b_X1_clear_26 h2 o (fr2'.facts Y)]
  refine c_fill (fr2'.c (y_f3 Y)) (by omega) (fun h3 fr3 e3 => ?_)
  have fr3' : am_fr h h3 (fa_P o) := fr2'.tr (fr3.le (fun a k z => by unfold fa_P; omega))
  rw [am_n0, List.nil_append, b_X1_clear_34]
  refine k h3 fr3' ⟨fr3'.facts Y, ?_, ?_, ?_, ?_, ?_⟩
  · rw [fr3.i (by omega), fr2.i (by omega), fr1.i (by omega), hi_k (by omega), hi_s]
    rfl
  · rw [fr3.i (by omega), fr2.i (by omega), fr1.i (by omega), hi_s]
    rfl
  · intro c hc
    rw [fr3.i (by omega), fr2.i (by omega), e1 c hc]
    rfl
  · intro c hc j hj
    exact absurd hj (Nat.not_lt_zero _)
  · intro c m hc hm
    rw [e3 _ (by omega)]
    rfl
/-! ===== those above a class ===== -/
def upf (p : Nat → List Nat) : Nat → Nat → Nat → Bool
  | 0, c, x => x == c
  | n + 1, c, x => x == c || (p c).any (fun q => upf p n q x)
def up (p : Nat → List Nat) (c x : Nat) : Bool := upf p c c x
/-- parents are of lesser numbers -/
def p_lt (p : Nat → List Nat) : Prop := ∀ c, ∀ q ∈ p c, q < c
theorem upf_st {p : Nat → List Nat} (hp : p_lt p) (x : Nat) : ∀ m c n, c < m → c ≤ n → upf p n c x = upf p c c x := by
  intro m
  induction m with
  | zero => intro c n h; omega
  | succ m ih =>
    intro c n hm hn
    cases n with
    | zero =>
      obtain rfl : c = 0 := by omega
      rfl
    | succ n =>
      cases c with
      | zero =>
        have : p 0 = [] := by
          cases e : p 0 with
          | nil => rfl
          | cons a l => exact absurd (hp 0 a (by rw [e]; exact List.mem_cons_self)) (Nat.not_lt_zero _)
        show ((x == 0) || (p 0).any (fun q => upf p n q x)) = (x == 0)
        rw [this]
        simp
      | succ c =>
        rw [upf, upf]
        congr 1
        have h1 : ∀ q ∈ p (c + 1), upf p n q x = upf p c q x := by
          intro q hq
          have := hp _ q hq
          rw [ih q n (by omega) (by omega), ih q c (by omega) (by omega)]
        rw [Bool.eq_iff_iff, List.any_eq_true, List.any_eq_true]
        constructor
        · rintro ⟨q, hq, e⟩
          exact ⟨q, hq, by rw [← h1 q hq]; exact e⟩
        · rintro ⟨q, hq, e⟩
          exact ⟨q, hq, by rw [h1 q hq]; exact e⟩
theorem up_iff {p : Nat → List Nat} (hp : p_lt p) {c x : Nat} : up p c x = true ↔ x = c ∨ ∃ q ∈ p c, up p q x = true := by
  have h1 : up p c x = upf p (c + 1) c x := (upf_st hp x (c + 1) c (c + 1) (by omega) (by omega)).symm
  rw [h1, upf, Bool.or_eq_true, beq_iff_eq, List.any_eq_true]
  have h2 : ∀ q ∈ p c, upf p c q x = up p q x := fun q hq => by
    have := hp c q hq
    exact upf_st hp x (q + 1) q c (by omega) (by omega)
  constructor
  · rintro (z | ⟨q, hq, e⟩)
    · exact Or.inl z
    · exact Or.inr ⟨q, hq, by rw [← h2 q hq]; exact e⟩
  · rintro (z | ⟨q, hq, e⟩)
    · exact Or.inl z
    · exact Or.inr ⟨q, hq, by rw [h2 q hq]; exact e⟩
theorem up_self {p : Nat → List Nat} (hp : p_lt p) {c : Nat} : up p c c = true := (up_iff hp).2 (Or.inl rfl)
theorem up_le {p : Nat → List Nat} (hp : p_lt p) : ∀ m c x, c < m → up p c x = true → x ≤ c := by
  intro m
  induction m with
  | zero => intro c x h; omega
  | succ m ih =>
    intro c x hm h
    rcases (up_iff hp).1 h with z | ⟨q, hq, z⟩
    · omega
    · have h1 := hp c q hq
      have := ih q x (by omega) z
      omega
theorem up_tr {p : Nat → List Nat} (hp : p_lt p) : ∀ m c x y, c < m → up p c x = true → up p x y = true → up p c y = true := by
  intro m
  induction m with
  | zero => intro c x y h; omega
  | succ m ih =>
    intro c x y hm h h2
    rcases (up_iff hp).1 h with z | ⟨q, hq, z⟩
    · rw [z] at h2
      exact h2
    · have h1 := hp c q hq
      exact (up_iff hp).2 (Or.inr ⟨q, hq, ih q x y (by omega) z h2⟩)
theorem up_cl {p : Nat → List Nat} (hp : p_lt p) {B : Nat → Bool} (hB : ∀ y, B y = true → ∀ q ∈ p y, B q = true) : ∀ m c x, c < m → B c = true → up p c x = true → B x = true := by
  intro m
  induction m with
  | zero => intro c x h; omega
  | succ m ih =>
    intro c x hm hc h
    rcases (up_iff hp).1 h with z | ⟨q, hq, z⟩
    · rw [z]; exact hc
    · have h1 := hp c q hq
      exact ih q x (by omega) (hB c hc q hq) z
theorem fa_plt {f : fa_S} (ok : fa_ok f) : p_lt (f_p f) := fun c => (ok.2 c).2.1
theorem c_ancestors {d : Nat} {Q : Option am_V → am_H → Prop} {h : am_H} {o : Nat} {f : fa_S} (ok : fa_ok f) (F : fa_at h o f) {c : Nat} (hc : c < f_n f) {l2 l3 l4 : Option am_V} : ex_ (d + 2) 6 0 [some (v_r (some o)), some (v_i (nI c)), l2, l3, l4] [] h Q ↔ Q (some (v_i (nI (bs (up (f_p f) c))))) h := by
  have F0 := F.1
  have hn := ok.1
  have hp := fa_plt ok
  apply ex_iff
  simp (disch := first | assumption | omega) only [b_X1_ancestors_0, b_X1_ancestors_5, b_X1_ancestors_10, b_X1_ancestors_8, b_X1_ancestors_65, b_X1_ancestors_20, b_X1_ancestors_30, b_X1_ancestors_59, b_X1_ancestors_33, b_X1_ancestors_41, b_X1_ancestors_50, i_lit, i_m1, i_31, il_t, il_f, iq_t, iq_f, it_t, it_f, im_e, im_l, im_g, im_g2, nI_add, pk_mul, i_sub, i_div, sdm, i_dec, i_cl, iv_t, bI_or2, bI_t0, bI_one, not_true_eq_false, not_false_eq_true, ↓reduceIte, am_tl, am_tn, am_t0, am_n0, and_true, true_and, List.cons_append, List.nil_append, List.append_nil, c_hasClass_y ok F hc]
  refine lp_up c (fun i (s : (Nat → Bool) × Option am_V) => [some (v_r (some o)), some (v_i (nI c)), some (v_i (nI (bs s.1))), some (v_i (nI (c - i))), s.2]) (fun i s h' => h' = h ∧ s.1 c = true ∧ (∀ x, s.1 x = true → up (f_p f) c x = true) ∧ ∀ y, c - i < y → s.1 y = true → ∀ q ∈ f_p f y, s.1 q = true) ?_ ?_ (Nat.zero_le _) ⟨rfl, decide_eq_true rfl, fun x hx => ?_, fun y hy hx => ?_⟩ (s := ((fun j => decide (j = c)), l4))
  · rintro i ⟨B, l4⟩ h' hi ⟨rfl, j1, j2, j3⟩ nx
    dsimp only at j1 j2 j3 nx ⊢
    rw [b_X1_ancestors_16]
    simp (disch := first | assumption | omega) only [b_X1_ancestors_0, b_X1_ancestors_5, b_X1_ancestors_10, b_X1_ancestors_8, b_X1_ancestors_65, b_X1_ancestors_20, b_X1_ancestors_30, b_X1_ancestors_59, b_X1_ancestors_33, b_X1_ancestors_41, b_X1_ancestors_50, i_lit, i_m1, i_31, il_t, il_f, iq_t, iq_f, it_t, it_f, im_e, im_l, im_g, im_g2, nI_add, pk_mul, i_sub, i_div, sdm, i_dec, i_cl, iv_t, bI_or2, bI_t0, bI_one, not_true_eq_false, not_false_eq_true, ↓reduceIte, am_tl, am_tn, am_t0, am_n0, and_true, true_and, List.cons_append, List.nil_append, List.append_nil]
    have h4 := (ok.2 (c - i)).1
    refine lp_up (f_p f (c - i)).length (fun j (B : Nat → Bool) => [some (v_r (some o)), some (v_i (nI c)), some (v_i (nI (bs B))), some (v_i (nI (c - i))), some (v_i (nI j))]) (fun j B h2 => h2 = h' ∧ B c = true ∧ (∀ x, B x = true → up (f_p f) c x = true) ∧ (∀ y, c - i < y → B y = true → ∀ q ∈ f_p f y, B q = true) ∧ (B (c - i) = true → ∀ k, k < j → B ((f_p f (c - i)).getD k 0) = true)) ?_ ?_ (Nat.zero_le _) ⟨rfl, j1, j2, j3, fun _ k hk => absurd hk (Nat.not_lt_zero _)⟩
    · rintro j B h2 hj ⟨rfl, m1, m2, m3, m4⟩ nx2
      rw [b_X1_ancestors_23 _ _ o _ _ _ F0]
      have hq := gd_mem hj
      have hq2 := hp _ _ hq
      cases hb : B (c - i) with
      | false =>
        simp (disch := first | assumption | omega) only [b_X1_ancestors_0, b_X1_ancestors_5, b_X1_ancestors_10, b_X1_ancestors_8, b_X1_ancestors_65, b_X1_ancestors_20, b_X1_ancestors_30, b_X1_ancestors_59, b_X1_ancestors_33, b_X1_ancestors_41, b_X1_ancestors_50, i_lit, i_m1, i_31, il_t, il_f, iq_t, iq_f, it_t, it_f, im_e, im_l, im_g, im_g2, nI_add, pk_mul, i_sub, i_div, sdm, i_dec, i_cl, iv_t, bI_or2, bI_t0, bI_one, not_true_eq_false, not_false_eq_true, ↓reduceIte, am_tl, am_tn, am_t0, am_n0, and_true, true_and, List.cons_append, List.nil_append, List.append_nil, c_parentCount F (show c - i < 10 by omega), hb]
        have := nx (B, some (v_i (nI j))) h2 ⟨rfl, m1, m2, fun y hy (hx : B y = true) q hq => ?_⟩
        · rw [show c - (i + 1) = c - i - 1 from by omega] at this
          exact this
        · by_cases e : y = c - i
          · rw [e, hb] at hx
            cases hx
          · exact m3 y (by omega) hx q hq
      | true =>
        simp (disch := first | assumption | omega) only [b_X1_ancestors_0, b_X1_ancestors_5, b_X1_ancestors_10, b_X1_ancestors_8, b_X1_ancestors_65, b_X1_ancestors_20, b_X1_ancestors_30, b_X1_ancestors_59, b_X1_ancestors_33, b_X1_ancestors_41, b_X1_ancestors_50, i_lit, i_m1, i_31, il_t, il_f, iq_t, iq_f, it_t, it_f, im_e, im_l, im_g, im_g2, nI_add, pk_mul, i_sub, i_div, sdm, i_dec, i_cl, iv_t, bI_or2, bI_t0, bI_one, not_true_eq_false, not_false_eq_true, ↓reduceIte, am_tl, am_tn, am_t0, am_n0, and_true, true_and, List.cons_append, List.nil_append, List.append_nil, c_parentCount F (show c - i < 10 by omega), hb, Bool.true_eq_false, c_parentAt ok F (show c - i < 10 by omega) hj]
        refine nx2 (fun x => B x || decide (x = (f_p f (c - i)).getD j 0)) h2 ⟨rfl, by rw [m1]; rfl, fun x hx => ?_, fun y hy hx q hq => ?_, fun _ k hk => ?_⟩
        · rcases Bool.or_eq_true _ _ ▸ hx with z | z
          · exact m2 x z
          · rw [decide_eq_true_eq] at z
            rw [z]
            exact up_tr hp (c + 1) c (c - i) _ (by omega) (m2 _ hb) ((up_iff hp).2 (Or.inr ⟨_, hq, up_self hp⟩))
        · rcases Bool.or_eq_true _ _ ▸ hx with z | z
          · rw [m3 y hy z q hq]
            rfl
          · rw [decide_eq_true_eq] at z
            omega
        · by_cases e : k = j
          · rw [e]
            simp
          · rw [m4 hb k (by omega)]
            rfl
    · rintro B h2 ⟨rfl, m1, m2, m3, m4⟩
      rw [b_X1_ancestors_23 _ _ o _ _ _ F0]
      simp (disch := first | assumption | omega) only [b_X1_ancestors_0, b_X1_ancestors_5, b_X1_ancestors_10, b_X1_ancestors_8, b_X1_ancestors_65, b_X1_ancestors_20, b_X1_ancestors_30, b_X1_ancestors_59, b_X1_ancestors_33, b_X1_ancestors_41, b_X1_ancestors_50, i_lit, i_m1, i_31, il_t, il_f, iq_t, iq_f, it_t, it_f, im_e, im_l, im_g, im_g2, nI_add, pk_mul, i_sub, i_div, sdm, i_dec, i_cl, iv_t, bI_or2, bI_t0, bI_one, not_true_eq_false, not_false_eq_true, ↓reduceIte, am_tl, am_tn, am_t0, am_n0, and_true, true_and, List.cons_append, List.nil_append, List.append_nil, c_parentCount F (show c - i < 10 by omega)]
      have := nx (B, some (v_i (nI (f_p f (c - i)).length))) h2 ⟨rfl, m1, m2, fun y hy (hx : B y = true) q hq => ?_⟩
      · rw [show c - (i + 1) = c - i - 1 from by omega] at this
        exact this
      · by_cases e : y = c - i
        · subst e
          obtain ⟨k, hk, e⟩ := gd_ex hq
          rw [← e]
          exact m4 hx k hk
        · exact m3 y (by omega) hx q hq
  · rintro ⟨B, l4⟩ h' ⟨rfl, j1, j2, j3⟩
    dsimp only at j1 j2 j3 ⊢
    rw [b_X1_ancestors_16]
    simp (disch := first | assumption | omega) only [b_X1_ancestors_0, b_X1_ancestors_5, b_X1_ancestors_10, b_X1_ancestors_8, b_X1_ancestors_65, b_X1_ancestors_20, b_X1_ancestors_30, b_X1_ancestors_59, b_X1_ancestors_33, b_X1_ancestors_41, b_X1_ancestors_50, i_lit, i_m1, i_31, il_t, il_f, iq_t, iq_f, it_t, it_f, im_e, im_l, im_g, im_g2, nI_add, pk_mul, i_sub, i_div, sdm, i_dec, i_cl, iv_t, bI_or2, bI_t0, bI_one, not_true_eq_false, not_false_eq_true, ↓reduceIte, am_tl, am_tn, am_t0, am_n0, and_true, true_and, List.cons_append, List.nil_append, List.append_nil]
    have : bs B = bs (up (f_p f) c) := bs_ext (fun x _ => by
      rw [Bool.eq_iff_iff]
      refine ⟨j2 x, fun hx => up_cl hp (fun y hy q hq => ?_) (c + 1) c x (by omega) j1 hx⟩
      by_cases e : y = 0
      · rw [e] at hq
        exact absurd (hp 0 q hq) (Nat.not_lt_zero _)
      · exact j3 y (by omega) hy q hq)
    rw [this]
  · have hx2 := of_decide_eq_true hx
    rw [hx2]
    exact up_self hp
  · have hx2 := of_decide_eq_true hx
    omega
