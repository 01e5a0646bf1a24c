/-! ===== in how many ways ===== -/
theorem lfL_y {L k : Nat} (h : k < L) : lfL L k = nI (L - 1 - k) := if_pos h
theorem lfL_e {L : Nat} : lfL L L = mI := if_neg (by omega)
theorem lfL_s {L k : Nat} (h : k < L) : nI (L - 1 - k) + mI = lfL L (k + 1) := by
  unfold lfL
  by_cases z : k + 1 < L
  · rw [if_pos z, i_dec (by omega)]
    exact congrArg nI (by omega)
  · rw [if_neg z, show L - 1 - k = 0 from by omega]
    decide
theorem lfL_0 {L : Nat} : nI L - nI 1 = lfL L 0 := by
  unfold lfL
  by_cases z : 0 < L
  · rw [if_pos z, i_sub (by omega)]
    rfl
  · rw [if_neg z, show L = 0 from by omega]
    decide
theorem mI_lt0 : (mI < nI 0) = True := eq_true (by decide)
theorem and_m2 (a b : Nat) : (a &&& b) % 2 = (a % 2) * (b % 2) := by
  have e1 := i_tb (a &&& b) 0
  have e2 := i_tb a 0
  have e3 := i_tb b 0
  rw [Nat.pow_zero, Nat.div_one] at e1 e2 e3
  rw [e1, e2, e3, Nat.testBit_and]
  cases a.testBit 0 <;> cases b.testBit 0 <;> rfl
theorem sub_tb {x M : Nat} : x &&& M = x ↔ ∀ k, x.testBit k = true → M.testBit k = true := by
  constructor
  · intro h k hk
    rw [← h, Nat.testBit_and, Bool.and_eq_true] at hk
    exact hk.2
  · intro h
    apply Nat.eq_of_testBit_eq
    intro k
    rw [Nat.testBit_and]
    cases z : x.testBit k with
    | false => rfl
    | true => rw [h k z]; rfl
theorem sub_le {x M : Nat} (h : x &&& M = x) : x ≤ M := by
  have := Nat.and_le_right (n := x) (m := M)
  omega
theorem or_tb {g c k : Nat} : (g ||| 2 ^ c).testBit k = (g.testBit k || decide (k = c)) := by
  rw [Nat.testBit_or, Nat.testBit_two_pow]
  congr 1
  exact decide_eq_decide.2 ⟨fun h => h.symm, fun h => h.symm⟩
theorem or_sub {g c M : Nat} (h : g &&& M = g) (hc : M.testBit c = true) : (g ||| 2 ^ c) &&& M = g ||| 2 ^ c := by
  rw [sub_tb] at h ⊢
  intro k hk
  rw [or_tb, Bool.or_eq_true, decide_eq_true_eq] at hk
  rcases hk with z | z
  · exact h k z
  · rw [z]
    exact hc
theorem or_gt {g c : Nat} (h : g.testBit c = false) : g < g ||| 2 ^ c := by
  have h1 : g ≤ g ||| 2 ^ c := Nat.left_le_or
  rcases Nat.lt_or_ge g (g ||| 2 ^ c) with z | z
  · exact z
  · have e : g = g ||| 2 ^ c := by omega
    rw [e, or_tb, decide_eq_true rfl, Bool.or_true] at h
    cases h
def cs (D : Nat → Nat → Bool) (M g c : Nat) : Bool := !g.testBit c && M.testBit c && (List.range 10).all (fun d => !(M.testBit d && !g.testBit d && D d c))
theorem cs_iff {D : Nat → Nat → Bool} {M g c : Nat} : cs D M g c = true ↔ g.testBit c = false ∧ M.testBit c = true ∧ ∀ d, d < 10 → M.testBit d = true → g.testBit d = false → D d c = false := by
  unfold cs
  simp only [Bool.and_eq_true, Bool.not_eq_true', List.all_eq_true, List.mem_range, Bool.and_eq_false_imp]
  constructor
  · rintro ⟨⟨h1, h2⟩, h3⟩
    refine ⟨h1, h2, fun d hd h4 h5 => ?_⟩
    have := h3 d hd
    rw [h4, h5] at this
    simpa using this
  · rintro ⟨h1, h2, h3⟩
    refine ⟨⟨h1, h2⟩, fun d hd => ?_⟩
    intro h4
    exact h3 d hd h4.1 h4.2
def wy (D : Nat → Nat → Bool) (M g : Nat) : Nat := if g = M then 1 else sm (fun c => if h : cs D M g c = true ∧ g < g ||| 2 ^ c ∧ g ||| 2 ^ c < 1024 then wy D M (g ||| 2 ^ c) else 0) 10
termination_by 1024 - g
decreasing_by omega
def wyS (D : Nat → Nat → Bool) (M g c : Nat) : Nat := if cs D M g c = true then wy D M (g ||| 2 ^ c) else 0
theorem sm_cong {g g' : Nat → Nat} : ∀ n, (∀ k, k < n → g k = g' k) → sm g n = sm g' n := by
  intro n
  induction n with
  | zero => intro _; rfl
  | succ n ih =>
    intro h
    rw [sm, sm, ih (fun k hk => h k (by omega)), h n (by omega)]
theorem wy_M {D : Nat → Nat → Bool} {M : Nat} : wy D M M = 1 := by rw [wy, if_pos rfl]
theorem wy_s {D : Nat → Nat → Bool} {M g : Nat} (hM : M < 1024) (hg : g &&& M = g) (hne : ¬ g = M) : wy D M g = sm (wyS D M g) 10 := by
  rw [wy, if_neg hne]
  refine sm_cong _ (fun c _ => ?_)
  unfold wyS
  by_cases z : cs D M g c = true
  · have z2 := cs_iff.1 z
    have := sub_le (or_sub hg z2.2.1)
    rw [dif_pos ⟨z, or_gt z2.1, by omega⟩, if_pos z]
  · rw [dif_neg (fun y => z y.1), if_neg z]
/-- the table of endings, from g0 on -/
def tw (h : am_H) (a : Nat) (D : Nat → Nat → Bool) (M g0 : Nat) : Prop := ∀ x, x &&& M = x → g0 ≤ x → h_i h a x = nI (wy D M x)
/-! ints as sets -/
theorem mI_or {g c : Nat} (hc : c < 31) : nI g ||| (nI 1 <<< nI c) = nI (g ||| 2 ^ c) := by rw [i_shl hc, ix_or]
theorem mI_or2 {g c : Nat} (hc : c < 16) : nI g ||| nI (bs (fun j => decide (j = c))) = nI (g ||| 2 ^ c) := by rw [← bI_one hc, mI_or (by omega)]
theorem mI_bit {g c : Nat} (hg : g < 2147483648) (hc : c < 32) : (nI g >>> nI c) &&& nI 1 = nI (if g.testBit c = true then 1 else 0) := by rw [i_shr hg hc, i_and1, i_tb]
theorem mI_andn {a g : Nat} (ha : a < 65536) (hg : g < 65536) : nI a &&& (nI g ^^^ mI) = nI (bs (fun k => a.testBit k && !g.testBit k)) := by
  have := bI_andn (fun k => a.testBit k) (fun k => g.testBit k)
  rw [← bs_of ha, ← bs_of hg] at this
  exact this
theorem bs_z {P : Nat → Bool} : (nI (bs P) = nI 0) = (∀ k, k < 16 → P k = false) := by
  have := bs_lt P
  apply propext
  constructor
  · intro h k hk
    have e := (nI_eq (by omega) (by omega)).1 h
    rw [← bs_tb (P := P) hk, e, Nat.zero_testBit]
  · intro h
    refine congrArg nI ?_
    rw [← bs_0]
    exact bs_ext h
theorem c_endingsBehind {d : Nat} {Q : Option am_V → am_H → Prop} {h : am_H} {D : Nat → Nat → Bool} {M g b : Nat} (L0 : Lay h) (R : dr h D) (hM : M < 1024) (eM : h_i h 41 2 = nI M) (hD : ∀ a c, D a c = true → a < 10 ∧ M.testBit a = true) (hg : g &&& M = g) (T : tw h 46 D M (g + 1)) (hb : b ≤ 10) {l3 l4 l5 : Option am_V} : ex_ d 23 0 [some (v_r (some 41)), some (v_i (nI g)), some (v_i (nI b)), l3, l4, l5] [] h Q ↔ Q (some (v_i (nI (sm (wyS D M g) b)))) h := by
  have gM := sub_le hg
  apply ex_iff
  rw [b_X0_endingsBehind_0 _ _ _ _ _ _ _]
  refine lp_up b (fun i (l5 : Option am_V) => [some (v_r (some 41)), some (v_i (nI g)), some (v_i (nI b)), some (v_i (nI (sm (wyS D M g) i))), some (v_i (nI i)), l5]) (fun i _ h' => h' = h) ?_ ?_ (Nat.zero_le _) rfl
  · rintro i l5 h' hi rfl nx
    have skip : cs D M g i = false → ∀ l5, ex_ d 23 5 [some (v_r (some 41)), some (v_i (nI g)), some (v_i (nI b)), some (v_i (nI (sm (wyS D M g) i))), some (v_i (nI (i + 1))), l5] [] h' (fun r h'_1 => r = some (v_i (nI (sm (wyS D M g) b))) ∧ h'_1 = h') := fun z l5 => by
      have := nx l5 h' rfl
      rw [sm, show wyS D M g i = 0 from if_neg (by rw [z]; decide), Nat.add_zero] at this
      exact this
    have nxt := fun l5 => nx l5 h' rfl
    rw [b_X0_endingsBehind_5 _ _ _ _ _ _ _]
    have o16 : g ||| 2 ^ i < 2147483648 := by
      have : 2 ^ i < 2 ^ 10 := Nat.pow_lt_pow_right (by omega) (by omega)
      exact Nat.lt_trans (Nat.or_lt_two_pow (n := 10) (by omega) this) (by omega)
    cases z1 : g.testBit i with
    | true =>
      have e1 : g ||| 2 ^ i = g := by
        apply Nat.eq_of_testBit_eq
        intro k
        rw [or_tb]
        by_cases y : k = i
        · rw [y, z1]; rfl
        · rw [decide_eq_false y, Bool.or_false]
      simp (disch := first | assumption | omega | (simp only [ya_pi, ya_pj, ya_pa, ya_pr, yo_pi, yo_pj, yo_pa, yf_pi, yf_pj, yf_pa, yh_pi, yh_pj, yh_pa, yt_pi, yt_pj, yt_pa, la_pi, la_pj, la_pa]; assumption)) only [b_X0_endingsBehind_0, b_X0_endingsBehind_89, b_X0_endingsBehind_11, b_X0_endingsBehind_18, b_X0_endingsBehind_83, b_X0_endingsBehind_32, b_X0_endingsBehind_44, b_X0_endingsBehind_58, b_X0_endingsBehind_63, b_X0_endingsBehind_73, i_lit, i_m1, i_31, il_t, il_f, iq_t, iq_f, it_t, it_f, im_e, im_l, im_g, im_g2, nI_add, pk_mul, i_sub, i_div, sdm, i_dec, i_cl, iv_t, bI_or2, bI_t0, bI_one, not_true_eq_false, not_false_eq_true, ↓reduceIte, am_tl, am_tn, am_t0, am_n0, and_true, true_and, List.cons_append, List.nil_append, List.append_nil, or_true, true_or, or_false, false_or, eq_self, ior0, iand0, im_e2, oI, i_31, mI_or2, e1]
      exact skip (by unfold cs; rw [z1]; rfl) _
    | false =>
      have lt := or_gt z1
      cases z2 : M.testBit i with
      | false =>
        simp (disch := first | assumption | omega | (simp only [ya_pi, ya_pj, ya_pa, ya_pr, yo_pi, yo_pj, yo_pa, yf_pi, yf_pj, yf_pa, yh_pi, yh_pj, yh_pa, yt_pi, yt_pj, yt_pa, la_pi, la_pj, la_pa]; assumption)) only [b_X0_endingsBehind_0, b_X0_endingsBehind_89, b_X0_endingsBehind_11, b_X0_endingsBehind_18, b_X0_endingsBehind_83, b_X0_endingsBehind_32, b_X0_endingsBehind_44, b_X0_endingsBehind_58, b_X0_endingsBehind_63, b_X0_endingsBehind_73, i_lit, i_m1, i_31, il_t, il_f, iq_t, iq_f, it_t, it_f, im_e, im_l, im_g, im_g2, nI_add, pk_mul, i_sub, i_div, sdm, i_dec, i_cl, iv_t, bI_or2, bI_t0, bI_one, not_true_eq_false, not_false_eq_true, ↓reduceIte, am_tl, am_tn, am_t0, am_n0, and_true, true_and, List.cons_append, List.nil_append, List.append_nil, or_true, true_or, or_false, false_or, eq_self, ior0, iand0, im_e2, oI, i_31, mI_or2, eM, mI_bit, z2, Bool.false_eq_true]
        exact skip (by unfold cs; rw [z2]; simp) _
      | true =>
        have sb := or_sub hg z2
        have le := sub_le sb
        have e3 := R.2 i (by omega)
        have cond : (∀ k, k < 16 → ((bs (fun a => D a i)).testBit k && !g.testBit k) = false) ↔ cs D M g i = true := by
          rw [cs_iff]
          constructor
          · intro w
            refine ⟨z1, z2, fun d hd h1 h2 => ?_⟩
            have := w d (by omega)
            rw [bs_tb (by omega), h2] at this
            simpa using this
          · rintro ⟨-, -, w⟩ k hk
            rw [bs_tb hk]
            cases y : D k i with
            | false => rfl
            | true =>
              have y2 := hD k i y
              cases y3 : g.testBit k with
              | true => rfl
              | false =>
                have := w k y2.1 y2.2 y3
                rw [y] at this
                cases this
        have bl := bs_lt (fun a => D a i)
        cases z3 : cs D M g i with
        | true =>
          have e4 : (∀ k, k < 16 → ((bs (fun a => D a i)).testBit k && !g.testBit k) = false) = True := eq_true (cond.2 z3)
          have e5 := T _ sb (by omega)
          have e6 : wyS D M g i = wy D M (g ||| 2 ^ i) := if_pos z3
          have n2 := nxt (some (v_i (nI (g ||| 2 ^ i))))
          rw [sm, e6] at n2
          simp (disch := first | assumption | omega | (simp only [ya_pi, ya_pj, ya_pa, ya_pr, yo_pi, yo_pj, yo_pa, yf_pi, yf_pj, yf_pa, yh_pi, yh_pj, yh_pa, yt_pi, yt_pj, yt_pa, la_pi, la_pj, la_pa]; assumption)) only [b_X0_endingsBehind_0, b_X0_endingsBehind_89, b_X0_endingsBehind_11, b_X0_endingsBehind_18, b_X0_endingsBehind_83, b_X0_endingsBehind_32, b_X0_endingsBehind_44, b_X0_endingsBehind_58, b_X0_endingsBehind_63, b_X0_endingsBehind_73, i_lit, i_m1, i_31, il_t, il_f, iq_t, iq_f, it_t, it_f, im_e, im_l, im_g, im_g2, nI_add, pk_mul, i_sub, i_div, sdm, i_dec, i_cl, iv_t, bI_or2, bI_t0, bI_one, not_true_eq_false, not_false_eq_true, ↓reduceIte, am_tl, am_tn, am_t0, am_n0, and_true, true_and, List.cons_append, List.nil_append, List.append_nil, or_true, true_or, or_false, false_or, eq_self, ior0, iand0, im_e2, oI, i_31, mI_or2, eM, mI_bit, z2, e3, mI_andn, bs_z, e4, e5]
          exact n2
        | false =>
          have e4 : (∀ k, k < 16 → ((bs (fun a => D a i)).testBit k && !g.testBit k) = false) = False := eq_false (fun w => by rw [cond.1 w] at z3; cases z3)
          simp (disch := first | assumption | omega | (simp only [ya_pi, ya_pj, ya_pa, ya_pr, yo_pi, yo_pj, yo_pa, yf_pi, yf_pj, yf_pa, yh_pi, yh_pj, yh_pa, yt_pi, yt_pj, yt_pa, la_pi, la_pj, la_pa]; assumption)) only [b_X0_endingsBehind_0, b_X0_endingsBehind_89, b_X0_endingsBehind_11, b_X0_endingsBehind_18, b_X0_endingsBehind_83, b_X0_endingsBehind_32, b_X0_endingsBehind_44, b_X0_endingsBehind_58, b_X0_endingsBehind_63, b_X0_endingsBehind_73, i_lit, i_m1, i_31, il_t, il_f, iq_t, iq_f, it_t, it_f, im_e, im_l, im_g, im_g2, nI_add, pk_mul, i_sub, i_div, sdm, i_dec, i_cl, iv_t, bI_or2, bI_t0, bI_one, not_true_eq_false, not_false_eq_true, ↓reduceIte, am_tl, am_tn, am_t0, am_n0, and_true, true_and, List.cons_append, List.nil_append, List.append_nil, or_true, true_or, or_false, false_or, eq_self, ior0, iand0, im_e2, oI, i_31, mI_or2, eM, mI_bit, z2, e3, mI_andn, bs_z, e4]
          exact skip z3 _
  · rintro l5 h' rfl
    rw [b_X0_endingsBehind_5 _ _ _ _ _ _ _]
    simp (disch := first | assumption | omega | (simp only [ya_pi, ya_pj, ya_pa, ya_pr, yo_pi, yo_pj, yo_pa, yf_pi, yf_pj, yf_pa, yh_pi, yh_pj, yh_pa, yt_pi, yt_pj, yt_pa, la_pi, la_pj, la_pa]; assumption)) only [b_X0_endingsBehind_0, b_X0_endingsBehind_89, b_X0_endingsBehind_11, b_X0_endingsBehind_18, b_X0_endingsBehind_83, b_X0_endingsBehind_32, b_X0_endingsBehind_44, b_X0_endingsBehind_58, b_X0_endingsBehind_63, b_X0_endingsBehind_73, i_lit, i_m1, i_31, il_t, il_f, iq_t, iq_f, it_t, it_f, im_e, im_l, im_g, im_g2, nI_add, pk_mul, i_sub, i_div, sdm, i_dec, i_cl, iv_t, bI_or2, bI_t0, bI_one, not_true_eq_false, not_false_eq_true, ↓reduceIte, am_tl, am_tn, am_t0, am_n0, and_true, true_and, List.cons_append, List.nil_append, List.append_nil, or_true, true_or, or_false, false_or, eq_self, ior0, iand0, im_e2, oI]
theorem tw_M {h : am_H} {a : Nat} {D : Nat → Nat → Bool} {M : Nat} : tw (p_i h a M (nI 1)) a D M M := fun x hx hl => by
  obtain rfl : x = M := by have := sub_le hx; omega
  rw [hi_s, wy_M]
theorem tw_dn {h : am_H} {a : Nat} {D : Nat → Nat → Bool} {M g : Nat} (T : tw h a D M (g + 1)) : tw (p_i h a g (nI (wy D M g))) a D M g := fun x hx hl => by
  by_cases z : x = g
  · rw [z, hi_s]
  · rw [hi_k z]
    exact T x hx (by omega)
def d6 (a k : Nat) : Prop := a = 46
theorem c_rowsThatMeetAll {d : Nat} {Q : Option am_V → am_H → Prop} {h : am_H} {D : Nat → Nat → Bool} {M : Nat} (L0 : Lay h) (R : dr h D) (hM : M < 1024) (eM : h_i h 41 2 = nI M) (hD : ∀ a c, D a c = true → a < 10 ∧ M.testBit a = true) {l1 : Option am_V} (k : ∀ h', am_fr h h' d6 → tw h' 46 D M 0 → Q (some (v_i (nI (wy D M 0)))) h') : ex_ (d + 1) 24 0 [some (v_r (some 41)), l1] [] h Q := by
  have st := lp_up (d := d + 1) (k := 24) (pc := 38) (Q := Q) M (fun i (_ : Unit) => [some (v_r (some 41)), some (v_i (lfL M i))]) (fun i _ h' => am_fr h h' d6 ∧ tw h' 46 D M (M - i)) ?_ ?_ (i := 0) (Nat.zero_le _) (s := ()) (h := p_i h 46 M (nI 1)) ⟨am_fr_pi rfl, tw_M⟩
  · simp (disch := first | assumption | omega | (simp only [ya_pi, ya_pj, ya_pa, ya_pr, yo_pi, yo_pj, yo_pa, yf_pi, yf_pj, yf_pa, yh_pi, yh_pj, yh_pa, yt_pi, yt_pj, yt_pa, la_pi, la_pj, la_pa]; assumption)) only [b_X0_rowsThatMeetAll_0, b_X0_rowsThatMeetAll_19, b_X0_rowsThatMeetAll_7, b_X0_rowsThatMeetAll_21, b_X0_rowsThatMeetAll_72, b_X0_rowsThatMeetAll_42, b_X0_rowsThatMeetAll_66, b_X0_rowsThatMeetAll_53, b_X0_rowsThatMeetAll_65, i_lit, i_m1, i_31, il_t, il_f, iq_t, iq_f, it_t, it_f, im_e, im_l, im_g, im_g2, nI_add, pk_mul, i_sub, i_div, sdm, i_dec, i_cl, iv_t, bI_or2, bI_t0, bI_one, not_true_eq_false, not_false_eq_true, ↓reduceIte, am_tl, am_tn, am_t0, am_n0, and_true, true_and, List.cons_append, List.nil_append, List.append_nil, or_true, true_or, or_false, false_or, eq_self, ior0, iand0, im_e2, oI, hi_o, eM, lfL_0]
    exact st
  · rintro i - h' hi ⟨fr, T⟩ nx
    have L1 : Lay h' := fr.lay L0
    have eM1 : h_i h' 41 2 = nI M := by rw [fr.i (by unfold d6; omega), eM]
    have R1 : dr h' D := R.fr fr (fun k => by unfold d6; omega) (fun k => by unfold d6; omega)
    have A1 : y_arr h' 46 20 1024 := la_y L1 rfl
    have el := lfL_y hi
    have el2 := lfL_s hi
    have eg : M - i = (M - 1 - i) + 1 := by omega
    have eg2 : M - (i + 1) = M - 1 - i := by omega
    rw [eg] at T
    generalize hg : M - 1 - i = g at el el2 T eg2
    rw [b_X0_rowsThatMeetAll_38 _ _ _, el]
    have an := mI_andn (a := g) (g := M) (by omega) (by omega)
    by_cases sb : g &&& M = g
    · have z1 : (∀ k, k < 16 → (g.testBit k && !M.testBit k) = false) = True := eq_true (fun k hk => by
        cases y : g.testBit k with
        | false => rfl
        | true => rw [sub_tb.1 sb k y]; rfl)
      have e1 := wy_s (D := D) hM sb (by omega)
      simp (disch := first | assumption | omega | (simp only [ya_pi, ya_pj, ya_pa, ya_pr, yo_pi, yo_pj, yo_pa, yf_pi, yf_pj, yf_pa, yh_pi, yh_pj, yh_pa, yt_pi, yt_pj, yt_pa, la_pi, la_pj, la_pa]; assumption)) only [b_X0_rowsThatMeetAll_0, b_X0_rowsThatMeetAll_19, b_X0_rowsThatMeetAll_7, b_X0_rowsThatMeetAll_21, b_X0_rowsThatMeetAll_72, b_X0_rowsThatMeetAll_42, b_X0_rowsThatMeetAll_66, b_X0_rowsThatMeetAll_53, b_X0_rowsThatMeetAll_65, i_lit, i_m1, i_31, il_t, il_f, iq_t, iq_f, it_t, it_f, im_e, im_l, im_g, im_g2, nI_add, pk_mul, i_sub, i_div, sdm, i_dec, i_cl, iv_t, bI_or2, bI_t0, bI_one, not_true_eq_false, not_false_eq_true, ↓reduceIte, am_tl, am_tn, am_t0, am_n0, and_true, true_and, List.cons_append, List.nil_append, List.append_nil, or_true, true_or, or_false, false_or, eq_self, ior0, iand0, im_e2, oI, eM1, an, bs_z, z1, c_endingsBehind L1 R1 hM eM1 hD sb T (show 10 ≤ 10 by omega), ← e1]
      rw [el2]
      refine nx () _ ⟨fr.pi rfl, ?_⟩
      rw [eg2]
      exact tw_dn T
    · have z1 : (∀ k, k < 16 → (g.testBit k && !M.testBit k) = false) = False := eq_false (fun w => sb (sub_tb.2 (fun k hk => by
        by_cases y : k < 16
        · have := w k y
          rw [hk] at this
          simpa using this
        · have : g.testBit k = false := Nat.testBit_lt_two_pow (Nat.lt_of_lt_of_le (show g < 2 ^ 16 by omega) (Nat.pow_le_pow_right (by omega) (by omega)))
          rw [hk] at this
          cases this)))
      simp (disch := first | assumption | omega | (simp only [ya_pi, ya_pj, ya_pa, ya_pr, yo_pi, yo_pj, yo_pa, yf_pi, yf_pj, yf_pa, yh_pi, yh_pj, yh_pa, yt_pi, yt_pj, yt_pa, la_pi, la_pj, la_pa]; assumption)) only [b_X0_rowsThatMeetAll_0, b_X0_rowsThatMeetAll_19, b_X0_rowsThatMeetAll_7, b_X0_rowsThatMeetAll_21, b_X0_rowsThatMeetAll_72, b_X0_rowsThatMeetAll_42, b_X0_rowsThatMeetAll_66, b_X0_rowsThatMeetAll_53, b_X0_rowsThatMeetAll_65, i_lit, i_m1, i_31, il_t, il_f, iq_t, iq_f, it_t, it_f, im_e, im_l, im_g, im_g2, nI_add, pk_mul, i_sub, i_div, sdm, i_dec, i_cl, iv_t, bI_or2, bI_t0, bI_one, not_true_eq_false, not_false_eq_true, ↓reduceIte, am_tl, am_tn, am_t0, am_n0, and_true, true_and, List.cons_append, List.nil_append, List.append_nil, or_true, true_or, or_false, false_or, eq_self, ior0, iand0, im_e2, oI, eM1, an, bs_z, z1]
      rw [el2]
      refine nx () h' ⟨fr, fun x hx hl => ?_⟩
      rw [eg2] at hl
      exact T x hx (by
        rcases Nat.lt_or_ge g x with y | y
        · omega
        · obtain rfl : x = g := by omega
          exact absurd hx sb)
  · rintro - h' ⟨fr, T⟩
    have L1 : Lay h' := fr.lay L0
    rw [Nat.sub_self] at T
    have e0 := T 0 (Nat.zero_and _) (Nat.le_refl _)
    rw [b_X0_rowsThatMeetAll_38 _ _ _, lfL_e]
    simp (disch := first | assumption | omega | (simp only [ya_pi, ya_pj, ya_pa, ya_pr, yo_pi, yo_pj, yo_pa, yf_pi, yf_pj, yf_pa, yh_pi, yh_pj, yh_pa, yt_pi, yt_pj, yt_pa, la_pi, la_pj, la_pa]; assumption)) only [b_X0_rowsThatMeetAll_0, b_X0_rowsThatMeetAll_19, b_X0_rowsThatMeetAll_7, b_X0_rowsThatMeetAll_21, b_X0_rowsThatMeetAll_72, b_X0_rowsThatMeetAll_42, b_X0_rowsThatMeetAll_66, b_X0_rowsThatMeetAll_53, b_X0_rowsThatMeetAll_65, i_lit, i_m1, i_31, il_t, il_f, iq_t, iq_f, it_t, it_f, im_e, im_l, im_g, im_g2, nI_add, pk_mul, i_sub, i_div, sdm, i_dec, i_cl, iv_t, bI_or2, bI_t0, bI_one, not_true_eq_false, not_false_eq_true, ↓reduceIte, am_tl, am_tn, am_t0, am_n0, and_true, true_and, List.cons_append, List.nil_append, List.append_nil, or_true, true_or, or_false, false_or, eq_self, ior0, iand0, im_e2, oI, mI_lt0, e0]
    exact k h' fr T
def rkS (D : Nat → Nat → Bool) (M : Nat) : List Nat → Nat → Nat
  | [], _ => 0
  | x :: l, g => sm (wyS D M g) x + rkS D M l (g ||| 2 ^ x)
def mkL (l : List Nat) : Nat := l.foldl (fun g x => g ||| 2 ^ x) 0
theorem mk_app {l : List Nat} {x : Nat} : mkL (l ++ [x]) = mkL l ||| 2 ^ x := by
  unfold mkL
  rw [List.foldl_append]
  rfl
theorem mk_tb {k : Nat} : ∀ {l : List Nat} {g : Nat}, (l.foldl (fun g x => g ||| 2 ^ x) g).testBit k = (g.testBit k || l.contains k) := by
  intro l
  induction l with
  | nil => intro g; simp
  | cons x l ih =>
    intro g
    rw [List.foldl_cons, ih, or_tb, List.contains_cons, Bool.or_assoc]
    rfl
theorem mk_sub {l : List Nat} {M : Nat} (h : ∀ x ∈ l, M.testBit x = true) : mkL l &&& M = mkL l := by
  rw [sub_tb]
  intro k hk
  rw [mkL, mk_tb, Nat.zero_testBit, Bool.false_or] at hk
  exact h k (List.contains_iff_mem.1 hk)
theorem rk_app {D : Nat → Nat → Bool} {M x : Nat} : ∀ {l : List Nat} {g : Nat}, rkS D M (l ++ [x]) g = rkS D M l g + sm (wyS D M (l.foldl (fun g x => g ||| 2 ^ x) g)) x := by
  intro l
  induction l with
  | nil => intro g; simp [rkS]
  | cons y l ih =>
    intro g
    rw [List.cons_append, rkS, ih, rkS, List.foldl_cons]
    omega
theorem c_rowsAheadOfOrder {d : Nat} {Q : Option am_V → am_H → Prop} {h : am_H} {D : Nat → Nat → Bool} {M c : Nat} {v : Nat × List Nat} (L0 : Lay h) (R : dr h D) (hM : M < 1024) (eM : h_i h 41 2 = nI M) (hD : ∀ a c, D a c = true → a < 10 ∧ M.testBit a = true) (O0 : y_Orders h 15) (m : or_row h 15 c v) (hc : c < 11) (hl : v.2.length ≤ 10) (hv : ∀ x ∈ v.2, x < 10 ∧ M.testBit x = true) {l2 l3 l4 l5 : Option am_V} (k : ∀ h', am_fr h h' d6 → Q (some (v_i (nI (rkS D M v.2 0)))) h') : ex_ (d + 2) 25 0 [some (v_r (some 41)), some (v_i (nI c)), l2, l3, l4, l5] [] h Q := by
  simp (disch := first | assumption | omega | (simp only [ya_pi, ya_pj, ya_pa, ya_pr, yo_pi, yo_pj, yo_pa, yf_pi, yf_pj, yf_pa, yh_pi, yh_pj, yh_pa, yt_pi, yt_pj, yt_pa, la_pi, la_pj, la_pa]; assumption)) only [b_X0_rowsAheadOfOrder_0, b_X0_rowsAheadOfOrder_4, b_X0_rowsAheadOfOrder_22, b_X0_rowsAheadOfOrder_60, b_X0_rowsAheadOfOrder_25, b_X0_rowsAheadOfOrder_35, b_X0_rowsAheadOfOrder_45, i_lit, i_m1, i_31, il_t, il_f, iq_t, iq_f, it_t, it_f, im_e, im_l, im_g, im_g2, nI_add, pk_mul, i_sub, i_div, sdm, i_dec, i_cl, iv_t, bI_or2, bI_t0, bI_one, not_true_eq_false, not_false_eq_true, ↓reduceIte, am_tl, am_tn, am_t0, am_n0, and_true, true_and, List.cons_append, List.nil_append, List.append_nil, or_true, true_or, or_false, false_or, eq_self, ior0, iand0, im_e2, oI]
  refine c_rowsThatMeetAll L0 R hM eM hD (fun h1 fr1 T1 => ?_)
  have L1 : Lay h1 := fr1.lay L0
  have R1 : dr h1 D := R.fr fr1 (fun k => by unfold d6; omega) (fun k => by unfold d6; omega)
  have eM1 : h_i h1 41 2 = nI M := by rw [fr1.i (by unfold d6; omega), eM]
  have O1 : y_Orders h1 15 := fr1.orders O0
  have m1 : or_row h1 15 c v := m.fr fr1 (by omega) (by unfold d6; omega) (by unfold d6; omega) (fun k _ => by unfold d6; omega)
  simp (disch := first | assumption | omega | (simp only [ya_pi, ya_pj, ya_pa, ya_pr, yo_pi, yo_pj, yo_pa, yf_pi, yf_pj, yf_pa, yh_pi, yh_pj, yh_pa, yt_pi, yt_pj, yt_pa, la_pi, la_pj, la_pa]; assumption)) only [b_X0_rowsAheadOfOrder_0, b_X0_rowsAheadOfOrder_4, b_X0_rowsAheadOfOrder_22, b_X0_rowsAheadOfOrder_60, b_X0_rowsAheadOfOrder_25, b_X0_rowsAheadOfOrder_35, b_X0_rowsAheadOfOrder_45, i_lit, i_m1, i_31, il_t, il_f, iq_t, iq_f, it_t, it_f, im_e, im_l, im_g, im_g2, nI_add, pk_mul, i_sub, i_div, sdm, i_dec, i_cl, iv_t, bI_or2, bI_t0, bI_one, not_true_eq_false, not_false_eq_true, ↓reduceIte, am_tl, am_tn, am_t0, am_n0, and_true, true_and, List.cons_append, List.nil_append, List.append_nil, or_true, true_or, or_false, false_or, eq_self, ior0, iand0, im_e2, oI]
  refine lp_up v.2.length (fun i (l5 : Option am_V) => [some (v_r (some 41)), some (v_i (nI c)), some (v_i (nI (rkS D M (v.2.take i) 0))), some (v_i (nI (mkL (v.2.take i)))), some (v_i (nI i)), l5]) (fun i _ h' => h' = h1) ?_ ?_ (Nat.zero_le _) rfl
  · rintro i l5 h' hi rfl nx
    have x10 := hv _ (gd_mem hi)
    have sb : mkL (v.2.take i) &&& M = mkL (v.2.take i) := mk_sub (fun x hx => (hv x (List.mem_of_mem_take hx)).2)
    have nxt := nx (some (v_i (nI (v.2.getD i 0)))) h' rfl
    rw [tk_s hi, mk_app, rk_app] at nxt
    rw [b_X0_rowsAheadOfOrder_12 _ _ _ _ _ _ L1]
    simp (disch := first | assumption | omega | (simp only [ya_pi, ya_pj, ya_pa, ya_pr, yo_pi, yo_pj, yo_pa, yf_pi, yf_pj, yf_pa, yh_pi, yh_pj, yh_pa, yt_pi, yt_pj, yt_pa, la_pi, la_pj, la_pa]; assumption)) only [b_X0_rowsAheadOfOrder_0, b_X0_rowsAheadOfOrder_4, b_X0_rowsAheadOfOrder_22, b_X0_rowsAheadOfOrder_60, b_X0_rowsAheadOfOrder_25, b_X0_rowsAheadOfOrder_35, b_X0_rowsAheadOfOrder_45, i_lit, i_m1, i_31, il_t, il_f, iq_t, iq_f, it_t, it_f, im_e, im_l, im_g, im_g2, nI_add, pk_mul, i_sub, i_div, sdm, i_dec, i_cl, iv_t, bI_or2, bI_t0, bI_one, not_true_eq_false, not_false_eq_true, ↓reduceIte, am_tl, am_tn, am_t0, am_n0, and_true, true_and, List.cons_append, List.nil_append, List.append_nil, or_true, true_or, or_false, false_or, eq_self, ior0, iand0, im_e2, oI, c_sizeOf O1 m1 hc, c_at O1 m1 hc hi (by omega), c_endingsBehind L1 R1 hM eM1 hD sb (fun x hx hl => T1 x hx (Nat.zero_le _)) (show v.2.getD i 0 ≤ 10 by omega), i_31, mI_or2]
    exact nxt
  · rintro l5 h' rfl
    rw [b_X0_rowsAheadOfOrder_12 _ _ _ _ _ _ L1, List.take_length]
    simp (disch := first | assumption | omega | (simp only [ya_pi, ya_pj, ya_pa, ya_pr, yo_pi, yo_pj, yo_pa, yf_pi, yf_pj, yf_pa, yh_pi, yh_pj, yh_pa, yt_pi, yt_pj, yt_pa, la_pi, la_pj, la_pa]; assumption)) only [b_X0_rowsAheadOfOrder_0, b_X0_rowsAheadOfOrder_4, b_X0_rowsAheadOfOrder_22, b_X0_rowsAheadOfOrder_60, b_X0_rowsAheadOfOrder_25, b_X0_rowsAheadOfOrder_35, b_X0_rowsAheadOfOrder_45, i_lit, i_m1, i_31, il_t, il_f, iq_t, iq_f, it_t, it_f, im_e, im_l, im_g, im_g2, nI_add, pk_mul, i_sub, i_div, sdm, i_dec, i_cl, iv_t, bI_or2, bI_t0, bI_one, not_true_eq_false, not_false_eq_true, ↓reduceIte, am_tl, am_tn, am_t0, am_n0, and_true, true_and, List.cons_append, List.nil_append, List.append_nil, or_true, true_or, or_false, false_or, eq_self, ior0, iand0, im_e2, oI, c_sizeOf O1 m1 hc]
    exact k h' fr1
/-! the reference -/
theorem c_isInM {d : Nat} {Q : Option am_V → am_H → Prop} {h : am_H} {g k : Nat} (hg : g < 65536) (hk : k < 16) {l1 : Option am_V} : ex_ d 242 0 [some (v_l (nI g).toInt64), l1, some (v_i (nI k))] [] h Q ↔ Q (some (v_i (nI (if g.testBit k = true then 1 else 0)))) h := by
  have := c_isInI (d := d) (Q := Q) (h := h) (P := fun j => g.testBit j) hk (l1 := l1)
  rw [← bs_of hg] at this
  exact this
theorem c_canStand {d : Nat} {Q : Option am_V → am_H → Prop} {h : am_H} {D : Nat → Nat → Bool} {M g c : Nat} (L0 : Lay h) (q : dq h D) (hM : M < 1024) (hg : g < 1024) (hc : c < 10) {l4 : Option am_V} : ex_ (d + 1) 318 0 [some (v_r (some 93)), some (v_i (nI c)), some (v_i (nI g)), some (v_i (nI M)), l4] [] h Q ↔ Q (some (v_i (nI (if cs D M g c = true then 1 else 0)))) h := by
  have c16 : c < 16 := by omega
  have g64 : g < 65536 := by omega
  have M64 : M < 65536 := by omega
  apply ex_iff
  cases z1 : g.testBit c with
  | true =>
    have e : cs D M g c = false := by unfold cs; rw [z1]; rfl
    simp (disch := first | assumption | omega | (simp only [ya_pi, ya_pj, ya_pa, ya_pr, yo_pi, yo_pj, yo_pa, yf_pi, yf_pj, yf_pa, yh_pi, yh_pj, yh_pa, yt_pi, yt_pj, yt_pa, la_pi, la_pj, la_pa]; assumption)) only [b_X12_canStand_0, b_X12_canStand_6, b_X12_canStand_18, b_X12_canStand_9, b_X12_canStand_15, b_X12_canStand_20, b_X12_canStand_67, b_X12_canStand_30, b_X12_canStand_41, b_X12_canStand_61, b_X12_canStand_44, b_X12_canStand_56, b_X12_canStand_59, i_lit, i_m1, i_31, il_t, il_f, iq_t, iq_f, it_t, it_f, im_e, im_l, im_g, im_g2, nI_add, pk_mul, i_sub, i_div, sdm, i_dec, i_cl, iv_t, bI_or2, bI_t0, bI_one, not_true_eq_false, not_false_eq_true, ↓reduceIte, am_tl, am_tn, am_t0, am_n0, and_true, true_and, List.cons_append, List.nil_append, List.append_nil, or_true, true_or, or_false, false_or, eq_self, ior0, iand0, im_e2, oI, c_isInM g64 c16, z1, e, Bool.false_eq_true]
  | false =>
    cases z2 : M.testBit c with
    | false =>
      have e : cs D M g c = false := by unfold cs; rw [z2]; simp
      simp (disch := first | assumption | omega | (simp only [ya_pi, ya_pj, ya_pa, ya_pr, yo_pi, yo_pj, yo_pa, yf_pi, yf_pj, yf_pa, yh_pi, yh_pj, yh_pa, yt_pi, yt_pj, yt_pa, la_pi, la_pj, la_pa]; assumption)) only [b_X12_canStand_0, b_X12_canStand_6, b_X12_canStand_18, b_X12_canStand_9, b_X12_canStand_15, b_X12_canStand_20, b_X12_canStand_67, b_X12_canStand_30, b_X12_canStand_41, b_X12_canStand_61, b_X12_canStand_44, b_X12_canStand_56, b_X12_canStand_59, i_lit, i_m1, i_31, il_t, il_f, iq_t, iq_f, it_t, it_f, im_e, im_l, im_g, im_g2, nI_add, pk_mul, i_sub, i_div, sdm, i_dec, i_cl, iv_t, bI_or2, bI_t0, bI_one, not_true_eq_false, not_false_eq_true, ↓reduceIte, am_tl, am_tn, am_t0, am_n0, and_true, true_and, List.cons_append, List.nil_append, List.append_nil, or_true, true_or, or_false, false_or, eq_self, ior0, iand0, im_e2, oI, c_isInM g64 c16, c_isInM M64 c16, z1, z2, e, Bool.false_eq_true]
    | true =>
      simp (disch := first | assumption | omega | (simp only [ya_pi, ya_pj, ya_pa, ya_pr, yo_pi, yo_pj, yo_pa, yf_pi, yf_pj, yf_pa, yh_pi, yh_pj, yh_pa, yt_pi, yt_pj, yt_pa, la_pi, la_pj, la_pa]; assumption)) only [b_X12_canStand_0, b_X12_canStand_6, b_X12_canStand_18, b_X12_canStand_9, b_X12_canStand_15, b_X12_canStand_20, b_X12_canStand_67, b_X12_canStand_30, b_X12_canStand_41, b_X12_canStand_61, b_X12_canStand_44, b_X12_canStand_56, b_X12_canStand_59, i_lit, i_m1, i_31, il_t, il_f, iq_t, iq_f, it_t, it_f, im_e, im_l, im_g, im_g2, nI_add, pk_mul, i_sub, i_div, sdm, i_dec, i_cl, iv_t, bI_or2, bI_t0, bI_one, not_true_eq_false, not_false_eq_true, ↓reduceIte, am_tl, am_tn, am_t0, am_n0, and_true, true_and, List.cons_append, List.nil_append, List.append_nil, or_true, true_or, or_false, false_or, eq_self, ior0, iand0, im_e2, oI, c_isInM g64 c16, c_isInM M64 c16, z1, z2, Bool.false_eq_true]
      refine lp_up 10 (fun i (_ : Unit) => [some (v_r (some 93)), some (v_i (nI c)), some (v_i (nI g)), some (v_i (nI M)), some (v_i (nI i))]) (fun i _ h' => h' = h ∧ ∀ d, d < i → M.testBit d = true → g.testBit d = false → D d c = false) ?_ ?_ (Nat.zero_le _) ⟨rfl, fun d hd => absurd hd (Nat.not_lt_zero _)⟩ (s := ())
      · rintro i - h' hi ⟨rfl, e⟩ nx
        have i16 : i < 16 := by omega
        have e6 := q i hi
        have an := mI_andn M64 g64
        have skip : (M.testBit i = true → g.testBit i = false → D i c = false) → _ := fun w => nx () h' ⟨rfl, fun d hd => by
          by_cases y : d = i
          · rw [y]
            exact w
          · exact e d (by omega)⟩
        rw [b_X12_canStand_23 _ _ _ _ _ _]
        cases y1 : (M.testBit i && !g.testBit i) with
        | false =>
          simp (disch := first | assumption | omega | (simp only [ya_pi, ya_pj, ya_pa, ya_pr, yo_pi, yo_pj, yo_pa, yf_pi, yf_pj, yf_pa, yh_pi, yh_pj, yh_pa, yt_pi, yt_pj, yt_pa, la_pi, la_pj, la_pa]; assumption)) only [b_X12_canStand_0, b_X12_canStand_6, b_X12_canStand_18, b_X12_canStand_9, b_X12_canStand_15, b_X12_canStand_20, b_X12_canStand_67, b_X12_canStand_30, b_X12_canStand_41, b_X12_canStand_61, b_X12_canStand_44, b_X12_canStand_56, b_X12_canStand_59, i_lit, i_m1, i_31, il_t, il_f, iq_t, iq_f, it_t, it_f, im_e, im_l, im_g, im_g2, nI_add, pk_mul, i_sub, i_div, sdm, i_dec, i_cl, iv_t, bI_or2, bI_t0, bI_one, not_true_eq_false, not_false_eq_true, ↓reduceIte, am_tl, am_tn, am_t0, am_n0, and_true, true_and, List.cons_append, List.nil_append, List.append_nil, or_true, true_or, or_false, false_or, eq_self, ior0, iand0, im_e2, oI, an, c_isInI i16, y1, Bool.false_eq_true]
          refine skip (fun w1 w2 => ?_)
          rw [w1, w2] at y1
          cases y1
        | true =>
          rw [Bool.and_eq_true, Bool.not_eq_true'] at y1
          have y1' : (M.testBit i && !g.testBit i) = true := by rw [y1.1, y1.2]; rfl
          cases y2 : D i c with
          | false =>
            simp (disch := first | assumption | omega | (simp only [ya_pi, ya_pj, ya_pa, ya_pr, yo_pi, yo_pj, yo_pa, yf_pi, yf_pj, yf_pa, yh_pi, yh_pj, yh_pa, yt_pi, yt_pj, yt_pa, la_pi, la_pj, la_pa]; assumption)) only [b_X12_canStand_0, b_X12_canStand_6, b_X12_canStand_18, b_X12_canStand_9, b_X12_canStand_15, b_X12_canStand_20, b_X12_canStand_67, b_X12_canStand_30, b_X12_canStand_41, b_X12_canStand_61, b_X12_canStand_44, b_X12_canStand_56, b_X12_canStand_59, i_lit, i_m1, i_31, il_t, il_f, iq_t, iq_f, it_t, it_f, im_e, im_l, im_g, im_g2, nI_add, pk_mul, i_sub, i_div, sdm, i_dec, i_cl, iv_t, bI_or2, bI_t0, bI_one, not_true_eq_false, not_false_eq_true, ↓reduceIte, am_tl, am_tn, am_t0, am_n0, and_true, true_and, List.cons_append, List.nil_append, List.append_nil, or_true, true_or, or_false, false_or, eq_self, ior0, iand0, im_e2, oI, an, c_isInI i16, y1', e6, c_isInI c16, y2, Bool.false_eq_true]
            exact skip (fun _ _ => y2)
          | true =>
            have e : cs D M g c = false := by
              cases w : cs D M g c with
              | false => rfl
              | true =>
                have := (cs_iff.1 w).2.2 i hi y1.1 y1.2
                rw [y2] at this
                cases this
            simp (disch := first | assumption | omega | (simp only [ya_pi, ya_pj, ya_pa, ya_pr, yo_pi, yo_pj, yo_pa, yf_pi, yf_pj, yf_pa, yh_pi, yh_pj, yh_pa, yt_pi, yt_pj, yt_pa, la_pi, la_pj, la_pa]; assumption)) only [b_X12_canStand_0, b_X12_canStand_6, b_X12_canStand_18, b_X12_canStand_9, b_X12_canStand_15, b_X12_canStand_20, b_X12_canStand_67, b_X12_canStand_30, b_X12_canStand_41, b_X12_canStand_61, b_X12_canStand_44, b_X12_canStand_56, b_X12_canStand_59, i_lit, i_m1, i_31, il_t, il_f, iq_t, iq_f, it_t, it_f, im_e, im_l, im_g, im_g2, nI_add, pk_mul, i_sub, i_div, sdm, i_dec, i_cl, iv_t, bI_or2, bI_t0, bI_one, not_true_eq_false, not_false_eq_true, ↓reduceIte, am_tl, am_tn, am_t0, am_n0, and_true, true_and, List.cons_append, List.nil_append, List.append_nil, or_true, true_or, or_false, false_or, eq_self, ior0, iand0, im_e2, oI, an, c_isInI i16, y1', e6, c_isInI c16, y2, e, Bool.false_eq_true]
      · rintro - h' ⟨rfl, e⟩
        have e2 : cs D M g c = true := cs_iff.2 ⟨z1, z2, e⟩
        rw [b_X12_canStand_23 _ _ _ _ _ _]
        simp (disch := first | assumption | omega | (simp only [ya_pi, ya_pj, ya_pa, ya_pr, yo_pi, yo_pj, yo_pa, yf_pi, yf_pj, yf_pa, yh_pi, yh_pj, yh_pa, yt_pi, yt_pj, yt_pa, la_pi, la_pj, la_pa]; assumption)) only [b_X12_canStand_0, b_X12_canStand_6, b_X12_canStand_18, b_X12_canStand_9, b_X12_canStand_15, b_X12_canStand_20, b_X12_canStand_67, b_X12_canStand_30, b_X12_canStand_41, b_X12_canStand_61, b_X12_canStand_44, b_X12_canStand_56, b_X12_canStand_59, i_lit, i_m1, i_31, il_t, il_f, iq_t, iq_f, it_t, it_f, im_e, im_l, im_g, im_g2, nI_add, pk_mul, i_sub, i_div, sdm, i_dec, i_cl, iv_t, bI_or2, bI_t0, bI_one, not_true_eq_false, not_false_eq_true, ↓reduceIte, am_tl, am_tn, am_t0, am_n0, and_true, true_and, List.cons_append, List.nil_append, List.append_nil, or_true, true_or, or_false, false_or, eq_self, ior0, iand0, im_e2, oI, e2]
def r8 (a k : Nat) : Prop := a = 108
theorem or_1024 {g c : Nat} (hg : g < 1024) (hc : c < 10) : g ||| 2 ^ c < 1024 := by
  have : 2 ^ c < 2 ^ 10 := Nat.pow_lt_pow_right (by omega) hc
  exact Nat.or_lt_two_pow (n := 10) (by omega) this
theorem c_laysWays {d : Nat} {Q : Option am_V → am_H → Prop} {h : am_H} {D : Nat → Nat → Bool} {M : Nat} (L0 : Lay h) (q : dq h D) (hM : M < 1024) {l2 l3 l4 : Option am_V} (k : ∀ h', am_fr h h' r8 → tw h' 108 D M 0 → Q none h') : ex_ (d + 2) 319 0 [some (v_r (some 93)), some (v_i (nI M)), l2, l3, l4] [] h Q := by
  rw [b_X12_laysWays_0 _ _ _ _ _ _]
  have st : ex_ (d + 2) 319 2 [some (v_r (some 93)), some (v_i (nI M)), some (v_i (lfL (M + 1) 0)), l3, l4] [] h Q := by
    refine lp_up (M + 1) (fun i (s : Option am_V × Option am_V) => [some (v_r (some 93)), some (v_i (nI M)), some (v_i (lfL (M + 1) i)), s.1, s.2]) (fun i _ h' => am_fr h h' r8 ∧ tw h' 108 D M (M + 1 - i)) ?_ ?_ (Nat.zero_le _) ⟨am_fr.rf, fun x hx hl => by have := sub_le hx; omega⟩ (s := (l3, l4))
    · rintro i ⟨l3, l4⟩ h' hi ⟨fr, T⟩ nx
      dsimp only
      have L1 : Lay h' := fr.lay L0
      have q1 : dq h' D := fun a ha => by rw [fr.i (by unfold r8; omega)]; exact q a ha
      have el : lfL (M + 1) i = nI (M - i) := by rw [lfL, if_pos hi]; rfl
      have el2 : nI (M - i) + mI = lfL (M + 1) (i + 1) := by
        unfold lfL
        by_cases z : i + 1 < M + 1
        · rw [if_pos z, i_dec (by omega)]
          exact congrArg nI (by omega)
        · rw [if_neg z, show M - i = 0 from by omega]
          decide
      have eg : M + 1 - i = (M - i) + 1 := by omega
      have eg2 : M + 1 - (i + 1) = M - i := by omega
      rw [eg] at T
      generalize hg : M - i = g at el el2 T eg2
      rw [b_X12_laysWays_2 _ _ _ _ _ _, el]
      have an := mI_andn (a := g) (g := M) (by omega) (by omega)
      by_cases sb : g &&& M = g
      · have z1 : (∀ k, k < 16 → (g.testBit k && !M.testBit k) = false) = True := eq_true (fun k hk => by
          cases y : g.testBit k with
          | false => rfl
          | true => rw [sub_tb.1 sb k y]; rfl)
        have inner : ∀ b, (b + sm (wyS D M g) 10 = wy D M g) → ∀ (_l : Option am_V), ex_ (d + 2) 319 31 [some (v_r (some 93)), some (v_i (nI M)), some (v_i (nI g)), some (v_i (nI b)), some (v_i (nI 0))] [] h' Q := by
          intro b hb l4
          refine lp_up 10 (fun c (_ : Unit) => [some (v_r (some 93)), some (v_i (nI M)), some (v_i (nI g)), some (v_i (nI (b + sm (wyS D M g) c))), some (v_i (nI c))]) (fun c _ h2 => h2 = h') ?_ ?_ (Nat.zero_le _) rfl (s := ())
          · rintro c - h2 hc rfl nx2
            have nxt := nx2 () h2 rfl
            rw [sm, ← Nat.add_assoc] at nxt
            have o1 := or_1024 (g := g) (c := c) (by omega) hc
            rw [b_X12_laysWays_31 _ _ _ _ _ _]
            cases z : cs D M g c with
            | false =>
              rw [show wyS D M g c = 0 from if_neg (by rw [z]; decide), Nat.add_zero] at nxt
              simp (disch := first | assumption | omega | (simp only [ya_pi, ya_pj, ya_pa, ya_pr, yo_pi, yo_pj, yo_pa, yf_pi, yf_pj, yf_pa, yh_pi, yh_pj, yh_pa, yt_pi, yt_pj, yt_pa, la_pi, la_pj, la_pa]; assumption)) only [b_X12_laysWays_0, b_X12_laysWays_82, b_X12_laysWays_6, b_X12_laysWays_17, b_X12_laysWays_14, b_X12_laysWays_26, b_X12_laysWays_22, b_X12_laysWays_69, b_X12_laysWays_38, b_X12_laysWays_46, b_X12_laysWays_63, b_X12_laysWays_49, i_lit, i_m1, i_31, il_t, il_f, iq_t, iq_f, it_t, it_f, im_e, im_l, im_g, im_g2, nI_add, pk_mul, i_sub, i_div, sdm, i_dec, i_cl, iv_t, bI_or2, bI_t0, bI_one, not_true_eq_false, not_false_eq_true, ↓reduceIte, am_tl, am_tn, am_t0, am_n0, and_true, true_and, List.cons_append, List.nil_append, List.append_nil, or_true, true_or, or_false, false_or, eq_self, ior0, iand0, im_e2, oI, c_canStand L1 q1 hM (show g < 1024 by omega) hc, z, Bool.false_eq_true]
              exact nxt
            | true =>
              have z2 := cs_iff.1 z
              have gt := or_gt z2.1
              have e5 := T _ (or_sub sb z2.2.1) (by omega)
              rw [show wyS D M g c = wy D M (g ||| 2 ^ c) from if_pos z] at nxt
              simp (disch := first | assumption | omega | (simp only [ya_pi, ya_pj, ya_pa, ya_pr, yo_pi, yo_pj, yo_pa, yf_pi, yf_pj, yf_pa, yh_pi, yh_pj, yh_pa, yt_pi, yt_pj, yt_pa, la_pi, la_pj, la_pa]; assumption)) only [b_X12_laysWays_0, b_X12_laysWays_82, b_X12_laysWays_6, b_X12_laysWays_17, b_X12_laysWays_14, b_X12_laysWays_26, b_X12_laysWays_22, b_X12_laysWays_69, b_X12_laysWays_38, b_X12_laysWays_46, b_X12_laysWays_63, b_X12_laysWays_49, i_lit, i_m1, i_31, il_t, il_f, iq_t, iq_f, it_t, it_f, im_e, im_l, im_g, im_g2, nI_add, pk_mul, i_sub, i_div, sdm, i_dec, i_cl, iv_t, bI_or2, bI_t0, bI_one, not_true_eq_false, not_false_eq_true, ↓reduceIte, am_tl, am_tn, am_t0, am_n0, and_true, true_and, List.cons_append, List.nil_append, List.append_nil, or_true, true_or, or_false, false_or, eq_self, ior0, iand0, im_e2, oI, c_canStand L1 q1 hM (show g < 1024 by omega) hc, z, i_31, mI_or2, e5]
              exact nxt
          · rintro - h2 rfl
            rw [b_X12_laysWays_31 _ _ _ _ _ _, hb]
            simp (disch := first | assumption | omega | (simp only [ya_pi, ya_pj, ya_pa, ya_pr, yo_pi, yo_pj, yo_pa, yf_pi, yf_pj, yf_pa, yh_pi, yh_pj, yh_pa, yt_pi, yt_pj, yt_pa, la_pi, la_pj, la_pa]; assumption)) only [b_X12_laysWays_0, b_X12_laysWays_82, b_X12_laysWays_6, b_X12_laysWays_17, b_X12_laysWays_14, b_X12_laysWays_26, b_X12_laysWays_22, b_X12_laysWays_69, b_X12_laysWays_38, b_X12_laysWays_46, b_X12_laysWays_63, b_X12_laysWays_49, i_lit, i_m1, i_31, il_t, il_f, iq_t, iq_f, it_t, it_f, im_e, im_l, im_g, im_g2, nI_add, pk_mul, i_sub, i_div, sdm, i_dec, i_cl, iv_t, bI_or2, bI_t0, bI_one, not_true_eq_false, not_false_eq_true, ↓reduceIte, am_tl, am_tn, am_t0, am_n0, and_true, true_and, List.cons_append, List.nil_append, List.append_nil, or_true, true_or, or_false, false_or, eq_self, ior0, iand0, im_e2, oI]
            rw [el2]
            refine nx (_, _) _ ⟨fr.pi rfl, ?_⟩
            rw [eg2]
            exact tw_dn T
        by_cases z2 : g = M
        · have zero : sm (wyS D M g) 10 = 0 := by
            rw [sm_cong (g' := fun _ => 0) 10 (fun c _ => by
              unfold wyS
              rw [if_neg (fun w => by
                have := cs_iff.1 w
                rw [z2, this.2.1] at this
                cases this.1)])]
            rfl
          simp (disch := first | assumption | omega | (simp only [ya_pi, ya_pj, ya_pa, ya_pr, yo_pi, yo_pj, yo_pa, yf_pi, yf_pj, yf_pa, yh_pi, yh_pj, yh_pa, yt_pi, yt_pj, yt_pa, la_pi, la_pj, la_pa]; assumption)) only [b_X12_laysWays_0, b_X12_laysWays_82, b_X12_laysWays_6, b_X12_laysWays_17, b_X12_laysWays_14, b_X12_laysWays_26, b_X12_laysWays_22, b_X12_laysWays_69, b_X12_laysWays_38, b_X12_laysWays_46, b_X12_laysWays_63, b_X12_laysWays_49, i_lit, i_m1, i_31, il_t, il_f, iq_t, iq_f, it_t, it_f, im_e, im_l, im_g, im_g2, nI_add, pk_mul, i_sub, i_div, sdm, i_dec, i_cl, iv_t, bI_or2, bI_t0, bI_one, not_true_eq_false, not_false_eq_true, ↓reduceIte, am_tl, am_tn, am_t0, am_n0, and_true, true_and, List.cons_append, List.nil_append, List.append_nil, or_true, true_or, or_false, false_or, eq_self, ior0, iand0, im_e2, oI, an, bs_z, z1]
          exact inner 1 (by rw [zero, z2, wy_M]) l4
        · simp (disch := first | assumption | omega | (simp only [ya_pi, ya_pj, ya_pa, ya_pr, yo_pi, yo_pj, yo_pa, yf_pi, yf_pj, yf_pa, yh_pi, yh_pj, yh_pa, yt_pi, yt_pj, yt_pa, la_pi, la_pj, la_pa]; assumption)) only [b_X12_laysWays_0, b_X12_laysWays_82, b_X12_laysWays_6, b_X12_laysWays_17, b_X12_laysWays_14, b_X12_laysWays_26, b_X12_laysWays_22, b_X12_laysWays_69, b_X12_laysWays_38, b_X12_laysWays_46, b_X12_laysWays_63, b_X12_laysWays_49, i_lit, i_m1, i_31, il_t, il_f, iq_t, iq_f, it_t, it_f, im_e, im_l, im_g, im_g2, nI_add, pk_mul, i_sub, i_div, sdm, i_dec, i_cl, iv_t, bI_or2, bI_t0, bI_one, not_true_eq_false, not_false_eq_true, ↓reduceIte, am_tl, am_tn, am_t0, am_n0, and_true, true_and, List.cons_append, List.nil_append, List.append_nil, or_true, true_or, or_false, false_or, eq_self, ior0, iand0, im_e2, oI, an, bs_z, z1]
          exact inner 0 (by rw [Nat.zero_add, wy_s hM sb z2]) l4
      · have z1 : (∀ k, k < 16 → (g.testBit k && !M.testBit k) = false) = False := eq_false (fun w => sb (sub_tb.2 (fun k hk => by
          by_cases y : k < 16
          · have := w k y
            rw [hk] at this
            simpa using this
          · have : g.testBit k = false := Nat.testBit_lt_two_pow (Nat.lt_of_lt_of_le (show g < 2 ^ 16 by omega) (Nat.pow_le_pow_right (by omega) (by omega)))
            rw [hk] at this
            cases this)))
        simp (disch := first | assumption | omega | (simp only [ya_pi, ya_pj, ya_pa, ya_pr, yo_pi, yo_pj, yo_pa, yf_pi, yf_pj, yf_pa, yh_pi, yh_pj, yh_pa, yt_pi, yt_pj, yt_pa, la_pi, la_pj, la_pa]; assumption)) only [b_X12_laysWays_0, b_X12_laysWays_82, b_X12_laysWays_6, b_X12_laysWays_17, b_X12_laysWays_14, b_X12_laysWays_26, b_X12_laysWays_22, b_X12_laysWays_69, b_X12_laysWays_38, b_X12_laysWays_46, b_X12_laysWays_63, b_X12_laysWays_49, i_lit, i_m1, i_31, il_t, il_f, iq_t, iq_f, it_t, it_f, im_e, im_l, im_g, im_g2, nI_add, pk_mul, i_sub, i_div, sdm, i_dec, i_cl, iv_t, bI_or2, bI_t0, bI_one, not_true_eq_false, not_false_eq_true, ↓reduceIte, am_tl, am_tn, am_t0, am_n0, and_true, true_and, List.cons_append, List.nil_append, List.append_nil, or_true, true_or, or_false, false_or, eq_self, ior0, iand0, im_e2, oI, an, bs_z, z1]
        rw [el2]
        refine nx (_, _) h' ⟨fr, fun x hx hl => ?_⟩
        rw [eg2] at hl
        exact T x hx (by
          rcases Nat.lt_or_ge g x with y | y
          · omega
          · obtain rfl : x = g := by omega
            exact absurd hx sb)
    · rintro ⟨l3, l4⟩ h' ⟨fr, T⟩
      dsimp only
      have el : lfL (M + 1) (M + 1) = mI := if_neg (by omega)
      rw [b_X12_laysWays_2 _ _ _ _ _ _, el, if_pos (by decide)]
      simp (disch := first | assumption | omega | (simp only [ya_pi, ya_pj, ya_pa, ya_pr, yo_pi, yo_pj, yo_pa, yf_pi, yf_pj, yf_pa, yh_pi, yh_pj, yh_pa, yt_pi, yt_pj, yt_pa, la_pi, la_pj, la_pa]; assumption)) only [b_X12_laysWays_0, b_X12_laysWays_82, b_X12_laysWays_6, b_X12_laysWays_17, b_X12_laysWays_14, b_X12_laysWays_26, b_X12_laysWays_22, b_X12_laysWays_69, b_X12_laysWays_38, b_X12_laysWays_46, b_X12_laysWays_63, b_X12_laysWays_49, i_lit, i_m1, i_31, il_t, il_f, iq_t, iq_f, it_t, it_f, im_e, im_l, im_g, im_g2, nI_add, pk_mul, i_sub, i_div, sdm, i_dec, i_cl, iv_t, bI_or2, bI_t0, bI_one, not_true_eq_false, not_false_eq_true, ↓reduceIte, am_tl, am_tn, am_t0, am_n0, and_true, true_and, List.cons_append, List.nil_append, List.append_nil, or_true, true_or, or_false, false_or, eq_self, ior0, iand0, im_e2, oI]
      rw [Nat.sub_self] at T
      exact k h' fr T
  have el : lfL (M + 1) 0 = nI M := by
    rw [lfL, if_pos (by omega)]
    rfl
  rw [el] at st
  exact st
