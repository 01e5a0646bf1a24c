/-! ===== the reference: longs, sets ===== -/
theorem lI {a : Nat} (h : a < 9223372036854775808) : (lN a).toInt = (a : Int) := pk_lT h
theorem l_shr {a d : Nat} {D : Int64} (hD : (D.toBitVec.smod 64).toNat = d) (h : a < 4611686018427387904) : lN a >>> D = lN (a / 2 ^ d) := by
  have hd : a / 2 ^ d ≤ a := Nat.div_le_self _ _
  apply Int64.toInt_inj.mp
  have e : (lN a >>> D).toInt = (lN a).toInt >>> d := by
    rw [← hD]
    exact BitVec.toInt_sshiftRight ..
  rw [e, Int.shiftRight_eq_div_pow, lI (by omega), lI (by omega)]
  rfl
theorem l_63 : ∀ k, k < 16 → (((nI k).toInt64 &&& 63).toBitVec.smod 64).toNat = k := by decide +kernel
theorem l_63b : ∀ k, k < 16 → ((lN k &&& lN 63).toBitVec.smod 64).toNat = k := by decide +kernel
theorem lx_and (a b : Nat) : lN a &&& lN b = lN (a &&& b) := by
  apply Int64.toBitVec_inj.1
  show BitVec.ofNat 64 a &&& BitVec.ofNat 64 b = BitVec.ofNat 64 (a &&& b)
  apply BitVec.eq_of_getLsbD_eq
  intro i hi
  simp [hi]
theorem l_bit {P : Nat → Bool} {k : Nat} (hk : k < 16) : (lN (bs P) >>> (lN k &&& lN 63)) &&& lN 1 = lN (if P k = true then 1 else 0) := by
  have hb := bs_lt P
  rw [l_shr (l_63b k hk) (by omega), lx_and, show (1 : Nat) = 2 ^ 1 - 1 from rfl, Nat.and_two_pow_sub_one_eq_mod]
  rw [show (2 : Nat) ^ 1 = 2 from rfl, i_tb, bs_tb hk]
theorem c_isIn {d : Nat} {Q : Option am_V → am_H → Prop} {h : am_H} {P : Nat → Bool} {k : Nat} (hk : k < 16) {l1 : Option am_V} : ex_ d 242 0 [some (v_l (lN (bs P))), l1, some (v_i (nI k))] [] h Q ↔ Q (some (v_i (nI (if P k = true then 1 else 0)))) h := by
  cases hp : P k with
  | true => simp (disch := first | assumption | omega | (simp only [ya_pi, ya_pj, ya_pa, ya_pr, yo_pi, yo_pj, yo_pa, yf_pi, yf_pj, yf_pa, yh_pi, yh_pj, yh_pa, yt_pi, yt_pj, yt_pa, la_pi, la_pj, la_pa]; assumption)) only [b_X12_isIn_0, b_X12_isIn_14, b_X12_isIn_10, i_lit, i_m1, i_31, il_t, il_f, iq_t, iq_f, it_t, it_f, im_e, im_l, im_g, im_g2, nI_add, pk_mul, i_sub, i_div, sdm, i_dec, i_cl, iv_t, bI_or2, bI_t0, bI_one, not_true_eq_false, not_false_eq_true, ↓reduceIte, am_tl, am_tn, am_t0, am_n0, and_true, true_and, List.cons_append, List.nil_append, List.append_nil, or_true, true_or, or_false, false_or, eq_self, ior0, iand0, im_e2, oI, l_lit, lc_lt, lc_le, lc_gt, lc_ge, lc_eq, ll_t, ll_f, lt_t, lt_f, lq_t, lq_f, l_div, lN_add, lN_mul, lN_sub, lN_i, nI_l, l_bit, hp]
  | false => simp (disch := first | assumption | omega | (simp only [ya_pi, ya_pj, ya_pa, ya_pr, yo_pi, yo_pj, yo_pa, yf_pi, yf_pj, yf_pa, yh_pi, yh_pj, yh_pa, yt_pi, yt_pj, yt_pa, la_pi, la_pj, la_pa]; assumption)) only [b_X12_isIn_0, b_X12_isIn_14, b_X12_isIn_10, i_lit, i_m1, i_31, il_t, il_f, iq_t, iq_f, it_t, it_f, im_e, im_l, im_g, im_g2, nI_add, pk_mul, i_sub, i_div, sdm, i_dec, i_cl, iv_t, bI_or2, bI_t0, bI_one, not_true_eq_false, not_false_eq_true, ↓reduceIte, am_tl, am_tn, am_t0, am_n0, and_true, true_and, List.cons_append, List.nil_append, List.append_nil, or_true, true_or, or_false, false_or, eq_self, ior0, iand0, im_e2, oI, l_lit, lc_lt, lc_le, lc_gt, lc_ge, lc_eq, ll_t, ll_f, lt_t, lt_f, lq_t, lq_f, l_div, lN_add, lN_mul, lN_sub, lN_i, nI_l, l_bit, hp, Bool.false_eq_true]
theorem c_within {d : Nat} {Q : Option am_V → am_H → Prop} {h : am_H} {x a b : Int64} {l1 l3 l5 : Option am_V} : ex_ d 229 0 [some (v_l x), l1, some (v_l a), l3, some (v_l b), l5] [] h Q ↔ Q (some (v_i (nI (if x < a ∨ b < x then 0 else 1)))) h := by
  by_cases h1 : x < a
  · simp (disch := first | assumption | omega | (simp only [ya_pi, ya_pj, ya_pa, ya_pr, yo_pi, yo_pj, yo_pa, yf_pi, yf_pj, yf_pa, yh_pi, yh_pj, yh_pa, yt_pi, yt_pj, yt_pa, la_pi, la_pj, la_pa]; assumption)) only [b_X12_within_0, b_X12_within_17, b_X12_within_6, b_X12_within_13, i_lit, i_m1, i_31, il_t, il_f, iq_t, iq_f, it_t, it_f, im_e, im_l, im_g, im_g2, nI_add, pk_mul, i_sub, i_div, sdm, i_dec, i_cl, iv_t, bI_or2, bI_t0, bI_one, not_true_eq_false, not_false_eq_true, ↓reduceIte, am_tl, am_tn, am_t0, am_n0, and_true, true_and, List.cons_append, List.nil_append, List.append_nil, or_true, true_or, or_false, false_or, eq_self, ior0, iand0, im_e2, oI, l_lit, lc_lt, lc_le, lc_gt, lc_ge, lc_eq, ll_t, ll_f, lt_t, lt_f, lq_t, lq_f, l_div, lN_add, lN_mul, lN_sub, lN_i, h1]
  · by_cases h2 : b < x
    · simp (disch := first | assumption | omega | (simp only [ya_pi, ya_pj, ya_pa, ya_pr, yo_pi, yo_pj, yo_pa, yf_pi, yf_pj, yf_pa, yh_pi, yh_pj, yh_pa, yt_pi, yt_pj, yt_pa, la_pi, la_pj, la_pa]; assumption)) only [b_X12_within_0, b_X12_within_17, b_X12_within_6, b_X12_within_13, i_lit, i_m1, i_31, il_t, il_f, iq_t, iq_f, it_t, it_f, im_e, im_l, im_g, im_g2, nI_add, pk_mul, i_sub, i_div, sdm, i_dec, i_cl, iv_t, bI_or2, bI_t0, bI_one, not_true_eq_false, not_false_eq_true, ↓reduceIte, am_tl, am_tn, am_t0, am_n0, and_true, true_and, List.cons_append, List.nil_append, List.append_nil, or_true, true_or, or_false, false_or, eq_self, ior0, iand0, im_e2, oI, l_lit, lc_lt, lc_le, lc_gt, lc_ge, lc_eq, ll_t, ll_f, lt_t, lt_f, lq_t, lq_f, l_div, lN_add, lN_mul, lN_sub, lN_i, h1, h2]
    · simp (disch := first | assumption | omega | (simp only [ya_pi, ya_pj, ya_pa, ya_pr, yo_pi, yo_pj, yo_pa, yf_pi, yf_pj, yf_pa, yh_pi, yh_pj, yh_pa, yt_pi, yt_pj, yt_pa, la_pi, la_pj, la_pa]; assumption)) only [b_X12_within_0, b_X12_within_17, b_X12_within_6, b_X12_within_13, i_lit, i_m1, i_31, il_t, il_f, iq_t, iq_f, it_t, it_f, im_e, im_l, im_g, im_g2, nI_add, pk_mul, i_sub, i_div, sdm, i_dec, i_cl, iv_t, bI_or2, bI_t0, bI_one, not_true_eq_false, not_false_eq_true, ↓reduceIte, am_tl, am_tn, am_t0, am_n0, and_true, true_and, List.cons_append, List.nil_append, List.append_nil, or_true, true_or, or_false, false_or, eq_self, ior0, iand0, im_e2, oI, l_lit, lc_lt, lc_le, lc_gt, lc_ge, lc_eq, ll_t, ll_f, lt_t, lt_f, lq_t, lq_f, l_div, lN_add, lN_mul, lN_sub, lN_i, h1, h2]
/-- a number below n, as a long -/
def lh (n : Nat) (v : Int64) : Prop := ∃ k, k < n ∧ v = lN k
theorem lh_cs (n : Nat) (v : Int64) : (∃ k, k < n ∧ v = lN k) ∨ ¬ lh n v := by
  by_cases h : lh n v
  · exact Or.inl h
  · exact Or.inr h
theorem i_inj {a b : Int32} (h : a.toInt64 = b.toInt64) : a = b := by
  apply Int32.toInt_inj.1
  have := congrArg Int64.toInt h
  rwa [Int32.toInt_toInt64, Int32.toInt_toInt64] at this
theorem lh_32 {n : Nat} (hn : n ≤ 10) {c : Int32} : lh n c.toInt64 ↔ fa_has n c := by
  rw [fa_has_iff hn]
  constructor
  · rintro ⟨k, hk, e⟩
    refine ⟨k, hk, ?_⟩
    rw [← nI_l (by omega)] at e
    exact i_inj e
  · rintro ⟨k, hk, rfl⟩
    exact ⟨k, hk, nI_l (by omega)⟩
theorem l_m1 : mI.toInt64 = -1 := by decide
theorem w_iff {n : Nat} (hn : n ≤ 1000) {v : Int64} : (v < lN 0 ∨ (nI n - nI 1).toInt64 < v) = ¬ lh n v := by
  apply propext
  constructor
  · rintro h ⟨k, hk, rfl⟩
    rcases h with h | h
    · have := (pk_lLT (by omega) (by omega)).1 h
      omega
    · rw [pk_sub (by omega), nI_l (by omega)] at h
      have := (pk_lLT (by omega) (by omega)).1 h
      omega
  · intro h
    by_cases h1 : v < lN 0
    · exact Or.inl h1
    · right
      obtain ⟨k, hk, rfl⟩ := pk_lOf h1
      by_cases z : n = 0
      · subst z
        show (-1 : Int32).toInt64 < lN k
        rw [Int64.lt_iff_toInt_lt, lI hk]
        show -1 < (k : Int)
        omega
      · rw [pk_sub (by omega), nI_l (by omega)]
        refine (pk_lLT (by omega) hk).2 ?_
        rcases Nat.lt_or_ge k n with q | q
        · exact absurd ⟨k, q, rfl⟩ h
        · omega
/-! facts in the reference's rows: the block that begins with how many parents each has -/
def fb (h : am_H) (a b : Nat) (f : fa_S) : Prop := (∀ c, c < 10 → h_i h a (b + c) = nI (f_p f c).length) ∧ (∀ c, c < 10 → ro h a (b + 10 + 4 * c) (f_p f c)) ∧ (∀ c m, c < 10 → m < 8 → h_i h a (b + 50 + (8 * c + m)) = f_d f c m) ∧ h_i h a (b + 130) = f_m f
/-- the reference's facts of now -/
def rfa (h : am_H) (f : fa_S) : Prop := Lay h ∧ h_i h 94 1 = nI (f_n f) ∧ fb h 94 8 f
theorem am_fr.fb {h h' : am_H} {P : Nat → Nat → Prop} (fr : am_fr h h' P) {a b : Nat} {f : fa_S} (h4 : ∀ c, (f_p f c).length ≤ 4) (F : fb h a b f) (hp : ∀ k, b ≤ k → k ≤ b + 130 → ¬ P a k) : fb h' a b f := by
  obtain ⟨F1, F2, F3, F4⟩ := F
  refine ⟨?_, ?_, ?_, ?_⟩
  · intro c hc
    rw [fr.i (hp _ (by omega) (by omega)), F1 c hc]
  · intro c hc
    exact fr.ro (F2 c hc) (fun k hk => by have := h4 c; exact hp _ (by omega) (by omega))
  · intro c m hc hm
    rw [fr.i (hp _ (by omega) (by omega)), F3 c m hc hm]
  · rw [fr.i (hp _ (by omega) (by omega)), F4]
theorem am_fr.rfa {h h' : am_H} {P : Nat → Nat → Prop} (fr : am_fr h h' P) {f : fa_S} (ok : fa_ok f) (F : rfa h f) (hp : ∀ k, k ≤ 138 → ¬ P 94 k) : rfa h' f := by
  refine ⟨fr.lay F.1, ?_, ?_⟩
  · rw [fr.i (hp _ (by omega)), F.2.1]
  · exact fr.fb (fun c => (ok.2 c).1) F.2.2 (fun k _ h2 => hp k (by omega))
theorem r_cnt {h : am_H} {f : fa_S} (F : rfa h f) {c : Nat} (hc : c < 10) : h_i h 94 (8 + c) = nI (f_p f c).length := F.2.2.1 c hc
theorem r_par {h : am_H} {f : fa_S} (F : rfa h f) {c k : Nat} (hc : c < 10) (hk : k < (f_p f c).length) : h_i h 94 (18 + 4 * c + k) = nI ((f_p f c).getD k 0) := F.2.2.2.1 c hc k hk
theorem r_def {h : am_H} {f : fa_S} (F : rfa h f) {c m : Nat} (hc : c < 10) (hm : m < 8) : h_i h 94 (58 + 8 * c + m) = f_d f c m := by
  have := F.2.2.2.2.1 c m hc hm
  rw [show 8 + 50 + (8 * c + m) = 58 + 8 * c + m from by omega] at this
  exact this
theorem c_isClass {d : Nat} {Q : Option am_V → am_H → Prop} {h : am_H} {f : fa_S} (ok : fa_ok f) (F : rfa h f) {v : Int64} {l2 : Option am_V} (dl : Decidable (lh (f_n f) v)) : ex_ (d + 1) 262 0 [some (v_r (some 93)), some (v_l v), l2] [] h Q ↔ Q (some (v_i (nI (if lh (f_n f) v then 1 else 0)))) h := by
  have L0 := F.1
  have e1 := F.2.1
  have hn := ok.1
  by_cases hl : lh (f_n f) v
  · rw [if_pos hl]
    have w : (v < lN 0 ∨ (nI (f_n f) - nI 1).toInt64 < v) = False := by rw [w_iff (by omega)]; exact eq_false (fun z => z hl)
    have e2 : ∀ {Q'}, ex_ d 229 0 [some (v_l v), none, some (v_l (0 : Int64)), none, some (v_l (nI (f_n f) - (1 : Int32)).toInt64), none] [] h Q' ↔ Q' (some (v_i (nI 1))) h := by
      intro Q'
      rw [c_within]
      rw [if_neg (show ¬ (v < (0 : Int64) ∨ (nI (f_n f) - (1 : Int32)).toInt64 < v) from w ▸ id)]
    rw [b_X12_isClass_0 _ _ _ L0, show (1 : Int32) = nI 1 from rfl, i_cl (by omega), e1]
    refine ⟨fun z => ?_, fun z => ⟨vp_in_nI (by omega) (by omega), ?_⟩⟩
    · have := e2.1 z.2
      simp (disch := first | assumption | omega | (simp only [ya_pi, ya_pj, ya_pa, ya_pr, yo_pi, yo_pj, yo_pa, yf_pi, yf_pj, yf_pa, yh_pi, yh_pj, yh_pa, yt_pi, yt_pj, yt_pa, la_pi, la_pj, la_pa]; assumption)) only [b_X12_isClass_14, i_lit, i_m1, i_31, il_t, il_f, iq_t, iq_f, it_t, it_f, im_e, im_l, im_g, im_g2, nI_add, pk_mul, i_sub, i_div, sdm, i_dec, i_cl, iv_t, bI_or2, bI_t0, bI_one, not_true_eq_false, not_false_eq_true, ↓reduceIte, am_tl, am_tn, am_t0, am_n0, and_true, true_and, List.cons_append, List.nil_append, List.append_nil, or_true, true_or, or_false, false_or, eq_self, ior0, iand0, im_e2, oI] at this
      exact this
    · refine e2.2 ?_
      simp (disch := first | assumption | omega | (simp only [ya_pi, ya_pj, ya_pa, ya_pr, yo_pi, yo_pj, yo_pa, yf_pi, yf_pj, yf_pa, yh_pi, yh_pj, yh_pa, yt_pi, yt_pj, yt_pa, la_pi, la_pj, la_pa]; assumption)) only [b_X12_isClass_14, i_lit, i_m1, i_31, il_t, il_f, iq_t, iq_f, it_t, it_f, im_e, im_l, im_g, im_g2, nI_add, pk_mul, i_sub, i_div, sdm, i_dec, i_cl, iv_t, bI_or2, bI_t0, bI_one, not_true_eq_false, not_false_eq_true, ↓reduceIte, am_tl, am_tn, am_t0, am_n0, and_true, true_and, List.cons_append, List.nil_append, List.append_nil, or_true, true_or, or_false, false_or, eq_self, ior0, iand0, im_e2, oI]
      exact z
  · rw [if_neg hl]
    have w : (v < lN 0 ∨ (nI (f_n f) - nI 1).toInt64 < v) = True := by rw [w_iff (by omega)]; exact eq_true hl
    have e2 : ∀ {Q'}, ex_ d 229 0 [some (v_l v), none, some (v_l (0 : Int64)), none, some (v_l (nI (f_n f) - (1 : Int32)).toInt64), none] [] h Q' ↔ Q' (some (v_i (nI 0))) h := by
      intro Q'
      rw [c_within]
      rw [if_pos (show (v < (0 : Int64) ∨ (nI (f_n f) - (1 : Int32)).toInt64 < v) from w ▸ trivial)]
    rw [b_X12_isClass_0 _ _ _ L0, show (1 : Int32) = nI 1 from rfl, i_cl (by omega), e1]
    refine ⟨fun z => ?_, fun z => ⟨vp_in_nI (by omega) (by omega), ?_⟩⟩
    · have := e2.1 z.2
      simp (disch := first | assumption | omega | (simp only [ya_pi, ya_pj, ya_pa, ya_pr, yo_pi, yo_pj, yo_pa, yf_pi, yf_pj, yf_pa, yh_pi, yh_pj, yh_pa, yt_pi, yt_pj, yt_pa, la_pi, la_pj, la_pa]; assumption)) only [b_X12_isClass_14, i_lit, i_m1, i_31, il_t, il_f, iq_t, iq_f, it_t, it_f, im_e, im_l, im_g, im_g2, nI_add, pk_mul, i_sub, i_div, sdm, i_dec, i_cl, iv_t, bI_or2, bI_t0, bI_one, not_true_eq_false, not_false_eq_true, ↓reduceIte, am_tl, am_tn, am_t0, am_n0, and_true, true_and, List.cons_append, List.nil_append, List.append_nil, or_true, true_or, or_false, false_or, eq_self, ior0, iand0, im_e2, oI] at this
      exact this
    · refine e2.2 ?_
      simp (disch := first | assumption | omega | (simp only [ya_pi, ya_pj, ya_pa, ya_pr, yo_pi, yo_pj, yo_pa, yf_pi, yf_pj, yf_pa, yh_pi, yh_pj, yh_pa, yt_pi, yt_pj, yt_pa, la_pi, la_pj, la_pa]; assumption)) only [b_X12_isClass_14, i_lit, i_m1, i_31, il_t, il_f, iq_t, iq_f, it_t, it_f, im_e, im_l, im_g, im_g2, nI_add, pk_mul, i_sub, i_div, sdm, i_dec, i_cl, iv_t, bI_or2, bI_t0, bI_one, not_true_eq_false, not_false_eq_true, ↓reduceIte, am_tl, am_tn, am_t0, am_n0, and_true, true_and, List.cons_append, List.nil_append, List.append_nil, or_true, true_or, or_false, false_or, eq_self, ior0, iand0, im_e2, oI]
      exact z
theorem c_isClass_y {d : Nat} {Q : Option am_V → am_H → Prop} {h : am_H} {f : fa_S} (ok : fa_ok f) (F : rfa h f) {c : Nat} (hc : c < f_n f) {l2 : Option am_V} : ex_ (d + 1) 262 0 [some (v_r (some 93)), some (v_l (lN c)), l2] [] h Q ↔ Q (some (v_i (nI 1))) h := by
  rw [c_isClass ok F (Classical.propDecidable _), if_pos ⟨c, hc, rfl⟩]
theorem c_isClass_n {d : Nat} {Q : Option am_V → am_H → Prop} {h : am_H} {f : fa_S} (ok : fa_ok f) (F : rfa h f) {v : Int64} (hc : ¬ lh (f_n f) v) {l2 : Option am_V} : ex_ (d + 1) 262 0 [some (v_r (some 93)), some (v_l v), l2] [] h Q ↔ Q (some (v_i (nI 0))) h := by
  rw [c_isClass ok F (Classical.propDecidable _), if_neg hc]
theorem c_isClass_32 {d : Nat} {Q : Option am_V → am_H → Prop} {h : am_H} {f : fa_S} (ok : fa_ok f) (F : rfa h f) {c : Int32} (hc : ¬ fa_has (f_n f) c) {l2 : Option am_V} : ex_ (d + 1) 262 0 [some (v_r (some 93)), some (v_l c.toInt64), l2] [] h Q ↔ Q (some (v_i (nI 0))) h := c_isClass_n ok F (fun z => hc ((lh_32 ok.1).1 z))
theorem w7 {v : Int64} : (v < lN 0 ∨ lN 7 < v) = ¬ lh 8 v := by
  have := w_iff (n := 8) (by omega) (v := v)
  exact this
theorem c_rMethod_y {d : Nat} {Q : Option am_V → am_H → Prop} {h : am_H} {m : Nat} (hm : m < 8) {l2 : Option am_V} : ex_ (d + 1) 263 0 [some (v_l (lN m)), l2] [] h Q ↔ Q (some (v_i (nI 1))) h := by
  simp (disch := first | assumption | omega | (simp only [ya_pi, ya_pj, ya_pa, ya_pr, yo_pi, yo_pj, yo_pa, yf_pi, yf_pj, yf_pa, yh_pi, yh_pj, yh_pa, yt_pi, yt_pj, yt_pa, la_pi, la_pj, la_pa]; assumption)) only [b_X12_isMethod_0, b_X12_isMethod_8, i_lit, i_m1, i_31, il_t, il_f, iq_t, iq_f, it_t, it_f, im_e, im_l, im_g, im_g2, nI_add, pk_mul, i_sub, i_div, sdm, i_dec, i_cl, iv_t, bI_or2, bI_t0, bI_one, not_true_eq_false, not_false_eq_true, ↓reduceIte, am_tl, am_tn, am_t0, am_n0, and_true, true_and, List.cons_append, List.nil_append, List.append_nil, or_true, true_or, or_false, false_or, eq_self, ior0, iand0, im_e2, oI, l_lit, lc_lt, lc_le, lc_gt, lc_ge, lc_eq, ll_t, ll_f, lt_t, lt_f, lq_t, lq_f, l_div, lN_add, lN_mul, lN_sub, lN_i, c_within]
theorem c_rMethod_n {d : Nat} {Q : Option am_V → am_H → Prop} {h : am_H} {v : Int64} (hm : ¬ lh 8 v) {l2 : Option am_V} : ex_ (d + 1) 263 0 [some (v_l v), l2] [] h Q ↔ Q (some (v_i (nI 0))) h := by
  have w : (v < lN 0 ∨ lN 7 < v) = True := by rw [w7]; exact eq_true hm
  simp (disch := first | assumption | omega | (simp only [ya_pi, ya_pj, ya_pa, ya_pr, yo_pi, yo_pj, yo_pa, yf_pi, yf_pj, yf_pa, yh_pi, yh_pj, yh_pa, yt_pi, yt_pj, yt_pa, la_pi, la_pj, la_pa]; assumption)) only [b_X12_isMethod_0, b_X12_isMethod_8, i_lit, i_m1, i_31, il_t, il_f, iq_t, iq_f, it_t, it_f, im_e, im_l, im_g, im_g2, nI_add, pk_mul, i_sub, i_div, sdm, i_dec, i_cl, iv_t, bI_or2, bI_t0, bI_one, not_true_eq_false, not_false_eq_true, ↓reduceIte, am_tl, am_tn, am_t0, am_n0, and_true, true_and, List.cons_append, List.nil_append, List.append_nil, or_true, true_or, or_false, false_or, eq_self, ior0, iand0, im_e2, oI, l_lit, c_within, w]
theorem lh_8 {m : Int32} (h : ¬ me_ok m) : ¬ lh 8 m.toInt64 := by
  rintro ⟨k, hk, e⟩
  rw [← nI_l (by omega)] at e
  have e2 := i_inj e
  rw [e2] at h
  exact h ⟨nI_pos (by omega), nI_lt hk (by omega)⟩
theorem c_rParentAt {d : Nat} {Q : Option am_V → am_H → Prop} {h : am_H} {f : fa_S} (F : rfa h f) {c k : Nat} (hc : c < 10) (hk : k < (f_p f c).length) (h4 : (f_p f c).length ≤ 4) : ex_ d 264 0 [some (v_r (some 93)), some (v_i (nI c)), some (v_i (nI k))] [] h Q ↔ Q (some (v_i (nI ((f_p f c).getD k 0)))) h := by
  have L0 := F.1
  have e := r_par F hc hk
  simp (disch := first | assumption | omega | (simp only [ya_pi, ya_pj, ya_pa, ya_pr, yo_pi, yo_pj, yo_pa, yf_pi, yf_pj, yf_pa, yh_pi, yh_pj, yh_pa, yt_pi, yt_pj, yt_pa, la_pi, la_pj, la_pa]; assumption)) only [b_X12_parentAt_0, i_lit, i_m1, i_31, il_t, il_f, iq_t, iq_f, it_t, it_f, im_e, im_l, im_g, im_g2, nI_add, pk_mul, i_sub, i_div, sdm, i_dec, i_cl, iv_t, bI_or2, bI_t0, bI_one, not_true_eq_false, not_false_eq_true, ↓reduceIte, am_tl, am_tn, am_t0, am_n0, and_true, true_and, List.cons_append, List.nil_append, List.append_nil, or_true, true_or, or_false, false_or, eq_self, ior0, iand0, im_e2, oI, e]
theorem c_placeOfParent {d : Nat} {Q : Option am_V → am_H → Prop} {h : am_H} {f : fa_S} (ok : fa_ok f) (F : rfa h f) {c p : Nat} (hc : c < 10) (hp : p < 2147483648) {l3 : Option am_V} : ex_ (d + 1) 265 0 [some (v_r (some 93)), some (v_i (nI c)), some (v_i (nI p)), l3] [] h Q ↔ Q (some (v_i (oI (pl (f_p f c) p)))) h := by
  have h4 := (ok.2 c).1
  have L0 := F.1
  have e0 := r_cnt F hc
  apply ex_iff
  rw [b_X12_placeOfParent_0]
  refine lp_up (f_p f c).length (fun i (_ : Unit) => [some (v_r (some 93)), some (v_i (nI c)), some (v_i (nI p)), some (v_i (nI i))]) (fun i _ h' => h' = h ∧ fi (fun k => (f_p f c).getD k 0 == p) (f_p f c).length i = pl (f_p f c) p) ?_ ?_ (Nat.zero_le _) ⟨rfl, rfl⟩ (s := ())
  · rintro i - h' hi ⟨rfl, e⟩ nx
    have hl := fa_lt10 ok hi
    rw [b_X12_placeOfParent_2 _ _ _ _ L0]
    by_cases he : (f_p f c).getD i 0 = p
    · rw [pl_y hi he] at e
      simp (disch := first | assumption | omega | (simp only [ya_pi, ya_pj, ya_pa, ya_pr, yo_pi, yo_pj, yo_pa, yf_pi, yf_pj, yf_pa, yh_pi, yh_pj, yh_pa, yt_pi, yt_pj, yt_pa, la_pi, la_pj, la_pa]; assumption)) only [b_X12_placeOfParent_0, b_X12_placeOfParent_33, b_X12_placeOfParent_15, b_X12_placeOfParent_21, b_X12_placeOfParent_27, b_X12_placeOfParent_25, i_lit, i_m1, i_31, il_t, il_f, iq_t, iq_f, it_t, it_f, im_e, im_l, im_g, im_g2, nI_add, pk_mul, i_sub, i_div, sdm, i_dec, i_cl, iv_t, bI_or2, bI_t0, bI_one, not_true_eq_false, not_false_eq_true, ↓reduceIte, am_tl, am_tn, am_t0, am_n0, and_true, true_and, List.cons_append, List.nil_append, List.append_nil, e0, c_rParentAt F hc hi h4]
      rw [← e]
      rfl
    · rw [pl_x he] at e
      simp (disch := first | assumption | omega | (simp only [ya_pi, ya_pj, ya_pa, ya_pr, yo_pi, yo_pj, yo_pa, yf_pi, yf_pj, yf_pa, yh_pi, yh_pj, yh_pa, yt_pi, yt_pj, yt_pa, la_pi, la_pj, la_pa]; assumption)) only [b_X12_placeOfParent_0, b_X12_placeOfParent_33, b_X12_placeOfParent_15, b_X12_placeOfParent_21, b_X12_placeOfParent_27, b_X12_placeOfParent_25, i_lit, i_m1, i_31, il_t, il_f, iq_t, iq_f, it_t, it_f, im_e, im_l, im_g, im_g2, nI_add, pk_mul, i_sub, i_div, sdm, i_dec, i_cl, iv_t, bI_or2, bI_t0, bI_one, not_true_eq_false, not_false_eq_true, ↓reduceIte, am_tl, am_tn, am_t0, am_n0, and_true, true_and, List.cons_append, List.nil_append, List.append_nil, e0, c_rParentAt F hc hi h4]
      exact nx () _ ⟨rfl, e⟩
  · rintro - h' ⟨rfl, e⟩
    rw [fi_end (by omega)] at e
    rw [b_X12_placeOfParent_2 _ _ _ _ L0]
    simp (disch := first | assumption | omega | (simp only [ya_pi, ya_pj, ya_pa, ya_pr, yo_pi, yo_pj, yo_pa, yf_pi, yf_pj, yf_pa, yh_pi, yh_pj, yh_pa, yt_pi, yt_pj, yt_pa, la_pi, la_pj, la_pa]; assumption)) only [b_X12_placeOfParent_0, b_X12_placeOfParent_33, b_X12_placeOfParent_15, b_X12_placeOfParent_21, b_X12_placeOfParent_27, b_X12_placeOfParent_25, i_lit, i_m1, i_31, il_t, il_f, iq_t, iq_f, it_t, it_f, im_e, im_l, im_g, im_g2, nI_add, pk_mul, i_sub, i_div, sdm, i_dec, i_cl, iv_t, bI_or2, bI_t0, bI_one, not_true_eq_false, not_false_eq_true, ↓reduceIte, am_tl, am_tn, am_t0, am_n0, and_true, true_and, List.cons_append, List.nil_append, List.append_nil, e0]
    rw [← e]
    rfl
