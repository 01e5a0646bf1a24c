/-! ===== tokens ===== -/
def isLb (b : Nat) : Bool := decide (97 ≤ b) && decide (b ≤ 122)
def isDb (b : Nat) : Bool := decide (48 ≤ b) && decide (b ≤ 57)
def isBk (b : Nat) : Bool := b == 32 || b == 10
def rn (tx : List Nat) (q : Nat → Bool) (p : Nat) : Nat := if p < tx.length then (if q (tx.getD p 0) = true then rn tx q (p + 1) else p) else p
  termination_by tx.length - p
theorem rn_e {tx : List Nat} {q : Nat → Bool} {p : Nat} (h : tx.length ≤ p) : rn tx q p = p := by rw [rn, if_neg (by omega)]
theorem rn_y {tx : List Nat} {q : Nat → Bool} {p : Nat} (h : p < tx.length) (hq : q (tx.getD p 0) = true) : rn tx q p = rn tx q (p + 1) := by rw [rn, if_pos h, if_pos hq]
theorem rn_n {tx : List Nat} {q : Nat → Bool} {p : Nat} (hq : q (tx.getD p 0) = false) : rn tx q p = p := by
  rw [rn]
  split
  · rw [if_neg (by rw [hq]; decide)]
  · rfl
theorem rn_ge {tx : List Nat} {q : Nat → Bool} : ∀ m p, tx.length - p ≤ m → p ≤ rn tx q p ∧ (p ≤ tx.length → rn tx q p ≤ tx.length) := by
  intro m
  induction m with
  | zero => intro p h; rw [rn_e (by omega)]; exact ⟨Nat.le_refl _, fun z => z⟩
  | succ m ih =>
    intro p h
    by_cases z : p < tx.length
    · cases w : q (tx.getD p 0) with
      | true =>
        rw [rn_y z w]
        have := ih (p + 1) (by omega)
        exact ⟨by omega, fun _ => this.2 (by omega)⟩
      | false => rw [rn_n w]; exact ⟨Nat.le_refl _, fun z => z⟩
    · rw [rn_e (by omega)]; exact ⟨Nat.le_refl _, fun z => z⟩
/-- the words, in the class's order -/
def wds : List (List Nat) := [[104, 111, 117, 115, 101], [109, 111, 111, 100], [99, 108, 97, 115, 115], [109, 101, 116, 104, 111, 100], [105, 110], [101, 110, 100, 115], [110, 101, 120, 116], [115, 97, 121, 115], [115, 101, 101, 110], [105, 102], [116, 104, 101, 110], [101, 108, 115, 101], [101, 110, 100], [102, 111, 114], [100, 101, 112, 116, 104], [111, 114], [97, 110, 100], [110, 111, 116]]
def wm (tx : List Nat) (p e : Nat) (w : List Nat) : Bool := decide (e - p = w.length) && (List.range w.length).all (fun j => w.getD j 0 == tx.getD (p + j) 0)
theorem wm_iff {tx : List Nat} {p e : Nat} {w : List Nat} : wm tx p e w = true ↔ e - p = w.length ∧ ∀ j, j < w.length → w.getD j 0 = tx.getD (p + j) 0 := by
  unfold wm
  rw [Bool.and_eq_true, decide_eq_true_eq, List.all_eq_true]
  exact and_congr Iff.rfl ⟨fun h j hj => beq_iff_eq.1 (h j (List.mem_range.2 hj)), fun h j hj => beq_iff_eq.2 (h j (List.mem_range.1 hj))⟩
def wTk (tx : List Nat) (p e : Nat) : Nat := match fi (fun k => wm tx p e (wds.getD k [])) 18 0 with
  | some k => 200 + k
  | none => 3
def nmb (tx : List Nat) (p : Nat) : Nat → Nat
  | 0 => 0
  | j + 1 => 10 * nmb tx p j + (tx.getD (p + j) 0 - 48)
def tE (tx : List Nat) (p : Nat) : Nat := if isLb (tx.getD p 0) = true then rn tx isLb (p + 1) else if isDb (tx.getD p 0) = true then rn tx isDb (p + 1) else p + 1
def tT (tx : List Nat) (p : Nat) : Nat := if isLb (tx.getD p 0) = true then wTk tx p (tE tx p) else if isDb (tx.getD p 0) = true then (if 3 < tE tx p - p then 2 else 1000 + nmb tx p (tE tx p - p)) else if (sgI (tx.getD p 0)).isSome = true then tx.getD p 0 else 2
theorem tE_gt {tx : List Nat} {p : Nat} : p < tE tx p := by
  unfold tE
  split
  · have := (rn_ge (tx := tx) (q := isLb) _ (p + 1) (Nat.le_refl _)).1; omega
  · split
    · have := (rn_ge (tx := tx) (q := isDb) _ (p + 1) (Nat.le_refl _)).1; omega
    · omega
theorem tE_le {tx : List Nat} {p : Nat} (h : p < tx.length) : tE tx p ≤ tx.length := by
  unfold tE
  split
  · exact (rn_ge (tx := tx) (q := isLb) _ (p + 1) (Nat.le_refl _)).2 (by omega)
  · split
    · exact (rn_ge (tx := tx) (q := isDb) _ (p + 1) (Nat.le_refl _)).2 (by omega)
    · omega
def tz (tx : List Nat) (p : Nat) : List (Nat × Nat) := if p < tx.length then (if isBk (tx.getD p 0) = true then tz tx (p + 1) else if tT tx p = 2 then [(2, p), (1, tx.length)] else (tT tx p, p) :: tz tx (tE tx p)) else [(1, tx.length)]
  termination_by tx.length - p
  decreasing_by
  · omega
  · have := tE_gt (tx := tx) (p := p)
    omega
theorem tz_e {tx : List Nat} {p : Nat} (h : tx.length ≤ p) : tz tx p = [(1, tx.length)] := by rw [tz, if_neg (by omega)]
theorem tz_b {tx : List Nat} {p : Nat} (h : p < tx.length) (hb : isBk (tx.getD p 0) = true) : tz tx p = tz tx (p + 1) := by rw [tz, if_pos h, if_pos hb]
theorem tz_2 {tx : List Nat} {p : Nat} (h : p < tx.length) (hb : isBk (tx.getD p 0) = false) (h2 : tT tx p = 2) : tz tx p = [(2, p), (1, tx.length)] := by rw [tz, if_pos h, if_neg (by rw [hb]; decide), if_pos h2]
theorem tz_t {tx : List Nat} {p : Nat} (h : p < tx.length) (hb : isBk (tx.getD p 0) = false) (h2 : ¬ tT tx p = 2) : tz tx p = (tT tx p, p) :: tz tx (tE tx p) := by rw [tz, if_pos h, if_neg (by rw [hb]; decide), if_neg h2]
theorem nmb_lt {tx : List Nat} {p : Nat} : ∀ j, (∀ k, k < j → isDb (tx.getD (p + k) 0) = true) → nmb tx p j < 10 ^ j := by
  intro j
  induction j with
  | zero => intro _; exact Nat.one_pos
  | succ j ih =>
    intro h
    have h1 := ih (fun k hk => h k (by omega))
    have h2 := h j (by omega)
    unfold isDb at h2
    rw [Bool.and_eq_true, decide_eq_true_eq, decide_eq_true_eq] at h2
    rw [nmb, Nat.pow_succ]
    omega
theorem rn_in {tx : List Nat} {q : Nat → Bool} : ∀ m p, tx.length - p ≤ m → ∀ k, p ≤ k → k < rn tx q p → q (tx.getD k 0) = true := by
  intro m
  induction m with
  | zero => intro p h k h1 h2; rw [rn_e (by omega)] at h2; omega
  | succ m ih =>
    intro p h k h1 h2
    by_cases z : p < tx.length
    · cases w : q (tx.getD p 0) with
      | true =>
        rw [rn_y z w] at h2
        by_cases y : k = p
        · rw [y]; exact w
        · exact ih (p + 1) (by omega) k (by omega) h2
      | false => rw [rn_n w] at h2; omega
    · rw [rn_e (by omega)] at h2; omega
theorem tT_lt {tx : List Nat} {p : Nat} (hb : ∀ x ∈ tx, x < 256) (hp : p < tx.length) : tT tx p < 2000 := by
  unfold tT
  split
  · unfold wTk
    rcases fi_sp (fun k => wm tx p (tE tx p) (wds.getD k [])) 18 with ⟨j, e, hj, -⟩ | ⟨e, -⟩
    · rw [e]; show 200 + j < 2000; omega
    · rw [e]; decide
  · split
    · split
      · omega
      · rename_i z1 z2 z3
        have e1 : tE tx p = rn tx isDb (p + 1) := by unfold tE; rw [if_neg z1, if_pos z2]
        have hd : ∀ k, k < tE tx p - p → isDb (tx.getD (p + k) 0) = true := fun k hk => by
          by_cases y : k = 0
          · rw [y, Nat.add_zero]; exact z2
          · exact rn_in (tx := tx) (q := isDb) _ (p + 1) (Nat.le_refl _) (p + k) (by omega) (by rw [← e1]; omega)
        have h1 := nmb_lt (tE tx p - p) hd
        have h2 : 10 ^ (tE tx p - p) ≤ 10 ^ 3 := Nat.pow_le_pow_right (by omega) (by omega)
        omega
    · split
      · have := hb _ (gd_mem hp); omega
      · omega
/-! the class: bytes -/
def txA (h : am_H) (tx : List Nat) : Prop := h_r h 2 0 = some 1 ∧ h_i h 2 1 = nI tx.length ∧ tx.length ≤ 900 ∧ (∀ k, k < tx.length → h_i h 1 k = b8 (tx.getD k 0)) ∧ ∀ x ∈ tx, x < 256
theorem b8_255 : ∀ x, x < 256 → b8 x &&& nI 255 = nI x := by decide +kernel
theorem txA.fr {h h' : am_H} {P : Nat → Nat → Prop} {tx : List Nat} (T : txA h tx) (fr : am_fr h h' P) (h1 : ¬ P 2 1) (h2 : ∀ k, ¬ P 1 k) : txA h' tx := ⟨by rw [fr.r]; exact T.1, by rw [fr.i h1]; exact T.2.1, T.2.2.1, fun k hk => by rw [fr.i (h2 k)]; exact T.2.2.2.1 k hk, T.2.2.2.2⟩
theorem b_byteAt24 {d : Nat} {Q : Option am_V → am_H → Prop} {h : am_H} {t0 n : Nat} {s1 : Int32} {l0 l1 : Option am_V} (A : y_arr h t0 21 n) : ex_ d 80 24 [l0, l1] [v_r (some t0), v_i s1] h Q ↔ if nI n ≤ s1 then ex_ d 80 41 [l0, l1] [] h Q else ex_ d 80 28 [l0, l1] [] h Q := by
  unfold ex_
  refine (am_Y_go 2 (ok := [am_an h (some t0)]) (g := (if nI (h_l h t0) ≤ s1 then 41 else 28, [l0, l1], [], h)) rfl).trans ?_
  simp only [am_all]
  rw [lr_l A]
  exact cj_d (lr_an21 A) am_Y_if
theorem c_byteAt {d : Nat} {Q : Option am_V → am_H → Prop} {h : am_H} {tx : List Nat} {k : Nat} (L : Lay h) (T : txA h tx) (hk : k < tx.length) : ex_ d 80 0 [some (v_r (some 2)), some (v_i (nI k))] [] h Q ↔ Q (some (v_i (nI (tx.getD k 0)))) h := by
  obtain ⟨t1, t2, t3, t4, t5⟩ := T
  have A1 : y_arr h 1 21 900 := la_y L rfl
  have ek := t4 k hk
  have b := b8_255 _ (t5 _ (gd_mem hk))
  simp (disch := first | assumption | omega | (simp only [ya_pi, ya_pj, ya_pa, ya_pr, yo_pi, yo_pj, yo_pa, yf_pi, yf_pj, yf_pa, yh_pi, yh_pj, yh_pa, yt_pi, yt_pj, yt_pa, la_pi, la_pj, la_pa]; assumption)) only [b_X8_byteAt_0, b_X8_byteAt_7, b_X8_byteAt_11, b_X8_byteAt_19, b_byteAt24 A1, b_X8_byteAt_28, b_X8_byteAt_33, i_lit, i_m1, i_31, il_t, il_f, iq_t, iq_f, it_t, it_f, im_e, im_l, im_g, im_g2, nI_add, pk_mul, i_sub, i_div, sdm, i_dec, i_cl, iv_t, bI_or2, bI_t0, bI_one, not_true_eq_false, not_false_eq_true, ↓reduceIte, am_tl, am_tn, am_t0, am_n0, and_true, true_and, List.cons_append, List.nil_append, List.append_nil, t1, t2, ek, b, reduceCtorEq]
theorem c_isLetter {d : Nat} {Q : Option am_V → am_H → Prop} {h : am_H} {b : Nat} (hb : b < 256) : ex_ d 81 0 [some (v_i (nI b))] [] h Q ↔ Q (some (v_i (nI (if isLb b = true then 1 else 0)))) h := by
  unfold isLb
  by_cases z : 97 ≤ b
  · by_cases y : b ≤ 122
    · simp (disch := first | assumption | omega | (simp only [ya_pi, ya_pj, ya_pa, ya_pr, yo_pi, yo_pj, yo_pa, yf_pi, yf_pj, yf_pa, yh_pi, yh_pj, yh_pa, yt_pi, yt_pj, yt_pa, la_pi, la_pj, la_pa]; assumption)) only [b_X8_isLetter_0, b_X8_isLetter_16, b_X8_isLetter_6, b_X8_isLetter_12, i_lit, i_m1, i_31, il_t, il_f, iq_t, iq_f, it_t, it_f, im_e, im_l, im_g, im_g2, nI_add, pk_mul, i_sub, i_div, sdm, i_dec, i_cl, iv_t, bI_or2, bI_t0, bI_one, not_true_eq_false, not_false_eq_true, ↓reduceIte, am_tl, am_tn, am_t0, am_n0, and_true, true_and, List.cons_append, List.nil_append, List.append_nil, decide_eq_true z, decide_eq_true y, Bool.and_self]
    · simp (disch := first | assumption | omega | (simp only [ya_pi, ya_pj, ya_pa, ya_pr, yo_pi, yo_pj, yo_pa, yf_pi, yf_pj, yf_pa, yh_pi, yh_pj, yh_pa, yt_pi, yt_pj, yt_pa, la_pi, la_pj, la_pa]; assumption)) only [b_X8_isLetter_0, b_X8_isLetter_16, b_X8_isLetter_6, b_X8_isLetter_12, i_lit, i_m1, i_31, il_t, il_f, iq_t, iq_f, it_t, it_f, im_e, im_l, im_g, im_g2, nI_add, pk_mul, i_sub, i_div, sdm, i_dec, i_cl, iv_t, bI_or2, bI_t0, bI_one, not_true_eq_false, not_false_eq_true, ↓reduceIte, am_tl, am_tn, am_t0, am_n0, and_true, true_and, List.cons_append, List.nil_append, List.append_nil, decide_eq_true z, decide_eq_false y, Bool.and_false, Bool.false_eq_true]
  · simp (disch := first | assumption | omega | (simp only [ya_pi, ya_pj, ya_pa, ya_pr, yo_pi, yo_pj, yo_pa, yf_pi, yf_pj, yf_pa, yh_pi, yh_pj, yh_pa, yt_pi, yt_pj, yt_pa, la_pi, la_pj, la_pa]; assumption)) only [b_X8_isLetter_0, b_X8_isLetter_16, b_X8_isLetter_6, b_X8_isLetter_12, i_lit, i_m1, i_31, il_t, il_f, iq_t, iq_f, it_t, it_f, im_e, im_l, im_g, im_g2, nI_add, pk_mul, i_sub, i_div, sdm, i_dec, i_cl, iv_t, bI_or2, bI_t0, bI_one, not_true_eq_false, not_false_eq_true, ↓reduceIte, am_tl, am_tn, am_t0, am_n0, and_true, true_and, List.cons_append, List.nil_append, List.append_nil, decide_eq_false z, Bool.false_and, Bool.false_eq_true]
theorem c_cDigit {d : Nat} {Q : Option am_V → am_H → Prop} {h : am_H} {b : Nat} (hb : b < 256) : ex_ d 82 0 [some (v_i (nI b))] [] h Q ↔ Q (some (v_i (nI (if isDb b = true then 1 else 0)))) h := by
  unfold isDb
  by_cases z : 48 ≤ b
  · by_cases y : b ≤ 57
    · simp (disch := first | assumption | omega | (simp only [ya_pi, ya_pj, ya_pa, ya_pr, yo_pi, yo_pj, yo_pa, yf_pi, yf_pj, yf_pa, yh_pi, yh_pj, yh_pa, yt_pi, yt_pj, yt_pa, la_pi, la_pj, la_pa]; assumption)) only [b_X8_isDigit_0, b_X8_isDigit_16, b_X8_isDigit_6, b_X8_isDigit_12, i_lit, i_m1, i_31, il_t, il_f, iq_t, iq_f, it_t, it_f, im_e, im_l, im_g, im_g2, nI_add, pk_mul, i_sub, i_div, sdm, i_dec, i_cl, iv_t, bI_or2, bI_t0, bI_one, not_true_eq_false, not_false_eq_true, ↓reduceIte, am_tl, am_tn, am_t0, am_n0, and_true, true_and, List.cons_append, List.nil_append, List.append_nil, decide_eq_true z, decide_eq_true y, Bool.and_self]
    · simp (disch := first | assumption | omega | (simp only [ya_pi, ya_pj, ya_pa, ya_pr, yo_pi, yo_pj, yo_pa, yf_pi, yf_pj, yf_pa, yh_pi, yh_pj, yh_pa, yt_pi, yt_pj, yt_pa, la_pi, la_pj, la_pa]; assumption)) only [b_X8_isDigit_0, b_X8_isDigit_16, b_X8_isDigit_6, b_X8_isDigit_12, i_lit, i_m1, i_31, il_t, il_f, iq_t, iq_f, it_t, it_f, im_e, im_l, im_g, im_g2, nI_add, pk_mul, i_sub, i_div, sdm, i_dec, i_cl, iv_t, bI_or2, bI_t0, bI_one, not_true_eq_false, not_false_eq_true, ↓reduceIte, am_tl, am_tn, am_t0, am_n0, and_true, true_and, List.cons_append, List.nil_append, List.append_nil, decide_eq_true z, decide_eq_false y, Bool.and_false, Bool.false_eq_true]
  · simp (disch := first | assumption | omega | (simp only [ya_pi, ya_pj, ya_pa, ya_pr, yo_pi, yo_pj, yo_pa, yf_pi, yf_pj, yf_pa, yh_pi, yh_pj, yh_pa, yt_pi, yt_pj, yt_pa, la_pi, la_pj, la_pa]; assumption)) only [b_X8_isDigit_0, b_X8_isDigit_16, b_X8_isDigit_6, b_X8_isDigit_12, i_lit, i_m1, i_31, il_t, il_f, iq_t, iq_f, it_t, it_f, im_e, im_l, im_g, im_g2, nI_add, pk_mul, i_sub, i_div, sdm, i_dec, i_cl, iv_t, bI_or2, bI_t0, bI_one, not_true_eq_false, not_false_eq_true, ↓reduceIte, am_tl, am_tn, am_t0, am_n0, and_true, true_and, List.cons_append, List.nil_append, List.append_nil, decide_eq_false z, Bool.false_and, Bool.false_eq_true]
theorem LD {b : Nat} (h : isLb b = true) : isDb b = false := by
  unfold isLb at h
  rw [Bool.and_eq_true, decide_eq_true_eq, decide_eq_true_eq] at h
  unfold isDb
  rw [decide_eq_false (show ¬ b ≤ 57 by omega), Bool.and_false]
theorem c_tokenEnd {d : Nat} {Q : Option am_V → am_H → Prop} {h : am_H} {tx : List Nat} {p : Nat} (L : Lay h) (T : txA h tx) (hp : p < tx.length) {l2 l3 : Option am_V} : ex_ (d + 1) 83 0 [some (v_r (some 2)), some (v_i (nI p)), l2, l3] [] h Q ↔ Q (some (v_i (nI (if isBk (tx.getD p 0) = true then p else tE tx p)))) h := by
  have t2 := T.2.1
  have t3 := T.2.2.1
  have b := T.2.2.2.2 _ (gd_mem hp)
  apply ex_iff
  simp (disch := first | assumption | omega | (simp only [ya_pi, ya_pj, ya_pa, ya_pr, yo_pi, yo_pj, yo_pa, yf_pi, yf_pj, yf_pa, yh_pi, yh_pj, yh_pa, yt_pi, yt_pj, yt_pa, la_pi, la_pj, la_pa]; assumption)) only [b_X8_tokenEnd_0, b_X8_tokenEnd_5, b_X8_tokenEnd_12, b_X8_tokenEnd_18, b_X8_tokenEnd_20, i_lit, i_m1, i_31, il_t, il_f, iq_t, iq_f, it_t, it_f, im_e, im_l, im_g, im_g2, nI_add, pk_mul, i_sub, i_div, sdm, i_dec, i_cl, iv_t, bI_or2, bI_t0, bI_one, not_true_eq_false, not_false_eq_true, ↓reduceIte, am_tl, am_tn, am_t0, am_n0, and_true, true_and, List.cons_append, List.nil_append, List.append_nil, c_byteAt L T hp]
  generalize hb : tx.getD p 0 = b0 at b
  by_cases z : b0 = 32
  · subst z
    have : isBk 32 = true := rfl
    simp (disch := first | assumption | omega | (simp only [ya_pi, ya_pj, ya_pa, ya_pr, yo_pi, yo_pj, yo_pa, yf_pi, yf_pj, yf_pa, yh_pi, yh_pj, yh_pa, yt_pi, yt_pj, yt_pa, la_pi, la_pj, la_pa]; assumption)) only [i_lit, i_m1, i_31, il_t, il_f, iq_t, iq_f, it_t, it_f, im_e, im_l, im_g, im_g2, nI_add, pk_mul, i_sub, i_div, sdm, i_dec, i_cl, iv_t, bI_or2, bI_t0, bI_one, not_true_eq_false, not_false_eq_true, ↓reduceIte, am_tl, am_tn, am_t0, am_n0, and_true, true_and, List.cons_append, List.nil_append, List.append_nil, this]
  · by_cases y : b0 = 10
    · subst y
      have : isBk 10 = true := rfl
      simp (disch := first | assumption | omega | (simp only [ya_pi, ya_pj, ya_pa, ya_pr, yo_pi, yo_pj, yo_pa, yf_pi, yf_pj, yf_pa, yh_pi, yh_pj, yh_pa, yt_pi, yt_pj, yt_pa, la_pi, la_pj, la_pa]; assumption)) only [i_lit, i_m1, i_31, il_t, il_f, iq_t, iq_f, it_t, it_f, im_e, im_l, im_g, im_g2, nI_add, pk_mul, i_sub, i_div, sdm, i_dec, i_cl, iv_t, bI_or2, bI_t0, bI_one, not_true_eq_false, not_false_eq_true, ↓reduceIte, am_tl, am_tn, am_t0, am_n0, and_true, true_and, List.cons_append, List.nil_append, List.append_nil, this]
    · have nb : isBk b0 = false := by unfold isBk; rw [beq_eq_false_iff_ne.2 z, beq_eq_false_iff_ne.2 y]; rfl
      simp (disch := first | assumption | omega | (simp only [ya_pi, ya_pj, ya_pa, ya_pr, yo_pi, yo_pj, yo_pa, yf_pi, yf_pj, yf_pa, yh_pi, yh_pj, yh_pa, yt_pi, yt_pj, yt_pa, la_pi, la_pj, la_pa]; assumption)) only [i_lit, i_m1, i_31, il_t, il_f, iq_t, iq_f, it_t, it_f, im_e, im_l, im_g, im_g2, nI_add, pk_mul, i_sub, i_div, sdm, i_dec, i_cl, iv_t, bI_or2, bI_t0, bI_one, not_true_eq_false, not_false_eq_true, ↓reduceIte, am_tl, am_tn, am_t0, am_n0, and_true, true_and, List.cons_append, List.nil_append, List.append_nil, nb, Bool.false_eq_true]
      unfold tE
      rw [hb]
      -- the run of like bytes
      have run : ∀ q : Nat → Bool, ∀ e, (∀ k, k < tx.length → ∀ (h' : am_H) (Q : Option am_V → am_H → Prop), h' = h → (ex_ (d + 1) 83 32 [some (v_r (some 2)), some (v_i (nI p)), some (v_i (nI b0)), some (v_i (nI k))] [] h' Q ↔ if q (tx.getD k 0) = true then ex_ (d + 1) 83 24 [some (v_r (some 2)), some (v_i (nI p)), some (v_i (nI b0)), some (v_i (nI (k + 1)))] [] h' Q else Q (some (v_i (nI k))) h')) → e = rn tx q (p + 1) → ex_ (d + 1) 83 24 [some (v_r (some 2)), some (v_i (nI p)), some (v_i (nI b0)), some (v_i (nI (p + 1)))] [] h (fun r h' => r = some (v_i (nI e)) ∧ h' = h) := by
        intro q e st he
        refine lp_wf (fun k : Nat => tx.length - k) (fun k => [some (v_r (some 2)), some (v_i (nI p)), some (v_i (nI b0)), some (v_i (nI k))]) (fun k h' => h' = h ∧ p < k ∧ k ≤ tx.length ∧ e = rn tx q k) ?_ (s := p + 1) ⟨rfl, by omega, by omega, he⟩
        rintro k h' ⟨rfl, hpk, hk, ek⟩ nx
        rw [b_X8_tokenEnd_24 _ _ _ _ L]
        by_cases w : k < tx.length
        · simp (disch := first | assumption | omega | (simp only [ya_pi, ya_pj, ya_pa, ya_pr, yo_pi, yo_pj, yo_pa, yf_pi, yf_pj, yf_pa, yh_pi, yh_pj, yh_pa, yt_pi, yt_pj, yt_pa, la_pi, la_pj, la_pa]; assumption)) only [i_lit, i_m1, i_31, il_t, il_f, iq_t, iq_f, it_t, it_f, im_e, im_l, im_g, im_g2, nI_add, pk_mul, i_sub, i_div, sdm, i_dec, i_cl, iv_t, bI_or2, bI_t0, bI_one, not_true_eq_false, not_false_eq_true, ↓reduceIte, am_tl, am_tn, am_t0, am_n0, and_true, true_and, List.cons_append, List.nil_append, List.append_nil, t2]
          rw [st k w h' _ rfl]
          cases u : q (tx.getD k 0) with
          | true =>
            rw [if_pos rfl]
            exact nx (k + 1) h' (by omega) ⟨rfl, by omega, by omega, by rw [ek, rn_y w u]⟩
          | false =>
            rw [if_neg (by decide)]
            rw [rn_n u] at ek
            rw [ek]
            exact ⟨rfl, rfl⟩
        · rw [rn_e (by omega)] at ek
          have w' : tx.length ≤ k := by omega
          simp (disch := first | assumption | omega | (simp only [ya_pi, ya_pj, ya_pa, ya_pr, yo_pi, yo_pj, yo_pa, yf_pi, yf_pj, yf_pa, yh_pi, yh_pj, yh_pa, yt_pi, yt_pj, yt_pa, la_pi, la_pj, la_pa]; assumption)) only [b_X8_tokenEnd_74, i_lit, i_m1, i_31, il_t, il_f, iq_t, iq_f, it_t, it_f, im_e, im_l, im_g, im_g2, nI_add, pk_mul, i_sub, i_div, sdm, i_dec, i_cl, iv_t, bI_or2, bI_t0, bI_one, not_true_eq_false, not_false_eq_true, ↓reduceIte, am_tl, am_tn, am_t0, am_n0, and_true, true_and, List.cons_append, List.nil_append, List.append_nil, t2, ek]
      by_cases lb : isLb b0 = true
      · rw [if_pos lb]
        refine run isLb _ (fun k hk h' Q e => ?_) rfl
        subst e
        have bk := T.2.2.2.2 _ (gd_mem hk)
        have db := LD lb
        cases u : isLb (tx.getD k 0) with
        | true => simp (disch := first | assumption | omega | (simp only [ya_pi, ya_pj, ya_pa, ya_pr, yo_pi, yo_pj, yo_pa, yf_pi, yf_pj, yf_pa, yh_pi, yh_pj, yh_pa, yt_pi, yt_pj, yt_pa, la_pi, la_pj, la_pa]; assumption)) only [b_X8_tokenEnd_32, b_X8_tokenEnd_36, b_X8_tokenEnd_39, b_X8_tokenEnd_44, b_X8_tokenEnd_47, b_X8_tokenEnd_68, i_lit, i_m1, i_31, il_t, il_f, iq_t, iq_f, it_t, it_f, im_e, im_l, im_g, im_g2, nI_add, pk_mul, i_sub, i_div, sdm, i_dec, i_cl, iv_t, bI_or2, bI_t0, bI_one, not_true_eq_false, not_false_eq_true, ↓reduceIte, am_tl, am_tn, am_t0, am_n0, and_true, true_and, List.cons_append, List.nil_append, List.append_nil, c_isLetter b, lb, c_byteAt L T hk, c_isLetter bk, u]
        | false => simp (disch := first | assumption | omega | (simp only [ya_pi, ya_pj, ya_pa, ya_pr, yo_pi, yo_pj, yo_pa, yf_pi, yf_pj, yf_pa, yh_pi, yh_pj, yh_pa, yt_pi, yt_pj, yt_pa, la_pi, la_pj, la_pa]; assumption)) only [b_X8_tokenEnd_32, b_X8_tokenEnd_36, b_X8_tokenEnd_39, b_X8_tokenEnd_44, b_X8_tokenEnd_47, b_X8_tokenEnd_50, b_X8_tokenEnd_54, b_X8_tokenEnd_74, i_lit, i_m1, i_31, il_t, il_f, iq_t, iq_f, it_t, it_f, im_e, im_l, im_g, im_g2, nI_add, pk_mul, i_sub, i_div, sdm, i_dec, i_cl, iv_t, bI_or2, bI_t0, bI_one, not_true_eq_false, not_false_eq_true, ↓reduceIte, am_tl, am_tn, am_t0, am_n0, and_true, true_and, List.cons_append, List.nil_append, List.append_nil, c_isLetter b, lb, c_byteAt L T hk, c_isLetter bk, u, c_cDigit b, db, Bool.false_eq_true]
      · rw [if_neg lb]
        have lf : isLb b0 = false := by simpa using lb
        by_cases dbb : isDb b0 = true
        · rw [if_pos dbb]
          refine run isDb _ (fun k hk h' Q e => ?_) rfl
          subst e
          have bk := T.2.2.2.2 _ (gd_mem hk)
          cases u : isDb (tx.getD k 0) with
          | true => simp (disch := first | assumption | omega | (simp only [ya_pi, ya_pj, ya_pa, ya_pr, yo_pi, yo_pj, yo_pa, yf_pi, yf_pj, yf_pa, yh_pi, yh_pj, yh_pa, yt_pi, yt_pj, yt_pa, la_pi, la_pj, la_pa]; assumption)) only [b_X8_tokenEnd_32, b_X8_tokenEnd_36, b_X8_tokenEnd_50, b_X8_tokenEnd_54, b_X8_tokenEnd_57, b_X8_tokenEnd_62, b_X8_tokenEnd_65, b_X8_tokenEnd_68, i_lit, i_m1, i_31, il_t, il_f, iq_t, iq_f, it_t, it_f, im_e, im_l, im_g, im_g2, nI_add, pk_mul, i_sub, i_div, sdm, i_dec, i_cl, iv_t, bI_or2, bI_t0, bI_one, not_true_eq_false, not_false_eq_true, ↓reduceIte, am_tl, am_tn, am_t0, am_n0, and_true, true_and, List.cons_append, List.nil_append, List.append_nil, c_isLetter b, lf, c_byteAt L T hk, c_cDigit b, dbb, c_cDigit bk, u, Bool.false_eq_true]
          | false => simp (disch := first | assumption | omega | (simp only [ya_pi, ya_pj, ya_pa, ya_pr, yo_pi, yo_pj, yo_pa, yf_pi, yf_pj, yf_pa, yh_pi, yh_pj, yh_pa, yt_pi, yt_pj, yt_pa, la_pi, la_pj, la_pa]; assumption)) only [b_X8_tokenEnd_32, b_X8_tokenEnd_36, b_X8_tokenEnd_50, b_X8_tokenEnd_54, b_X8_tokenEnd_57, b_X8_tokenEnd_62, b_X8_tokenEnd_65, b_X8_tokenEnd_74, i_lit, i_m1, i_31, il_t, il_f, iq_t, iq_f, it_t, it_f, im_e, im_l, im_g, im_g2, nI_add, pk_mul, i_sub, i_div, sdm, i_dec, i_cl, iv_t, bI_or2, bI_t0, bI_one, not_true_eq_false, not_false_eq_true, ↓reduceIte, am_tl, am_tn, am_t0, am_n0, and_true, true_and, List.cons_append, List.nil_append, List.append_nil, c_isLetter b, lf, c_byteAt L T hk, c_cDigit b, dbb, c_cDigit bk, u, Bool.false_eq_true]
        · rw [if_neg dbb]
          have df : isDb b0 = false := by simpa using dbb
          refine run (fun _ => false) _ (fun k hk h' Q e => ?_) (by rw [rn_n rfl])
          subst e
          simp (disch := first | assumption | omega | (simp only [ya_pi, ya_pj, ya_pa, ya_pr, yo_pi, yo_pj, yo_pa, yf_pi, yf_pj, yf_pa, yh_pi, yh_pj, yh_pa, yt_pi, yt_pj, yt_pa, la_pi, la_pj, la_pa]; assumption)) only [b_X8_tokenEnd_32, b_X8_tokenEnd_36, b_X8_tokenEnd_50, b_X8_tokenEnd_54, b_X8_tokenEnd_74, i_lit, i_m1, i_31, il_t, il_f, iq_t, iq_f, it_t, it_f, im_e, im_l, im_g, im_g2, nI_add, pk_mul, i_sub, i_div, sdm, i_dec, i_cl, iv_t, bI_or2, bI_t0, bI_one, not_true_eq_false, not_false_eq_true, ↓reduceIte, am_tl, am_tn, am_t0, am_n0, and_true, true_and, List.cons_append, List.nil_append, List.append_nil, c_isLetter b, lf, c_cDigit b, df, Bool.false_eq_true]
