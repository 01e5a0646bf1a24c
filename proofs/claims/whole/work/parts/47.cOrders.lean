/-! ===== the class's Orders ===== -/
theorem yo_pi {h : am_H} {a k o : Nat} {v : Int32} : y_Orders (p_i h a k v) o = y_Orders h o := rfl
theorem yo_pj {h : am_H} {a k o : Nat} {v : Int64} : y_Orders (p_j h a k v) o = y_Orders h o := rfl
theorem yo_pa {h : am_H} {a o : Nat} {f : Nat → Int32} : y_Orders (p_a h a f) o = y_Orders h o := rfl
theorem yf_pi {h : am_H} {a k o : Nat} {v : Int32} : y_Facts (p_i h a k v) o = y_Facts h o := rfl
theorem yf_pj {h : am_H} {a k o : Nat} {v : Int64} : y_Facts (p_j h a k v) o = y_Facts h o := rfl
theorem yf_pa {h : am_H} {a o : Nat} {f : Nat → Int32} : y_Facts (p_a h a f) o = y_Facts h o := rfl
theorem yh_pi {h : am_H} {a k o : Nat} {v : Int32} : y_House (p_i h a k v) o = y_House h o := rfl
theorem yh_pj {h : am_H} {a k o : Nat} {v : Int64} : y_House (p_j h a k v) o = y_House h o := rfl
theorem yh_pa {h : am_H} {a o : Nat} {f : Nat → Int32} : y_House (p_a h a f) o = y_House h o := rfl
theorem yt_pi {h : am_H} {a k o : Nat} {v : Int32} : y_Tray (p_i h a k v) o = y_Tray h o := rfl
theorem yt_pj {h : am_H} {a k o : Nat} {v : Int64} : y_Tray (p_j h a k v) o = y_Tray h o := rfl
theorem yt_pa {h : am_H} {a o : Nat} {f : Nat → Int32} : y_Tray (p_a h a f) o = y_Tray h o := rfl
theorem ya_pi {h : am_H} {a k o t n : Nat} {v : Int32} : y_arr (p_i h a k v) o t n = y_arr h o t n := rfl
theorem ya_pj {h : am_H} {a k o t n : Nat} {v : Int64} : y_arr (p_j h a k v) o t n = y_arr h o t n := rfl
theorem ya_pa {h : am_H} {a o t n : Nat} {f : Nat → Int32} : y_arr (p_a h a f) o t n = y_arr h o t n := rfl
theorem ya_pr {h : am_H} {a k o t n : Nat} {v : Option Nat} : y_arr (p_r h a k v) o t n = y_arr h o t n := rfl
theorem la_pi {h : am_H} {a k : Nat} {v : Int32} : Lay (p_i h a k v) = Lay h := rfl
theorem la_pj {h : am_H} {a k : Nat} {v : Int64} : Lay (p_j h a k v) = Lay h := rfl
theorem la_pa {h : am_H} {a : Nat} {f : Nat → Int32} : Lay (p_a h a f) = Lay h := rfl
theorem ior0 (x : Int32) : x ||| nI 0 = x := Int32.or_zero
theorem iand0 (x : Int32) : x &&& nI 0 = nI 0 := Int32.and_zero
theorem bI_andn (P R : Nat → Bool) : nI (bs P) &&& (nI (bs R) ^^^ mI) = nI (bs (fun k => P k && !R k)) := by
  apply Int32.toBitVec_inj.1
  show BitVec.ofNat 32 (bs P) &&& (BitVec.ofNat 32 (bs R) ^^^ BitVec.allOnes 32) = BitVec.ofNat 32 (bs (fun k => P k && !R k))
  apply BitVec.eq_of_getLsbD_eq
  intro i hi
  rw [BitVec.getLsbD_and, BitVec.getLsbD_xor, BitVec.getLsbD_ofNat, BitVec.getLsbD_ofNat, BitVec.getLsbD_ofNat, BitVec.getLsbD_allOnes]
  by_cases h16 : i < 16
  · rw [bs_tb h16, bs_tb h16, bs_tb h16]
    simp [hi]
  · rw [bs_big (by omega), bs_big (P := fun k => P k && !R k) (by omega)]
    simp
/-- what stands of class c: its state, its order -/
def or_row (h : am_H) (o c : Nat) (v : Nat × List Nat) : Prop := h_i h (o + 1) c = nI v.1 ∧ h_i h (o + 2) c = nI v.2.length ∧ ro h (o + 3) (11 * c) v.2
def or_at (h : am_H) (o : Nat) (T : od_T) (n : Nat) : Prop := y_Orders h o ∧ ∀ c, c < n → or_row h o c (T c)
/-- the rows that are merged -/
def mr (h : am_H) (o r : Nat) (R : List Nat) : Prop := ∃ t, t + R.length ≤ 11 ∧ h_i h (o + 7) r = nI t ∧ h_i h (o + 6) r = nI (t + R.length) ∧ ro h (o + 5) (11 * r + t) R ∧ h_i h (o + 8) r = oI R.head? ∧ h_i h (o + 9) r = nI (bs (fun x => decide (x ∈ R.tail)))
def or_M (o a k : Nat) : Prop := o + 5 ≤ a ∧ a ≤ o + 9
def or_W (o r a k : Nat) : Prop := (a = o + 5 ∧ 11 * r ≤ k ∧ k < 11 * r + 11) ∨ (o + 6 ≤ a ∧ a ≤ o + 9 ∧ k = r)
def or_P (o c a k : Nat) : Prop := (a = o + 1 ∧ k = c) ∨ (a = o + 2 ∧ k = c) ∨ (a = o + 3 ∧ 11 * c ≤ k ∧ k < 11 * c + 11) ∨ (o + 5 ≤ a ∧ a ≤ o + 9)
theorem mr.fr {h h' : am_H} {P : Nat → Nat → Prop} (fr : am_fr h h' P) {o r : Nat} {R : List Nat} (m : mr h o r R) (hp : ∀ k, k < 11 → ¬ P (o + 5) (11 * r + k)) (hq : ∀ a, o + 6 ≤ a → a ≤ o + 9 → ¬ P a r) : mr h' o r R := by
  obtain ⟨t, h1, h2, h3, h4, h5, h6⟩ := m
  refine ⟨t, h1, ?_, ?_, fr.ro h4 (fun k hk => ?_), ?_, ?_⟩
  · rw [fr.i (hq _ (by omega) (by omega)), h2]
  · rw [fr.i (hq _ (by omega) (by omega)), h3]
  · rw [Nat.add_assoc]
    exact hp _ (by omega)
  · rw [fr.i (hq _ (by omega) (by omega)), h5]
  · rw [fr.i (hq _ (by omega) (by omega)), h6]
theorem or_row.fr {h h' : am_H} {P : Nat → Nat → Prop} (fr : am_fr h h' P) {o c : Nat} {v : Nat × List Nat} (m : or_row h o c v) (hl : v.2.length ≤ 11) (h1 : ¬ P (o + 1) c) (h2 : ¬ P (o + 2) c) (h3 : ∀ k, k < 11 → ¬ P (o + 3) (11 * c + k)) : or_row h' o c v := by
  obtain ⟨m1, m2, m3⟩ := m
  exact ⟨by rw [fr.i h1, m1], by rw [fr.i h2, m2], fr.ro m3 (fun k hk => h3 k (by omega))⟩
theorem c_sizeOf {d : Nat} {Q : Option am_V → am_H → Prop} {h : am_H} {o c : Nat} {v : Nat × List Nat} (F0 : y_Orders h o) (m : or_row h o c v) (hc : c < 11) : ex_ d 9 0 [some (v_r (some o)), some (v_i (nI c))] [] h Q ↔ Q (some (v_i (nI v.2.length))) h := by
  have m2 := m.2.1
  simp (disch := first | assumption | omega | (simp only [ya_pi, ya_pj, ya_pa, ya_pr, yo_pi, yo_pj, yo_pa, yf_pi, yf_pj, yf_pa, yh_pi, yh_pj, yh_pa, yt_pi, yt_pj, yt_pa, la_pi, la_pj, la_pa]; assumption)) only [b_X6_sizeOf_0, b_X6_sizeOf_19, b_X6_sizeOf_4, b_X6_sizeOf_10, i_lit, i_m1, i_31, il_t, il_f, iq_t, iq_f, it_t, it_f, im_e, im_l, im_g, im_g2, nI_add, pk_mul, i_sub, i_div, sdm, i_dec, i_cl, iv_t, bI_or2, bI_t0, bI_one, not_true_eq_false, not_false_eq_true, ↓reduceIte, am_tl, am_tn, am_t0, am_n0, and_true, true_and, List.cons_append, List.nil_append, List.append_nil, m2]
theorem c_stateOf {d : Nat} {Q : Option am_V → am_H → Prop} {h : am_H} {o c : Nat} {v : Nat × List Nat} (F0 : y_Orders h o) (m : or_row h o c v) (hc : c < 11) : ex_ d 71 0 [some (v_r (some o)), some (v_i (nI c))] [] h Q ↔ Q (some (v_i (nI v.1))) h := by
  have m2 := m.1
  simp (disch := first | assumption | omega | (simp only [ya_pi, ya_pj, ya_pa, ya_pr, yo_pi, yo_pj, yo_pa, yf_pi, yf_pj, yf_pa, yh_pi, yh_pj, yh_pa, yt_pi, yt_pj, yt_pa, la_pi, la_pj, la_pa]; assumption)) only [b_X6_stateOf_0, b_X6_stateOf_19, b_X6_stateOf_4, b_X6_stateOf_10, i_lit, i_m1, i_31, il_t, il_f, iq_t, iq_f, it_t, it_f, im_e, im_l, im_g, im_g2, nI_add, pk_mul, i_sub, i_div, sdm, i_dec, i_cl, iv_t, bI_or2, bI_t0, bI_one, not_true_eq_false, not_false_eq_true, ↓reduceIte, am_tl, am_tn, am_t0, am_n0, and_true, true_and, List.cons_append, List.nil_append, List.append_nil, m2]
theorem c_at {d : Nat} {Q : Option am_V → am_H → Prop} {h : am_H} {o c i : Nat} {v : Nat × List Nat} (F0 : y_Orders h o) (m : or_row h o c v) (hc : c < 11) (hi : i < v.2.length) (hl : v.2.length ≤ 11) : ex_ d 10 0 [some (v_r (some o)), some (v_i (nI c)), some (v_i (nI i))] [] h Q ↔ Q (some (v_i (nI (v.2.getD i 0)))) h := by
  have m2 := m.2.1
  have m3 := m.2.2 i hi
  rw [show 11 * c + i = c * 11 + i from by omega] at m3
  simp (disch := first | assumption | omega | (simp only [ya_pi, ya_pj, ya_pa, ya_pr, yo_pi, yo_pj, yo_pa, yf_pi, yf_pj, yf_pa, yh_pi, yh_pj, yh_pa, yt_pi, yt_pj, yt_pa, la_pi, la_pj, la_pa]; assumption)) only [b_X6_at_0, b_X6_at_44, b_X6_at_4, b_X6_at_10, b_X6_at_14, b_X6_at_24, b_X6_at_30, i_lit, i_m1, i_31, il_t, il_f, iq_t, iq_f, it_t, it_f, im_e, im_l, im_g, im_g2, nI_add, pk_mul, i_sub, i_div, sdm, i_dec, i_cl, iv_t, bI_or2, bI_t0, bI_one, not_true_eq_false, not_false_eq_true, ↓reduceIte, am_tl, am_tn, am_t0, am_n0, and_true, true_and, List.cons_append, List.nil_append, List.append_nil, m2, m3]
theorem c_at_none {d : Nat} {Q : Option am_V → am_H → Prop} {h : am_H} {o c i : Nat} {v : Nat × List Nat} (F0 : y_Orders h o) (m : or_row h o c v) (hc : c < 11) (hi : v.2.length ≤ i) (hi2 : i < 2147483648) : ex_ d 10 0 [some (v_r (some o)), some (v_i (nI c)), some (v_i (nI i))] [] h Q ↔ Q (some (v_i mI)) h := by
  have m2 := m.2.1
  simp (disch := first | assumption | omega | (simp only [ya_pi, ya_pj, ya_pa, ya_pr, yo_pi, yo_pj, yo_pa, yf_pi, yf_pj, yf_pa, yh_pi, yh_pj, yh_pa, yt_pi, yt_pj, yt_pa, la_pi, la_pj, la_pa]; assumption)) only [b_X6_at_0, b_X6_at_44, b_X6_at_4, b_X6_at_10, b_X6_at_14, b_X6_at_24, b_X6_at_30, i_lit, i_m1, i_31, il_t, il_f, iq_t, iq_f, it_t, it_f, im_e, im_l, im_g, im_g2, nI_add, pk_mul, i_sub, i_div, sdm, i_dec, i_cl, iv_t, bI_or2, bI_t0, bI_one, not_true_eq_false, not_false_eq_true, ↓reduceIte, am_tl, am_tn, am_t0, am_n0, and_true, true_and, List.cons_append, List.nil_append, List.append_nil, m2]
theorem c_hasOrder_y {d : Nat} {Q : Option am_V → am_H → Prop} {h : am_H} {o c : Nat} {v : Nat × List Nat} (F0 : y_Orders h o) (m : or_row h o c v) (hc : c < 11) (hv : ¬ v.2 = []) (hl : v.2.length ≤ 11) : ex_ d 47 0 [some (v_r (some o)), some (v_i (nI c))] [] h Q ↔ Q (some (v_i (nI 1))) h := by
  have m2 := m.2.1
  have h0 : 0 < v.2.length := List.length_pos_iff.2 hv
  simp (disch := first | assumption | omega | (simp only [ya_pi, ya_pj, ya_pa, ya_pr, yo_pi, yo_pj, yo_pa, yf_pi, yf_pj, yf_pa, yh_pi, yh_pj, yh_pa, yt_pi, yt_pj, yt_pa, la_pi, la_pj, la_pa]; assumption)) only [b_X6_hasOrder_0, b_X6_hasOrder_23, b_X6_hasOrder_4, b_X6_hasOrder_10, b_X6_hasOrder_19, i_lit, i_m1, i_31, il_t, il_f, iq_t, iq_f, it_t, it_f, im_e, im_l, im_g, im_g2, nI_add, pk_mul, i_sub, i_div, sdm, i_dec, i_cl, iv_t, bI_or2, bI_t0, bI_one, not_true_eq_false, not_false_eq_true, ↓reduceIte, am_tl, am_tn, am_t0, am_n0, and_true, true_and, List.cons_append, List.nil_append, List.append_nil, m2]
theorem c_hasOrder_n {d : Nat} {Q : Option am_V → am_H → Prop} {h : am_H} {o c : Nat} {v : Nat × List Nat} (F0 : y_Orders h o) (m : or_row h o c v) (hc : c < 11) (hv : v.2 = []) : ex_ d 47 0 [some (v_r (some o)), some (v_i (nI c))] [] h Q ↔ Q (some (v_i (nI 0))) h := by
  have m2 := m.2.1
  rw [hv] at m2
  simp (disch := first | assumption | omega | (simp only [ya_pi, ya_pj, ya_pa, ya_pr, yo_pi, yo_pj, yo_pa, yf_pi, yf_pj, yf_pa, yh_pi, yh_pj, yh_pa, yt_pi, yt_pj, yt_pa, la_pi, la_pj, la_pa]; assumption)) only [b_X6_hasOrder_0, b_X6_hasOrder_23, b_X6_hasOrder_4, b_X6_hasOrder_10, b_X6_hasOrder_19, i_lit, i_m1, i_31, il_t, il_f, iq_t, iq_f, it_t, it_f, im_e, im_l, im_g, im_g2, nI_add, pk_mul, i_sub, i_div, sdm, i_dec, i_cl, iv_t, bI_or2, bI_t0, bI_one, not_true_eq_false, not_false_eq_true, ↓reduceIte, am_tl, am_tn, am_t0, am_n0, and_true, true_and, List.cons_append, List.nil_append, List.append_nil, m2, List.length_nil]
theorem tk_s {R : List Nat} {i : Nat} (h : i < R.length) : R.take (i + 1) = R.take i ++ [R.getD i 0] := by
  rw [List.take_succ, List.getD_eq_getElem?_getD, List.getElem?_eq_getElem h]
  rfl
theorem tk_l {R : List Nat} {i : Nat} (h : i ≤ R.length) : (R.take i).length = i := by rw [List.length_take]; omega
theorem tk_t {R : List Nat} {i : Nat} (h : i < R.length) (h0 : 0 < i) : (R.take (i + 1)).tail = (R.take i).tail ++ [R.getD i 0] := by
  rw [tk_s h]
  have : R.take i ≠ [] := fun e => by
    have := tk_l (R := R) (i := i) (by omega)
    rw [e] at this
    simp at this
    omega
  exact List.tail_append_of_ne_nil this
theorem c_layRows {d : Nat} {Q : Option am_V → am_H → Prop} {h : am_H} {o q : Nat} {T : od_T} {ps : List Nat} (F0 : y_Orders h o) (h4 : ps.length ≤ 4) (A : y_arr h q 20 4) (rq : ro h q 0 ps) (hq : q < o + 5 ∨ o + 10 ≤ q) (TO : ∀ p ∈ ps, p < 10 ∧ or_row h o p (T p) ∧ (T p).2.length ≤ 10 ∧ ∀ x ∈ (T p).2, x < 10) {l3 l4 l5 l6 : Option am_V} (k : ∀ h', am_fr h h' (or_M o) → (∀ r, r ≤ ps.length → mr h' o r (od_R T ps r)) → Q none h') : ex_ (d + 1) 48 0 [some (v_r (some o)), some (v_r (some q)), some (v_i (nI ps.length)), l3, l4, l5, l6] [] h Q := by
  rw [b_X6_layRows_0]
  refine lp_up (ps.length + 1) (fun r (s : Option am_V × Option am_V × Option am_V) => [some (v_r (some o)), some (v_r (some q)), some (v_i (nI ps.length)), some (v_i (nI r)), s.1, s.2.1, s.2.2]) (fun r _ h' => am_fr h h' (or_M o) ∧ ∀ k, k < r → mr h' o k (od_R T ps k)) ?_ ?_ (Nat.zero_le _) ⟨am_fr.rf, fun k hk => absurd hk (Nat.not_lt_zero _)⟩ (s := (l4, l5, l6))
  · rintro r ⟨l4, l5, l6⟩ h' hr ⟨fr, ms⟩ nx
    dsimp only
    have F1 : y_Orders h' o := fr.orders F0
    have A1 : y_arr h' q 20 4 := fr.c A
    have rq1 : ro h' q 0 ps := fr.ro rq (fun k _ z => by unfold or_M at z; omega)
    have hR : (od_R T ps r).length ≤ 10 ∧ ∀ x ∈ od_R T ps r, x < 10 := by
      unfold od_R
      split
      · rename_i z
        exact (TO _ (gd_mem z)).2.2
      · rw [if_pos (show r = ps.length by omega)]
        exact ⟨by omega, fun x hx => (TO x hx).1⟩
    generalize hRe : od_R T ps r = R at hR
    have key : ∀ l6, ex_ (d + 1) 48 60 [some (v_r (some o)), some (v_r (some q)), some (v_i (nI ps.length)), some (v_i (nI r)), some (v_i (nI R.length)), some (v_i (nI 0)), l6] [] (p_i (p_i (p_i h' (o + 6) r (nI R.length)) (o + 7) r (nI 0)) (o + 9) r (nI 0)) Q := by
      intro l6
      refine lp_up R.length (fun i (l6 : Option am_V) => [some (v_r (some o)), some (v_r (some q)), some (v_i (nI ps.length)), some (v_i (nI r)), some (v_i (nI R.length)), some (v_i (nI i)), l6]) (fun i _ h2 => am_fr h' h2 (or_W o r) ∧ h_i h2 (o + 6) r = nI R.length ∧ h_i h2 (o + 7) r = nI 0 ∧ ro h2 (o + 5) (11 * r) (R.take i) ∧ h_i h2 (o + 9) r = nI (bs (fun x => decide (x ∈ (R.take i).tail)))) ?_ ?_ (Nat.zero_le _) ⟨((am_fr_pi (by unfold or_W; omega)).pi (by unfold or_W; omega)).pi (by unfold or_W; omega), by simp (disch := first | assumption | omega | (simp only [ya_pi, ya_pj, ya_pa, ya_pr, yo_pi, yo_pj, yo_pa, yf_pi, yf_pj, yf_pa, yh_pi, yh_pj, yh_pa, yt_pi, yt_pj, yt_pa, la_pi, la_pj, la_pa]; assumption)) only [hi_s, hi_o, hi_k, hr_pi, hj_pi, hn_pi, hi_pas, hi_pao, hr_pa, hj_pa], by simp (disch := first | assumption | omega | (simp only [ya_pi, ya_pj, ya_pa, ya_pr, yo_pi, yo_pj, yo_pa, yf_pi, yf_pj, yf_pa, yh_pi, yh_pj, yh_pa, yt_pi, yt_pj, yt_pa, la_pi, la_pj, la_pa]; assumption)) only [hi_s, hi_o, hi_k, hr_pi, hj_pi, hn_pi, hi_pas, hi_pao, hr_pa, hj_pa], ro_nil, by simp (disch := first | assumption | omega | (simp only [ya_pi, ya_pj, ya_pa, ya_pr, yo_pi, yo_pj, yo_pa, yf_pi, yf_pj, yf_pa, yh_pi, yh_pj, yh_pa, yt_pi, yt_pj, yt_pa, la_pi, la_pj, la_pa]; assumption)) only [hi_s, hi_o, hi_k, hr_pi, hj_pi, hn_pi, hi_pas, hi_pao, hr_pa, hj_pa]; exact congrArg nI bs_0.symm⟩
      · rintro i l6 h2 hi ⟨fr2, e6, e7, e5, e9⟩ nx2
        have F2 : y_Orders h2 o := fr2.orders F1
        have A2 : y_arr h2 q 20 4 := fr2.c A1
        have A9 : y_arr h2 (o + 9) 20 5 := F2.1 9 rfl
        have x10 := hR.2 _ (gd_mem hi)
        have nxt := nx2 (some (v_i (nI (R.getD i 0)))) (p_i (p_i h2 (o + 5) (r * 11 + i) (nI (R.getD i 0))) (o + 9) r (nI (bs (fun x => decide (x ∈ (R.take (i + 1)).tail))))) ⟨(fr2.pi (by unfold or_W; omega)).pi (by unfold or_W; omega), by simp (disch := first | assumption | omega | (simp only [ya_pi, ya_pj, ya_pa, ya_pr, yo_pi, yo_pj, yo_pa, yf_pi, yf_pj, yf_pa, yh_pi, yh_pj, yh_pa, yt_pi, yt_pj, yt_pa, la_pi, la_pj, la_pa]; assumption)) only [hi_s, hi_o, hi_k, hr_pi, hj_pi, hn_pi, hi_pas, hi_pao, hr_pa, hj_pa, e6], by simp (disch := first | assumption | omega | (simp only [ya_pi, ya_pj, ya_pa, ya_pr, yo_pi, yo_pj, yo_pa, yf_pi, yf_pj, yf_pa, yh_pi, yh_pj, yh_pa, yt_pi, yt_pj, yt_pa, la_pi, la_pj, la_pa]; assumption)) only [hi_s, hi_o, hi_k, hr_pi, hj_pi, hn_pi, hi_pas, hi_pao, hr_pa, hj_pa, e7], by
          rw [tk_s hi]
          have := ro_app (q := R.getD i 0) e5
          rw [tk_l (by omega)] at this
          intro k hk
          rw [hi_o (by omega), show r * 11 + i = 11 * r + i from by omega]
          exact this k hk, by simp (disch := first | assumption | omega | (simp only [ya_pi, ya_pj, ya_pa, ya_pr, yo_pi, yo_pj, yo_pa, yf_pi, yf_pj, yf_pa, yh_pi, yh_pj, yh_pa, yt_pi, yt_pj, yt_pa, la_pi, la_pj, la_pa]; assumption)) only [hi_s, hi_o, hi_k, hr_pi, hj_pi, hn_pi, hi_pas, hi_pao, hr_pa, hj_pa]⟩
        have e10 : (if i = 0 then nI (bs (fun x => decide (x ∈ (R.take i).tail))) ||| nI 0 else nI (bs (fun x => decide (x ∈ (R.take i).tail))) ||| nI (bs (fun j => decide (j = R.getD i 0)))) = nI (bs (fun x => decide (x ∈ (R.take (i + 1)).tail))) := by
          by_cases z : i = 0
          · subst z
            rw [if_pos rfl, ior0]
            refine congrArg nI (bs_ext (fun x _ => ?_))
            rw [tk_s hi]
            rfl
          · rw [if_neg z, bI_or2]
            refine congrArg nI (bs_ext (fun x _ => ?_))
            rw [tk_t hi (by omega), ← Bool.decide_or]
            exact decide_eq_decide.2 (by rw [List.mem_append, List.mem_singleton])
        rw [← e10] at nxt
        rw [b_X6_layRows_60 _ _ o _ _ _ _ _ F2]
        by_cases hr2 : r < ps.length
        · have eR : R = (T (ps.getD r 0)).2 := by rw [← hRe, od_R, if_pos hr2]
          obtain ⟨p10, prow, -, -⟩ := TO _ (gd_mem hr2)
          have prow2 : or_row h2 o (ps.getD r 0) (T (ps.getD r 0)) := or_row.fr (fr.tr (fr2.le (P' := or_M o) (fun a k z => by unfold or_W at z; unfold or_M; omega))) prow (by rw [← eR]; omega) (by unfold or_M; omega) (by unfold or_M; omega) (fun k _ => by unfold or_M; omega)
          have eq1 := (fr2.ro rq1 (fun k _ z => by unfold or_W at z; omega)) r hr2
          rw [Nat.zero_add] at eq1
          have ca := fun {d} {Q} => c_at (d := d) (Q := Q) F2 prow2 (by omega) (i := i) (by rw [← eR]; exact hi) (by rw [← eR]; omega)
          rw [← eR] at ca
          by_cases z : i = 0
          · rw [if_pos z, ior0] at nxt
            simp (disch := first | assumption | omega | (simp only [ya_pi, ya_pj, ya_pa, ya_pr, yo_pi, yo_pj, yo_pa, yf_pi, yf_pj, yf_pa, yh_pi, yh_pj, yh_pa, yt_pi, yt_pj, yt_pa, la_pi, la_pj, la_pa]; assumption)) only [b_X6_layRows_0, b_X6_layRows_170, b_X6_layRows_7, b_X6_layRows_12, b_X6_layRows_27, b_X6_layRows_17, b_X6_layRows_24, b_X6_layRows_136, b_X6_layRows_71, b_X6_layRows_162, b_X6_layRows_150, b_X6_layRows_88, b_X6_layRows_76, b_X6_layRows_127, b_X6_layRows_120, b_X6_layRows_85, i_lit, i_m1, i_31, il_t, il_f, iq_t, iq_f, it_t, it_f, im_e, im_l, im_g, im_g2, nI_add, pk_mul, i_sub, i_div, sdm, i_dec, i_cl, iv_t, bI_or2, bI_t0, bI_one, not_true_eq_false, not_false_eq_true, ↓reduceIte, am_tl, am_tn, am_t0, am_n0, and_true, true_and, List.cons_append, List.nil_append, List.append_nil, hi_s, hi_o, hi_k, hr_pi, hj_pi, hn_pi, hi_pas, hi_pao, hr_pa, hj_pa, e6, eq1, ca, e9, ior0]
            exact nxt
          · rw [if_neg z] at nxt
            simp (disch := first | assumption | omega | (simp only [ya_pi, ya_pj, ya_pa, ya_pr, yo_pi, yo_pj, yo_pa, yf_pi, yf_pj, yf_pa, yh_pi, yh_pj, yh_pa, yt_pi, yt_pj, yt_pa, la_pi, la_pj, la_pa]; assumption)) only [b_X6_layRows_0, b_X6_layRows_170, b_X6_layRows_7, b_X6_layRows_12, b_X6_layRows_27, b_X6_layRows_17, b_X6_layRows_24, b_X6_layRows_136, b_X6_layRows_71, b_X6_layRows_162, b_X6_layRows_150, b_X6_layRows_88, b_X6_layRows_76, b_X6_layRows_127, b_X6_layRows_120, b_X6_layRows_85, i_lit, i_m1, i_31, il_t, il_f, iq_t, iq_f, it_t, it_f, im_e, im_l, im_g, im_g2, nI_add, pk_mul, i_sub, i_div, sdm, i_dec, i_cl, iv_t, bI_or2, bI_t0, bI_one, not_true_eq_false, not_false_eq_true, ↓reduceIte, am_tl, am_tn, am_t0, am_n0, and_true, true_and, List.cons_append, List.nil_append, List.append_nil, hi_s, hi_o, hi_k, hr_pi, hj_pi, hn_pi, hi_pas, hi_pao, hr_pa, hj_pa, e6, eq1, ca, e9, ior0]
            rw [bI_or2] at nxt
            exact nxt
        · have eR : R = ps := by rw [← hRe, od_R, if_neg hr2, if_pos (by omega)]
          have eq1 := (fr2.ro rq1 (fun k _ z => by unfold or_W at z; omega)) i (by rw [← eR]; exact hi)
          rw [Nat.zero_add, ← eR] at eq1
          have hi4 : i < 4 := by rw [eR] at hi; omega
          by_cases z : i = 0
          · rw [if_pos z, ior0] at nxt
            simp (disch := first | assumption | omega | (simp only [ya_pi, ya_pj, ya_pa, ya_pr, yo_pi, yo_pj, yo_pa, yf_pi, yf_pj, yf_pa, yh_pi, yh_pj, yh_pa, yt_pi, yt_pj, yt_pa, la_pi, la_pj, la_pa]; assumption)) only [b_X6_layRows_0, b_X6_layRows_170, b_X6_layRows_7, b_X6_layRows_12, b_X6_layRows_27, b_X6_layRows_17, b_X6_layRows_24, b_X6_layRows_136, b_X6_layRows_71, b_X6_layRows_162, b_X6_layRows_150, b_X6_layRows_88, b_X6_layRows_76, b_X6_layRows_127, b_X6_layRows_120, b_X6_layRows_85, i_lit, i_m1, i_31, il_t, il_f, iq_t, iq_f, it_t, it_f, im_e, im_l, im_g, im_g2, nI_add, pk_mul, i_sub, i_div, sdm, i_dec, i_cl, iv_t, bI_or2, bI_t0, bI_one, not_true_eq_false, not_false_eq_true, ↓reduceIte, am_tl, am_tn, am_t0, am_n0, and_true, true_and, List.cons_append, List.nil_append, List.append_nil, hi_s, hi_o, hi_k, hr_pi, hj_pi, hn_pi, hi_pas, hi_pao, hr_pa, hj_pa, e6, eq1, e9, ior0]
            exact nxt
          · rw [if_neg z] at nxt
            simp (disch := first | assumption | omega | (simp only [ya_pi, ya_pj, ya_pa, ya_pr, yo_pi, yo_pj, yo_pa, yf_pi, yf_pj, yf_pa, yh_pi, yh_pj, yh_pa, yt_pi, yt_pj, yt_pa, la_pi, la_pj, la_pa]; assumption)) only [b_X6_layRows_0, b_X6_layRows_170, b_X6_layRows_7, b_X6_layRows_12, b_X6_layRows_27, b_X6_layRows_17, b_X6_layRows_24, b_X6_layRows_136, b_X6_layRows_71, b_X6_layRows_162, b_X6_layRows_150, b_X6_layRows_88, b_X6_layRows_76, b_X6_layRows_127, b_X6_layRows_120, b_X6_layRows_85, i_lit, i_m1, i_31, il_t, il_f, iq_t, iq_f, it_t, it_f, im_e, im_l, im_g, im_g2, nI_add, pk_mul, i_sub, i_div, sdm, i_dec, i_cl, iv_t, bI_or2, bI_t0, bI_one, not_true_eq_false, not_false_eq_true, ↓reduceIte, am_tl, am_tn, am_t0, am_n0, and_true, true_and, List.cons_append, List.nil_append, List.append_nil, hi_s, hi_o, hi_k, hr_pi, hj_pi, hn_pi, hi_pas, hi_pao, hr_pa, hj_pa, e6, eq1, e9, ior0]
            rw [bI_or2] at nxt
            exact nxt
      · rintro l6 h2 ⟨fr2, e6, e7, e5, e9⟩
        have F2 : y_Orders h2 o := fr2.orders F1
        have A8 : y_arr h2 (o + 8) 20 5 := F2.1 8 rfl
        rw [List.take_length] at e5 e9
        have nxt := nx (some (v_i (nI R.length)), some (v_i (nI R.length)), l6) (p_i h2 (o + 8) r (oI R.head?)) ⟨(fr.tr (fr2.le (fun a k z => by unfold or_W at z; unfold or_M; omega))).pi (by unfold or_M; omega), fun k hk => by
          by_cases z : k = r
          · subst z
            rw [hRe]
            refine ⟨0, by omega, ?_, ?_, ?_, hi_s, ?_⟩
            · rw [hi_o (by omega), e7]
            · rw [hi_o (by omega), e6, Nat.zero_add]
            · intro j hj
              rw [hi_o (by omega)]
              exact e5 j hj
            · rw [hi_o (by omega), e9]
          · exact mr.fr (fr2.pi (by unfold or_W; omega)) (ms k (by omega)) (fun j hj z => by unfold or_W at z; omega) (fun a h1 h2 z => by unfold or_W at z; omega)⟩
        dsimp only at nxt
        rw [b_X6_layRows_60 _ _ o _ _ _ _ _ F2]
        cases R with
        | nil =>
          simp (disch := first | assumption | omega | (simp only [ya_pi, ya_pj, ya_pa, ya_pr, yo_pi, yo_pj, yo_pa, yf_pi, yf_pj, yf_pa, yh_pi, yh_pj, yh_pa, yt_pi, yt_pj, yt_pa, la_pi, la_pj, la_pa]; assumption)) only [b_X6_layRows_0, b_X6_layRows_170, b_X6_layRows_7, b_X6_layRows_12, b_X6_layRows_27, b_X6_layRows_17, b_X6_layRows_24, b_X6_layRows_136, b_X6_layRows_71, b_X6_layRows_162, b_X6_layRows_150, b_X6_layRows_88, b_X6_layRows_76, b_X6_layRows_127, b_X6_layRows_120, b_X6_layRows_85, i_lit, i_m1, i_31, il_t, il_f, iq_t, iq_f, it_t, it_f, im_e, im_l, im_g, im_g2, nI_add, pk_mul, i_sub, i_div, sdm, i_dec, i_cl, iv_t, bI_or2, bI_t0, bI_one, not_true_eq_false, not_false_eq_true, ↓reduceIte, am_tl, am_tn, am_t0, am_n0, and_true, true_and, List.cons_append, List.nil_append, List.append_nil, hi_s, hi_o, hi_k, hr_pi, hj_pi, hn_pi, hi_pas, hi_pao, hr_pa, hj_pa, e6, List.length_nil]
          exact nxt
        | cons x l =>
          have e0 := e5 0 (by simp)
          rw [show 11 * r + 0 = r * 11 from by omega] at e0
          have hl : 0 < (x :: l).length := by simp
          simp (disch := first | assumption | omega | (simp only [ya_pi, ya_pj, ya_pa, ya_pr, yo_pi, yo_pj, yo_pa, yf_pi, yf_pj, yf_pa, yh_pi, yh_pj, yh_pa, yt_pi, yt_pj, yt_pa, la_pi, la_pj, la_pa]; assumption)) only [b_X6_layRows_0, b_X6_layRows_170, b_X6_layRows_7, b_X6_layRows_12, b_X6_layRows_27, b_X6_layRows_17, b_X6_layRows_24, b_X6_layRows_136, b_X6_layRows_71, b_X6_layRows_162, b_X6_layRows_150, b_X6_layRows_88, b_X6_layRows_76, b_X6_layRows_127, b_X6_layRows_120, b_X6_layRows_85, i_lit, i_m1, i_31, il_t, il_f, iq_t, iq_f, it_t, it_f, im_e, im_l, im_g, im_g2, nI_add, pk_mul, i_sub, i_div, sdm, i_dec, i_cl, iv_t, bI_or2, bI_t0, bI_one, not_true_eq_false, not_false_eq_true, ↓reduceIte, am_tl, am_tn, am_t0, am_n0, and_true, true_and, List.cons_append, List.nil_append, List.append_nil, hi_s, hi_o, hi_k, hr_pi, hj_pi, hn_pi, hi_pas, hi_pao, hr_pa, hj_pa, e6, e0]
          exact nxt
    rw [b_X6_layRows_2]
    by_cases hr2 : r < ps.length
    · have eR : R = (T (ps.getD r 0)).2 := by rw [← hRe, od_R, if_pos hr2]
      obtain ⟨p10, prow, -, -⟩ := TO _ (gd_mem hr2)
      have prow2 : or_row h' o (ps.getD r 0) (T (ps.getD r 0)) := or_row.fr fr prow (by rw [← eR]; omega) (by unfold or_M; omega) (by unfold or_M; omega) (fun k _ => by unfold or_M; omega)
      have eq1 := rq1 r hr2
      rw [Nat.zero_add] at eq1
      have ca := fun {d} {Q} => c_sizeOf (d := d) (Q := Q) F1 prow2 (by omega)
      rw [← eR] at ca
      simp (disch := first | assumption | omega | (simp only [ya_pi, ya_pj, ya_pa, ya_pr, yo_pi, yo_pj, yo_pa, yf_pi, yf_pj, yf_pa, yh_pi, yh_pj, yh_pa, yt_pi, yt_pj, yt_pa, la_pi, la_pj, la_pa]; assumption)) only [b_X6_layRows_0, b_X6_layRows_170, b_X6_layRows_7, b_X6_layRows_12, b_X6_layRows_27, b_X6_layRows_17, b_X6_layRows_24, b_X6_layRows_136, b_X6_layRows_71, b_X6_layRows_162, b_X6_layRows_150, b_X6_layRows_88, b_X6_layRows_76, b_X6_layRows_127, b_X6_layRows_120, b_X6_layRows_85, i_lit, i_m1, i_31, il_t, il_f, iq_t, iq_f, it_t, it_f, im_e, im_l, im_g, im_g2, nI_add, pk_mul, i_sub, i_div, sdm, i_dec, i_cl, iv_t, bI_or2, bI_t0, bI_one, not_true_eq_false, not_false_eq_true, ↓reduceIte, am_tl, am_tn, am_t0, am_n0, and_true, true_and, List.cons_append, List.nil_append, List.append_nil, hi_s, hi_o, hi_k, hr_pi, hj_pi, hn_pi, hi_pas, hi_pao, hr_pa, hj_pa, eq1, ca]
      exact key l6
    · have eR : R = ps := by rw [← hRe, od_R, if_neg hr2, if_pos (by omega)]
      have hRl : R.length = ps.length := congrArg List.length eR
      rw [hRl] at key
      simp (disch := first | assumption | omega | (simp only [ya_pi, ya_pj, ya_pa, ya_pr, yo_pi, yo_pj, yo_pa, yf_pi, yf_pj, yf_pa, yh_pi, yh_pj, yh_pa, yt_pi, yt_pj, yt_pa, la_pi, la_pj, la_pa]; assumption)) only [b_X6_layRows_0, b_X6_layRows_170, b_X6_layRows_7, b_X6_layRows_12, b_X6_layRows_27, b_X6_layRows_17, b_X6_layRows_24, b_X6_layRows_136, b_X6_layRows_71, b_X6_layRows_162, b_X6_layRows_150, b_X6_layRows_88, b_X6_layRows_76, b_X6_layRows_127, b_X6_layRows_120, b_X6_layRows_85, i_lit, i_m1, i_31, il_t, il_f, iq_t, iq_f, it_t, it_f, im_e, im_l, im_g, im_g2, nI_add, pk_mul, i_sub, i_div, sdm, i_dec, i_cl, iv_t, bI_or2, bI_t0, bI_one, not_true_eq_false, not_false_eq_true, ↓reduceIte, am_tl, am_tn, am_t0, am_n0, and_true, true_and, List.cons_append, List.nil_append, List.append_nil, hi_s, hi_o, hi_k, hr_pi, hj_pi, hn_pi, hi_pas, hi_pao, hr_pa, hj_pa]
      exact key l6
  · rintro ⟨l4, l5, l6⟩ h' ⟨fr, ms⟩
    dsimp only
    rw [b_X6_layRows_2]
    simp (disch := first | assumption | omega | (simp only [ya_pi, ya_pj, ya_pa, ya_pr, yo_pi, yo_pj, yo_pa, yf_pi, yf_pj, yf_pa, yh_pi, yh_pj, yh_pa, yt_pi, yt_pj, yt_pa, la_pi, la_pj, la_pa]; assumption)) only [b_X6_layRows_0, b_X6_layRows_170, b_X6_layRows_7, b_X6_layRows_12, b_X6_layRows_27, b_X6_layRows_17, b_X6_layRows_24, b_X6_layRows_136, b_X6_layRows_71, b_X6_layRows_162, b_X6_layRows_150, b_X6_layRows_88, b_X6_layRows_76, b_X6_layRows_127, b_X6_layRows_120, b_X6_layRows_85, i_lit, i_m1, i_31, il_t, il_f, iq_t, iq_f, it_t, it_f, im_e, im_l, im_g, im_g2, nI_add, pk_mul, i_sub, i_div, sdm, i_dec, i_cl, iv_t, bI_or2, bI_t0, bI_one, not_true_eq_false, not_false_eq_true, ↓reduceIte, am_tl, am_tn, am_t0, am_n0, and_true, true_and, List.cons_append, List.nil_append, List.append_nil, hi_s, hi_o, hi_k, hr_pi, hj_pi, hn_pi, hi_pas, hi_pao, hr_pa, hj_pa]
    exact k h' fr (fun r hr => ms r (by omega))
