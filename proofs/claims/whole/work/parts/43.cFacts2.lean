theorem y_f1 {h : am_H} {o : Nat} (F : y_Facts h o) : y_arr h (o + 1) 20 10 := F.1 1 rfl
theorem y_f2 {h : am_H} {o : Nat} (F : y_Facts h o) : y_arr h (o + 2) 20 40 := F.1 2 rfl
theorem y_f3 {h : am_H} {o : Nat} (F : y_Facts h o) : y_arr h (o + 3) 20 80 := F.1 3 rfl
theorem c_isMethod_y {d : Nat} {Q : Option am_V → am_H → Prop} {h : am_H} {m : Nat} (hm : m < 8) : ex_ d 31 0 [some (v_i (nI m))] [] h Q ↔ Q (some (v_i (nI 1))) h := by
  simp (disch := first | assumption | omega) only [b_X11_isMethod_0, b_X11_isMethod_14, b_X11_isMethod_4, b_X11_isMethod_10, i_lit, i_m1, i_31, il_t, il_f, iq_t, iq_f, it_t, it_f, im_e, im_l, im_g, im_g2, nI_add, pk_mul, i_sub, i_dec, i_cl, iv_t, bI_or, bI_t0, bI_one, not_true_eq_false, not_false_eq_true, ↓reduceIte, am_tl, am_tn, am_t0, am_n0, and_true, true_and, List.cons_append, List.nil_append, List.append_nil]
abbrev me_ok (m : Int32) : Prop := ¬ m < 0 ∧ m < nI 8
theorem c_isMethod_n {d : Nat} {Q : Option am_V → am_H → Prop} {h : am_H} {m : Int32} (hm : ¬ me_ok m) : ex_ d 31 0 [some (v_i m)] [] h Q ↔ Q (some (v_i (nI 0))) h := by
  by_cases h0 : m < 0
  · rw [b_X11_isMethod_0, if_pos h0, b_X11_isMethod_14]
    rfl
  · obtain ⟨j, hj, rfl⟩ := nI_of h0
    have : 8 ≤ j := by
      rcases Nat.lt_or_ge j 8 with z | z
      · exact absurd ⟨h0, nI_lt z (by omega)⟩ hm
      · exact z
    simp (disch := first | assumption | omega) only [b_X11_isMethod_0, b_X11_isMethod_14, b_X11_isMethod_4, b_X11_isMethod_10, i_lit, i_m1, i_31, il_t, il_f, iq_t, iq_f, it_t, it_f, im_e, im_l, im_g, im_g2, nI_add, pk_mul, i_sub, i_dec, i_cl, iv_t, bI_or, bI_t0, bI_one, not_true_eq_false, not_false_eq_true, ↓reduceIte, am_tl, am_tn, am_t0, am_n0, and_true, true_and, List.cons_append, List.nil_append, List.append_nil]
theorem me_cs (m : Int32) : (∃ k, k < 8 ∧ m = nI k) ∨ ¬ me_ok m := by
  by_cases h : me_ok m
  · obtain ⟨j, hj, rfl⟩ := nI_of h.1
    exact Or.inl ⟨j, (nI_ltI hj (by omega)).1 h.2, rfl⟩
  · exact Or.inr h
theorem c_definitionAt {d : Nat} {Q : Option am_V → am_H → Prop} {h : am_H} {o : Nat} {f : fa_S} (F : fa_at h o f) {c m : Nat} (hc : c < 10) (hm : m < 8) : ex_ (d + 1) 32 0 [some (v_r (some o)), some (v_i (nI c)), some (v_i (nI m))] [] h Q ↔ Q (some (v_i (f_d f c m))) h := by
  have F0 := F.1
  have F3 := F.2.2.2.2.2 c m hc hm
  simp (disch := first | assumption | omega) only [b_X1_definitionAt_0, b_X1_definitionAt_31, b_X1_definitionAt_4, b_X1_definitionAt_10, b_X1_definitionAt_14, b_X1_definitionAt_17, i_lit, i_m1, i_31, il_t, il_f, iq_t, iq_f, it_t, it_f, im_e, im_l, im_g, im_g2, nI_add, pk_mul, i_sub, i_dec, i_cl, iv_t, bI_or, bI_t0, bI_one, not_true_eq_false, not_false_eq_true, ↓reduceIte, am_tl, am_tn, am_t0, am_n0, and_true, true_and, List.cons_append, List.nil_append, List.append_nil, c_isMethod_y hm]
  rw [show c * 8 + m = 8 * c + m from by omega, F3]
/-- Arrays.fill -/
theorem c_fill {d : Nat} {Q : Option am_V → am_H → Prop} {h : am_H} {o n : Nat} (A : y_arr h o 20 n) (hn : n < 100000) {v : Int32} {l2 l3 : Option am_V} (k : ∀ h', am_fr h h' (fun a _ => a = o) → (∀ j, j < n → h_i h' o j = v) → Q none h') : ex_ d 2 0 [some (v_r (some o)), some (v_i v), l2, l3] [] h Q := by
  rw [b_J7_fill_53178_0 h o _ _ _ A]
  refine lp_up n (fun i (_ : Unit) => [some (v_r (some o)), some (v_i v), some (v_i (nI i)), some (v_i (nI n))]) (fun i _ h' => am_fr h h' (fun a _ => a = o) ∧ ∀ j, j < i → h_i h' o j = v) ?_ ?_ (Nat.zero_le _) ⟨am_fr.rf, fun j hj => absurd hj (Nat.not_lt_zero _)⟩ (s := ())
  · rintro i - h' hi ⟨fr, e⟩ nx
    have A' : y_arr h' o 20 n := fr.c A
    rw [b_J7_fill_53178_5]
    simp (disch := first | assumption | omega) only [b_J7_fill_53178_0, b_J7_fill_53178_20, b_J7_fill_53178_10, i_lit, i_m1, i_31, il_t, il_f, iq_t, iq_f, it_t, it_f, im_e, im_l, im_g, im_g2, nI_add, pk_mul, i_sub, i_dec, i_cl, iv_t, bI_or, bI_t0, bI_one, not_true_eq_false, not_false_eq_true, ↓reduceIte, am_tl, am_tn, am_t0, am_n0, and_true, true_and, List.cons_append, List.nil_append, List.append_nil]
    refine nx () _ ⟨fr.pi rfl, fun j hj => ?_⟩
    by_cases q : j = i
    · rw [q, hi_s]
    · rw [hi_k q, e j (by omega)]
  · rintro - h' ⟨fr, e⟩
    rw [b_J7_fill_53178_5]
    simp (disch := first | assumption | omega) only [b_J7_fill_53178_0, b_J7_fill_53178_20, b_J7_fill_53178_10, i_lit, i_m1, i_31, il_t, il_f, iq_t, iq_f, it_t, it_f, im_e, im_l, im_g, im_g2, nI_add, pk_mul, i_sub, i_dec, i_cl, iv_t, bI_or, bI_t0, bI_one, not_true_eq_false, not_false_eq_true, ↓reduceIte, am_tl, am_tn, am_t0, am_n0, and_true, true_and, List.cons_append, List.nil_append, List.append_nil]
    exact k h' fr e
/-! changes of a Facts -/
def f_setp (f : fa_S) (c : Nat) (l : List Nat) : fa_S := (f.1, f.2.1, (fun k => if k = c then l else f_p f k), f.2.2.2)
def f_setd (f : fa_S) (c m : Nat) (v : Int32) : fa_S := (f.1, f.2.1, f.2.2.1, fun a b => if a = c ∧ b = m then v else f_d f a b)
def f_setm (f : fa_S) (v : Int32) : fa_S := (f.1, v, f.2.2)
theorem fa_setp_at {h h' : am_H} {o c : Nat} {f : fa_S} {l : List Nat} (F : fa_at h o f) (fr : am_fr h h' (fun a k => (a = o + 1 ∧ k = c) ∨ (a = o + 2 ∧ 4 * c ≤ k ∧ k < 4 * c + 4))) (h4 : ∀ k, (f_p f k).length ≤ 4) (e1 : h_i h' (o + 1) c = nI l.length) (e2 : ro h' (o + 2) (4 * c) l) : fa_at h' o (f_setp f c l) := by
  obtain ⟨F0, F1, F2, F3, F4, F5⟩ := F
  refine ⟨fr.facts F0, ?_, ?_, ?_, ?_, ?_⟩
  · rw [fr.i (by omega), F1]
    rfl
  · rw [fr.i (by omega), F2]
    rfl
  · intro k hk
    show h_i h' (o + 1) k = nI (if k = c then l else f_p f k).length
    by_cases q : k = c
    · rw [if_pos q, q, e1]
    · rw [if_neg q, fr.i (by omega), F3 k hk]
  · intro k hk
    show ro h' (o + 2) (4 * k) (if k = c then l else f_p f k)
    by_cases q : k = c
    · rw [if_pos q, q]
      exact e2
    · rw [if_neg q]
      have := h4 k
      exact fr.ro (F4 k hk) (fun j hj => by omega)
  · intro k m hk hm
    rw [fr.i (by omega), F5 k m hk hm]
    rfl
theorem fa_setd_at {h : am_H} {o c m : Nat} {f : fa_S} {v : Int32} (F : fa_at h o f) (hc : c < 10) (hm : m < 8) : fa_at (p_i h (o + 3) (8 * c + m) v) o (f_setd f c m v) := by
  obtain ⟨F0, F1, F2, F3, F4, F5⟩ := F
  refine ⟨F0, ?_, ?_, ?_, ?_, ?_⟩
  · rw [hi_o (by omega), F1]
    rfl
  · rw [hi_o (by omega), F2]
    rfl
  · intro k hk
    rw [hi_o (by omega), F3 k hk]
    rfl
  · intro k hk j hj
    rw [hi_o (by omega), F4 k hk j hj]
    rfl
  · intro k j hk hj
    show _ = if k = c ∧ j = m then v else f_d f k j
    by_cases q : k = c ∧ j = m
    · rw [if_pos q, q.1, q.2, hi_s]
    · rw [if_neg q, hi_k (by omega), F5 k j hk hj]
theorem fa_setm_at {h : am_H} {o : Nat} {f : fa_S} {v : Int32} (F : fa_at h o f) : fa_at (p_i h o 1 v) o (f_setm f v) := by
  obtain ⟨F0, F1, F2, F3, F4, F5⟩ := F
  refine ⟨F0, ?_, ?_, ?_, ?_, ?_⟩
  · rw [hi_k (by omega), F1]
    rfl
  · rw [hi_s]
    rfl
  · intro k hk
    rw [hi_o (by omega), F3 k hk]
    rfl
  · intro k hk j hj
    rw [hi_o (by omega), F4 k hk j hj]
    rfl
  · intro k j hk hj
    rw [hi_o (by omega), F5 k j hk hj]
    rfl
theorem gd_app {l : List Nat} {q k : Nat} : (l ++ [q]).getD k 0 = if k < l.length then l.getD k 0 else if k = l.length then q else 0 := by
  rw [List.getD_eq_getElem?_getD, List.getD_eq_getElem?_getD]
  by_cases h : k < l.length
  · rw [if_pos h, List.getElem?_append_left h]
  · rw [if_neg h, List.getElem?_append_right (by omega)]
    by_cases e : k = l.length
    · rw [if_pos e, e, Nat.sub_self]
      rfl
    · rw [if_neg e, List.getElem?_eq_none (by simp; omega)]
      rfl
theorem c_appendParent {d : Nat} {Q : Option am_V → am_H → Prop} {h : am_H} {o : Nat} {f : fa_S} (ok : fa_ok f) (F : fa_at h o f) {c p : Nat} (hc : c < 10) (hl : (f_p f c).length < 4) {l3 : Option am_V} (k : ∀ h', am_fr h h' (fa_P o) → fa_at h' o (f_setp f c (f_p f c ++ [p])) → Q none h') : ex_ (d + 1) 35 0 [some (v_r (some o)), some (v_i (nI c)), some (v_i (nI p)), l3] [] h Q := by
  have F0 := F.1
  simp (disch := first | assumption | omega) only [b_X1_appendParent_0, b_X1_appendParent_5, b_X1_appendParent_41, b_X1_appendParent_10, b_X1_appendParent_16, b_X1_appendParent_21, i_lit, i_m1, i_31, il_t, il_f, iq_t, iq_f, it_t, it_f, im_e, im_l, im_g, im_g2, nI_add, pk_mul, i_sub, i_dec, i_cl, iv_t, bI_or, bI_t0, bI_one, not_true_eq_false, not_false_eq_true, ↓reduceIte, am_tl, am_tn, am_t0, am_n0, and_true, true_and, List.cons_append, List.nil_append, List.append_nil, c_parentCount F hc]
  have fr : am_fr h (p_i (p_i h (o + 2) (c * 4 + (f_p f c).length) (nI p)) (o + 1) c (nI ((f_p f c).length + 1))) (fun a k => (a = o + 1 ∧ k = c) ∨ (a = o + 2 ∧ 4 * c ≤ k ∧ k < 4 * c + 4)) := (am_fr_pi (by omega)).pi (by omega)
  refine k _ (fr.le (fun a k hp => by unfold fa_P; omega)) (fa_setp_at F fr (fun k => (ok.2 k).1) ?_ ?_)
  · rw [hi_s, List.length_append]
    rfl
  · intro j hj
    rw [hi_o (by omega), gd_app]
    rw [List.length_append, List.length_singleton] at hj
    by_cases q : j = (f_p f c).length
    · rw [if_neg (by omega), if_pos q, q, show 4 * c = c * 4 from by omega, hi_s]
    · rw [if_pos (by omega), hi_k (by omega), F.2.2.2.2.1 c hc j (by omega)]
/-- to give a parent: why not, and what the facts are then -/
def d_add (f : fa_S) (c p : Int32) : Int32 × fa_S := if fa_has (f_n f) c ∧ ¬ p < 0 ∧ p < c then (if ¬ pl (f_p f c.toNatClampNeg) p.toNatClampNeg = none ∨ 4 ≤ (f_p f c.toNatClampNeg).length then (nI 2, f) else (nI 0, f_setp f c.toNatClampNeg (f_p f c.toNatClampNeg ++ [p.toNatClampNeg]))) else (nI 1, f)
theorem oI_n {x : Option Nat} (h : ∀ k, x = some k → k < 2147483648) : (oI x = mI) = (x = none) := by
  cases x with
  | none => exact propext ⟨fun _ => rfl, fun _ => rfl⟩
  | some k => exact propext ⟨fun e => by rw [oI, im_e (h k rfl)] at e; exact e.elim, fun e => by cases e⟩
theorem pl_oI {l : List Nat} {q : Nat} (h : l.length < 2147483648) : (oI (pl l q) = mI) = (pl l q = none) := oI_n (fun k hk => Nat.lt_trans (pl_some hk).1 h)
theorem c_addParent {d : Nat} {Q : Option am_V → am_H → Prop} {h : am_H} {o : Nat} {f : fa_S} (ok : fa_ok f) (F : fa_at h o f) {c p : Int32} (k : ∀ h', am_fr h h' (fa_P o) → fa_at h' o (d_add f c p).2 → Q (some (v_i (d_add f c p).1)) h') : ex_ (d + 3) 36 0 [some (v_r (some o)), some (v_i c), some (v_i p)] [] h Q := by
  have F0 := F.1
  have hn := ok.1
  unfold d_add at k
  rcases fa_cs hn c with ⟨a, ha, rfl⟩ | hc
  · have hh : fa_has (f_n f) (nI a) := (fa_has_iff hn).2 ⟨a, ha, rfl⟩
    have h4 := (ok.2 a).1
    by_cases hp : p < 0
    · rw [if_neg (fun z => z.2.1 hp)] at k
      simp (disch := first | assumption | omega) only [b_X1_addParent_0, b_X1_addParent_5, b_X1_addParent_17, b_X1_addParent_8, b_X1_addParent_12, b_X1_addParent_19, b_X1_addParent_25, b_X1_addParent_38, b_X1_addParent_29, b_X1_addParent_34, b_X1_addParent_40, b_X1_addParent_46, i_lit, i_m1, i_31, il_t, il_f, iq_t, iq_f, it_t, it_f, im_e, im_l, im_g, im_g2, nI_add, pk_mul, i_sub, i_dec, i_cl, iv_t, bI_or, bI_t0, bI_one, not_true_eq_false, not_false_eq_true, ↓reduceIte, am_tl, am_tn, am_t0, am_n0, and_true, true_and, List.cons_append, List.nil_append, List.append_nil, c_hasClass_y ok F ha]
      rw [if_pos (show p < nI 0 from hp)]
      exact k h am_fr.rf F
    · obtain ⟨q, hq, rfl⟩ := nI_of hp
      by_cases hq2 : q < a
      · rw [if_pos ⟨hh, hp, nI_lt hq2 (by omega)⟩, nI_clamp (by omega), nI_clamp hq] at k
        by_cases h5 : pl (f_p f a) q = none
        · have e := pl_oI (l := f_p f a) (q := q) (by omega)
          rw [eq_true h5] at e
          by_cases h6 : 4 ≤ (f_p f a).length
          · rw [if_pos (Or.inr h6)] at k
            simp (disch := first | assumption | omega) only [b_X1_addParent_0, b_X1_addParent_5, b_X1_addParent_17, b_X1_addParent_8, b_X1_addParent_12, b_X1_addParent_19, b_X1_addParent_25, b_X1_addParent_38, b_X1_addParent_29, b_X1_addParent_34, b_X1_addParent_40, b_X1_addParent_46, i_lit, i_m1, i_31, il_t, il_f, iq_t, iq_f, it_t, it_f, im_e, im_l, im_g, im_g2, nI_add, pk_mul, i_sub, i_dec, i_cl, iv_t, bI_or, bI_t0, bI_one, not_true_eq_false, not_false_eq_true, ↓reduceIte, am_tl, am_tn, am_t0, am_n0, and_true, true_and, List.cons_append, List.nil_append, List.append_nil, c_hasClass_y ok F ha, c_parentPlace ok F (show a < 10 by omega) hq, e, c_parentCount F (show a < 10 by omega)]
            exact k h am_fr.rf F
          · rw [if_neg (fun z => by rcases z with z | z; exact z h5; exact h6 z)] at k
            simp (disch := first | assumption | omega) only [b_X1_addParent_0, b_X1_addParent_5, b_X1_addParent_17, b_X1_addParent_8, b_X1_addParent_12, b_X1_addParent_19, b_X1_addParent_25, b_X1_addParent_38, b_X1_addParent_29, b_X1_addParent_34, b_X1_addParent_40, b_X1_addParent_46, i_lit, i_m1, i_31, il_t, il_f, iq_t, iq_f, it_t, it_f, im_e, im_l, im_g, im_g2, nI_add, pk_mul, i_sub, i_dec, i_cl, iv_t, bI_or, bI_t0, bI_one, not_true_eq_false, not_false_eq_true, ↓reduceIte, am_tl, am_tn, am_t0, am_n0, and_true, true_and, List.cons_append, List.nil_append, List.append_nil, c_hasClass_y ok F ha, c_parentPlace ok F (show a < 10 by omega) hq, e, c_parentCount F (show a < 10 by omega)]
            refine c_appendParent ok F (by omega) (by omega) (fun h' fr F' => ?_)
            simp (disch := first | assumption | omega) only [b_X1_addParent_0, b_X1_addParent_5, b_X1_addParent_17, b_X1_addParent_8, b_X1_addParent_12, b_X1_addParent_19, b_X1_addParent_25, b_X1_addParent_38, b_X1_addParent_29, b_X1_addParent_34, b_X1_addParent_40, b_X1_addParent_46, i_lit, i_m1, i_31, il_t, il_f, iq_t, iq_f, it_t, it_f, im_e, im_l, im_g, im_g2, nI_add, pk_mul, i_sub, i_dec, i_cl, iv_t, bI_or, bI_t0, bI_one, not_true_eq_false, not_false_eq_true, ↓reduceIte, am_tl, am_tn, am_t0, am_n0, and_true, true_and, List.cons_append, List.nil_append, List.append_nil]
            exact k h' fr F'
        · have e := pl_oI (l := f_p f a) (q := q) (by omega)
          rw [eq_false h5] at e
          rw [if_pos (Or.inl h5)] at k
          simp (disch := first | assumption | omega) only [b_X1_addParent_0, b_X1_addParent_5, b_X1_addParent_17, b_X1_addParent_8, b_X1_addParent_12, b_X1_addParent_19, b_X1_addParent_25, b_X1_addParent_38, b_X1_addParent_29, b_X1_addParent_34, b_X1_addParent_40, b_X1_addParent_46, i_lit, i_m1, i_31, il_t, il_f, iq_t, iq_f, it_t, it_f, im_e, im_l, im_g, im_g2, nI_add, pk_mul, i_sub, i_dec, i_cl, iv_t, bI_or, bI_t0, bI_one, not_true_eq_false, not_false_eq_true, ↓reduceIte, am_tl, am_tn, am_t0, am_n0, and_true, true_and, List.cons_append, List.nil_append, List.append_nil, c_hasClass_y ok F ha, c_parentPlace ok F (show a < 10 by omega) hq, e]
          exact k h am_fr.rf F
      · rw [if_neg (fun z => hq2 ((nI_ltI hq (by omega)).1 z.2.2))] at k
        simp (disch := first | assumption | omega) only [b_X1_addParent_0, b_X1_addParent_5, b_X1_addParent_17, b_X1_addParent_8, b_X1_addParent_12, b_X1_addParent_19, b_X1_addParent_25, b_X1_addParent_38, b_X1_addParent_29, b_X1_addParent_34, b_X1_addParent_40, b_X1_addParent_46, i_lit, i_m1, i_31, il_t, il_f, iq_t, iq_f, it_t, it_f, im_e, im_l, im_g, im_g2, nI_add, pk_mul, i_sub, i_dec, i_cl, iv_t, bI_or, bI_t0, bI_one, not_true_eq_false, not_false_eq_true, ↓reduceIte, am_tl, am_tn, am_t0, am_n0, and_true, true_and, List.cons_append, List.nil_append, List.append_nil, c_hasClass_y ok F ha]
        exact k h am_fr.rf F
  · rw [if_neg (fun z => hc z.1)] at k
    simp (disch := first | assumption | omega) only [b_X1_addParent_0, b_X1_addParent_5, b_X1_addParent_17, b_X1_addParent_8, b_X1_addParent_12, b_X1_addParent_19, b_X1_addParent_25, b_X1_addParent_38, b_X1_addParent_29, b_X1_addParent_34, b_X1_addParent_40, b_X1_addParent_46, i_lit, i_m1, i_31, il_t, il_f, iq_t, iq_f, it_t, it_f, im_e, im_l, im_g, im_g2, nI_add, pk_mul, i_sub, i_dec, i_cl, iv_t, bI_or, bI_t0, bI_one, not_true_eq_false, not_false_eq_true, ↓reduceIte, am_tl, am_tn, am_t0, am_n0, and_true, true_and, List.cons_append, List.nil_append, List.append_nil, c_hasClass_n ok F hc]
    exact k h am_fr.rf F
