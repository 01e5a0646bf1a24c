theorem fa_P_pi {h : am_H} {o a k : Nat} {v : Int32} (hp : fa_P o a k) : am_fr h (p_i h a k v) (fa_P o) := am_fr_pi hp
def d_rem (f : fa_S) (c p : Int32) : Int32 × fa_S := if fa_has (f_n f) c ∧ fa_has (f_n f) p then (match pl (f_p f c.toNatClampNeg) p.toNatClampNeg with
  | some i => (nI 0, f_setp f c.toNatClampNeg ((f_p f c.toNatClampNeg).eraseIdx i))
  | none => (nI 2, f)) else (nI 1, f)
theorem gd_er {l : List Nat} {i k : Nat} : (l.eraseIdx i).getD k 0 = if k < i then l.getD k 0 else l.getD (k + 1) 0 := by
  rw [List.getD_eq_getElem?_getD, List.getElem?_eraseIdx]
  split
  · rw [List.getD_eq_getElem?_getD]
  · rw [List.getD_eq_getElem?_getD]
theorem c_removeParent {d : Nat} {Q : Option am_V → am_H → Prop} {h : am_H} {o : Nat} {f : fa_S} (ok : fa_ok f) (F : fa_at h o f) {c p : Int32} {l3 l4 l5 : Option am_V} (k : ∀ h', am_fr h h' (fa_P o) → fa_at h' o (d_rem f c p).2 → Q (some (v_i (d_rem f c p).1)) h') : ex_ (d + 3) 37 0 [some (v_r (some o)), some (v_i c), some (v_i p), l3, l4, l5] [] h Q := by
  have F0 := F.1
  have hn := ok.1
  unfold d_rem at k
  rcases fa_cs hn c with ⟨a, ha, rfl⟩ | hc
  · have hh : fa_has (f_n f) (nI a) := (fa_has_iff hn).2 ⟨a, ha, rfl⟩
    have h4 := (ok.2 a).1
    have ha10 : a < 10 := by omega
    rcases fa_cs hn p with ⟨q, hq, rfl⟩ | hp
    · have hh2 : fa_has (f_n f) (nI q) := (fa_has_iff hn).2 ⟨q, hq, rfl⟩
      rw [if_pos ⟨hh, hh2⟩, nI_clamp (by omega), nI_clamp (by omega)] at k
      have e := pl_oI (l := f_p f a) (q := q) (by omega)
      cases hpl : pl (f_p f a) q with
      | none =>
        rw [hpl] at k
        rw [eq_true hpl] at e
        simp (disch := first | assumption | omega) only [b_X1_removeParent_0, b_X1_removeParent_5, b_X1_removeParent_16, b_X1_removeParent_8, b_X1_removeParent_13, b_X1_removeParent_18, b_X1_removeParent_24, b_X1_removeParent_32, b_X1_removeParent_30, b_X1_removeParent_37, b_X1_removeParent_89, b_X1_removeParent_51, b_X1_removeParent_59, i_lit, i_m1, i_31, il_t, il_f, iq_t, iq_f, it_t, it_f, im_e, im_l, im_g, im_g2, nI_add, pk_mul, i_sub, i_dec, i_cl, iv_t, bI_or, bI_t0, bI_one, not_true_eq_false, not_false_eq_true, ↓reduceIte, am_tl, am_tn, am_t0, am_n0, and_true, true_and, List.cons_append, List.nil_append, List.append_nil, c_hasClass_y ok F ha, c_hasClass_y ok F hq, c_parentPlace ok F ha10 (show q < 2147483648 by omega), e]
        exact k h am_fr.rf F
      | some i =>
        rw [hpl] at k
        obtain ⟨hi, -⟩ := pl_some hpl
        simp (disch := first | assumption | omega) only [b_X1_removeParent_0, b_X1_removeParent_5, b_X1_removeParent_16, b_X1_removeParent_8, b_X1_removeParent_13, b_X1_removeParent_18, b_X1_removeParent_24, b_X1_removeParent_32, b_X1_removeParent_30, b_X1_removeParent_37, b_X1_removeParent_89, b_X1_removeParent_51, b_X1_removeParent_59, i_lit, i_m1, i_31, il_t, il_f, iq_t, iq_f, it_t, it_f, im_e, im_l, im_g, im_g2, nI_add, pk_mul, i_sub, i_dec, i_cl, iv_t, bI_or, bI_t0, bI_one, not_true_eq_false, not_false_eq_true, ↓reduceIte, am_tl, am_tn, am_t0, am_n0, and_true, true_and, List.cons_append, List.nil_append, List.append_nil, c_hasClass_y ok F ha, c_hasClass_y ok F hq, c_parentPlace ok F ha10 (show q < 2147483648 by omega), hpl, oI, c_parentCount F ha10]
        refine lp_up ((f_p f a).length - 1) (fun j (_ : Unit) => [some (v_r (some o)), some (v_i (nI a)), some (v_i (nI q)), some (v_i (nI i)), some (v_i (nI ((f_p f a).length - 1))), some (v_i (nI j))]) (fun j _ h' => am_fr h h' (fun b k => b = o + 2 ∧ 4 * a ≤ k ∧ k < 4 * a + 4) ∧ i ≤ j ∧ ∀ k, k < (f_p f a).length → h_i h' (o + 2) (4 * a + k) = nI ((f_p f a).getD (if i ≤ k ∧ k < j then k + 1 else k) 0)) ?_ ?_ (by omega) ⟨am_fr.rf, Nat.le_refl _, fun k hk => by rw [if_neg (by omega), F.2.2.2.2.1 a ha10 k hk]⟩ (s := ())
        · rintro j - h' hj ⟨fr, hij, e2⟩ nx
          have F0' := fr.facts F0
          rw [b_X1_removeParent_44]
          simp (disch := first | assumption | omega) only [b_X1_removeParent_0, b_X1_removeParent_5, b_X1_removeParent_16, b_X1_removeParent_8, b_X1_removeParent_13, b_X1_removeParent_18, b_X1_removeParent_24, b_X1_removeParent_32, b_X1_removeParent_30, b_X1_removeParent_37, b_X1_removeParent_89, b_X1_removeParent_51, b_X1_removeParent_59, i_lit, i_m1, i_31, il_t, il_f, iq_t, iq_f, it_t, it_f, im_e, im_l, im_g, im_g2, nI_add, pk_mul, i_sub, i_dec, i_cl, iv_t, bI_or, bI_t0, bI_one, not_true_eq_false, not_false_eq_true, ↓reduceIte, am_tl, am_tn, am_t0, am_n0, and_true, true_and, List.cons_append, List.nil_append, List.append_nil]
          refine nx () _ ⟨fr.pi (by omega), by omega, fun k hk => ?_⟩
          have e3 := e2 (j + 1) (by omega)
          rw [if_neg (by omega)] at e3
          by_cases z : k = j
          · rw [if_pos (by omega), z, show 4 * a + j = a * 4 + j from by omega, hi_s, show a * 4 + j + 1 = 4 * a + (j + 1) from by omega, e3]
          · rw [hi_k (by omega), e2 k hk]
            by_cases w : i ≤ k ∧ k < j
            · rw [if_pos w, if_pos (by omega)]
            · rw [if_neg w, if_neg (by omega)]
        · rintro - h' ⟨fr, hij, e2⟩
          have F0' := fr.facts F0
          rw [b_X1_removeParent_44]
          simp (disch := first | assumption | omega) only [b_X1_removeParent_0, b_X1_removeParent_5, b_X1_removeParent_16, b_X1_removeParent_8, b_X1_removeParent_13, b_X1_removeParent_18, b_X1_removeParent_24, b_X1_removeParent_32, b_X1_removeParent_30, b_X1_removeParent_37, b_X1_removeParent_89, b_X1_removeParent_51, b_X1_removeParent_59, i_lit, i_m1, i_31, il_t, il_f, iq_t, iq_f, it_t, it_f, im_e, im_l, im_g, im_g2, nI_add, pk_mul, i_sub, i_dec, i_cl, iv_t, bI_or, bI_t0, bI_one, not_true_eq_false, not_false_eq_true, ↓reduceIte, am_tl, am_tn, am_t0, am_n0, and_true, true_and, List.cons_append, List.nil_append, List.append_nil]
          have fr2 : am_fr h (p_i h' (o + 1) a (nI ((f_p f a).length - 1))) (fun b k => (b = o + 1 ∧ k = a) ∨ (b = o + 2 ∧ 4 * a ≤ k ∧ k < 4 * a + 4)) := (fr.le (fun b k z => Or.inr z)).pi (by omega)
          refine k _ (fr2.le (fun b k z => by unfold fa_P; omega)) (fa_setp_at F fr2 (fun k => (ok.2 k).1) ?_ ?_)
          · rw [hi_s, List.length_eraseIdx, if_pos hi]
          · intro k hk
            rw [List.length_eraseIdx, if_pos hi] at hk
            rw [hi_o (by omega), e2 k (by omega), gd_er]
            by_cases w : k < i
            · rw [if_pos w, if_neg (by omega)]
            · rw [if_neg w, if_pos (by omega)]
    · rw [if_neg (fun z => hp z.2)] at k
      simp (disch := first | assumption | omega) only [b_X1_removeParent_0, b_X1_removeParent_5, b_X1_removeParent_16, b_X1_removeParent_8, b_X1_removeParent_13, b_X1_removeParent_18, b_X1_removeParent_24, b_X1_removeParent_32, b_X1_removeParent_30, b_X1_removeParent_37, b_X1_removeParent_89, b_X1_removeParent_51, b_X1_removeParent_59, i_lit, i_m1, i_31, il_t, il_f, iq_t, iq_f, it_t, it_f, im_e, im_l, im_g, im_g2, nI_add, pk_mul, i_sub, i_dec, i_cl, iv_t, bI_or, bI_t0, bI_one, not_true_eq_false, not_false_eq_true, ↓reduceIte, am_tl, am_tn, am_t0, am_n0, and_true, true_and, List.cons_append, List.nil_append, List.append_nil, c_hasClass_y ok F ha, c_hasClass_n ok F hp]
      exact k h am_fr.rf F
  · rw [if_neg (fun z => hc z.1)] at k
    simp (disch := first | assumption | omega) only [b_X1_removeParent_0, b_X1_removeParent_5, b_X1_removeParent_16, b_X1_removeParent_8, b_X1_removeParent_13, b_X1_removeParent_18, b_X1_removeParent_24, b_X1_removeParent_32, b_X1_removeParent_30, b_X1_removeParent_37, b_X1_removeParent_89, b_X1_removeParent_51, b_X1_removeParent_59, i_lit, i_m1, i_31, il_t, il_f, iq_t, iq_f, it_t, it_f, im_e, im_l, im_g, im_g2, nI_add, pk_mul, i_sub, i_dec, i_cl, iv_t, bI_or, bI_t0, bI_one, not_true_eq_false, not_false_eq_true, ↓reduceIte, am_tl, am_tn, am_t0, am_n0, and_true, true_and, List.cons_append, List.nil_append, List.append_nil, c_hasClass_n ok F hc]
    exact k h am_fr.rf F
/-- two neighbours change places -/
def sw (l : List Nat) (i : Nat) : List Nat := (l.set i (l.getD (i + 1) 0)).set (i + 1) (l.getD i 0)
theorem sw_len {l : List Nat} {i : Nat} : (sw l i).length = l.length := by rw [sw, List.length_set, List.length_set]
theorem gd_set {l : List Nat} {i k v : Nat} (hi : i < l.length) : (l.set i v).getD k 0 = if k = i then v else l.getD k 0 := by
  rw [List.getD_eq_getElem?_getD, List.getElem?_set, List.getD_eq_getElem?_getD]
  by_cases e : i = k
  · rw [if_pos e, if_pos e.symm, if_pos hi]
    rfl
  · rw [if_neg e, if_neg (fun z => e z.symm)]
theorem gd_sw {l : List Nat} {i k : Nat} (hi : i + 1 < l.length) : (sw l i).getD k 0 = if k = i + 1 then l.getD i 0 else if k = i then l.getD (i + 1) 0 else l.getD k 0 := by
  rw [sw, gd_set (by rw [List.length_set]; exact hi), gd_set (by omega)]
def d_swap (f : fa_S) (c x : Int32) : Int32 × fa_S := if fa_has (f_n f) c then (if ¬ x < 0 ∧ x.toNatClampNeg + 1 < (f_p f c.toNatClampNeg).length then (nI 0, f_setp f c.toNatClampNeg (sw (f_p f c.toNatClampNeg) x.toNatClampNeg)) else (nI 2, f)) else (nI 1, f)
theorem c_turnParents {d : Nat} {Q : Option am_V → am_H → Prop} {h : am_H} {o : Nat} {f : fa_S} (ok : fa_ok f) (F : fa_at h o f) {c x : Int32} {l3 l4 : Option am_V} (k : ∀ h', am_fr h h' (fa_P o) → fa_at h' o (d_swap f c x).2 → Q (some (v_i (d_swap f c x).1)) h') : ex_ (d + 3) 38 0 [some (v_r (some o)), some (v_i c), some (v_i x), l3, l4] [] h Q := by
  have F0 := F.1
  have hn := ok.1
  unfold d_swap at k
  rcases fa_cs hn c with ⟨a, ha, rfl⟩ | hc
  · have hh : fa_has (f_n f) (nI a) := (fa_has_iff hn).2 ⟨a, ha, rfl⟩
    have h4 := (ok.2 a).1
    have ha10 : a < 10 := by omega
    rw [if_pos hh, nI_clamp (by omega)] at k
    by_cases hx : x < 0
    · rw [if_neg (fun z => z.1 hx)] at k
      simp (disch := first | assumption | omega) only [b_X1_turnParents_0, b_X1_turnParents_5, b_X1_turnParents_10, b_X1_turnParents_8, b_X1_turnParents_30, b_X1_turnParents_14, b_X1_turnParents_19, b_X1_turnParents_27, b_X1_turnParents_32, i_lit, i_m1, i_31, il_t, il_f, iq_t, iq_f, it_t, it_f, im_e, im_l, im_g, im_g2, nI_add, pk_mul, i_sub, i_dec, i_cl, iv_t, bI_or, bI_t0, bI_one, not_true_eq_false, not_false_eq_true, ↓reduceIte, am_tl, am_tn, am_t0, am_n0, and_true, true_and, List.cons_append, List.nil_append, List.append_nil, c_hasClass_y ok F ha]
      rw [if_pos (show x < nI 0 from hx)]
      exact k h am_fr.rf F
    · obtain ⟨i, hi, rfl⟩ := nI_of hx
      rw [nI_clamp hi] at k
      by_cases h3 : i + 1 < (f_p f a).length
      · rw [if_pos ⟨hx, h3⟩] at k
        simp (disch := first | assumption | omega) only [b_X1_turnParents_0, b_X1_turnParents_5, b_X1_turnParents_10, b_X1_turnParents_8, b_X1_turnParents_30, b_X1_turnParents_14, b_X1_turnParents_19, b_X1_turnParents_27, b_X1_turnParents_32, i_lit, i_m1, i_31, il_t, il_f, iq_t, iq_f, it_t, it_f, im_e, im_l, im_g, im_g2, nI_add, pk_mul, i_sub, i_dec, i_cl, iv_t, bI_or, bI_t0, bI_one, not_true_eq_false, not_false_eq_true, ↓reduceIte, am_tl, am_tn, am_t0, am_n0, and_true, true_and, List.cons_append, List.nil_append, List.append_nil, c_hasClass_y ok F ha, c_parentCount F ha10]
        have fr : am_fr h (p_i (p_i h (o + 2) (a * 4 + i) (h_i h (o + 2) (a * 4 + i + 1))) (o + 2) (a * 4 + i + 1) (h_i h (o + 2) (a * 4 + i))) (fun b k => (b = o + 1 ∧ k = a) ∨ (b = o + 2 ∧ 4 * a ≤ k ∧ k < 4 * a + 4)) := (am_fr_pi (by omega)).pi (by omega)
        refine k _ (fr.le (fun b k z => by unfold fa_P; omega)) (fa_setp_at F fr (fun k => (ok.2 k).1) ?_ ?_)
        · rw [hi_o (by omega), hi_o (by omega), F.2.2.2.1 a ha10, sw_len]
        · intro j hj
          rw [sw_len] at hj
          have e1 := F.2.2.2.2.1 a ha10
          rw [gd_sw h3]
          by_cases z : j = i + 1
          · rw [if_pos z, z, show 4 * a + (i + 1) = a * 4 + i + 1 from by omega, hi_s, show a * 4 + i = 4 * a + i from by omega, e1 i (by omega)]
          · rw [if_neg z, hi_k (by omega)]
            by_cases w : j = i
            · rw [if_pos w, w, show 4 * a + i = a * 4 + i from by omega, hi_s, show a * 4 + i + 1 = 4 * a + (i + 1) from by omega, e1 (i + 1) (by omega)]
            · rw [if_neg w, hi_k (by omega), e1 j hj]
      · rw [if_neg (fun z => h3 z.2)] at k
        by_cases h5 : 3 ≤ i
        · simp (disch := first | assumption | omega) only [b_X1_turnParents_0, b_X1_turnParents_5, b_X1_turnParents_10, b_X1_turnParents_8, b_X1_turnParents_30, b_X1_turnParents_14, b_X1_turnParents_19, b_X1_turnParents_27, b_X1_turnParents_32, i_lit, i_m1, i_31, il_t, il_f, iq_t, iq_f, it_t, it_f, im_e, im_l, im_g, im_g2, nI_add, pk_mul, i_sub, i_dec, i_cl, iv_t, bI_or, bI_t0, bI_one, not_true_eq_false, not_false_eq_true, ↓reduceIte, am_tl, am_tn, am_t0, am_n0, and_true, true_and, List.cons_append, List.nil_append, List.append_nil, c_hasClass_y ok F ha]
          exact k h am_fr.rf F
        · simp (disch := first | assumption | omega) only [b_X1_turnParents_0, b_X1_turnParents_5, b_X1_turnParents_10, b_X1_turnParents_8, b_X1_turnParents_30, b_X1_turnParents_14, b_X1_turnParents_19, b_X1_turnParents_27, b_X1_turnParents_32, i_lit, i_m1, i_31, il_t, il_f, iq_t, iq_f, it_t, it_f, im_e, im_l, im_g, im_g2, nI_add, pk_mul, i_sub, i_dec, i_cl, iv_t, bI_or, bI_t0, bI_one, not_true_eq_false, not_false_eq_true, ↓reduceIte, am_tl, am_tn, am_t0, am_n0, and_true, true_and, List.cons_append, List.nil_append, List.append_nil, c_hasClass_y ok F ha, c_parentCount F ha10]
          exact k h am_fr.rf F
  · rw [if_neg hc] at k
    simp (disch := first | assumption | omega) only [b_X1_turnParents_0, b_X1_turnParents_5, b_X1_turnParents_10, b_X1_turnParents_8, b_X1_turnParents_30, b_X1_turnParents_14, b_X1_turnParents_19, b_X1_turnParents_27, b_X1_turnParents_32, i_lit, i_m1, i_31, il_t, il_f, iq_t, iq_f, it_t, it_f, im_e, im_l, im_g, im_g2, nI_add, pk_mul, i_sub, i_dec, i_cl, iv_t, bI_or, bI_t0, bI_one, not_true_eq_false, not_false_eq_true, ↓reduceIte, am_tl, am_tn, am_t0, am_n0, and_true, true_and, List.cons_append, List.nil_append, List.append_nil, c_hasClass_n ok F hc]
    exact k h am_fr.rf F
def d_def (f : fa_S) (c m w : Int32) : Int32 × fa_S := if fa_has (f_n f) c ∧ me_ok m ∧ ¬ w < 0 ∧ w ≤ nI 2 then (if w = nI 2 ∧ f_d f c.toNatClampNeg m.toNatClampNeg = nI 0 then (nI 2, f) else (nI 0, f_setd f c.toNatClampNeg m.toNatClampNeg (nI ((w.toNatClampNeg + 1) % 3)))) else (nI 1, f)
theorem c_putDefinition {d : Nat} {Q : Option am_V → am_H → Prop} {h : am_H} {o : Nat} {f : fa_S} (ok : fa_ok f) (F : fa_at h o f) {c m w : Int32} {l4 : Option am_V} (k : ∀ h', am_fr h h' (fa_P o) → fa_at h' o (d_def f c m w).2 → Q (some (v_i (d_def f c m w).1)) h') : ex_ (d + 3) 39 0 [some (v_r (some o)), some (v_i c), some (v_i m), some (v_i w), l4] [] h Q := by
  have F0 := F.1
  have A3 := y_f3 F0
  have hn := ok.1
  unfold d_def at k
  rcases fa_cs hn c with ⟨a, ha, rfl⟩ | hc
  · have hh : fa_has (f_n f) (nI a) := (fa_has_iff hn).2 ⟨a, ha, rfl⟩
    have ha10 : a < 10 := by omega
    rcases me_cs m with ⟨b, hb, rfl⟩ | hm
    · have hm : me_ok (nI b) := ⟨nI_pos (by omega), nI_lt hb (by omega)⟩
      by_cases hw : w < 0
      · rw [if_neg (fun z => z.2.2.1 hw)] at k
        simp (disch := first | assumption | omega) only [b_X1_putDefinition_0, b_X1_putDefinition_5, b_X1_putDefinition_24, b_X1_putDefinition_8, b_X1_putDefinition_12, b_X1_putDefinition_15, b_X1_putDefinition_19, b_X1_putDefinition_26, b_X1_putDefinition_51, b_X1_putDefinition_39, b_X1_putDefinition_65, b_X1_putDefinition_61, b_X1_putDefinition_49, b_X1_putDefinition_74, b_X1_putDefinition_70, i_lit, i_m1, i_31, il_t, il_f, iq_t, iq_f, it_t, it_f, im_e, im_l, im_g, im_g2, nI_add, pk_mul, i_sub, i_dec, i_cl, iv_t, bI_or, bI_t0, bI_one, not_true_eq_false, not_false_eq_true, ↓reduceIte, am_tl, am_tn, am_t0, am_n0, and_true, true_and, List.cons_append, List.nil_append, List.append_nil, c_hasClass_y ok F ha, c_isMethod_y hb]
        rw [if_pos (show w < nI 0 from hw)]
        exact k h am_fr.rf F
      · obtain ⟨v, hv, rfl⟩ := nI_of hw
        by_cases hv2 : v ≤ 2
        · rw [if_pos ⟨hh, hm, hw, nI_le hv2 (by omega)⟩, nI_clamp (by omega), nI_clamp (by omega), nI_clamp (by omega)] at k
          have e := F.2.2.2.2.2 a b ha10 hb
          have fr : ∀ x : Int32, am_fr h (p_i h (o + 3) (8 * a + b) x) (fa_P o) := fun x => am_fr_pi (by unfold fa_P; omega)
          have e8 : a * 8 + b = 8 * a + b := by omega
          have hv3 : v = 0 ∨ v = 1 ∨ v = 2 := by omega
          rcases hv3 with rfl | rfl | rfl
          · rw [if_neg (fun z => by have := (nI_eq (by omega) (by omega)).1 z.1; omega)] at k
            simp (disch := first | assumption | omega) only [b_X1_putDefinition_0, b_X1_putDefinition_5, b_X1_putDefinition_24, b_X1_putDefinition_8, b_X1_putDefinition_12, b_X1_putDefinition_15, b_X1_putDefinition_19, b_X1_putDefinition_26, b_X1_putDefinition_51, b_X1_putDefinition_39, b_X1_putDefinition_65, b_X1_putDefinition_61, b_X1_putDefinition_49, b_X1_putDefinition_74, b_X1_putDefinition_70, i_lit, i_m1, i_31, il_t, il_f, iq_t, iq_f, it_t, it_f, im_e, im_l, im_g, im_g2, nI_add, pk_mul, i_sub, i_dec, i_cl, iv_t, bI_or, bI_t0, bI_one, not_true_eq_false, not_false_eq_true, ↓reduceIte, am_tl, am_tn, am_t0, am_n0, and_true, true_and, List.cons_append, List.nil_append, List.append_nil, c_hasClass_y ok F ha, c_isMethod_y hb, e8]
            exact k _ (fr _) (fa_setd_at F ha10 hb)
          · rw [if_neg (fun z => by have := (nI_eq (by omega) (by omega)).1 z.1; omega)] at k
            simp (disch := first | assumption | omega) only [b_X1_putDefinition_0, b_X1_putDefinition_5, b_X1_putDefinition_24, b_X1_putDefinition_8, b_X1_putDefinition_12, b_X1_putDefinition_15, b_X1_putDefinition_19, b_X1_putDefinition_26, b_X1_putDefinition_51, b_X1_putDefinition_39, b_X1_putDefinition_65, b_X1_putDefinition_61, b_X1_putDefinition_49, b_X1_putDefinition_74, b_X1_putDefinition_70, i_lit, i_m1, i_31, il_t, il_f, iq_t, iq_f, it_t, it_f, im_e, im_l, im_g, im_g2, nI_add, pk_mul, i_sub, i_dec, i_cl, iv_t, bI_or, bI_t0, bI_one, not_true_eq_false, not_false_eq_true, ↓reduceIte, am_tl, am_tn, am_t0, am_n0, and_true, true_and, List.cons_append, List.nil_append, List.append_nil, c_hasClass_y ok F ha, c_isMethod_y hb, e8]
            exact k _ (fr _) (fa_setd_at F ha10 hb)
          · simp (disch := first | assumption | omega) only [b_X1_putDefinition_0, b_X1_putDefinition_5, b_X1_putDefinition_24, b_X1_putDefinition_8, b_X1_putDefinition_12, b_X1_putDefinition_15, b_X1_putDefinition_19, b_X1_putDefinition_26, b_X1_putDefinition_51, b_X1_putDefinition_39, b_X1_putDefinition_65, b_X1_putDefinition_61, b_X1_putDefinition_49, b_X1_putDefinition_74, b_X1_putDefinition_70, i_lit, i_m1, i_31, il_t, il_f, iq_t, iq_f, it_t, it_f, im_e, im_l, im_g, im_g2, nI_add, pk_mul, i_sub, i_dec, i_cl, iv_t, bI_or, bI_t0, bI_one, not_true_eq_false, not_false_eq_true, ↓reduceIte, am_tl, am_tn, am_t0, am_n0, and_true, true_and, List.cons_append, List.nil_append, List.append_nil, c_hasClass_y ok F ha, c_isMethod_y hb, e8, e]
            by_cases z : f_d f a b = nI 0
            · rw [if_pos ⟨rfl, z⟩] at k
              rw [if_neg (fun w => w z)]
              exact k h am_fr.rf F
            · rw [if_neg (fun w => z w.2)] at k
              rw [if_pos z]
              exact k _ (fr _) (fa_setd_at F ha10 hb)
        · rw [if_neg (fun z => hv2 ((nI_leI hv (by omega)).1 z.2.2.2))] at k
          simp (disch := first | assumption | omega) only [b_X1_putDefinition_0, b_X1_putDefinition_5, b_X1_putDefinition_24, b_X1_putDefinition_8, b_X1_putDefinition_12, b_X1_putDefinition_15, b_X1_putDefinition_19, b_X1_putDefinition_26, b_X1_putDefinition_51, b_X1_putDefinition_39, b_X1_putDefinition_65, b_X1_putDefinition_61, b_X1_putDefinition_49, b_X1_putDefinition_74, b_X1_putDefinition_70, i_lit, i_m1, i_31, il_t, il_f, iq_t, iq_f, it_t, it_f, im_e, im_l, im_g, im_g2, nI_add, pk_mul, i_sub, i_dec, i_cl, iv_t, bI_or, bI_t0, bI_one, not_true_eq_false, not_false_eq_true, ↓reduceIte, am_tl, am_tn, am_t0, am_n0, and_true, true_and, List.cons_append, List.nil_append, List.append_nil, c_hasClass_y ok F ha, c_isMethod_y hb]
          exact k h am_fr.rf F
    · rw [if_neg (fun z => hm z.2.1)] at k
      simp (disch := first | assumption | omega) only [b_X1_putDefinition_0, b_X1_putDefinition_5, b_X1_putDefinition_24, b_X1_putDefinition_8, b_X1_putDefinition_12, b_X1_putDefinition_15, b_X1_putDefinition_19, b_X1_putDefinition_26, b_X1_putDefinition_51, b_X1_putDefinition_39, b_X1_putDefinition_65, b_X1_putDefinition_61, b_X1_putDefinition_49, b_X1_putDefinition_74, b_X1_putDefinition_70, i_lit, i_m1, i_31, il_t, il_f, iq_t, iq_f, it_t, it_f, im_e, im_l, im_g, im_g2, nI_add, pk_mul, i_sub, i_dec, i_cl, iv_t, bI_or, bI_t0, bI_one, not_true_eq_false, not_false_eq_true, ↓reduceIte, am_tl, am_tn, am_t0, am_n0, and_true, true_and, List.cons_append, List.nil_append, List.append_nil, c_hasClass_y ok F ha, c_isMethod_n hm]
      exact k h am_fr.rf F
  · rw [if_neg (fun z => hc z.1)] at k
    simp (disch := first | assumption | omega) only [b_X1_putDefinition_0, b_X1_putDefinition_5, b_X1_putDefinition_24, b_X1_putDefinition_8, b_X1_putDefinition_12, b_X1_putDefinition_15, b_X1_putDefinition_19, b_X1_putDefinition_26, b_X1_putDefinition_51, b_X1_putDefinition_39, b_X1_putDefinition_65, b_X1_putDefinition_61, b_X1_putDefinition_49, b_X1_putDefinition_74, b_X1_putDefinition_70, i_lit, i_m1, i_31, il_t, il_f, iq_t, iq_f, it_t, it_f, im_e, im_l, im_g, im_g2, nI_add, pk_mul, i_sub, i_dec, i_cl, iv_t, bI_or, bI_t0, bI_one, not_true_eq_false, not_false_eq_true, ↓reduceIte, am_tl, am_tn, am_t0, am_n0, and_true, true_and, List.cons_append, List.nil_append, List.append_nil, c_hasClass_n ok F hc]
    exact k h am_fr.rf F
def d_mood (f : fa_S) (x : Int32) : Int32 × fa_S := if ¬ x < 0 ∧ x < nI 10 then (nI 0, f_setm f x) else (nI 1, f)
theorem c_putMood {d : Nat} {Q : Option am_V → am_H → Prop} {h : am_H} {o : Nat} {f : fa_S} (F : fa_at h o f) {x : Int32} (k : ∀ h', am_fr h h' (fa_P o) → fa_at h' o (d_mood f x).2 → Q (some (v_i (d_mood f x).1)) h') : ex_ d 40 0 [some (v_r (some o)), some (v_i x)] [] h Q := by
  have F0 := F.1
  unfold d_mood at k
  by_cases h0 : x < 0
  · rw [if_neg (fun z => z.1 h0)] at k
    rw [b_X1_putMood_0, if_pos h0, b_X1_putMood_10]
    exact k h am_fr.rf F
  · by_cases h1 : x < nI 10
    · rw [if_pos ⟨h0, h1⟩] at k
      rw [b_X1_putMood_0, if_neg h0, b_X1_putMood_4, if_pos (show x < 10 from h1), b_X1_putMood_12 h o x F0]
      exact k _ (am_fr_pi (by unfold fa_P; omega)) (fa_setm_at F)
    · rw [if_neg (fun z => h1 z.2)] at k
      rw [b_X1_putMood_0, if_neg h0, b_X1_putMood_4, if_neg (show ¬ x < 10 from h1), b_X1_putMood_10]
      exact k h am_fr.rf F
