def t_would (f : fa_S) (tr : tr_S) (x : Int32) : Int32 := if wdC f tr x = nI 0 then nI (od1 (fT f) 10 ((wdL f tr x).getD [])).1 else wdC f tr x
def t_wouldOrder (f : fa_S) (tr : tr_S) (x i : Int32) : Int32 := if wdC f tr x = nI 0 then (if i < nI 1 then -3 else oI (od1 (fT f) 10 ((wdL f tr x).getD [])).2[i.toNatClampNeg]?) else wdC f tr x
theorem tyA.fr {h h' : am_H} {P : Nat → Nat → Prop} (L : Lay h) {tr : tr_S} (T : tyA h tr) (fr : am_fr h h' P) (hp : ∀ a k, 85 ≤ a → a ≤ 92 → ¬ P a k) : tyA h' tr := (fr.g (J := N0) (R := N0)).tyA L T hp (fun _ _ _ _ z => z)
theorem od10_ok {f : fa_S} (ok : fa_ok f) {ps : List Nat} (hps : ∀ p ∈ ps, p < f_n f) (nd : ps.Nodup) : (od1 (fT f) 10 ps).1 ≤ 2 ∧ (od1 (fT f) 10 ps).2.length ≤ 11 ∧ (∀ x ∈ (od1 (fT f) 10 ps).2, x < 11) ∧ ((od1 (fT f) 10 ps).1 = 0 ↔ ¬ (od1 (fT f) 10 ps).2 = []) := by
  have n10 := ok.1
  have h := od1_ok (c := 10) (fT_ok ok) (fT_le ok) hps nd n10 n10
  have lt : ∀ x ∈ (od1 (fT f) 10 ps).2, x < 11 := fun x hx => by
    rcases h.2.2.2 x hx with z | z <;> omega
  exact ⟨h.1, nd_len h.2.2.1 lt, lt, h.2.1⟩
theorem or_P.S {a k : Nat} (z : or_P 15 10 a k) : cS a k := by unfold or_P at z; unfold cS; omega
theorem c_would {d : Nat} {Q : Option am_V → am_H → Prop} {h : am_H} {S : St} {x : Int32} {l2 : Option am_V} (ok : St_ok S) (C : cI h S) (k : ∀ h', am_fr h h' cS → Q (some (v_i (t_would (s_f S) (s_t S) x))) h') : ex_ (d + 3) 208 0 [some (v_r (some 0)), some (v_i x), l2] [] h Q := by
  have L := C.1
  have gd : fa_gd (s_f S) := ok.1.1.1
  have T := C.2.2.2.1
  rw [b_X11_would_0 _ _ _ L]
  refine c_wouldCode gd.1 L C.cQ.2.1 T (fun h1 fr1 r1 => ?_)
  have fr1' : am_fr h h1 cS := fr1.le (fun a k z => by unfold cS; omega)
  have C1 := C.q ok fr1'
  have L1 := C1.1
  unfold t_would at k
  rcases wd_cs gd.1 (s_t S) x with z | ⟨z, t, l, ht, rfl, hl, e1, h4, nd, lt, -⟩
  · rw [if_neg z] at k
    simp (disch := first | assumption | omega | (simp only [ya_pi, ya_pj, ya_pa, ya_pr, yo_pi, yo_pj, yo_pa, yf_pi, yf_pj, yf_pa, yh_pi, yh_pj, yh_pa, yt_pi, yt_pj, yt_pa, la_pi, la_pj, la_pa]; assumption)) only [b_X11_would_0, b_X11_would_5, b_X11_would_14, b_X11_would_10, b_X11_would_30, b_X11_would_36, i_lit, i_m1, i_31, il_t, il_f, iq_t, iq_f, it_t, it_f, im_e, im_l, im_g, im_g2, nI_add, pk_mul, i_sub, i_div, sdm, i_dec, i_cl, iv_t, bI_or2, bI_t0, bI_one, not_true_eq_false, not_false_eq_true, ↓reduceIte, am_tl, am_tn, am_t0, am_n0, and_true, true_and, List.cons_append, List.nil_append, List.append_nil, z]
    exact k h1 fr1'
  · rw [if_pos z, hl] at k
    have Y1 := tr_y L1 ht
    have er := tr_ref L1 ht
    have A81 : y_arr h1 81 20 4 := la_y L1 rfl
    have O1 := C1.2.1
    have O10 := O1.1
    have et : h_i h1 (85 + 2 * t) 1 = nI l.length := by rw [e1]; exact (C1.2.2.2.1 t ht).2.1
    simp (disch := first | assumption | omega | (simp only [ya_pi, ya_pj, ya_pa, ya_pr, yo_pi, yo_pj, yo_pa, yf_pi, yf_pj, yf_pa, yh_pi, yh_pj, yh_pa, yt_pi, yt_pj, yt_pa, la_pi, la_pj, la_pa]; assumption)) only [b_X11_would_0, b_X11_would_5, b_X11_would_14, b_X11_would_10, b_X11_would_30, b_X11_would_36, i_lit, i_m1, i_31, il_t, il_f, iq_t, iq_f, it_t, it_f, im_e, im_l, im_g, im_g2, nI_add, pk_mul, i_sub, i_div, sdm, i_dec, i_cl, iv_t, bI_or2, bI_t0, bI_one, not_true_eq_false, not_false_eq_true, ↓reduceIte, am_tl, am_tn, am_t0, am_n0, and_true, true_and, List.cons_append, List.nil_append, List.append_nil, z, er, et]
    refine c_settle O1 (fT_ok gd.1) gd.1.1 (by omega) lt nd h4 A81 (r1 z l hl) (by omega) (fun h2 fr2 r2 => ?_)
    simp (disch := first | assumption | omega | (simp only [ya_pi, ya_pj, ya_pa, ya_pr, yo_pi, yo_pj, yo_pa, yf_pi, yf_pj, yf_pa, yh_pi, yh_pj, yh_pa, yt_pi, yt_pj, yt_pa, la_pi, la_pj, la_pa]; assumption)) only [b_X11_would_0, b_X11_would_5, b_X11_would_14, b_X11_would_10, b_X11_would_30, b_X11_would_36, i_lit, i_m1, i_31, il_t, il_f, iq_t, iq_f, it_t, it_f, im_e, im_l, im_g, im_g2, nI_add, pk_mul, i_sub, i_div, sdm, i_dec, i_cl, iv_t, bI_or2, bI_t0, bI_one, not_true_eq_false, not_false_eq_true, ↓reduceIte, am_tl, am_tn, am_t0, am_n0, and_true, true_and, List.cons_append, List.nil_append, List.append_nil]
    exact k h2 (fr1'.tr (fr2.le (fun a k z => z.S)))
theorem c_wouldOrder {d : Nat} {Q : Option am_V → am_H → Prop} {h : am_H} {S : St} {x i : Int32} {l3 : Option am_V} (ok : St_ok S) (C : cI h S) (k : ∀ h', am_fr h h' cS → Q (some (v_i (t_wouldOrder (s_f S) (s_t S) x i))) h') : ex_ (d + 3) 209 0 [some (v_r (some 0)), some (v_i x), some (v_i i), l3] [] h Q := by
  have L := C.1
  have gd : fa_gd (s_f S) := ok.1.1.1
  have T := C.2.2.2.1
  rw [b_X11_wouldOrder_0 _ _ _ _ L]
  refine c_wouldCode gd.1 L C.cQ.2.1 T (fun h1 fr1 r1 => ?_)
  have fr1' : am_fr h h1 cS := fr1.le (fun a k z => by unfold cS; omega)
  have C1 := C.q ok fr1'
  have L1 := C1.1
  unfold t_wouldOrder at k
  rcases wd_cs gd.1 (s_t S) x with z | ⟨z, t, l, ht, rfl, hl, e1, h4, nd, lt, -⟩
  · rw [if_neg z] at k
    simp (disch := first | assumption | omega | (simp only [ya_pi, ya_pj, ya_pa, ya_pr, yo_pi, yo_pj, yo_pa, yf_pi, yf_pj, yf_pa, yh_pi, yh_pj, yh_pa, yt_pi, yt_pj, yt_pa, la_pi, la_pj, la_pa]; assumption)) only [b_X11_wouldOrder_0, b_X11_wouldOrder_5, b_X11_wouldOrder_12, b_X11_wouldOrder_10, b_X11_wouldOrder_20, b_X11_wouldOrder_17, b_X11_wouldOrder_36, b_X11_wouldOrder_42, b_X11_wouldOrder_53, i_lit, i_m1, i_31, il_t, il_f, iq_t, iq_f, it_t, it_f, im_e, im_l, im_g, im_g2, nI_add, pk_mul, i_sub, i_div, sdm, i_dec, i_cl, iv_t, bI_or2, bI_t0, bI_one, not_true_eq_false, not_false_eq_true, ↓reduceIte, am_tl, am_tn, am_t0, am_n0, and_true, true_and, List.cons_append, List.nil_append, List.append_nil, z]
    exact k h1 fr1'
  · rw [if_pos z, hl] at k
    by_cases y : i < nI 1
    · rw [if_pos y] at k
      have y' : ¬ nI 1 ≤ i := fun w => Int32.not_lt.2 w y
      simp (disch := first | assumption | omega | (simp only [ya_pi, ya_pj, ya_pa, ya_pr, yo_pi, yo_pj, yo_pa, yf_pi, yf_pj, yf_pa, yh_pi, yh_pj, yh_pa, yt_pi, yt_pj, yt_pa, la_pi, la_pj, la_pa]; assumption)) only [b_X11_wouldOrder_0, b_X11_wouldOrder_5, b_X11_wouldOrder_12, b_X11_wouldOrder_10, b_X11_wouldOrder_20, b_X11_wouldOrder_17, b_X11_wouldOrder_36, b_X11_wouldOrder_42, b_X11_wouldOrder_53, i_lit, i_m1, i_31, il_t, il_f, iq_t, iq_f, it_t, it_f, im_e, im_l, im_g, im_g2, nI_add, pk_mul, i_sub, i_div, sdm, i_dec, i_cl, iv_t, bI_or2, bI_t0, bI_one, not_true_eq_false, not_false_eq_true, ↓reduceIte, am_tl, am_tn, am_t0, am_n0, and_true, true_and, List.cons_append, List.nil_append, List.append_nil, z, y']
      exact k h1 fr1'
    · rw [if_neg y] at k
      obtain ⟨i, i1, hi, rfl⟩ := lt_1 y
      rw [nI_clamp hi] at k
      have Y1 := tr_y L1 ht
      have er := tr_ref L1 ht
      have A81 : y_arr h1 81 20 4 := la_y L1 rfl
      have O1 := C1.2.1
      have O10 := O1.1
      have et : h_i h1 (85 + 2 * t) 1 = nI l.length := by rw [e1]; exact (C1.2.2.2.1 t ht).2.1
      simp (disch := first | assumption | omega | (simp only [ya_pi, ya_pj, ya_pa, ya_pr, yo_pi, yo_pj, yo_pa, yf_pi, yf_pj, yf_pa, yh_pi, yh_pj, yh_pa, yt_pi, yt_pj, yt_pa, la_pi, la_pj, la_pa]; assumption)) only [b_X11_wouldOrder_0, b_X11_wouldOrder_5, b_X11_wouldOrder_12, b_X11_wouldOrder_10, b_X11_wouldOrder_20, b_X11_wouldOrder_17, b_X11_wouldOrder_36, b_X11_wouldOrder_42, b_X11_wouldOrder_53, i_lit, i_m1, i_31, il_t, il_f, iq_t, iq_f, it_t, it_f, im_e, im_l, im_g, im_g2, nI_add, pk_mul, i_sub, i_div, sdm, i_dec, i_cl, iv_t, bI_or2, bI_t0, bI_one, not_true_eq_false, not_false_eq_true, ↓reduceIte, am_tl, am_tn, am_t0, am_n0, and_true, true_and, List.cons_append, List.nil_append, List.append_nil, z, er, et]
      refine c_settle O1 (fT_ok gd.1) gd.1.1 (by omega) lt nd h4 A81 (r1 z l hl) (by omega) (fun h2 fr2 r2 => ?_)
      have O2 : y_Orders h2 15 := fr2.orders O10
      have L2 := fr2.lay L1
      have od := od10_ok gd.1 lt nd
      have fr := fr1'.tr (fr2.le (fun a k (z : or_P 15 10 a k) => z.S))
      have fin := k h2 fr
      rw [Option.getD_some] at fin
      by_cases w : i < (od1 (fT (s_f S)) 10 l).2.length
      · rw [gI w] at fin
        simp (disch := first | assumption | omega | (simp only [ya_pi, ya_pj, ya_pa, ya_pr, yo_pi, yo_pj, yo_pa, yf_pi, yf_pj, yf_pa, yh_pi, yh_pj, yh_pa, yt_pi, yt_pj, yt_pa, la_pi, la_pj, la_pa]; assumption)) only [b_X11_wouldOrder_0, b_X11_wouldOrder_5, b_X11_wouldOrder_12, b_X11_wouldOrder_10, b_X11_wouldOrder_20, b_X11_wouldOrder_17, b_X11_wouldOrder_36, b_X11_wouldOrder_42, b_X11_wouldOrder_53, i_lit, i_m1, i_31, il_t, il_f, iq_t, iq_f, it_t, it_f, im_e, im_l, im_g, im_g2, nI_add, pk_mul, i_sub, i_div, sdm, i_dec, i_cl, iv_t, bI_or2, bI_t0, bI_one, not_true_eq_false, not_false_eq_true, ↓reduceIte, am_tl, am_tn, am_t0, am_n0, and_true, true_and, List.cons_append, List.nil_append, List.append_nil, c_at O2 r2 (show 10 < 11 by omega) w od.2.1]
        exact fin
      · rw [gI_n (by omega)] at fin
        simp (disch := first | assumption | omega | (simp only [ya_pi, ya_pj, ya_pa, ya_pr, yo_pi, yo_pj, yo_pa, yf_pi, yf_pj, yf_pa, yh_pi, yh_pj, yh_pa, yt_pi, yt_pj, yt_pa, la_pi, la_pj, la_pa]; assumption)) only [b_X11_wouldOrder_0, b_X11_wouldOrder_5, b_X11_wouldOrder_12, b_X11_wouldOrder_10, b_X11_wouldOrder_20, b_X11_wouldOrder_17, b_X11_wouldOrder_36, b_X11_wouldOrder_42, b_X11_wouldOrder_53, i_lit, i_m1, i_31, il_t, il_f, iq_t, iq_f, it_t, it_f, im_e, im_l, im_g, im_g2, nI_add, pk_mul, i_sub, i_div, sdm, i_dec, i_cl, iv_t, bI_or2, bI_t0, bI_one, not_true_eq_false, not_false_eq_true, ↓reduceIte, am_tl, am_tn, am_t0, am_n0, and_true, true_and, List.cons_append, List.nil_append, List.append_nil, c_at_none O2 r2 (show 10 < 11 by omega) (show (od1 (fT (s_f S)) 10 l).2.length ≤ i by omega) hi]
        exact fin
/-! in how many orders of its parents -/
def dg (t i : Nat) : Nat := t / 2 ^ (2 * i) % 4
def vld (t n : Nat) : Nat → List Nat → Option (List Nat)
  | 0, acc => some acc
  | m + 1, acc => if dg t acc.length < n ∧ acc.contains (dg t acc.length) = false then vld t n m (acc ++ [dg t acc.length]) else none
def pmL (l ds : List Nat) : List Nat := ds.map (fun i => l.getD i 0)
def wwP (g : List Nat → Bool) (l : List Nat) (t : Nat) : Bool := (vld t l.length l.length []).any (fun ds => g (pmL l ds))
theorem i_and3 {a : Nat} : nI a &&& nI 3 = nI (a % 4) := by
  rw [ix_and, show (3 : Nat) = 2 ^ 2 - 1 from rfl, Nat.and_two_pow_sub_one_eq_mod]
theorem vld_spec {t n : Nat} : ∀ {m : Nat} {acc ds : List Nat}, acc.Nodup → (∀ x ∈ acc, x < n) → vld t n m acc = some ds → ds.Nodup ∧ (∀ x ∈ ds, x < n) ∧ ds.length = acc.length + m := by
  intro m
  induction m with
  | zero => intro acc ds nd lt h; cases h; exact ⟨nd, lt, rfl⟩
  | succ m ih =>
    intro acc ds nd lt h
    rw [vld] at h
    split at h
    · rename_i z
      have z2 : ¬ dg t acc.length ∈ acc := by simpa using z.2
      obtain ⟨a1, a2, a3⟩ := ih (List.nodup_append.2 ⟨nd, (by simp), fun x hx y hy => by rw [List.mem_singleton.1 hy]; exact fun e => z2 (e ▸ hx)⟩) (fun x hx => by
        rcases List.mem_append.1 hx with y | y
        · exact lt x y
        · rw [List.mem_singleton.1 y]; exact z.1) h
      rw [List.length_append, List.length_singleton] at a3
      exact ⟨a1, a2, by omega⟩
    · cases h
theorem pmL_mem {l ds : List Nat} (hd : ∀ x ∈ ds, x < l.length) {x : Nat} (h : x ∈ pmL l ds) : x ∈ l := by
  unfold pmL at h
  obtain ⟨i, hi, rfl⟩ := List.mem_map.1 h
  exact gd_mem (hd i hi)
theorem pmL_nd {l ds : List Nat} (nl : l.Nodup) (nd : ds.Nodup) (hd : ∀ x ∈ ds, x < l.length) : (pmL l ds).Nodup := by
  unfold pmL List.Nodup
  rw [List.pairwise_map]
  refine List.Pairwise.imp_of_mem (fun {x y} hx hy ne e => ?_) nd
  have h := nd_gd.1 nl
  rcases Nat.lt_trichotomy x y with z | z | z
  · exact absurd e (h x y z (hd y hy))
  · exact ne z
  · exact absurd e.symm (h y x z (hd x hx))
theorem c_turnTold {d : Nat} {Q : Option am_V → am_H → Prop} {h : am_H} {t : Nat} {l : List Nat} (L : Lay h) (h4 : l.length ≤ 4) (ht : t < 2147483648) (r : ro h 81 0 l) {l3 l4 l5 : Option am_V} (k : ∀ h', am_fr h h' (fun a _ => a = 82) → (∀ ds, vld t l.length l.length [] = some ds → ro h' 82 0 (pmL l ds)) → Q (some (v_i (nI (if (vld t l.length l.length []).isSome = true then 1 else 0)))) h') : ex_ d 210 0 [some (v_r (some 0)), some (v_i (nI t)), some (v_i (nI l.length)), l3, l4, l5] [] h Q := by
  simp (disch := first | assumption | omega | (simp only [ya_pi, ya_pj, ya_pa, ya_pr, yo_pi, yo_pj, yo_pa, yf_pi, yf_pj, yf_pa, yh_pi, yh_pj, yh_pa, yt_pi, yt_pj, yt_pa, la_pi, la_pj, la_pa]; assumption)) only [b_X11_turnTold_0, b_X11_turnTold_71, b_X11_turnTold_11, b_X11_turnTold_17, b_X11_turnTold_42, b_X11_turnTold_33, b_X11_turnTold_44, i_lit, i_m1, i_31, il_t, il_f, iq_t, iq_f, it_t, it_f, im_e, im_l, im_g, im_g2, nI_add, pk_mul, i_sub, i_div, sdm, i_dec, i_cl, iv_t, bI_or2, bI_t0, bI_one, not_true_eq_false, not_false_eq_true, ↓reduceIte, am_tl, am_tn, am_t0, am_n0, and_true, true_and, List.cons_append, List.nil_append, List.append_nil]
  have st := lp_up (d := d) (k := 210) (pc := 5) (Q := Q) l.length (fun i (s : List Nat × Option am_V) => [some (v_r (some 0)), some (v_i (nI t)), some (v_i (nI l.length)), some (v_i (nI (bs (fun y => s.1.contains y)))), some (v_i (nI i)), s.2]) (fun i s h' => am_fr h h' (fun a _ => a = 82) ∧ s.1.length = i ∧ (∀ x ∈ s.1, x < l.length) ∧ ro h' 82 0 (pmL l s.1) ∧ vld t l.length l.length [] = vld t l.length (l.length - i) s.1) ?_ ?_ (Nat.zero_le _) ⟨am_fr.rf, rfl, (fun x hx => by cases hx), ro_nil, by rw [Nat.sub_zero]⟩ (s := ([], l5)) (h := h)
  · dsimp only at st
    rw [← bsc0] at st
    exact st
  · rintro i ⟨acc, m5⟩ h1 hi ⟨fr1, hl, lt, r1, eq⟩ nxt
    dsimp only at hl lt r1 eq ⊢
    have L1 := fr1.lay L
    have d4 : dg t i < 4 := Nat.mod_lt _ (by omega)
    have hdg : nI (t / 2 ^ (2 * i)) &&& nI 3 = nI (dg t i) := i_and3
    have dg16 : dg t i < 16 := by omega
    rw [show l.length - i = (l.length - (i + 1)) + 1 from by omega, vld, hl] at eq
    rw [b_X11_turnTold_5 _ _ _ _ _ _ _]
    by_cases z : dg t i < l.length
    · have e81 := r (dg t i) z
      rw [Nat.zero_add] at e81
      have e81' : h_i h1 81 (dg t i) = nI (l.getD (dg t i) 0) := by rw [fr1.i (by omega)]; exact e81
      by_cases y : acc.contains (dg t i) = false
      · rw [if_pos ⟨z, y⟩] at eq
        have y' : (dg t i ∈ acc) = False := eq_false (by simpa using y)
        simp (disch := first | assumption | omega | (simp only [ya_pi, ya_pj, ya_pa, ya_pr, yo_pi, yo_pj, yo_pa, yf_pi, yf_pj, yf_pa, yh_pi, yh_pj, yh_pa, yt_pi, yt_pj, yt_pa, la_pi, la_pj, la_pa]; assumption)) only [b_X11_turnTold_0, b_X11_turnTold_71, b_X11_turnTold_11, b_X11_turnTold_17, b_X11_turnTold_42, b_X11_turnTold_33, b_X11_turnTold_44, i_lit, i_m1, i_31, il_t, il_f, iq_t, iq_f, it_t, it_f, im_e, im_l, im_g, im_g2, nI_add, pk_mul, i_sub, i_div, sdm, i_dec, i_cl, iv_t, bI_or2, bI_t0, bI_one, not_true_eq_false, not_false_eq_true, ↓reduceIte, am_tl, am_tn, am_t0, am_n0, and_true, true_and, List.cons_append, List.nil_append, List.append_nil, i_31, i_shr, hdg, y, List.contains_eq_mem, y', decide_false, e81']
        have nx1 := nxt (acc ++ [dg t i], some (v_i (nI (dg t i)))) (p_i h1 82 i (nI (l.getD (dg t i) 0))) ⟨fr1.pi rfl, by dsimp only; rw [List.length_append, List.length_singleton, hl], ?_, ?_, eq⟩
        · dsimp only at nx1
          rw [← bsc] at nx1
          simp only [List.contains_eq_mem] at nx1
          exact nx1
        · intro x hx
          rcases List.mem_append.1 hx with w | w
          · exact lt x w
          · rw [List.mem_singleton.1 w]; exact z
        · have := ro_app (q := l.getD (dg t i) 0) r1
          rw [show (pmL l acc).length = i from by rw [pmL, List.length_map, hl], Nat.zero_add] at this
          dsimp only
          rw [pmL, List.map_append]
          exact this
      · rw [if_neg (fun w => y w.2)] at eq
        rw [eq] at k
        have y' : (dg t i ∈ acc) = True := eq_true (by simpa using y)
        simp (disch := first | assumption | omega | (simp only [ya_pi, ya_pj, ya_pa, ya_pr, yo_pi, yo_pj, yo_pa, yf_pi, yf_pj, yf_pa, yh_pi, yh_pj, yh_pa, yt_pi, yt_pj, yt_pa, la_pi, la_pj, la_pa]; assumption)) only [b_X11_turnTold_0, b_X11_turnTold_71, b_X11_turnTold_11, b_X11_turnTold_17, b_X11_turnTold_42, b_X11_turnTold_33, b_X11_turnTold_44, i_lit, i_m1, i_31, il_t, il_f, iq_t, iq_f, it_t, it_f, im_e, im_l, im_g, im_g2, nI_add, pk_mul, i_sub, i_div, sdm, i_dec, i_cl, iv_t, bI_or2, bI_t0, bI_one, not_true_eq_false, not_false_eq_true, ↓reduceIte, am_tl, am_tn, am_t0, am_n0, and_true, true_and, List.cons_append, List.nil_append, List.append_nil, i_31, i_shr, hdg, y, List.contains_eq_mem, y', decide_true, Bool.true_eq_false]
        exact k h1 fr1 (fun ds hds => by cases hds)
    · rw [if_neg (fun w => z w.1)] at eq
      rw [eq] at k
      simp (disch := first | assumption | omega | (simp only [ya_pi, ya_pj, ya_pa, ya_pr, yo_pi, yo_pj, yo_pa, yf_pi, yf_pj, yf_pa, yh_pi, yh_pj, yh_pa, yt_pi, yt_pj, yt_pa, la_pi, la_pj, la_pa]; assumption)) only [b_X11_turnTold_0, b_X11_turnTold_71, b_X11_turnTold_11, b_X11_turnTold_17, b_X11_turnTold_42, b_X11_turnTold_33, b_X11_turnTold_44, i_lit, i_m1, i_31, il_t, il_f, iq_t, iq_f, it_t, it_f, im_e, im_l, im_g, im_g2, nI_add, pk_mul, i_sub, i_div, sdm, i_dec, i_cl, iv_t, bI_or2, bI_t0, bI_one, not_true_eq_false, not_false_eq_true, ↓reduceIte, am_tl, am_tn, am_t0, am_n0, and_true, true_and, List.cons_append, List.nil_append, List.append_nil, i_31, i_shr, hdg]
      exact k h1 fr1 (fun ds hds => by cases hds)
  · rintro ⟨acc, m5⟩ h1 ⟨fr1, hl, lt, r1, eq⟩
    dsimp only at hl lt r1 eq ⊢
    rw [Nat.sub_self, vld] at eq
    rw [eq] at k
    rw [b_X11_turnTold_5 _ _ _ _ _ _ _]
    simp (disch := first | assumption | omega | (simp only [ya_pi, ya_pj, ya_pa, ya_pr, yo_pi, yo_pj, yo_pa, yf_pi, yf_pj, yf_pa, yh_pi, yh_pj, yh_pa, yt_pi, yt_pj, yt_pa, la_pi, la_pj, la_pa]; assumption)) only [b_X11_turnTold_0, b_X11_turnTold_71, b_X11_turnTold_11, b_X11_turnTold_17, b_X11_turnTold_42, b_X11_turnTold_33, b_X11_turnTold_44, i_lit, i_m1, i_31, il_t, il_f, iq_t, iq_f, it_t, it_f, im_e, im_l, im_g, im_g2, nI_add, pk_mul, i_sub, i_div, sdm, i_dec, i_cl, iv_t, bI_or2, bI_t0, bI_one, not_true_eq_false, not_false_eq_true, ↓reduceIte, am_tl, am_tn, am_t0, am_n0, and_true, true_and, List.cons_append, List.nil_append, List.append_nil]
    exact k h1 fr1 (fun ds hds => by cases hds; exact r1)
def t_wouldWays (f : fa_S) (tr : tr_S) (x : Int32) : Int32 := if wdC f tr x = nI 0 then nI (ct (wwP (fun ps => (od1 (fT f) 10 ps).1 == 0) ((wdL f tr x).getD [])) (2 ^ (2 * ((wdL f tr x).getD []).length))) else wdC f tr x
theorem c_wouldWays {d : Nat} {Q : Option am_V → am_H → Prop} {h : am_H} {S : St} {x : Int32} {l2 l3 l4 l5 : Option am_V} (ok : St_ok S) (C : cI h S) (k : ∀ h', am_fr h h' cS → Q (some (v_i (t_wouldWays (s_f S) (s_t S) x))) h') : ex_ (d + 3) 211 0 [some (v_r (some 0)), some (v_i x), l2, l3, l4, l5] [] h Q := by
  have L := C.1
  have gd : fa_gd (s_f S) := ok.1.1.1
  have T := C.2.2.2.1
  rw [b_X11_wouldWays_0 _ _ _ _ _ _ L]
  refine c_wouldCode gd.1 L C.cQ.2.1 T (fun h1 fr1 r1 => ?_)
  have fr1' : am_fr h h1 cS := fr1.le (fun a k z => by unfold cS; omega)
  have C1 := C.q ok fr1'
  have L1 := C1.1
  unfold t_wouldWays at k
  rcases wd_cs gd.1 (s_t S) x with z | ⟨z, t, l, ht, rfl, hl, e1, h4, nd, lt, -⟩
  · rw [if_neg z] at k
    simp (disch := first | assumption | omega | (simp only [ya_pi, ya_pj, ya_pa, ya_pr, yo_pi, yo_pj, yo_pa, yf_pi, yf_pj, yf_pa, yh_pi, yh_pj, yh_pa, yt_pi, yt_pj, yt_pa, la_pi, la_pj, la_pa]; assumption)) only [b_X11_wouldWays_0, b_X11_wouldWays_5, b_X11_wouldWays_12, b_X11_wouldWays_10, b_X11_wouldWays_18, b_X11_wouldWays_74, b_X11_wouldWays_38, b_X11_wouldWays_45, b_X11_wouldWays_68, b_X11_wouldWays_48, b_X11_wouldWays_62, b_X11_wouldWays_65, i_lit, i_m1, i_31, il_t, il_f, iq_t, iq_f, it_t, it_f, im_e, im_l, im_g, im_g2, nI_add, pk_mul, i_sub, i_div, sdm, i_dec, i_cl, iv_t, bI_or2, bI_t0, bI_one, not_true_eq_false, not_false_eq_true, ↓reduceIte, am_tl, am_tn, am_t0, am_n0, and_true, true_and, List.cons_append, List.nil_append, List.append_nil, z]
    exact k h1 fr1'
  · rw [if_pos z, hl, Option.getD_some] at k
    have Y1 := tr_y L1 ht
    have er := tr_ref L1 ht
    have et : h_i h1 (85 + 2 * t) 1 = nI l.length := by rw [e1]; exact (C1.2.2.2.1 t ht).2.1
    have r1' := r1 z l hl
    have p8 : 2 ^ (2 * l.length) ≤ 2 ^ 8 := Nat.pow_le_pow_right (by omega) (by omega)
    simp (disch := first | assumption | omega | (simp only [ya_pi, ya_pj, ya_pa, ya_pr, yo_pi, yo_pj, yo_pa, yf_pi, yf_pj, yf_pa, yh_pi, yh_pj, yh_pa, yt_pi, yt_pj, yt_pa, la_pi, la_pj, la_pa]; assumption)) only [b_X11_wouldWays_0, b_X11_wouldWays_5, b_X11_wouldWays_12, b_X11_wouldWays_10, b_X11_wouldWays_18, b_X11_wouldWays_74, b_X11_wouldWays_38, b_X11_wouldWays_45, b_X11_wouldWays_68, b_X11_wouldWays_48, b_X11_wouldWays_62, b_X11_wouldWays_65, i_lit, i_m1, i_31, il_t, il_f, iq_t, iq_f, it_t, it_f, im_e, im_l, im_g, im_g2, nI_add, pk_mul, i_sub, i_div, sdm, i_dec, i_cl, iv_t, bI_or2, bI_t0, bI_one, not_true_eq_false, not_false_eq_true, ↓reduceIte, am_tl, am_tn, am_t0, am_n0, and_true, true_and, List.cons_append, List.nil_append, List.append_nil, z, er, et]
    have en : nI 1 <<< nI (2 * l.length) = nI (2 ^ (2 * l.length)) := i_shl (by omega)
    generalize hg : (fun ps => (od1 (fT (s_f S)) 10 ps).1 == 0) = g at k
    refine lp_up (2 ^ (2 * l.length)) (fun i (_ : Unit) => [some (v_r (some 0)), some (v_i (nI t)), some (v_i (nI 0)), some (v_i (nI l.length)), some (v_i (nI (ct (wwP g l) i))), some (v_i (nI i))]) (fun i _ h' => am_fr h1 h' (fun a k => a = 82 ∨ or_P 15 10 a k)) ?_ ?_ (Nat.zero_le _) am_fr.rf (s := ())
    · rintro i - h2 hi fr2 nxt
      have L2 := fr2.lay L1
      have r2 : ro h2 81 0 l := fr2.ro r1' (fun k hk => by unfold or_P; omega)
      have C2 := C1.q ok (fr2.le (fun a k z => by rcases z with z | z; unfold cS; omega; exact z.S))
      have O2 := C2.2.1
      rw [b_X11_wouldWays_28 _ _ _ _ _ _ _]
      simp only [i_lit, pk_mul]
      rw [i_31 (show 2 * l.length < 32 by omega), en]
      simp (disch := first | assumption | omega | (simp only [ya_pi, ya_pj, ya_pa, ya_pr, yo_pi, yo_pj, yo_pa, yf_pi, yf_pj, yf_pa, yh_pi, yh_pj, yh_pa, yt_pi, yt_pj, yt_pa, la_pi, la_pj, la_pa]; assumption)) only [b_X11_wouldWays_38, i_lit, i_m1, i_31, il_t, il_f, iq_t, iq_f, it_t, it_f, im_e, im_l, im_g, im_g2, nI_add, pk_mul, i_sub, i_div, sdm, i_dec, i_cl, iv_t, bI_or2, bI_t0, bI_one, not_true_eq_false, not_false_eq_true, ↓reduceIte, am_tl, am_tn, am_t0, am_n0, and_true, true_and, List.cons_append, List.nil_append, List.append_nil]
      refine c_turnTold L2 h4 (by omega) r2 (fun h3 fr3 r3 => ?_)
      have L3 := fr3.lay L2
      have fr23 : am_fr h1 h3 (fun a k => a = 82 ∨ or_P 15 10 a k) := fr2.tr (fr3.le (fun a k z => Or.inl z))
      have O3 : or_at h3 15 (fT (s_f S)) (f_n (s_f S)) := O2.fr (fT_ok gd.1) fr3 (fun a k h1 h2 h3 => by omega) (fun k hk => by omega)
      have A82 : y_arr h3 82 20 4 := la_y L3 rfl
      cases hv : vld i l.length l.length [] with
      | none =>
        have w0 : wwP g l i = false := by unfold wwP; rw [hv]; rfl
        have nx1 := nxt () h3 fr23
        rw [ct_n w0] at nx1
        simp (disch := first | assumption | omega | (simp only [ya_pi, ya_pj, ya_pa, ya_pr, yo_pi, yo_pj, yo_pa, yf_pi, yf_pj, yf_pa, yh_pi, yh_pj, yh_pa, yt_pi, yt_pj, yt_pa, la_pi, la_pj, la_pa]; assumption)) only [b_X11_wouldWays_0, b_X11_wouldWays_5, b_X11_wouldWays_12, b_X11_wouldWays_10, b_X11_wouldWays_18, b_X11_wouldWays_74, b_X11_wouldWays_38, b_X11_wouldWays_45, b_X11_wouldWays_68, b_X11_wouldWays_48, b_X11_wouldWays_62, b_X11_wouldWays_65, i_lit, i_m1, i_31, il_t, il_f, iq_t, iq_f, it_t, it_f, im_e, im_l, im_g, im_g2, nI_add, pk_mul, i_sub, i_div, sdm, i_dec, i_cl, iv_t, bI_or2, bI_t0, bI_one, not_true_eq_false, not_false_eq_true, ↓reduceIte, am_tl, am_tn, am_t0, am_n0, and_true, true_and, List.cons_append, List.nil_append, List.append_nil, Option.isSome_none, Bool.false_eq_true]
        exact nx1
      | some ds =>
        obtain ⟨v1, v2, v3⟩ := vld_spec (by simp) (fun x hx => by cases hx) hv
        rw [List.length_nil, Nat.zero_add] at v3
        have pl : (pmL l ds).length = l.length := by rw [pmL, List.length_map, v3]
        have r3' := r3 ds hv
        simp (disch := first | assumption | omega | (simp only [ya_pi, ya_pj, ya_pa, ya_pr, yo_pi, yo_pj, yo_pa, yf_pi, yf_pj, yf_pa, yh_pi, yh_pj, yh_pa, yt_pi, yt_pj, yt_pa, la_pi, la_pj, la_pa]; assumption)) only [b_X11_wouldWays_0, b_X11_wouldWays_5, b_X11_wouldWays_12, b_X11_wouldWays_10, b_X11_wouldWays_18, b_X11_wouldWays_74, b_X11_wouldWays_38, b_X11_wouldWays_45, b_X11_wouldWays_68, b_X11_wouldWays_48, b_X11_wouldWays_62, b_X11_wouldWays_65, i_lit, i_m1, i_31, il_t, il_f, iq_t, iq_f, it_t, it_f, im_e, im_l, im_g, im_g2, nI_add, pk_mul, i_sub, i_div, sdm, i_dec, i_cl, iv_t, bI_or2, bI_t0, bI_one, not_true_eq_false, not_false_eq_true, ↓reduceIte, am_tl, am_tn, am_t0, am_n0, and_true, true_and, List.cons_append, List.nil_append, List.append_nil, Option.isSome_some]
        rw [← pl]
        refine c_settle O3 (fT_ok gd.1) gd.1.1 (by omega) (fun p hp => lt p (pmL_mem v2 hp)) (pmL_nd nd v1 v2) (by omega) A82 r3' (by omega) (fun h4 fr4 r4 => ?_)
        rw [pl]
        have fr24 := fr23.tr (fr4.le (fun a k z => Or.inr z))
        have nx1 := nxt () h4 fr24
        have o2 := (od10_ok gd.1 (fun p hp => lt p (pmL_mem v2 hp)) (pmL_nd nd v1 v2)).1
        by_cases y : (od1 (fT (s_f S)) 10 (pmL l ds)).1 = 0
        · have w0 : wwP g l i = true := by
            unfold wwP
            rw [hv, ← hg, Option.any_some]
            exact beq_iff_eq.2 y
          rw [ct_y w0] at nx1
          simp (disch := first | assumption | omega | (simp only [ya_pi, ya_pj, ya_pa, ya_pr, yo_pi, yo_pj, yo_pa, yf_pi, yf_pj, yf_pa, yh_pi, yh_pj, yh_pa, yt_pi, yt_pj, yt_pa, la_pi, la_pj, la_pa]; assumption)) only [b_X11_wouldWays_0, b_X11_wouldWays_5, b_X11_wouldWays_12, b_X11_wouldWays_10, b_X11_wouldWays_18, b_X11_wouldWays_74, b_X11_wouldWays_38, b_X11_wouldWays_45, b_X11_wouldWays_68, b_X11_wouldWays_48, b_X11_wouldWays_62, b_X11_wouldWays_65, i_lit, i_m1, i_31, il_t, il_f, iq_t, iq_f, it_t, it_f, im_e, im_l, im_g, im_g2, nI_add, pk_mul, i_sub, i_div, sdm, i_dec, i_cl, iv_t, bI_or2, bI_t0, bI_one, not_true_eq_false, not_false_eq_true, ↓reduceIte, am_tl, am_tn, am_t0, am_n0, and_true, true_and, List.cons_append, List.nil_append, List.append_nil, y]
          exact nx1
        · have w0 : wwP g l i = false := by
            unfold wwP
            rw [hv, ← hg, Option.any_some]
            exact beq_eq_false_iff_ne.2 y
          rw [ct_n w0] at nx1
          simp (disch := first | assumption | omega | (simp only [ya_pi, ya_pj, ya_pa, ya_pr, yo_pi, yo_pj, yo_pa, yf_pi, yf_pj, yf_pa, yh_pi, yh_pj, yh_pa, yt_pi, yt_pj, yt_pa, la_pi, la_pj, la_pa]; assumption)) only [b_X11_wouldWays_0, b_X11_wouldWays_5, b_X11_wouldWays_12, b_X11_wouldWays_10, b_X11_wouldWays_18, b_X11_wouldWays_74, b_X11_wouldWays_38, b_X11_wouldWays_45, b_X11_wouldWays_68, b_X11_wouldWays_48, b_X11_wouldWays_62, b_X11_wouldWays_65, i_lit, i_m1, i_31, il_t, il_f, iq_t, iq_f, it_t, it_f, im_e, im_l, im_g, im_g2, nI_add, pk_mul, i_sub, i_div, sdm, i_dec, i_cl, iv_t, bI_or2, bI_t0, bI_one, not_true_eq_false, not_false_eq_true, ↓reduceIte, am_tl, am_tn, am_t0, am_n0, and_true, true_and, List.cons_append, List.nil_append, List.append_nil]
          exact nx1
    · rintro - h2 fr2
      rw [b_X11_wouldWays_28 _ _ _ _ _ _ _]
      simp only [i_lit, pk_mul]
      rw [i_31 (show 2 * l.length < 32 by omega), en]
      simp (disch := first | assumption | omega | (simp only [ya_pi, ya_pj, ya_pa, ya_pr, yo_pi, yo_pj, yo_pa, yf_pi, yf_pj, yf_pa, yh_pi, yh_pj, yh_pa, yt_pi, yt_pj, yt_pa, la_pi, la_pj, la_pa]; assumption)) only [b_X11_wouldWays_0, b_X11_wouldWays_5, b_X11_wouldWays_12, b_X11_wouldWays_10, b_X11_wouldWays_18, b_X11_wouldWays_74, b_X11_wouldWays_38, b_X11_wouldWays_45, b_X11_wouldWays_68, b_X11_wouldWays_48, b_X11_wouldWays_62, b_X11_wouldWays_65, i_lit, i_m1, i_31, il_t, il_f, iq_t, iq_f, it_t, it_f, im_e, im_l, im_g, im_g2, nI_add, pk_mul, i_sub, i_div, sdm, i_dec, i_cl, iv_t, bI_or2, bI_t0, bI_one, not_true_eq_false, not_false_eq_true, ↓reduceIte, am_tl, am_tn, am_t0, am_n0, and_true, true_and, List.cons_append, List.nil_append, List.append_nil]
      exact k h2 (fr1'.tr (fr2.le (fun a k z => by rcases z with z | z; unfold cS; omega; exact z.S)))
