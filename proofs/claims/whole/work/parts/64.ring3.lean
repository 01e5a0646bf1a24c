/-! ===== rings: the reference ===== -/
theorem c_isInI {d : Nat} {Q : Option am_V → am_H → Prop} {h : am_H} {P : Nat → Bool} {k : Nat} (hk : k < 16) {l1 : Option am_V} : ex_ d 242 0 [some (v_l (nI (bs P)).toInt64), l1, some (v_i (nI k))] [] h Q ↔ Q (some (v_i (nI (if P k = true then 1 else 0)))) h := by
  have := bs_lt P
  rw [nI_l (by omega)]
  exact c_isIn hk
theorem fi_skip {P : Nat → Bool} {n : Nat} : ∀ k, (∀ i, i < k → P i = false) → fi P n 0 = fi P n k := by
  intro k
  induction k with
  | zero => intro _; rfl
  | succ k ih =>
    intro h
    rw [ih (fun i hi => h i (by omega)), fi_no (h k (by omega))]
def gP (D : Nat → Nat → Bool) (n s m : Nat) (g : Nat → Bool) (x c : Nat) : Bool := decide (s < c) && !g c && D x c && (gp D n s m (gad g c) c).isSome
theorem gp_s {D : Nat → Nat → Bool} {n s m : Nat} {g : Nat → Bool} {x : Nat} : gp D n s (m + 1) g x = match fi (gP D n s m g x) n 0 with
    | none => none
    | some c => (gp D n s m (gad g c) c).map (fun l => c :: l) := rfl
def r7 (p a k : Nat) : Prop := a = 107 ∧ p ≤ k
theorem c_isRing {n s : Nat} {D : Nat → Nat → Bool} (hn : n ≤ 10) (hs : s < n) : ∀ (m : Nat) {d : Nat} {Q : Option am_V → am_H → Prop} {h : am_H} {g : Nat → Bool} {x p M : Nat} (L0 : Lay h) (q : dq h D) (e1 : h_i h 94 1 = nI n) (hp : 1 ≤ p) (hM : p + m = M) (hM10 : M ≤ 10) (es : h_i h 107 0 = nI s) (ex : h_i h 107 (p - 1) = nI x) (hx : x < 10) {l4 l5 : Option am_V} (k : ∀ h', am_fr h h' (r7 p) → (∀ l, gp D n s m g x = some l → ro h' 107 p l) → Q (some (v_i (nI (if (gp D n s m g x).isSome = true then 1 else 0)))) h'), ex_ (d + m + 1) 315 0 [some (v_r (some 93)), some (v_i (nI p)), some (v_i (nI M)), some (v_i (nI (bs g))), l4, l5] [] h Q := by
  intro m
  induction m with
  | zero =>
    intro d Q h g x p M L0 q e1 hp hM hM10 es ex hx l4 l5 k
    have eq := q x hx
    have hs16 : s < 16 := by omega
    cases z : D x s with
    | true =>
      have eg : gp D n s 0 g x = some [] := if_pos z
      rw [eg] at k
      simp (disch := first | assumption | omega | (simp only [ya_pi, ya_pj, ya_pa, ya_pr, yo_pi, yo_pj, yo_pa, yf_pi, yf_pj, yf_pa, yh_pi, yh_pj, yh_pa, yt_pi, yt_pj, yt_pa, la_pi, la_pj, la_pa]; assumption)) only [b_X12_isRing_33, b_X12_isRing_15, b_X12_isRing_32, b_X12_isRing_116, b_X12_isRing_54, b_X12_isRing_61, b_X12_isRing_110, b_X12_isRing_64, b_X12_isRing_77, b_X12_isRing_83, b_X12_isRing_80, b_X12_isRing_105, b_X12_isRing_108, i_lit, i_m1, i_31, il_t, il_f, iq_t, iq_f, it_t, it_f, im_e, im_l, im_g, im_g2, nI_add, pk_mul, i_sub, i_div, sdm, i_dec, i_cl, iv_t, bI_or2, bI_t0, bI_one, not_true_eq_false, not_false_eq_true, ↓reduceIte, am_tl, am_tn, am_t0, am_n0, and_true, true_and, List.cons_append, List.nil_append, List.append_nil, or_true, true_or, or_false, false_or, eq_self, ior0, iand0, im_e2, oI, b_X12_isRing_0 _ _ _ _ _ _ L0, es, ex, eq, c_isInI hs16, z]
      exact k h am_fr.rf (fun l hl => by cases hl; exact ro_nil)
    | false =>
      have eg : gp D n s 0 g x = none := if_neg (by rw [z]; decide)
      rw [eg] at k
      simp (disch := first | assumption | omega | (simp only [ya_pi, ya_pj, ya_pa, ya_pr, yo_pi, yo_pj, yo_pa, yf_pi, yf_pj, yf_pa, yh_pi, yh_pj, yh_pa, yt_pi, yt_pj, yt_pa, la_pi, la_pj, la_pa]; assumption)) only [b_X12_isRing_33, b_X12_isRing_15, b_X12_isRing_32, b_X12_isRing_116, b_X12_isRing_54, b_X12_isRing_61, b_X12_isRing_110, b_X12_isRing_64, b_X12_isRing_77, b_X12_isRing_83, b_X12_isRing_80, b_X12_isRing_105, b_X12_isRing_108, i_lit, i_m1, i_31, il_t, il_f, iq_t, iq_f, it_t, it_f, im_e, im_l, im_g, im_g2, nI_add, pk_mul, i_sub, i_div, sdm, i_dec, i_cl, iv_t, bI_or2, bI_t0, bI_one, not_true_eq_false, not_false_eq_true, ↓reduceIte, am_tl, am_tn, am_t0, am_n0, and_true, true_and, List.cons_append, List.nil_append, List.append_nil, or_true, true_or, or_false, false_or, eq_self, ior0, iand0, im_e2, oI, b_X12_isRing_0 _ _ _ _ _ _ L0, es, ex, eq, c_isInI hs16, z, Bool.false_eq_true]
      exact k h am_fr.rf (fun l hl => by cases hl)
  | succ m ih =>
    intro d Q h g x p M L0 q e1 hp hM hM10 es ex hx l4 l5 k
    have eq := q x hx
    simp (disch := first | assumption | omega | (simp only [ya_pi, ya_pj, ya_pa, ya_pr, yo_pi, yo_pj, yo_pa, yf_pi, yf_pj, yf_pa, yh_pi, yh_pj, yh_pa, yt_pi, yt_pj, yt_pa, la_pi, la_pj, la_pa]; assumption)) only [b_X12_isRing_33, b_X12_isRing_15, b_X12_isRing_32, b_X12_isRing_116, b_X12_isRing_54, b_X12_isRing_61, b_X12_isRing_110, b_X12_isRing_64, b_X12_isRing_77, b_X12_isRing_83, b_X12_isRing_80, b_X12_isRing_105, b_X12_isRing_108, i_lit, i_m1, i_31, il_t, il_f, iq_t, iq_f, it_t, it_f, im_e, im_l, im_g, im_g2, nI_add, pk_mul, i_sub, i_div, sdm, i_dec, i_cl, iv_t, bI_or2, bI_t0, bI_one, not_true_eq_false, not_false_eq_true, ↓reduceIte, am_tl, am_tn, am_t0, am_n0, and_true, true_and, List.cons_append, List.nil_append, List.append_nil, or_true, true_or, or_false, false_or, eq_self, ior0, iand0, im_e2, oI, b_X12_isRing_0 _ _ _ _ _ _ L0, es, ex]
    have sk : fi (gP D n s m g x) n 0 = fi (gP D n s m g x) n (s + 1) := fi_skip (s + 1) (fun i hi => by
      unfold gP
      rw [decide_eq_false (by omega)]
      rfl)
    have st := lp_up (d := d + (m + 1) + 1) (k := 315) (pc := 43) (Q := Q) (n - (s + 1)) (fun j (_ : Unit) => [some (v_r (some 93)), some (v_i (nI p)), some (v_i (nI M)), some (v_i (nI (bs g))), some (v_i (nI x)), some (v_i (nI (s + 1 + j)))]) (fun j _ h' => am_fr h h' (r7 p) ∧ fi (gP D n s m g x) n (s + 1 + j) = fi (gP D n s m g x) n 0) ?_ ?_ (Nat.zero_le _) (s := ()) (h := h) ⟨am_fr.rf, sk.symm⟩
    · exact st
    · rintro j - h' hj ⟨fr, e⟩ nx
      have L1 : Lay h' := fr.lay L0
      have e1' : h_i h' 94 1 = nI n := by rw [fr.i (by unfold r7; omega), e1]
      have q1 : dq h' D := fun a ha => by rw [fr.i (by unfold r7; omega)]; exact q a ha
      have eq1 := q1 x hx
      have c16 : s + 1 + j < 16 := by omega
      rw [b_X12_isRing_43 _ _ _ _ _ _ L1]
      have skip : gP D n s m g x (s + 1 + j) = false → ex_ (d + (m + 1) + 1) 315 43 [some (v_r (some 93)), some (v_i (nI p)), some (v_i (nI M)), some (v_i (nI (bs g))), some (v_i (nI x)), some (v_i (nI (s + 1 + j + 1)))] [] h' Q := fun z => by
        rw [fi_no z] at e
        exact nx () h' ⟨fr, e⟩
      cases z1 : g (s + 1 + j) with
      | true =>
        have := skip (by unfold gP; rw [z1]; simp)
        simp (disch := first | assumption | omega | (simp only [ya_pi, ya_pj, ya_pa, ya_pr, yo_pi, yo_pj, yo_pa, yf_pi, yf_pj, yf_pa, yh_pi, yh_pj, yh_pa, yt_pi, yt_pj, yt_pa, la_pi, la_pj, la_pa]; assumption)) only [b_X12_isRing_33, b_X12_isRing_15, b_X12_isRing_32, b_X12_isRing_116, b_X12_isRing_54, b_X12_isRing_61, b_X12_isRing_110, b_X12_isRing_64, b_X12_isRing_77, b_X12_isRing_83, b_X12_isRing_80, b_X12_isRing_105, b_X12_isRing_108, i_lit, i_m1, i_31, il_t, il_f, iq_t, iq_f, it_t, it_f, im_e, im_l, im_g, im_g2, nI_add, pk_mul, i_sub, i_div, sdm, i_dec, i_cl, iv_t, bI_or2, bI_t0, bI_one, not_true_eq_false, not_false_eq_true, ↓reduceIte, am_tl, am_tn, am_t0, am_n0, and_true, true_and, List.cons_append, List.nil_append, List.append_nil, or_true, true_or, or_false, false_or, eq_self, ior0, iand0, im_e2, oI, e1', c_isInI c16, z1]
        exact this
      | false =>
        cases z2 : D x (s + 1 + j) with
        | false =>
          have := skip (by unfold gP; rw [z2]; simp)
          simp (disch := first | assumption | omega | (simp only [ya_pi, ya_pj, ya_pa, ya_pr, yo_pi, yo_pj, yo_pa, yf_pi, yf_pj, yf_pa, yh_pi, yh_pj, yh_pa, yt_pi, yt_pj, yt_pa, la_pi, la_pj, la_pa]; assumption)) only [b_X12_isRing_33, b_X12_isRing_15, b_X12_isRing_32, b_X12_isRing_116, b_X12_isRing_54, b_X12_isRing_61, b_X12_isRing_110, b_X12_isRing_64, b_X12_isRing_77, b_X12_isRing_83, b_X12_isRing_80, b_X12_isRing_105, b_X12_isRing_108, i_lit, i_m1, i_31, il_t, il_f, iq_t, iq_f, it_t, it_f, im_e, im_l, im_g, im_g2, nI_add, pk_mul, i_sub, i_div, sdm, i_dec, i_cl, iv_t, bI_or2, bI_t0, bI_one, not_true_eq_false, not_false_eq_true, ↓reduceIte, am_tl, am_tn, am_t0, am_n0, and_true, true_and, List.cons_append, List.nil_append, List.append_nil, or_true, true_or, or_false, false_or, eq_self, ior0, iand0, im_e2, oI, e1', c_isInI c16, z1, eq1, z2, Bool.false_eq_true]
          exact this
        | true =>
          simp (disch := first | assumption | omega | (simp only [ya_pi, ya_pj, ya_pa, ya_pr, yo_pi, yo_pj, yo_pa, yf_pi, yf_pj, yf_pa, yh_pi, yh_pj, yh_pa, yt_pi, yt_pj, yt_pa, la_pi, la_pj, la_pa]; assumption)) only [b_X12_isRing_33, b_X12_isRing_15, b_X12_isRing_32, b_X12_isRing_116, b_X12_isRing_54, b_X12_isRing_61, b_X12_isRing_110, b_X12_isRing_64, b_X12_isRing_77, b_X12_isRing_83, b_X12_isRing_80, b_X12_isRing_105, b_X12_isRing_108, i_lit, i_m1, i_31, il_t, il_f, iq_t, iq_f, it_t, it_f, im_e, im_l, im_g, im_g2, nI_add, pk_mul, i_sub, i_div, sdm, i_dec, i_cl, iv_t, bI_or2, bI_t0, bI_one, not_true_eq_false, not_false_eq_true, ↓reduceIte, am_tl, am_tn, am_t0, am_n0, and_true, true_and, List.cons_append, List.nil_append, List.append_nil, or_true, true_or, or_false, false_or, eq_self, ior0, iand0, im_e2, oI, e1', c_isInI c16, z1, eq1, z2, Bool.false_eq_true, i_31]
          have fr2 : am_fr h (p_i h' 107 p (nI (s + 1 + j))) (r7 p) := fr.pi (by unfold r7; omega)
          refine ih (h := p_i h' 107 p (nI (s + 1 + j))) (p := p + 1) (M := M) (g := gad g (s + 1 + j)) (x := s + 1 + j) (d := d) (l4 := none) (l5 := none) (L1 : Lay (p_i h' 107 p (nI (s + 1 + j)))) (fun a ha => by rw [hi_o (by omega)]; exact q1 a ha) (by rw [hi_o (by omega), e1']) (by omega) (by omega) hM10 (by rw [hi_k (by omega), fr.i (by unfold r7; omega), es]) (by rw [Nat.add_sub_cancel, hi_s]) (by omega) (fun h3 fr3 r3 => ?_)
          have fr3' : am_fr h h3 (r7 p) := fr2.tr (fr3.le (fun a k z => by unfold r7 at z; unfold r7; omega))
          cases hg : gp D n s m (gad g (s + 1 + j)) (s + 1 + j) with
          | none =>
            have zz : gP D n s m g x (s + 1 + j) = false := by unfold gP; rw [hg]; simp
            rw [fi_no zz] at e
            simp (disch := first | assumption | omega | (simp only [ya_pi, ya_pj, ya_pa, ya_pr, yo_pi, yo_pj, yo_pa, yf_pi, yf_pj, yf_pa, yh_pi, yh_pj, yh_pa, yt_pi, yt_pj, yt_pa, la_pi, la_pj, la_pa]; assumption)) only [b_X12_isRing_33, b_X12_isRing_15, b_X12_isRing_32, b_X12_isRing_116, b_X12_isRing_54, b_X12_isRing_61, b_X12_isRing_110, b_X12_isRing_64, b_X12_isRing_77, b_X12_isRing_83, b_X12_isRing_80, b_X12_isRing_105, b_X12_isRing_108, i_lit, i_m1, i_31, il_t, il_f, iq_t, iq_f, it_t, it_f, im_e, im_l, im_g, im_g2, nI_add, pk_mul, i_sub, i_div, sdm, i_dec, i_cl, iv_t, bI_or2, bI_t0, bI_one, not_true_eq_false, not_false_eq_true, ↓reduceIte, am_tl, am_tn, am_t0, am_n0, and_true, true_and, List.cons_append, List.nil_append, List.append_nil, or_true, true_or, or_false, false_or, eq_self, ior0, iand0, im_e2, oI, Option.isSome_none, Bool.false_eq_true]
            exact nx () h3 ⟨fr3', e⟩
          | some l =>
            have zz : gP D n s m g x (s + 1 + j) = true := by
              unfold gP
              rw [hg, z1, z2, decide_eq_true (show s < s + 1 + j by omega)]
              rfl
            rw [fi_yes (by omega) zz] at e
            have er : gp D n s (m + 1) g x = some ((s + 1 + j) :: l) := by
              rw [gp_s, ← e]
              dsimp only
              rw [hg]
              rfl
            rw [er] at k
            simp (disch := first | assumption | omega | (simp only [ya_pi, ya_pj, ya_pa, ya_pr, yo_pi, yo_pj, yo_pa, yf_pi, yf_pj, yf_pa, yh_pi, yh_pj, yh_pa, yt_pi, yt_pj, yt_pa, la_pi, la_pj, la_pa]; assumption)) only [b_X12_isRing_33, b_X12_isRing_15, b_X12_isRing_32, b_X12_isRing_116, b_X12_isRing_54, b_X12_isRing_61, b_X12_isRing_110, b_X12_isRing_64, b_X12_isRing_77, b_X12_isRing_83, b_X12_isRing_80, b_X12_isRing_105, b_X12_isRing_108, i_lit, i_m1, i_31, il_t, il_f, iq_t, iq_f, it_t, it_f, im_e, im_l, im_g, im_g2, nI_add, pk_mul, i_sub, i_div, sdm, i_dec, i_cl, iv_t, bI_or2, bI_t0, bI_one, not_true_eq_false, not_false_eq_true, ↓reduceIte, am_tl, am_tn, am_t0, am_n0, and_true, true_and, List.cons_append, List.nil_append, List.append_nil, or_true, true_or, or_false, false_or, eq_self, ior0, iand0, im_e2, oI, Option.isSome_some]
            refine k h3 fr3' (fun l2 hl2 => ?_)
            cases hl2
            have r4 := r3 l hg
            intro i hi
            cases i with
            | zero =>
              rw [Nat.add_zero, fr3.i (by unfold r7; omega), hi_s]
              rfl
            | succ i =>
              rw [List.length_cons] at hi
              have := r4 i (by omega)
              rw [show p + 1 + i = p + (i + 1) from by omega] at this
              exact this
    · rintro - h' ⟨fr, e⟩
      have L1 : Lay h' := fr.lay L0
      have e1' : h_i h' 94 1 = nI n := by rw [fr.i (by unfold r7; omega), e1]
      rw [fi_end (by omega)] at e
      have er : gp D n s (m + 1) g x = none := by rw [gp_s, ← e]
      rw [er] at k
      rw [b_X12_isRing_43 _ _ _ _ _ _ L1]
      simp (disch := first | assumption | omega | (simp only [ya_pi, ya_pj, ya_pa, ya_pr, yo_pi, yo_pj, yo_pa, yf_pi, yf_pj, yf_pa, yh_pi, yh_pj, yh_pa, yt_pi, yt_pj, yt_pa, la_pi, la_pj, la_pa]; assumption)) only [b_X12_isRing_33, b_X12_isRing_15, b_X12_isRing_32, b_X12_isRing_116, b_X12_isRing_54, b_X12_isRing_61, b_X12_isRing_110, b_X12_isRing_64, b_X12_isRing_77, b_X12_isRing_83, b_X12_isRing_80, b_X12_isRing_105, b_X12_isRing_108, i_lit, i_m1, i_31, il_t, il_f, iq_t, iq_f, it_t, it_f, im_e, im_l, im_g, im_g2, nI_add, pk_mul, i_sub, i_div, sdm, i_dec, i_cl, iv_t, bI_or2, bI_t0, bI_one, not_true_eq_false, not_false_eq_true, ↓reduceIte, am_tl, am_tn, am_t0, am_n0, and_true, true_and, List.cons_append, List.nil_append, List.append_nil, or_true, true_or, or_false, false_or, eq_self, ior0, iand0, im_e2, oI, e1']
      exact k h' fr (fun l hl => by cases hl)
def sg1 (c : Nat) : Nat → Bool := fun k => decide (k = c)
def rf1 (D : Nat → Nat → Bool) (n M : Nat) : Option Nat := fi (fun c => (gp D n c (M - 1) (sg1 c) c).isSome) n 0
def rf2 (D : Nat → Nat → Bool) (n : Nat) : Option Nat := fi (fun m => (rf1 D n (m + 2)).isSome) (n - 1) 0
def rfL (D : Nat → Nat → Bool) (n : Nat) : List Nat := match rf2 D n with
  | none => []
  | some m => match rf1 D n (m + 2) with
    | none => []
    | some c => c :: ((gp D n c (m + 1) (sg1 c) c).getD [])
theorem gp_len {D : Nat → Nat → Bool} {n s : Nat} : ∀ {m g x l}, gp D n s m g x = some l → l.length = m := by
  intro m
  induction m with
  | zero =>
    intro g x l h
    rw [gp] at h
    split at h
    · cases h; rfl
    · cases h
  | succ m ih =>
    intro g x l h
    rw [gp_s] at h
    cases e : fi (gP D n s m g x) n 0 with
    | none => rw [e] at h; cases h
    | some c =>
      rw [e] at h
      dsimp only at h
      cases e2 : gp D n s m (gad g c) c with
      | none => rw [e2] at h; cases h
      | some l' =>
        rw [e2] at h
        cases h
        rw [List.length_cons, ih e2]
theorem c_laysRing {d n : Nat} {Q : Option am_V → am_H → Prop} {h : am_H} {D : Nat → Nat → Bool} (hn : n ≤ 10) (L0 : Lay h) (q : dq h D) (e1 : h_i h 94 1 = nI n) {l1 l2 : Option am_V} (k : ∀ h', am_fr h h' (r7 0) → (rfL D n).length ≤ 10 → ro h' 107 0 (rfL D n) → Q (some (v_i (if rfL D n = [] then mI else nI (rfL D n).length))) h') : ex_ (d + 11) 316 0 [some (v_r (some 93)), l1, l2] [] h Q := by
  rw [b_X12_laysRing_0 _ _ _ _]
  have st := lp_up (d := d + 11) (k := 316) (pc := 2) (Q := Q) (n - 1) (fun j (l2 : Option am_V) => [some (v_r (some 93)), some (v_i (nI (2 + j))), l2]) (fun j _ h' => am_fr h h' (r7 0) ∧ fi (fun m => (rf1 D n (m + 2)).isSome) (n - 1) j = rf2 D n) ?_ ?_ (Nat.zero_le _) (s := l2) (h := h) ⟨am_fr.rf, rfl⟩
  · exact st
  · rintro j l2 h' hj ⟨fr, e⟩ nx
    have L1 : Lay h' := fr.lay L0
    have e1' : h_i h' 94 1 = nI n := by rw [fr.i (by unfold r7; omega), e1]
    rw [b_X12_laysRing_2 _ _ _ L1]
    simp (disch := first | assumption | omega | (simp only [ya_pi, ya_pj, ya_pa, ya_pr, yo_pi, yo_pj, yo_pa, yf_pi, yf_pj, yf_pa, yh_pi, yh_pj, yh_pa, yt_pi, yt_pj, yt_pa, la_pi, la_pj, la_pa]; assumption)) only [b_X12_laysRing_0, b_X12_laysRing_57, b_X12_laysRing_12, b_X12_laysRing_51, b_X12_laysRing_24, b_X12_laysRing_40, b_X12_laysRing_45, b_X12_laysRing_43, i_lit, i_m1, i_31, il_t, il_f, iq_t, iq_f, it_t, it_f, im_e, im_l, im_g, im_g2, nI_add, pk_mul, i_sub, i_div, sdm, i_dec, i_cl, iv_t, bI_or2, bI_t0, bI_one, not_true_eq_false, not_false_eq_true, ↓reduceIte, am_tl, am_tn, am_t0, am_n0, and_true, true_and, List.cons_append, List.nil_append, List.append_nil, or_true, true_or, or_false, false_or, eq_self, ior0, iand0, im_e2, oI, e1']
    refine lp_up n (fun c (_ : Unit) => [some (v_r (some 93)), some (v_i (nI (2 + j))), some (v_i (nI c))]) (fun c _ h2 => am_fr h h2 (r7 0) ∧ fi (fun c => (gp D n c (2 + j - 1) (sg1 c) c).isSome) n c = rf1 D n (2 + j)) ?_ ?_ (Nat.zero_le _) ⟨fr, rfl⟩ (s := ())
    · rintro c - h2 hc ⟨fr2, e2⟩ nx2
      have L2 : Lay h2 := fr2.lay L0
      have e12 : h_i h2 94 1 = nI n := by rw [fr2.i (by unfold r7; omega), e1]
      have q2 : dq h2 D := fun a ha => by rw [fr2.i (by unfold r7; omega)]; exact q a ha
      rw [b_X12_laysRing_14 _ _ _ L2]
      simp (disch := first | assumption | omega | (simp only [ya_pi, ya_pj, ya_pa, ya_pr, yo_pi, yo_pj, yo_pa, yf_pi, yf_pj, yf_pa, yh_pi, yh_pj, yh_pa, yt_pi, yt_pj, yt_pa, la_pi, la_pj, la_pa]; assumption)) only [b_X12_laysRing_0, b_X12_laysRing_57, b_X12_laysRing_12, b_X12_laysRing_51, b_X12_laysRing_24, b_X12_laysRing_40, b_X12_laysRing_45, b_X12_laysRing_43, i_lit, i_m1, i_31, il_t, il_f, iq_t, iq_f, it_t, it_f, im_e, im_l, im_g, im_g2, nI_add, pk_mul, i_sub, i_div, sdm, i_dec, i_cl, iv_t, bI_or2, bI_t0, bI_one, not_true_eq_false, not_false_eq_true, ↓reduceIte, am_tl, am_tn, am_t0, am_n0, and_true, true_and, List.cons_append, List.nil_append, List.append_nil, or_true, true_or, or_false, false_or, eq_self, ior0, iand0, im_e2, oI, e12, i_31]
      have cc := c_isRing (D := D) hn hc (2 + j - 1) (d := d + (9 - j - 1)) (Q := fun r h' => ex_ (d + 10 + 1) 316 40 [some (v_r (some 93)), some (v_i (nI (2 + j))), some (v_i (nI c))] (r.toList) h' Q) (h := p_i h2 107 0 (nI c)) (g := sg1 c) (x := c) (p := 1) (M := 2 + j) (l4 := none) (l5 := none) L2 (fun a ha => by rw [hi_o (by omega)]; exact q2 a ha) (by rw [hi_o (by omega), e12]) (by omega) (by omega) (by omega) hi_s hi_s (by omega) (fun h3 fr3 r3 => ?_)
      · rw [show d + (9 - j - 1) + (2 + j - 1) + 1 = d + 10 from by omega] at cc
        exact cc
      · have fr3' : am_fr h h3 (r7 0) := (fr2.pi (by unfold r7; omega)).tr (fr3.le (fun a k z => by unfold r7 at z; unfold r7; omega))
        cases hg : gp D n c (2 + j - 1) (sg1 c) c with
        | none =>
          rw [fi_no (by rw [hg]; rfl)] at e2
          simp (disch := first | assumption | omega | (simp only [ya_pi, ya_pj, ya_pa, ya_pr, yo_pi, yo_pj, yo_pa, yf_pi, yf_pj, yf_pa, yh_pi, yh_pj, yh_pa, yt_pi, yt_pj, yt_pa, la_pi, la_pj, la_pa]; assumption)) only [b_X12_laysRing_0, b_X12_laysRing_57, b_X12_laysRing_12, b_X12_laysRing_51, b_X12_laysRing_24, b_X12_laysRing_40, b_X12_laysRing_45, b_X12_laysRing_43, i_lit, i_m1, i_31, il_t, il_f, iq_t, iq_f, it_t, it_f, im_e, im_l, im_g, im_g2, nI_add, pk_mul, i_sub, i_div, sdm, i_dec, i_cl, iv_t, bI_or2, bI_t0, bI_one, not_true_eq_false, not_false_eq_true, ↓reduceIte, am_tl, am_tn, am_t0, am_n0, and_true, true_and, List.cons_append, List.nil_append, List.append_nil, or_true, true_or, or_false, false_or, eq_self, ior0, iand0, im_e2, oI, Option.isSome_none, Bool.false_eq_true]
          exact nx2 () h3 ⟨fr3', e2⟩
        | some l =>
          rw [fi_yes hc (by rw [hg]; rfl)] at e2
          have e2' : rf1 D n (j + 2) = some c := by rw [Nat.add_comm j 2]; exact e2.symm
          have e3 : rf2 D n = some j := by
            rw [← e, fi_yes (p := fun m => (rf1 D n (m + 2)).isSome) hj (by rw [e2']; rfl)]
          have hg' : gp D n c (j + 1) (sg1 c) c = some l := by rw [show j + 1 = 2 + j - 1 from by omega]; exact hg
          have eL : rfL D n = c :: l := by
            rw [rfL, e3]
            dsimp only
            rw [e2']
            dsimp only
            rw [hg']
            rfl
          have ll := gp_len hg'
          rw [eL, if_neg (by simp), List.length_cons, ll] at k
          simp (disch := first | assumption | omega | (simp only [ya_pi, ya_pj, ya_pa, ya_pr, yo_pi, yo_pj, yo_pa, yf_pi, yf_pj, yf_pa, yh_pi, yh_pj, yh_pa, yt_pi, yt_pj, yt_pa, la_pi, la_pj, la_pa]; assumption)) only [b_X12_laysRing_0, b_X12_laysRing_57, b_X12_laysRing_12, b_X12_laysRing_51, b_X12_laysRing_24, b_X12_laysRing_40, b_X12_laysRing_45, b_X12_laysRing_43, i_lit, i_m1, i_31, il_t, il_f, iq_t, iq_f, it_t, it_f, im_e, im_l, im_g, im_g2, nI_add, pk_mul, i_sub, i_div, sdm, i_dec, i_cl, iv_t, bI_or2, bI_t0, bI_one, not_true_eq_false, not_false_eq_true, ↓reduceIte, am_tl, am_tn, am_t0, am_n0, and_true, true_and, List.cons_append, List.nil_append, List.append_nil, or_true, true_or, or_false, false_or, eq_self, ior0, iand0, im_e2, oI, Option.isSome_some]
          rw [show 2 + j = j + 1 + 1 from by omega]
          refine k h3 fr3' (by omega) (fun i hi => ?_)
          rw [Nat.zero_add]
          cases i with
          | zero =>
            rw [fr3.i (by unfold r7; omega), hi_s]
            rfl
          | succ i =>
            rw [List.length_cons] at hi
            have := r3 l hg i (by omega)
            rw [Nat.add_comm 1 i] at this
            exact this
    · rintro - h2 ⟨fr2, e2⟩
      have L2 : Lay h2 := fr2.lay L0
      have e12 : h_i h2 94 1 = nI n := by rw [fr2.i (by unfold r7; omega), e1]
      rw [fi_end (by omega)] at e2
      have zz : (rf1 D n (j + 2)).isSome = false := by rw [Nat.add_comm j 2, ← e2]; rfl
      rw [fi_no (p := fun m => (rf1 D n (m + 2)).isSome) zz] at e
      rw [b_X12_laysRing_14 _ _ _ L2]
      simp (disch := first | assumption | omega | (simp only [ya_pi, ya_pj, ya_pa, ya_pr, yo_pi, yo_pj, yo_pa, yf_pi, yf_pj, yf_pa, yh_pi, yh_pj, yh_pa, yt_pi, yt_pj, yt_pa, la_pi, la_pj, la_pa]; assumption)) only [b_X12_laysRing_0, b_X12_laysRing_57, b_X12_laysRing_12, b_X12_laysRing_51, b_X12_laysRing_24, b_X12_laysRing_40, b_X12_laysRing_45, b_X12_laysRing_43, i_lit, i_m1, i_31, il_t, il_f, iq_t, iq_f, it_t, it_f, im_e, im_l, im_g, im_g2, nI_add, pk_mul, i_sub, i_div, sdm, i_dec, i_cl, iv_t, bI_or2, bI_t0, bI_one, not_true_eq_false, not_false_eq_true, ↓reduceIte, am_tl, am_tn, am_t0, am_n0, and_true, true_and, List.cons_append, List.nil_append, List.append_nil, or_true, true_or, or_false, false_or, eq_self, ior0, iand0, im_e2, oI, e12]
      exact nx _ h2 ⟨fr2, e⟩
  · rintro l2 h' ⟨fr, e⟩
    have L1 : Lay h' := fr.lay L0
    have e1' : h_i h' 94 1 = nI n := by rw [fr.i (by unfold r7; omega), e1]
    rw [fi_end (by omega)] at e
    have eL : rfL D n = [] := by rw [rfL, ← e]
    rw [eL] at k
    rw [b_X12_laysRing_2 _ _ _ L1]
    simp (disch := first | assumption | omega | (simp only [ya_pi, ya_pj, ya_pa, ya_pr, yo_pi, yo_pj, yo_pa, yf_pi, yf_pj, yf_pa, yh_pi, yh_pj, yh_pa, yt_pi, yt_pj, yt_pa, la_pi, la_pj, la_pa]; assumption)) only [b_X12_laysRing_0, b_X12_laysRing_57, b_X12_laysRing_12, b_X12_laysRing_51, b_X12_laysRing_24, b_X12_laysRing_40, b_X12_laysRing_45, b_X12_laysRing_43, i_lit, i_m1, i_31, il_t, il_f, iq_t, iq_f, it_t, it_f, im_e, im_l, im_g, im_g2, nI_add, pk_mul, i_sub, i_div, sdm, i_dec, i_cl, iv_t, bI_or2, bI_t0, bI_one, not_true_eq_false, not_false_eq_true, ↓reduceIte, am_tl, am_tn, am_t0, am_n0, and_true, true_and, List.cons_append, List.nil_append, List.append_nil, or_true, true_or, or_false, false_or, eq_self, ior0, iand0, im_e2, oI, e1']
    exact k h' fr (Nat.zero_le _) ro_nil
theorem rmap_c (g : Nat → Nat) (m : Nat) : (List.range (m + 1)).map g = g 0 :: (List.range m).map (fun i => g (0 + 1 + i)) := by
  rw [List.range_succ_eq_map, List.map_cons, List.map_map]
  congr 1
  refine List.map_congr_left (fun i _ => ?_)
  show g (i + 1) = g (0 + 1 + i)
  congr 1
  omega
theorem rg_eq {D : Nat → Nat → Bool} {t : Nat → Nat → Nat} {n : Nat} (g : dgd D t) (hn : n ≤ 10) (hD : ∀ a b, D a b = true → a < n ∧ b < n) (irr : ∀ a, D a a = false) : rgL D t = rfL D n := by
  have no : ∀ c m, c < n → (gp D n c m (sg1 c) c).isSome = true → t c c ≤ m + 1 := by
    intro c m hc h
    obtain ⟨l, hl⟩ := Option.isSome_iff_exists.1 h
    exact g.2 c c (by omega) (by omega) m (gp_wk hn hl)
  rcases rst_sp (t := t) 10 with ⟨e, h⟩ | ⟨s, hs, e, hL, hmin, hleast⟩
  · have e2 : rf2 D n = none := by
      rcases fi_sp (fun m => (rf1 D n (m + 2)).isSome) (n - 1) with ⟨j, ej, hj, pj, _⟩ | ⟨ej, _⟩
      · obtain ⟨c, hc⟩ := Option.isSome_iff_exists.1 pj
        rcases fi_sp (fun c => (gp D n c (j + 2 - 1) (sg1 c) c).isSome) n with ⟨c2, ec, hc2, pc2, _⟩ | ⟨ec, _⟩
        · have := no c2 _ hc2 pc2
          have := h c2 (by omega)
          omega
        · rw [rf1, ec] at hc
          cases hc
      · exact ej
    rw [rgL, e, rfL, e2]
    rfl
  · have L2 : 2 ≤ t s s := by
      have h1 := g.1 s s hs hs
      obtain ⟨m, em, wm⟩ := h1.2.2 hL
      cases m with
      | zero =>
        have := irr s
        rw [show D s s = true from wm] at this
        cases this
      | succ m => omega
    have hin : ∀ k, k < t s s → rpt D t s k < n := by
      intro k hk
      cases k with
      | zero => exact (hD _ _ ((rpt_sp g hs hL 0 hk).2.2 (by omega)).2).1
      | succ k => exact (hD _ _ ((rpt_sp g hs hL k (by omega)).2.2 hk).2).2
    have Ln : t s s ≤ n := rpt_10 g hs hL hin
    have hsn : s < n := hin 0 (by omega)
    have gs := gp_some g hn hs hL hleast (fun a b h => (hD a b h).2) (t s s - 1) 0 (by omega) (sg1 s) (fun x => by
      simp only [sg1, decide_eq_true_eq]
      constructor
      · intro z
        exact ⟨0, Nat.le_refl _, z⟩
      · rintro ⟨j, hj, z⟩
        obtain rfl : j = 0 := by omega
        exact z)
    have e1 : rf1 D n (t s s) = some s := by
      rcases fi_sp (fun c => (gp D n c (t s s - 1) (sg1 c) c).isSome) n with ⟨c, ec, hc, pc, mc⟩ | ⟨ec, hc⟩
      · rw [rf1, ec]
        rcases Nat.lt_trichotomy c s with z | z | z
        · have h1 := no c _ hc pc
          have h2 := hleast c z
          omega
        · rw [z]
        · have := mc s z
          rw [show gp D n s (t s s - 1) (sg1 s) s = _ from gs] at this
          cases this
      · have := hc s hsn
        rw [show gp D n s (t s s - 1) (sg1 s) s = _ from gs] at this
        cases this
    have e2 : rf2 D n = some (t s s - 2) := by
      have yes : (rf1 D n (t s s - 2 + 2)).isSome = true := by rw [show t s s - 2 + 2 = t s s from by omega, e1]; rfl
      rcases fi_sp (fun m => (rf1 D n (m + 2)).isSome) (n - 1) with ⟨j, ej, hj, pj, mj⟩ | ⟨ej, hj⟩
      · rw [rf2, ej]
        rcases Nat.lt_trichotomy j (t s s - 2) with z | z | z
        · obtain ⟨c, hc⟩ := Option.isSome_iff_exists.1 pj
          rcases fi_sp (fun c => (gp D n c (j + 2 - 1) (sg1 c) c).isSome) n with ⟨c2, ec, hc2, pc2, _⟩ | ⟨ec, _⟩
          · have h1 := no c2 _ hc2 pc2
            have h2 := hmin c2 (by omega)
            omega
          · rw [rf1, ec] at hc
            cases hc
        · rw [z]
        · exact Bool.noConfusion (yes.symm.trans (mj _ z))
      · exact Bool.noConfusion (yes.symm.trans (hj _ (by omega)))
    have eA : rfL D n = s :: ((List.range (t s s - 1)).map (fun i => rpt D t s (0 + 1 + i))) := by
      rw [rfL, e2]
      dsimp only
      rw [show t s s - 2 + 2 = t s s from by omega, e1]
      dsimp only
      rw [show t s s - 2 + 1 = t s s - 1 from by omega, show gp D n s (t s s - 1) (sg1 s) s = _ from gs, Option.getD_some]
    have eB := rmap_c (rpt D t s) (t s s - 1)
    rw [show t s s - 1 + 1 = t s s from by omega] at eB
    rw [eA, rgL, e]
    exact eB
