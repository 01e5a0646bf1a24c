/-! ===== demand, ring: the calls ===== -/
def nt (P : Nat → Bool) : Nat → Nat → Nat → Option Nat
  | 0, _, _ => none
  | m + 1, k, i => if P k = true then (if i = 0 then some k else nt P m (k + 1) (i - 1)) else nt P m (k + 1) i
theorem nt_n {P : Nat → Bool} {m k i : Nat} (h : P k = false) : nt P (m + 1) k i = nt P m (k + 1) i := if_neg (by rw [h]; decide)
theorem nt_0 {P : Nat → Bool} {m k : Nat} (h : P k = true) : nt P (m + 1) k 0 = some k := if_pos h
theorem nt_s {P : Nat → Bool} {m k i : Nat} (h : P k = true) : nt P (m + 1) k (i + 1) = nt P m (k + 1) i := if_pos h
def pD (D : Nat → Nat → Bool) (t : Nat) : Bool := D (t / 10) (t % 10)
theorem c_dAt {d : Nat} {Q : Option am_V → am_H → Prop} {h : am_H} {D : Nat → Nat → Bool} (L0 : Lay h) (R : dr h D) {i : Nat} (hi : i < 2147483648) {l2 l3 : Option am_V} : ex_ (d + 2) 16 0 [some (v_r (some 41)), some (v_i (nI i)), l2, l3] [] h Q ↔ Q (some (v_i (oI (nt (pD D) 100 0 i)))) h := by
  apply ex_iff
  rw [b_X0_at_0 _ _ _ _ _]
  refine lp_up 100 (fun t (j : Nat) => [some (v_r (some 41)), some (v_i (nI i)), some (v_i (nI j)), some (v_i (nI t))]) (fun t j h' => h' = h ∧ j ≤ i ∧ nt (pD D) (100 - t) t j = nt (pD D) 100 0 i) ?_ ?_ (Nat.zero_le _) ⟨rfl, Nat.le_refl _, rfl⟩ (s := i)
  · rintro t j h' ht ⟨rfl, hj, e⟩ nx
    rw [b_X0_at_4 _ _ _ _ _]
    rw [show 100 - t = (100 - (t + 1)) + 1 from by omega] at e
    have h1 : t / 10 < 10 := by omega
    have h2 : t % 10 < 10 := by omega
    cases z : D (t / 10) (t % 10) with
    | false =>
      rw [nt_n (show pD D t = false from z)] at e
      simp (disch := first | assumption | omega | (simp only [ya_pi, ya_pj, ya_pa, ya_pr, yo_pi, yo_pj, yo_pa, yf_pi, yf_pj, yf_pa, yh_pi, yh_pj, yh_pa, yt_pi, yt_pj, yt_pa, la_pi, la_pj, la_pa]; assumption)) only [b_X0_at_0, b_X0_at_40, b_X0_at_10, b_X0_at_22, b_X0_at_34, b_X0_at_25, b_X0_at_31, b_X0_at_29, i_lit, i_m1, i_31, il_t, il_f, iq_t, iq_f, it_t, it_f, im_e, im_l, im_g, im_g2, nI_add, pk_mul, i_sub, i_div, sdm, i_dec, i_cl, iv_t, bI_or2, bI_t0, bI_one, not_true_eq_false, not_false_eq_true, ↓reduceIte, am_tl, am_tn, am_t0, am_n0, and_true, true_and, List.cons_append, List.nil_append, List.append_nil, or_true, true_or, or_false, false_or, eq_self, ior0, iand0, im_e2, oI, sdm, c_isDemanded L0 R h1 h2, z, Bool.false_eq_true]
      exact nx j h' ⟨rfl, hj, e⟩
    | true =>
      by_cases y : j = 0
      · subst y
        rw [nt_0 (show pD D t = true from z)] at e
        simp (disch := first | assumption | omega | (simp only [ya_pi, ya_pj, ya_pa, ya_pr, yo_pi, yo_pj, yo_pa, yf_pi, yf_pj, yf_pa, yh_pi, yh_pj, yh_pa, yt_pi, yt_pj, yt_pa, la_pi, la_pj, la_pa]; assumption)) only [b_X0_at_0, b_X0_at_40, b_X0_at_10, b_X0_at_22, b_X0_at_34, b_X0_at_25, b_X0_at_31, b_X0_at_29, i_lit, i_m1, i_31, il_t, il_f, iq_t, iq_f, it_t, it_f, im_e, im_l, im_g, im_g2, nI_add, pk_mul, i_sub, i_div, sdm, i_dec, i_cl, iv_t, bI_or2, bI_t0, bI_one, not_true_eq_false, not_false_eq_true, ↓reduceIte, am_tl, am_tn, am_t0, am_n0, and_true, true_and, List.cons_append, List.nil_append, List.append_nil, or_true, true_or, or_false, false_or, eq_self, ior0, iand0, im_e2, oI, sdm, c_isDemanded L0 R h1 h2, z]
        rw [← e]
      · obtain ⟨j', rfl⟩ : ∃ j', j = j' + 1 := ⟨j - 1, by omega⟩
        rw [nt_s (show pD D t = true from z)] at e
        simp (disch := first | assumption | omega | (simp only [ya_pi, ya_pj, ya_pa, ya_pr, yo_pi, yo_pj, yo_pa, yf_pi, yf_pj, yf_pa, yh_pi, yh_pj, yh_pa, yt_pi, yt_pj, yt_pa, la_pi, la_pj, la_pa]; assumption)) only [b_X0_at_0, b_X0_at_40, b_X0_at_10, b_X0_at_22, b_X0_at_34, b_X0_at_25, b_X0_at_31, b_X0_at_29, i_lit, i_m1, i_31, il_t, il_f, iq_t, iq_f, it_t, it_f, im_e, im_l, im_g, im_g2, nI_add, pk_mul, i_sub, i_div, sdm, i_dec, i_cl, iv_t, bI_or2, bI_t0, bI_one, not_true_eq_false, not_false_eq_true, ↓reduceIte, am_tl, am_tn, am_t0, am_n0, and_true, true_and, List.cons_append, List.nil_append, List.append_nil, or_true, true_or, or_false, false_or, eq_self, ior0, iand0, im_e2, oI, sdm, c_isDemanded L0 R h1 h2, z, Nat.add_sub_cancel]
        exact nx j' h' ⟨rfl, by omega, e⟩
  · rintro j h' ⟨rfl, hj, e⟩
    rw [b_X0_at_4 _ _ _ _ _]
    simp (disch := first | assumption | omega | (simp only [ya_pi, ya_pj, ya_pa, ya_pr, yo_pi, yo_pj, yo_pa, yf_pi, yf_pj, yf_pa, yh_pi, yh_pj, yh_pa, yt_pi, yt_pj, yt_pa, la_pi, la_pj, la_pa]; assumption)) only [b_X0_at_0, b_X0_at_40, b_X0_at_10, b_X0_at_22, b_X0_at_34, b_X0_at_25, b_X0_at_31, b_X0_at_29, i_lit, i_m1, i_31, il_t, il_f, iq_t, iq_f, it_t, it_f, im_e, im_l, im_g, im_g2, nI_add, pk_mul, i_sub, i_div, sdm, i_dec, i_cl, iv_t, bI_or2, bI_t0, bI_one, not_true_eq_false, not_false_eq_true, ↓reduceIte, am_tl, am_tn, am_t0, am_n0, and_true, true_and, List.cons_append, List.nil_append, List.append_nil, or_true, true_or, or_false, false_or, eq_self, ior0, iand0, im_e2, oI]
    rw [← e]
    rfl
noncomputable def a_demand (f : fa_S) (c i : Int32) : Int32 := if fa_has (f_n f) c then (if i < 0 then -3 else if (fT f c.toNatClampNeg).1 = 2 then mI else oI (nt (pD (fD f c.toNatClampNeg)) 100 0 i.toNatClampNeg)) else -2
noncomputable def a_ring (f : fa_S) (c i : Int32) : Int32 := if fa_has (f_n f) c then (if i < 0 then -3 else if (fT f c.toNatClampNeg).1 = 2 then mI else oI (rfL (fD f c.toNatClampNeg) (f_n f))[i.toNatClampNeg]?) else -2
theorem m2_n : ¬ (mI : Int32) = -2 := by decide
theorem n0_2 : ¬ (nI 0 : Int32) = -2 := by decide
theorem m_0 : ¬ (mI : Int32) = nI 0 := by decide
theorem m22 : ((-2 : Int32) = -2) = True := eq_true rfl
theorem m20 : ((-2 : Int32) = nI 0) = False := eq_false (by decide)
theorem n02 : ((nI 0 : Int32) = -2) = False := eq_false (by decide)
theorem mm2 : ((mI : Int32) = -2) = False := eq_false (by decide)
theorem mm0 : ((mI : Int32) = nI 0) = False := eq_false (by decide)
theorem i_neg (n : Nat) : (-(OfNat.ofNat n) : Int32) = -(nI n) := rfl
theorem q22 : (-(nI 2) = -(nI 2)) = True := eq_true rfl
theorem q20 : (-(nI 2) = nI 0) = False := eq_false (by decide)
theorem q02 : (nI 0 = -(nI 2)) = False := eq_false (by decide)
theorem qm2 : (mI = -(nI 2)) = False := eq_false (by decide)
theorem qm0 : (mI = nI 0) = False := eq_false (by decide)
theorem im_le {a : Nat} (ha : a < 2147483648) : (mI ≤ nI a) = True := eq_true (by rw [Int32.le_iff_toInt_le, nI_toInt ha, mI_toInt]; omega)
theorem ge0 {i : Int32} (h : i < 0) : (nI 0 ≤ i) = False := eq_false (fun z => by
  rw [Int32.lt_iff_toInt_lt] at h
  rw [Int32.le_iff_toInt_le] at z
  have h1 : (nI 0).toInt = 0 := rfl
  have h2 : (0 : Int32).toInt = 0 := rfl
  omega)
theorem c_demand {d : Nat} {Q : Option am_V → am_H → Prop} {h : am_H} {f : fa_S} (ok : fa_ok f) (C : cQ h f) {c i : Int32} {l3 : Option am_V} (k : ∀ h', am_fr h h' cS → Q (some (v_i (a_demand f c i))) h') : ex_ (d + 4) 192 0 [some (v_r (some 0)), some (v_i c), some (v_i i), l3] [] h Q := by
  have L0 := C.1
  have hn := ok.1
  unfold a_demand at k
  rcases fa_cs hn c with ⟨a, ha, rfl⟩ | hc
  · have hh : fa_has (f_n f) (nI a) := (fa_has_iff hn).2 ⟨a, ha, rfl⟩
    rw [if_pos hh, nI_clamp (by omega)] at k
    by_cases hi : i < 0
    · rw [if_pos hi] at k
      by_cases z : (fT f a).1 = 2
      · simp (disch := first | assumption | omega | (simp only [ya_pi, ya_pj, ya_pa, ya_pr, yo_pi, yo_pj, yo_pa, yf_pi, yf_pj, yf_pa, yh_pi, yh_pj, yh_pa, yt_pi, yt_pj, yt_pa, la_pi, la_pj, la_pa]; assumption)) only [b_X11_demand_0, b_X11_demand_5, b_X11_demand_19, b_X11_demand_12, b_X11_demand_25, b_X11_demand_23, b_X11_demand_16, b_X11_demand_33, b_X11_demand_41, i_lit, i_m1, i_31, il_t, il_f, iq_t, iq_f, it_t, it_f, im_e, im_l, im_g, im_g2, nI_add, pk_mul, i_sub, i_div, sdm, i_dec, i_cl, iv_t, bI_or2, bI_t0, bI_one, not_true_eq_false, not_false_eq_true, ↓reduceIte, am_tl, am_tn, am_t0, am_n0, and_true, true_and, List.cons_append, List.nil_append, List.append_nil, or_true, true_or, or_false, false_or, eq_self, ior0, iand0, im_e2, oI, c_demandsCode_y ok C ha, z, qm2, ge0 hi]
        exact k h am_fr.rf
      · simp (disch := first | assumption | omega | (simp only [ya_pi, ya_pj, ya_pa, ya_pr, yo_pi, yo_pj, yo_pa, yf_pi, yf_pj, yf_pa, yh_pi, yh_pj, yh_pa, yt_pi, yt_pj, yt_pa, la_pi, la_pj, la_pa]; assumption)) only [b_X11_demand_0, b_X11_demand_5, b_X11_demand_19, b_X11_demand_12, b_X11_demand_25, b_X11_demand_23, b_X11_demand_16, b_X11_demand_33, b_X11_demand_41, i_lit, i_m1, i_31, il_t, il_f, iq_t, iq_f, it_t, it_f, im_e, im_l, im_g, im_g2, nI_add, pk_mul, i_sub, i_div, sdm, i_dec, i_cl, iv_t, bI_or2, bI_t0, bI_one, not_true_eq_false, not_false_eq_true, ↓reduceIte, am_tl, am_tn, am_t0, am_n0, and_true, true_and, List.cons_append, List.nil_append, List.append_nil, or_true, true_or, or_false, false_or, eq_self, ior0, iand0, im_e2, oI, c_demandsCode_y ok C ha, z, q02, ge0 hi]
        exact k h am_fr.rf
    · obtain ⟨i, hi2, rfl⟩ := nI_of hi
      rw [if_neg hi, nI_clamp hi2] at k
      by_cases z : (fT f a).1 = 2
      · rw [if_pos z] at k
        simp (disch := first | assumption | omega | (simp only [ya_pi, ya_pj, ya_pa, ya_pr, yo_pi, yo_pj, yo_pa, yf_pi, yf_pj, yf_pa, yh_pi, yh_pj, yh_pa, yt_pi, yt_pj, yt_pa, la_pi, la_pj, la_pa]; assumption)) only [b_X11_demand_0, b_X11_demand_5, b_X11_demand_19, b_X11_demand_12, b_X11_demand_25, b_X11_demand_23, b_X11_demand_16, b_X11_demand_33, b_X11_demand_41, i_lit, i_m1, i_31, il_t, il_f, iq_t, iq_f, it_t, it_f, im_e, im_l, im_g, im_g2, nI_add, pk_mul, i_sub, i_div, sdm, i_dec, i_cl, iv_t, bI_or2, bI_t0, bI_one, not_true_eq_false, not_false_eq_true, ↓reduceIte, am_tl, am_tn, am_t0, am_n0, and_true, true_and, List.cons_append, List.nil_append, List.append_nil, or_true, true_or, or_false, false_or, eq_self, ior0, iand0, im_e2, oI, c_demandsCode_y ok C ha, z, qm2, qm0]
        exact k h am_fr.rf
      · rw [if_neg z] at k
        simp (disch := first | assumption | omega | (simp only [ya_pi, ya_pj, ya_pa, ya_pr, yo_pi, yo_pj, yo_pa, yf_pi, yf_pj, yf_pa, yh_pi, yh_pj, yh_pa, yt_pi, yt_pj, yt_pa, la_pi, la_pj, la_pa]; assumption)) only [b_X11_demand_0, b_X11_demand_5, b_X11_demand_19, b_X11_demand_12, b_X11_demand_25, b_X11_demand_23, b_X11_demand_16, b_X11_demand_33, b_X11_demand_41, i_lit, i_m1, i_31, il_t, il_f, iq_t, iq_f, it_t, it_f, im_e, im_l, im_g, im_g2, nI_add, pk_mul, i_sub, i_div, sdm, i_dec, i_cl, iv_t, bI_or2, bI_t0, bI_one, not_true_eq_false, not_false_eq_true, ↓reduceIte, am_tl, am_tn, am_t0, am_n0, and_true, true_and, List.cons_append, List.nil_append, List.append_nil, or_true, true_or, or_false, false_or, eq_self, ior0, iand0, im_e2, oI, c_demandsCode_y ok C ha, z, q02]
        refine c_gather L0 ok C.2.1 C.2.2 (fT_ok ok) ha (fun h1 fr1 R1 e1 => ?_)
        have L1 : Lay h1 := fr1.lay L0
        simp (disch := first | assumption | omega | (simp only [ya_pi, ya_pj, ya_pa, ya_pr, yo_pi, yo_pj, yo_pa, yf_pi, yf_pj, yf_pa, yh_pi, yh_pj, yh_pa, yt_pi, yt_pj, yt_pa, la_pi, la_pj, la_pa]; assumption)) only [b_X11_demand_0, b_X11_demand_5, b_X11_demand_19, b_X11_demand_12, b_X11_demand_25, b_X11_demand_23, b_X11_demand_16, b_X11_demand_33, b_X11_demand_41, i_lit, i_m1, i_31, il_t, il_f, iq_t, iq_f, it_t, it_f, im_e, im_l, im_g, im_g2, nI_add, pk_mul, i_sub, i_div, sdm, i_dec, i_cl, iv_t, bI_or2, bI_t0, bI_one, not_true_eq_false, not_false_eq_true, ↓reduceIte, am_tl, am_tn, am_t0, am_n0, and_true, true_and, List.cons_append, List.nil_append, List.append_nil, c_dAt L1 R1 hi2]
        exact k h1 (fr1.le (fun a k z => z.S))
  · rw [if_neg hc] at k
    simp (disch := first | assumption | omega | (simp only [ya_pi, ya_pj, ya_pa, ya_pr, yo_pi, yo_pj, yo_pa, yf_pi, yf_pj, yf_pa, yh_pi, yh_pj, yh_pa, yt_pi, yt_pj, yt_pa, la_pi, la_pj, la_pa]; assumption)) only [b_X11_demand_0, b_X11_demand_5, b_X11_demand_19, b_X11_demand_12, b_X11_demand_25, b_X11_demand_23, b_X11_demand_16, b_X11_demand_33, b_X11_demand_41, i_lit, i_m1, i_31, il_t, il_f, iq_t, iq_f, it_t, it_f, im_e, im_l, im_g, im_g2, nI_add, pk_mul, i_sub, i_div, sdm, i_dec, i_cl, iv_t, bI_or2, bI_t0, bI_one, not_true_eq_false, not_false_eq_true, ↓reduceIte, am_tl, am_tn, am_t0, am_n0, and_true, true_and, List.cons_append, List.nil_append, List.append_nil, or_true, true_or, or_false, false_or, eq_self, ior0, iand0, im_e2, oI, c_demandsCode_n ok C hc, m22, m20, q22, q20]
    exact k h am_fr.rf
theorem d5.S {a k : Nat} (z : d5 a k) : cS a k := by unfold d5 at z; unfold cS; omega
theorem c_ring {d : Nat} {Q : Option am_V → am_H → Prop} {h : am_H} {f : fa_S} (ok : fa_ok f) (C : cQ h f) {c i : Int32} {l3 : Option am_V} (k : ∀ h', am_fr h h' cS → Q (some (v_i (a_ring f c i))) h') : ex_ (d + 4) 193 0 [some (v_r (some 0)), some (v_i c), some (v_i i), l3] [] h Q := by
  have L0 := C.1
  have hn := ok.1
  unfold a_ring at k
  rcases fa_cs hn c with ⟨a, ha, rfl⟩ | hc
  · have hh : fa_has (f_n f) (nI a) := (fa_has_iff hn).2 ⟨a, ha, rfl⟩
    rw [if_pos hh, nI_clamp (by omega)] at k
    by_cases hi : i < 0
    · rw [if_pos hi] at k
      by_cases z : (fT f a).1 = 2
      · simp (disch := first | assumption | omega | (simp only [ya_pi, ya_pj, ya_pa, ya_pr, yo_pi, yo_pj, yo_pa, yf_pi, yf_pj, yf_pa, yh_pi, yh_pj, yh_pa, yt_pi, yt_pj, yt_pa, la_pi, la_pj, la_pa]; assumption)) only [b_X11_ring_0, b_X11_ring_5, b_X11_ring_19, b_X11_ring_12, b_X11_ring_25, b_X11_ring_23, b_X11_ring_16, b_X11_ring_33, b_X11_ring_40, b_X11_ring_48, i_lit, i_m1, i_31, il_t, il_f, iq_t, iq_f, it_t, it_f, im_e, im_l, im_g, im_g2, nI_add, pk_mul, i_sub, i_div, sdm, i_dec, i_cl, iv_t, bI_or2, bI_t0, bI_one, not_true_eq_false, not_false_eq_true, ↓reduceIte, am_tl, am_tn, am_t0, am_n0, and_true, true_and, List.cons_append, List.nil_append, List.append_nil, or_true, true_or, or_false, false_or, eq_self, ior0, iand0, im_e2, oI, c_demandsCode_y ok C ha, z, qm2, ge0 hi]
        exact k h am_fr.rf
      · simp (disch := first | assumption | omega | (simp only [ya_pi, ya_pj, ya_pa, ya_pr, yo_pi, yo_pj, yo_pa, yf_pi, yf_pj, yf_pa, yh_pi, yh_pj, yh_pa, yt_pi, yt_pj, yt_pa, la_pi, la_pj, la_pa]; assumption)) only [b_X11_ring_0, b_X11_ring_5, b_X11_ring_19, b_X11_ring_12, b_X11_ring_25, b_X11_ring_23, b_X11_ring_16, b_X11_ring_33, b_X11_ring_40, b_X11_ring_48, i_lit, i_m1, i_31, il_t, il_f, iq_t, iq_f, it_t, it_f, im_e, im_l, im_g, im_g2, nI_add, pk_mul, i_sub, i_div, sdm, i_dec, i_cl, iv_t, bI_or2, bI_t0, bI_one, not_true_eq_false, not_false_eq_true, ↓reduceIte, am_tl, am_tn, am_t0, am_n0, and_true, true_and, List.cons_append, List.nil_append, List.append_nil, or_true, true_or, or_false, false_or, eq_self, ior0, iand0, im_e2, oI, c_demandsCode_y ok C ha, z, q02, ge0 hi]
        exact k h am_fr.rf
    · obtain ⟨i, hi2, rfl⟩ := nI_of hi
      rw [if_neg hi, nI_clamp hi2] at k
      by_cases z : (fT f a).1 = 2
      · rw [if_pos z] at k
        simp (disch := first | assumption | omega | (simp only [ya_pi, ya_pj, ya_pa, ya_pr, yo_pi, yo_pj, yo_pa, yf_pi, yf_pj, yf_pa, yh_pi, yh_pj, yh_pa, yt_pi, yt_pj, yt_pa, la_pi, la_pj, la_pa]; assumption)) only [b_X11_ring_0, b_X11_ring_5, b_X11_ring_19, b_X11_ring_12, b_X11_ring_25, b_X11_ring_23, b_X11_ring_16, b_X11_ring_33, b_X11_ring_40, b_X11_ring_48, i_lit, i_m1, i_31, il_t, il_f, iq_t, iq_f, it_t, it_f, im_e, im_l, im_g, im_g2, nI_add, pk_mul, i_sub, i_div, sdm, i_dec, i_cl, iv_t, bI_or2, bI_t0, bI_one, not_true_eq_false, not_false_eq_true, ↓reduceIte, am_tl, am_tn, am_t0, am_n0, and_true, true_and, List.cons_append, List.nil_append, List.append_nil, or_true, true_or, or_false, false_or, eq_self, ior0, iand0, im_e2, oI, c_demandsCode_y ok C ha, z, qm2, qm0]
        exact k h am_fr.rf
      · rw [if_neg z] at k
        simp (disch := first | assumption | omega | (simp only [ya_pi, ya_pj, ya_pa, ya_pr, yo_pi, yo_pj, yo_pa, yf_pi, yf_pj, yf_pa, yh_pi, yh_pj, yh_pa, yt_pi, yt_pj, yt_pa, la_pi, la_pj, la_pa]; assumption)) only [b_X11_ring_0, b_X11_ring_5, b_X11_ring_19, b_X11_ring_12, b_X11_ring_25, b_X11_ring_23, b_X11_ring_16, b_X11_ring_33, b_X11_ring_40, b_X11_ring_48, i_lit, i_m1, i_31, il_t, il_f, iq_t, iq_f, it_t, it_f, im_e, im_l, im_g, im_g2, nI_add, pk_mul, i_sub, i_div, sdm, i_dec, i_cl, iv_t, bI_or2, bI_t0, bI_one, not_true_eq_false, not_false_eq_true, ↓reduceIte, am_tl, am_tn, am_t0, am_n0, and_true, true_and, List.cons_append, List.nil_append, List.append_nil, or_true, true_or, or_false, false_or, eq_self, ior0, iand0, im_e2, oI, c_demandsCode_y ok C ha, z, q02]
        refine c_gather L0 ok C.2.1 C.2.2 (fT_ok ok) ha (fun h1 fr1 R1 e1 => ?_)
        have L1 : Lay h1 := fr1.lay L0
        simp (disch := first | assumption | omega | (simp only [ya_pi, ya_pj, ya_pa, ya_pr, yo_pi, yo_pj, yo_pa, yf_pi, yf_pj, yf_pa, yh_pi, yh_pj, yh_pa, yt_pi, yt_pj, yt_pa, la_pi, la_pj, la_pa]; assumption)) only [b_X11_ring_0, b_X11_ring_5, b_X11_ring_19, b_X11_ring_12, b_X11_ring_25, b_X11_ring_23, b_X11_ring_16, b_X11_ring_33, b_X11_ring_40, b_X11_ring_48, i_lit, i_m1, i_31, il_t, il_f, iq_t, iq_f, it_t, it_f, im_e, im_l, im_g, im_g2, nI_add, pk_mul, i_sub, i_div, sdm, i_dec, i_cl, iv_t, bI_or2, bI_t0, bI_one, not_true_eq_false, not_false_eq_true, ↓reduceIte, am_tl, am_tn, am_t0, am_n0, and_true, true_and, List.cons_append, List.nil_append, List.append_nil]
        refine c_findRing L1 R1 (fun h2 t fr2 g e2 hl r2 => ?_)
        have L2 : Lay h2 := fr2.lay L1
        rw [rg_eq (n := f_n f) g hn (fun a b hD => by
          have h1 := dm_up ok ha hD
          have h2 := up_lt ok h1.1
          have h3 := up_lt ok h1.2
          omega) (fun a => dm_irr ok ha)] at e2 hl r2
        simp (disch := first | assumption | omega | (simp only [ya_pi, ya_pj, ya_pa, ya_pr, yo_pi, yo_pj, yo_pa, yf_pi, yf_pj, yf_pa, yh_pi, yh_pj, yh_pa, yt_pi, yt_pj, yt_pa, la_pi, la_pj, la_pa]; assumption)) only [b_X11_ring_0, b_X11_ring_5, b_X11_ring_19, b_X11_ring_12, b_X11_ring_25, b_X11_ring_23, b_X11_ring_16, b_X11_ring_33, b_X11_ring_40, b_X11_ring_48, i_lit, i_m1, i_31, il_t, il_f, iq_t, iq_f, it_t, it_f, im_e, im_l, im_g, im_g2, nI_add, pk_mul, i_sub, i_div, sdm, i_dec, i_cl, iv_t, bI_or2, bI_t0, bI_one, not_true_eq_false, not_false_eq_true, ↓reduceIte, am_tl, am_tn, am_t0, am_n0, and_true, true_and, List.cons_append, List.nil_append, List.append_nil, c_ringAt L2 e2 hl r2 hi2]
        exact k h2 ((fr1.le (fun a k z => z.S)).tr (fr2.le (fun a k z => z.S)))
  · rw [if_neg hc] at k
    simp (disch := first | assumption | omega | (simp only [ya_pi, ya_pj, ya_pa, ya_pr, yo_pi, yo_pj, yo_pa, yf_pi, yf_pj, yf_pa, yh_pi, yh_pj, yh_pa, yt_pi, yt_pj, yt_pa, la_pi, la_pj, la_pa]; assumption)) only [b_X11_ring_0, b_X11_ring_5, b_X11_ring_19, b_X11_ring_12, b_X11_ring_25, b_X11_ring_23, b_X11_ring_16, b_X11_ring_33, b_X11_ring_40, b_X11_ring_48, i_lit, i_m1, i_31, il_t, il_f, iq_t, iq_f, it_t, it_f, im_e, im_l, im_g, im_g2, nI_add, pk_mul, i_sub, i_div, sdm, i_dec, i_cl, iv_t, bI_or2, bI_t0, bI_one, not_true_eq_false, not_false_eq_true, ↓reduceIte, am_tl, am_tn, am_t0, am_n0, and_true, true_and, List.cons_append, List.nil_append, List.append_nil, or_true, true_or, or_false, false_or, eq_self, ior0, iand0, im_e2, oI, c_demandsCode_n ok C hc, m22, m20, q22, q20]
    exact k h am_fr.rf
theorem c_rDemand {d : Nat} {Q : Option am_V → am_H → Prop} {h : am_H} {f : fa_S} (ok : fa_ok f) (F : rfa h f) {c i : Int32} {l3 l4 : Option am_V} (k : ∀ h', am_fr h h' rS → Q (some (v_i (a_demand f c i))) h') : ex_ (d + 5) 314 0 [some (v_r (some 93)), some (v_i c), some (v_i i), l3, l4] [] h Q := by
  have L0 := F.1
  have hn := ok.1
  have F0 : rfa (p_i h 93 0 (nI 0)) f := p0_rfa ok F
  have fr0 : am_fr h (p_i h 93 0 (nI 0)) rS := am_fr_pi (by unfold rS; omega)
  unfold a_demand at k
  rcases fa_cs hn c with ⟨a, ha, rfl⟩ | hc
  · have hh : fa_has (f_n f) (nI a) := (fa_has_iff hn).2 ⟨a, ha, rfl⟩
    rw [if_pos hh, nI_clamp (by omega)] at k
    by_cases hi : i < 0
    · rw [if_pos hi] at k
      simp (disch := first | assumption | omega | (simp only [ya_pi, ya_pj, ya_pa, ya_pr, yo_pi, yo_pj, yo_pa, yf_pi, yf_pj, yf_pa, yh_pi, yh_pj, yh_pa, yt_pi, yt_pj, yt_pa, la_pi, la_pj, la_pa]; assumption)) only [b_X12_demand_0, b_X12_demand_11, b_X12_demand_17, b_X12_demand_14, b_X12_demand_24, b_X12_demand_21, b_X12_demand_29, b_X12_demand_34, b_X12_demand_32, b_X12_demand_88, b_X12_demand_46, b_X12_demand_65, b_X12_demand_71, b_X12_demand_68, b_X12_demand_79, b_X12_demand_76, i_lit, i_m1, i_31, il_t, il_f, iq_t, iq_f, it_t, it_f, im_e, im_l, im_g, im_g2, nI_add, pk_mul, i_sub, i_div, sdm, i_dec, i_cl, iv_t, bI_or2, bI_t0, bI_one, not_true_eq_false, not_false_eq_true, ↓reduceIte, am_tl, am_tn, am_t0, am_n0, and_true, true_and, List.cons_append, List.nil_append, List.append_nil, or_true, true_or, or_false, false_or, eq_self, ior0, iand0, im_e2, oI, nI_l, c_isClass_y ok F0 ha, ge0 hi]
      exact k _ fr0
    · obtain ⟨i, hi2, rfl⟩ := nI_of hi
      rw [if_neg hi, nI_clamp hi2] at k
      simp (disch := first | assumption | omega | (simp only [ya_pi, ya_pj, ya_pa, ya_pr, yo_pi, yo_pj, yo_pa, yf_pi, yf_pj, yf_pa, yh_pi, yh_pj, yh_pa, yt_pi, yt_pj, yt_pa, la_pi, la_pj, la_pa]; assumption)) only [b_X12_demand_0, b_X12_demand_11, b_X12_demand_17, b_X12_demand_14, b_X12_demand_24, b_X12_demand_21, b_X12_demand_29, b_X12_demand_34, b_X12_demand_32, b_X12_demand_88, b_X12_demand_46, b_X12_demand_65, b_X12_demand_71, b_X12_demand_68, b_X12_demand_79, b_X12_demand_76, i_lit, i_m1, i_31, il_t, il_f, iq_t, iq_f, it_t, it_f, im_e, im_l, im_g, im_g2, nI_add, pk_mul, i_sub, i_div, sdm, i_dec, i_cl, iv_t, bI_or2, bI_t0, bI_one, not_true_eq_false, not_false_eq_true, ↓reduceIte, am_tl, am_tn, am_t0, am_n0, and_true, true_and, List.cons_append, List.nil_append, List.append_nil, or_true, true_or, or_false, false_or, eq_self, ior0, iand0, im_e2, oI, nI_l, c_isClass_y ok F0 ha]
      refine c_noDemands_y ok F0 ha (fun z h1 fr1 => ?_) (fun z h1 fr1 A1 q1 => ?_)
      · rw [if_pos z] at k
        simp (disch := first | assumption | omega | (simp only [ya_pi, ya_pj, ya_pa, ya_pr, yo_pi, yo_pj, yo_pa, yf_pi, yf_pj, yf_pa, yh_pi, yh_pj, yh_pa, yt_pi, yt_pj, yt_pa, la_pi, la_pj, la_pa]; assumption)) only [b_X12_demand_0, b_X12_demand_11, b_X12_demand_17, b_X12_demand_14, b_X12_demand_24, b_X12_demand_21, b_X12_demand_29, b_X12_demand_34, b_X12_demand_32, b_X12_demand_88, b_X12_demand_46, b_X12_demand_65, b_X12_demand_71, b_X12_demand_68, b_X12_demand_79, b_X12_demand_76, i_lit, i_m1, i_31, il_t, il_f, iq_t, iq_f, it_t, it_f, im_e, im_l, im_g, im_g2, nI_add, pk_mul, i_sub, i_div, sdm, i_dec, i_cl, iv_t, bI_or2, bI_t0, bI_one, not_true_eq_false, not_false_eq_true, ↓reduceIte, am_tl, am_tn, am_t0, am_n0, and_true, true_and, List.cons_append, List.nil_append, List.append_nil, or_true, true_or, or_false, false_or, eq_self, ior0, iand0, im_e2, oI, qm0]
        exact k h1 (fr0.tr fr1)
      · rw [if_neg z] at k
        simp (disch := first | assumption | omega | (simp only [ya_pi, ya_pj, ya_pa, ya_pr, yo_pi, yo_pj, yo_pa, yf_pi, yf_pj, yf_pa, yh_pi, yh_pj, yh_pa, yt_pi, yt_pj, yt_pa, la_pi, la_pj, la_pa]; assumption)) only [b_X12_demand_0, b_X12_demand_11, b_X12_demand_17, b_X12_demand_14, b_X12_demand_24, b_X12_demand_21, b_X12_demand_29, b_X12_demand_34, b_X12_demand_32, b_X12_demand_88, b_X12_demand_46, b_X12_demand_65, b_X12_demand_71, b_X12_demand_68, b_X12_demand_79, b_X12_demand_76, i_lit, i_m1, i_31, il_t, il_f, iq_t, iq_f, it_t, it_f, im_e, im_l, im_g, im_g2, nI_add, pk_mul, i_sub, i_div, sdm, i_dec, i_cl, iv_t, bI_or2, bI_t0, bI_one, not_true_eq_false, not_false_eq_true, ↓reduceIte, am_tl, am_tn, am_t0, am_n0, and_true, true_and, List.cons_append, List.nil_append, List.append_nil, or_true, true_or, or_false, false_or, eq_self, ior0, iand0, im_e2, oI]
        have L1 : Lay h1 := fr1.lay F0.1
        refine lp_up 100 (fun t (j : Nat) => [some (v_r (some 93)), some (v_i (nI a)), some (v_i (nI i)), some (v_i (nI j)), some (v_i (nI t))]) (fun t j h' => h' = h1 ∧ j ≤ i ∧ nt (pD (fD f a)) (100 - t) t (i - j) = nt (pD (fD f a)) 100 0 i) ?_ ?_ (Nat.zero_le _) ⟨rfl, Nat.zero_le _, rfl⟩ (s := 0)
        · rintro t j h' ht ⟨rfl, hj, e⟩ nx
          rw [b_X12_demand_39 _ _ _ _ _ _]
          rw [show 100 - t = (100 - (t + 1)) + 1 from by omega] at e
          have h1 : t / 10 < 10 := by omega
          have h2 : t % 10 < 16 := by omega
          have e6 := q1 _ h1
          cases z : fD f a (t / 10) (t % 10) with
          | false =>
            rw [nt_n (show pD (fD f a) t = false from z)] at e
            simp (disch := first | assumption | omega | (simp only [ya_pi, ya_pj, ya_pa, ya_pr, yo_pi, yo_pj, yo_pa, yf_pi, yf_pj, yf_pa, yh_pi, yh_pj, yh_pa, yt_pi, yt_pj, yt_pa, la_pi, la_pj, la_pa]; assumption)) only [b_X12_demand_0, b_X12_demand_11, b_X12_demand_17, b_X12_demand_14, b_X12_demand_24, b_X12_demand_21, b_X12_demand_29, b_X12_demand_34, b_X12_demand_32, b_X12_demand_88, b_X12_demand_46, b_X12_demand_65, b_X12_demand_71, b_X12_demand_68, b_X12_demand_79, b_X12_demand_76, i_lit, i_m1, i_31, il_t, il_f, iq_t, iq_f, it_t, it_f, im_e, im_l, im_g, im_g2, nI_add, pk_mul, i_sub, i_div, sdm, i_dec, i_cl, iv_t, bI_or2, bI_t0, bI_one, not_true_eq_false, not_false_eq_true, ↓reduceIte, am_tl, am_tn, am_t0, am_n0, and_true, true_and, List.cons_append, List.nil_append, List.append_nil, or_true, true_or, or_false, false_or, eq_self, ior0, iand0, im_e2, oI, sdm, e6, c_isInI h2, z, Bool.false_eq_true]
            exact nx j h' ⟨rfl, hj, e⟩
          | true =>
            by_cases y : j = i
            · subst y
              rw [Nat.sub_self, nt_0 (show pD (fD f a) t = true from z)] at e
              simp (disch := first | assumption | omega | (simp only [ya_pi, ya_pj, ya_pa, ya_pr, yo_pi, yo_pj, yo_pa, yf_pi, yf_pj, yf_pa, yh_pi, yh_pj, yh_pa, yt_pi, yt_pj, yt_pa, la_pi, la_pj, la_pa]; assumption)) only [b_X12_demand_0, b_X12_demand_11, b_X12_demand_17, b_X12_demand_14, b_X12_demand_24, b_X12_demand_21, b_X12_demand_29, b_X12_demand_34, b_X12_demand_32, b_X12_demand_88, b_X12_demand_46, b_X12_demand_65, b_X12_demand_71, b_X12_demand_68, b_X12_demand_79, b_X12_demand_76, i_lit, i_m1, i_31, il_t, il_f, iq_t, iq_f, it_t, it_f, im_e, im_l, im_g, im_g2, nI_add, pk_mul, i_sub, i_div, sdm, i_dec, i_cl, iv_t, bI_or2, bI_t0, bI_one, not_true_eq_false, not_false_eq_true, ↓reduceIte, am_tl, am_tn, am_t0, am_n0, and_true, true_and, List.cons_append, List.nil_append, List.append_nil, or_true, true_or, or_false, false_or, eq_self, ior0, iand0, im_e2, oI, sdm, e6, c_isInI h2, z]
              rw [← e] at k
              exact k h' (fr0.tr fr1)
            · rw [show i - j = (i - (j + 1)) + 1 from by omega, nt_s (show pD (fD f a) t = true from z)] at e
              simp (disch := first | assumption | omega | (simp only [ya_pi, ya_pj, ya_pa, ya_pr, yo_pi, yo_pj, yo_pa, yf_pi, yf_pj, yf_pa, yh_pi, yh_pj, yh_pa, yt_pi, yt_pj, yt_pa, la_pi, la_pj, la_pa]; assumption)) only [b_X12_demand_0, b_X12_demand_11, b_X12_demand_17, b_X12_demand_14, b_X12_demand_24, b_X12_demand_21, b_X12_demand_29, b_X12_demand_34, b_X12_demand_32, b_X12_demand_88, b_X12_demand_46, b_X12_demand_65, b_X12_demand_71, b_X12_demand_68, b_X12_demand_79, b_X12_demand_76, i_lit, i_m1, i_31, il_t, il_f, iq_t, iq_f, it_t, it_f, im_e, im_l, im_g, im_g2, nI_add, pk_mul, i_sub, i_div, sdm, i_dec, i_cl, iv_t, bI_or2, bI_t0, bI_one, not_true_eq_false, not_false_eq_true, ↓reduceIte, am_tl, am_tn, am_t0, am_n0, and_true, true_and, List.cons_append, List.nil_append, List.append_nil, or_true, true_or, or_false, false_or, eq_self, ior0, iand0, im_e2, oI, sdm, e6, c_isInI h2, z]
              exact nx (j + 1) h' ⟨rfl, by omega, e⟩
        · rintro j h' ⟨rfl, hj, e⟩
          rw [b_X12_demand_39 _ _ _ _ _ _]
          simp (disch := first | assumption | omega | (simp only [ya_pi, ya_pj, ya_pa, ya_pr, yo_pi, yo_pj, yo_pa, yf_pi, yf_pj, yf_pa, yh_pi, yh_pj, yh_pa, yt_pi, yt_pj, yt_pa, la_pi, la_pj, la_pa]; assumption)) only [b_X12_demand_0, b_X12_demand_11, b_X12_demand_17, b_X12_demand_14, b_X12_demand_24, b_X12_demand_21, b_X12_demand_29, b_X12_demand_34, b_X12_demand_32, b_X12_demand_88, b_X12_demand_46, b_X12_demand_65, b_X12_demand_71, b_X12_demand_68, b_X12_demand_79, b_X12_demand_76, i_lit, i_m1, i_31, il_t, il_f, iq_t, iq_f, it_t, it_f, im_e, im_l, im_g, im_g2, nI_add, pk_mul, i_sub, i_div, sdm, i_dec, i_cl, iv_t, bI_or2, bI_t0, bI_one, not_true_eq_false, not_false_eq_true, ↓reduceIte, am_tl, am_tn, am_t0, am_n0, and_true, true_and, List.cons_append, List.nil_append, List.append_nil, or_true, true_or, or_false, false_or, eq_self, ior0, iand0, im_e2, oI]
          rw [← e] at k
          exact k h' (fr0.tr fr1)
  · rw [if_neg hc] at k
    simp (disch := first | assumption | omega | (simp only [ya_pi, ya_pj, ya_pa, ya_pr, yo_pi, yo_pj, yo_pa, yf_pi, yf_pj, yf_pa, yh_pi, yh_pj, yh_pa, yt_pi, yt_pj, yt_pa, la_pi, la_pj, la_pa]; assumption)) only [b_X12_demand_0, b_X12_demand_11, b_X12_demand_17, b_X12_demand_14, b_X12_demand_24, b_X12_demand_21, b_X12_demand_29, b_X12_demand_34, b_X12_demand_32, b_X12_demand_88, b_X12_demand_46, b_X12_demand_65, b_X12_demand_71, b_X12_demand_68, b_X12_demand_79, b_X12_demand_76, i_lit, i_m1, i_31, il_t, il_f, iq_t, iq_f, it_t, it_f, im_e, im_l, im_g, im_g2, nI_add, pk_mul, i_sub, i_div, sdm, i_dec, i_cl, iv_t, bI_or2, bI_t0, bI_one, not_true_eq_false, not_false_eq_true, ↓reduceIte, am_tl, am_tn, am_t0, am_n0, and_true, true_and, List.cons_append, List.nil_append, List.append_nil, or_true, true_or, or_false, false_or, eq_self, ior0, iand0, im_e2, oI, c_isClass_32 ok F0 hc]
    exact k _ fr0
theorem c_rRing {d : Nat} {Q : Option am_V → am_H → Prop} {h : am_H} {f : fa_S} (ok : fa_ok f) (F : rfa h f) {c i : Int32} (k : ∀ h', am_fr h h' rS → Q (some (v_i (a_ring f c i))) h') : ex_ (d + 12) 317 0 [some (v_r (some 93)), some (v_i c), some (v_i i)] [] h Q := by
  have L0 := F.1
  have hn := ok.1
  have F0 : rfa (p_i h 93 0 (nI 0)) f := p0_rfa ok F
  have fr0 : am_fr h (p_i h 93 0 (nI 0)) rS := am_fr_pi (by unfold rS; omega)
  unfold a_ring at k
  rcases fa_cs hn c with ⟨a, ha, rfl⟩ | hc
  · have hh : fa_has (f_n f) (nI a) := (fa_has_iff hn).2 ⟨a, ha, rfl⟩
    rw [if_pos hh, nI_clamp (by omega)] at k
    by_cases hi : i < 0
    · rw [if_pos hi] at k
      simp (disch := first | assumption | omega | (simp only [ya_pi, ya_pj, ya_pa, ya_pr, yo_pi, yo_pj, yo_pa, yf_pi, yf_pj, yf_pa, yh_pi, yh_pj, yh_pa, yt_pi, yt_pj, yt_pa, la_pi, la_pj, la_pa]; assumption)) only [b_X12_ring_0, b_X12_ring_11, b_X12_ring_17, b_X12_ring_14, b_X12_ring_24, b_X12_ring_21, b_X12_ring_29, b_X12_ring_34, b_X12_ring_32, b_X12_ring_39, b_X12_ring_51, b_X12_ring_42, i_lit, i_m1, i_31, il_t, il_f, iq_t, iq_f, it_t, it_f, im_e, im_l, im_g, im_g2, nI_add, pk_mul, i_sub, i_div, sdm, i_dec, i_cl, iv_t, bI_or2, bI_t0, bI_one, not_true_eq_false, not_false_eq_true, ↓reduceIte, am_tl, am_tn, am_t0, am_n0, and_true, true_and, List.cons_append, List.nil_append, List.append_nil, or_true, true_or, or_false, false_or, eq_self, ior0, iand0, im_e2, oI, nI_l, c_isClass_y ok F0 ha, ge0 hi]
      exact k _ fr0
    · obtain ⟨i, hi2, rfl⟩ := nI_of hi
      rw [if_neg hi, nI_clamp hi2] at k
      simp (disch := first | assumption | omega | (simp only [ya_pi, ya_pj, ya_pa, ya_pr, yo_pi, yo_pj, yo_pa, yf_pi, yf_pj, yf_pa, yh_pi, yh_pj, yh_pa, yt_pi, yt_pj, yt_pa, la_pi, la_pj, la_pa]; assumption)) only [b_X12_ring_0, b_X12_ring_11, b_X12_ring_17, b_X12_ring_14, b_X12_ring_24, b_X12_ring_21, b_X12_ring_29, b_X12_ring_34, b_X12_ring_32, b_X12_ring_39, b_X12_ring_51, b_X12_ring_42, i_lit, i_m1, i_31, il_t, il_f, iq_t, iq_f, it_t, it_f, im_e, im_l, im_g, im_g2, nI_add, pk_mul, i_sub, i_div, sdm, i_dec, i_cl, iv_t, bI_or2, bI_t0, bI_one, not_true_eq_false, not_false_eq_true, ↓reduceIte, am_tl, am_tn, am_t0, am_n0, and_true, true_and, List.cons_append, List.nil_append, List.append_nil, or_true, true_or, or_false, false_or, eq_self, ior0, iand0, im_e2, oI, nI_l, c_isClass_y ok F0 ha]
      refine c_noDemands_y ok F0 ha (fun z h1 fr1 => ?_) (fun z h1 fr1 A1 q1 => ?_)
      · rw [if_pos z] at k
        simp (disch := first | assumption | omega | (simp only [ya_pi, ya_pj, ya_pa, ya_pr, yo_pi, yo_pj, yo_pa, yf_pi, yf_pj, yf_pa, yh_pi, yh_pj, yh_pa, yt_pi, yt_pj, yt_pa, la_pi, la_pj, la_pa]; assumption)) only [b_X12_ring_0, b_X12_ring_11, b_X12_ring_17, b_X12_ring_14, b_X12_ring_24, b_X12_ring_21, b_X12_ring_29, b_X12_ring_34, b_X12_ring_32, b_X12_ring_39, b_X12_ring_51, b_X12_ring_42, i_lit, i_m1, i_31, il_t, il_f, iq_t, iq_f, it_t, it_f, im_e, im_l, im_g, im_g2, nI_add, pk_mul, i_sub, i_div, sdm, i_dec, i_cl, iv_t, bI_or2, bI_t0, bI_one, not_true_eq_false, not_false_eq_true, ↓reduceIte, am_tl, am_tn, am_t0, am_n0, and_true, true_and, List.cons_append, List.nil_append, List.append_nil, or_true, true_or, or_false, false_or, eq_self, ior0, iand0, im_e2, oI, qm0]
        exact k h1 (fr0.tr fr1)
      · rw [if_neg z] at k
        have F1 : rfa h1 f := fr1.rfa ok F0 (fun k _ => by unfold rS; omega)
        have L1 : Lay h1 := F1.1
        simp (disch := first | assumption | omega | (simp only [ya_pi, ya_pj, ya_pa, ya_pr, yo_pi, yo_pj, yo_pa, yf_pi, yf_pj, yf_pa, yh_pi, yh_pj, yh_pa, yt_pi, yt_pj, yt_pa, la_pi, la_pj, la_pa]; assumption)) only [b_X12_ring_0, b_X12_ring_11, b_X12_ring_17, b_X12_ring_14, b_X12_ring_24, b_X12_ring_21, b_X12_ring_29, b_X12_ring_34, b_X12_ring_32, b_X12_ring_39, b_X12_ring_51, b_X12_ring_42, i_lit, i_m1, i_31, il_t, il_f, iq_t, iq_f, it_t, it_f, im_e, im_l, im_g, im_g2, nI_add, pk_mul, i_sub, i_div, sdm, i_dec, i_cl, iv_t, bI_or2, bI_t0, bI_one, not_true_eq_false, not_false_eq_true, ↓reduceIte, am_tl, am_tn, am_t0, am_n0, and_true, true_and, List.cons_append, List.nil_append, List.append_nil, or_true, true_or, or_false, false_or, eq_self, ior0, iand0, im_e2, oI]
        refine c_laysRing (n := f_n f) hn L1 q1 F1.2.1 (fun h2 fr2 hl r2 => ?_)
        have L2 : Lay h2 := fr2.lay L1
        have fr3 : am_fr h h2 rS := (fr0.tr fr1).tr (fr2.le (fun a k z => by unfold r7 at z; unfold rS; omega))
        generalize rfL (fD f a) (f_n f) = l at k hl r2
        by_cases y : l = []
        · subst y
          simp (disch := first | assumption | omega | (simp only [ya_pi, ya_pj, ya_pa, ya_pr, yo_pi, yo_pj, yo_pa, yf_pi, yf_pj, yf_pa, yh_pi, yh_pj, yh_pa, yt_pi, yt_pj, yt_pa, la_pi, la_pj, la_pa]; assumption)) only [b_X12_ring_0, b_X12_ring_11, b_X12_ring_17, b_X12_ring_14, b_X12_ring_24, b_X12_ring_21, b_X12_ring_29, b_X12_ring_34, b_X12_ring_32, b_X12_ring_39, b_X12_ring_51, b_X12_ring_42, i_lit, i_m1, i_31, il_t, il_f, iq_t, iq_f, it_t, it_f, im_e, im_l, im_g, im_g2, nI_add, pk_mul, i_sub, i_div, sdm, i_dec, i_cl, iv_t, bI_or2, bI_t0, bI_one, not_true_eq_false, not_false_eq_true, ↓reduceIte, am_tl, am_tn, am_t0, am_n0, and_true, true_and, List.cons_append, List.nil_append, List.append_nil, or_true, true_or, or_false, false_or, eq_self, ior0, iand0, im_e2, oI, im_le]
          exact k h2 fr3
        · rw [if_neg y]
          by_cases w : i < l.length
          · have e2 := r2 i w
            rw [Nat.zero_add, List.getD_eq_getElem?_getD, List.getElem?_eq_getElem w] at e2
            rw [List.getElem?_eq_getElem w] at k
            simp (disch := first | assumption | omega | (simp only [ya_pi, ya_pj, ya_pa, ya_pr, yo_pi, yo_pj, yo_pa, yf_pi, yf_pj, yf_pa, yh_pi, yh_pj, yh_pa, yt_pi, yt_pj, yt_pa, la_pi, la_pj, la_pa]; assumption)) only [b_X12_ring_0, b_X12_ring_11, b_X12_ring_17, b_X12_ring_14, b_X12_ring_24, b_X12_ring_21, b_X12_ring_29, b_X12_ring_34, b_X12_ring_32, b_X12_ring_39, b_X12_ring_51, b_X12_ring_42, i_lit, i_m1, i_31, il_t, il_f, iq_t, iq_f, it_t, it_f, im_e, im_l, im_g, im_g2, nI_add, pk_mul, i_sub, i_div, sdm, i_dec, i_cl, iv_t, bI_or2, bI_t0, bI_one, not_true_eq_false, not_false_eq_true, ↓reduceIte, am_tl, am_tn, am_t0, am_n0, and_true, true_and, List.cons_append, List.nil_append, List.append_nil, or_true, true_or, or_false, false_or, eq_self, ior0, iand0, im_e2, oI, e2]
            exact k h2 fr3
          · rw [List.getElem?_eq_none (by omega)] at k
            simp (disch := first | assumption | omega | (simp only [ya_pi, ya_pj, ya_pa, ya_pr, yo_pi, yo_pj, yo_pa, yf_pi, yf_pj, yf_pa, yh_pi, yh_pj, yh_pa, yt_pi, yt_pj, yt_pa, la_pi, la_pj, la_pa]; assumption)) only [b_X12_ring_0, b_X12_ring_11, b_X12_ring_17, b_X12_ring_14, b_X12_ring_24, b_X12_ring_21, b_X12_ring_29, b_X12_ring_34, b_X12_ring_32, b_X12_ring_39, b_X12_ring_51, b_X12_ring_42, i_lit, i_m1, i_31, il_t, il_f, iq_t, iq_f, it_t, it_f, im_e, im_l, im_g, im_g2, nI_add, pk_mul, i_sub, i_div, sdm, i_dec, i_cl, iv_t, bI_or2, bI_t0, bI_one, not_true_eq_false, not_false_eq_true, ↓reduceIte, am_tl, am_tn, am_t0, am_n0, and_true, true_and, List.cons_append, List.nil_append, List.append_nil, or_true, true_or, or_false, false_or, eq_self, ior0, iand0, im_e2, oI]
            exact k h2 fr3
  · rw [if_neg hc] at k
    simp (disch := first | assumption | omega | (simp only [ya_pi, ya_pj, ya_pa, ya_pr, yo_pi, yo_pj, yo_pa, yf_pi, yf_pj, yf_pa, yh_pi, yh_pj, yh_pa, yt_pi, yt_pj, yt_pa, la_pi, la_pj, la_pa]; assumption)) only [b_X12_ring_0, b_X12_ring_11, b_X12_ring_17, b_X12_ring_14, b_X12_ring_24, b_X12_ring_21, b_X12_ring_29, b_X12_ring_34, b_X12_ring_32, b_X12_ring_39, b_X12_ring_51, b_X12_ring_42, i_lit, i_m1, i_31, il_t, il_f, iq_t, iq_f, it_t, it_f, im_e, im_l, im_g, im_g2, nI_add, pk_mul, i_sub, i_div, sdm, i_dec, i_cl, iv_t, bI_or2, bI_t0, bI_one, not_true_eq_false, not_false_eq_true, ↓reduceIte, am_tl, am_tn, am_t0, am_n0, and_true, true_and, List.cons_append, List.nil_append, List.append_nil, or_true, true_or, or_false, false_or, eq_self, ior0, iand0, im_e2, oI, c_isClass_32 ok F0 hc]
    exact k _ fr0
