/-! ===== demands ===== -/
def pc (l : List Nat) (a b : Nat) : Prop := ∃ i j, i < j ∧ j < l.length ∧ l.getD i 0 = a ∧ l.getD j 0 = b
def pcU (l : List Nat) (m n a b : Nat) : Prop := ∃ i j, i < j ∧ j < l.length ∧ (i < m ∨ (i = m ∧ j < n)) ∧ l.getD i 0 = a ∧ l.getD j 0 = b
theorem pcU_s {l : List Nat} {i j a b : Nat} (h : i < j) (hj : j < l.length) : pcU l i (j + 1) a b ↔ pcU l i j a b ∨ (a = l.getD i 0 ∧ b = l.getD j 0) := by
  constructor
  · rintro ⟨x, y, h1, h2, h3, h4, h5⟩
    by_cases z : x = i ∧ y = j
    · right
      rw [← h4, ← h5, z.1, z.2]
      exact ⟨rfl, rfl⟩
    · exact Or.inl ⟨x, y, h1, h2, by omega, h4, h5⟩
  · rintro (⟨x, y, h1, h2, h3, h4, h5⟩ | ⟨h1, h2⟩)
    · exact ⟨x, y, h1, h2, by omega, h4, h5⟩
    · exact ⟨i, j, h, hj, by omega, h1.symm, h2.symm⟩
theorem pcU_i {l : List Nat} {i a b : Nat} : pcU l i (i + 1) a b ↔ pcU l i 0 a b :=
  ⟨fun ⟨x, y, h1, h2, h3, h4⟩ => ⟨x, y, h1, h2, by omega, h4⟩, fun ⟨x, y, h1, h2, h3, h4⟩ => ⟨x, y, h1, h2, by omega, h4⟩⟩
theorem pcU_e {l : List Nat} {i a b : Nat} : pcU l i l.length a b ↔ pcU l (i + 1) 0 a b :=
  ⟨fun ⟨x, y, h1, h2, h3, h4⟩ => ⟨x, y, h1, h2, by omega, h4⟩, fun ⟨x, y, h1, h2, h3, h4⟩ => ⟨x, y, h1, h2, by omega, h4⟩⟩
theorem pcU_0 {l : List Nat} {a b : Nat} : pcU l 0 0 a b ↔ False :=
  ⟨fun ⟨x, y, h1, h2, h3, h4⟩ => by omega, fun z => z.elim⟩
theorem pcU_a {l : List Nat} {a b : Nat} : pcU l l.length 0 a b ↔ pc l a b :=
  ⟨fun ⟨x, y, h1, h2, h3, h4⟩ => ⟨x, y, h1, h2, h4⟩, fun ⟨x, y, h1, h2, h4⟩ => ⟨x, y, h1, h2, by omega, h4⟩⟩
theorem ex_s {i : Nat} {p : Nat → Prop} : (∃ t, t < i + 1 ∧ p t) ↔ (∃ t, t < i ∧ p t) ∨ p i := by
  constructor
  · rintro ⟨t, ht, h⟩
    by_cases z : t = i
    · exact Or.inr (z ▸ h)
    · exact Or.inl ⟨t, by omega, h⟩
  · rintro (⟨t, ht, h⟩ | h)
    · exact ⟨t, by omega, h⟩
    · exact ⟨i, by omega, h⟩
theorem ex_0 {p : Nat → Prop} : (∃ t, t < 0 ∧ p t) ↔ False := ⟨fun ⟨t, ht, _⟩ => absurd ht (Nat.not_lt_zero _), fun z => z.elim⟩
def dmP (T : od_T) (c : Nat) (ps : List Nat) (a b : Nat) : Prop := (a = c ∧ b ∈ ps) ∨ pc ps a b ∨ ∃ p ∈ ps, pc (T p).2 a b
noncomputable def dmb (T : od_T) (c : Nat) (ps : List Nat) (a b : Nat) : Bool := @decide (dmP T c ps a b) (Classical.propDecidable _)
theorem dmb_iff {T : od_T} {c : Nat} {ps : List Nat} {a b : Nat} : dmb T c ps a b = true ↔ dmP T c ps a b := by
  unfold dmb
  exact @decide_eq_true_iff _ (Classical.propDecidable _)
def dadd (D : Nat → Nat → Bool) (x y a b : Nat) : Bool := D a b || (decide (a = x) && decide (b = y))
theorem dadd_iff {D : Nat → Nat → Bool} {x y a b : Nat} : dadd D x y a b = true ↔ D a b = true ∨ (a = x ∧ b = y) := by
  simp [dadd]
def dr (h : am_H) (D : Nat → Nat → Bool) : Prop := (∀ a, a < 10 → h_i h 42 a = nI (bs (D a))) ∧ ∀ b, b < 10 → h_i h 43 b = nI (bs (fun a => D a b))
def dP (a k : Nat) : Prop := a = 42 ∨ a = 43
theorem b_add1 {D : Nat → Nat → Bool} {x y : Nat} (hy : y < 16) : nI (bs (D x)) ||| nI (bs (fun j => decide (j = y))) = nI (bs (dadd D x y x)) := by
  rw [bI_or2]
  refine congrArg nI (bs_ext (fun k _ => ?_))
  simp [dadd]
theorem b_add2 {D : Nat → Nat → Bool} {x y : Nat} : nI (bs (fun a => D a y)) ||| nI (bs (fun j => decide (j = x))) = nI (bs (fun a => dadd D x y a y)) := by
  rw [bI_or2]
  refine congrArg nI (bs_ext (fun k _ => ?_))
  simp [dadd]
theorem b_addn {D : Nat → Nat → Bool} {x y a : Nat} (h : ¬ a = x) : bs (dadd D x y a) = bs (D a) := bs_ext (fun k _ => by simp [dadd, h])
theorem b_addm {D : Nat → Nat → Bool} {x y b : Nat} (h : ¬ b = y) : bs (fun a => dadd D x y a b) = bs (fun a => D a b) := bs_ext (fun k _ => by simp [dadd, h])
theorem c_isMember {d : Nat} {Q : Option am_V → am_H → Prop} {h : am_H} {c : Nat} (hc : c < 10) : ex_ d 7 0 [some (v_i (nI c))] [] h Q ↔ Q (some (v_i (nI 1))) h := by
  simp (disch := first | assumption | omega | (simp only [ya_pi, ya_pj, ya_pa, ya_pr, yo_pi, yo_pj, yo_pa, yf_pi, yf_pj, yf_pa, yh_pi, yh_pj, yh_pa, yt_pi, yt_pj, yt_pa, la_pi, la_pj, la_pa]; assumption)) only [b_X0_isMember_0, b_X0_isMember_14, b_X0_isMember_4, b_X0_isMember_10, i_lit, i_m1, i_31, il_t, il_f, iq_t, iq_f, it_t, it_f, im_e, im_l, im_g, im_g2, nI_add, pk_mul, i_sub, i_div, sdm, i_dec, i_cl, iv_t, bI_or2, bI_t0, bI_one, not_true_eq_false, not_false_eq_true, ↓reduceIte, am_tl, am_tn, am_t0, am_n0, and_true, true_and, List.cons_append, List.nil_append, List.append_nil, or_true, true_or, or_false, false_or, eq_self, ior0, iand0, im_e2, oI]
theorem c_add {d : Nat} {Q : Option am_V → am_H → Prop} {h : am_H} {D : Nat → Nat → Bool} (L0 : Lay h) (R : dr h D) {x y : Nat} (hx : x < 10) (hy : y < 10) (k : ∀ h', am_fr h h' dP → dr h' (dadd D x y) → Q none h') : ex_ (d + 1) 8 0 [some (v_r (some 41)), some (v_i (nI x)), some (v_i (nI y))] [] h Q := by
  have e1 := R.1 x hx
  have e2 := R.2 y hy
  simp (disch := first | assumption | omega | (simp only [ya_pi, ya_pj, ya_pa, ya_pr, yo_pi, yo_pj, yo_pa, yf_pi, yf_pj, yf_pa, yh_pi, yh_pj, yh_pa, yt_pi, yt_pj, yt_pa, la_pi, la_pj, la_pa]; assumption)) only [b_X0_add_0, b_X0_add_4, b_X0_add_38, b_X0_add_7, b_X0_add_11, b_X0_add_14, i_lit, i_m1, i_31, il_t, il_f, iq_t, iq_f, it_t, it_f, im_e, im_l, im_g, im_g2, nI_add, pk_mul, i_sub, i_div, sdm, i_dec, i_cl, iv_t, bI_or2, bI_t0, bI_one, not_true_eq_false, not_false_eq_true, ↓reduceIte, am_tl, am_tn, am_t0, am_n0, and_true, true_and, List.cons_append, List.nil_append, List.append_nil, or_true, true_or, or_false, false_or, eq_self, ior0, iand0, im_e2, oI, hi_s, hi_o, hi_k, hr_pi, hj_pi, hn_pi, hi_pas, hi_pao, hr_pa, hj_pa, c_isMember hx, c_isMember hy, i_31, e1, e2]
  have q1 := b_add1 (D := D) (x := x) (y := y) (by omega)
  have q2 := b_add2 (D := D) (x := x) (y := y)
  rw [bI_or2] at q1 q2
  rw [q1, q2]
  refine k _ ((am_fr_pi (Or.inl rfl)).pi (Or.inr rfl)) ⟨fun a ha => ?_, fun b hb => ?_⟩
  · rw [hi_o (by omega)]
    by_cases z : a = x
    · rw [z, hi_s]
    · rw [hi_k z, R.1 a ha, b_addn z]
  · by_cases z : b = y
    · rw [z, hi_s]
    · rw [hi_k z, hi_o (by omega), R.2 b hb, b_addm z]
theorem c_addOrderOf {d : Nat} {Q : Option am_V → am_H → Prop} {h : am_H} {D : Nat → Nat → Bool} {p : Nat} {v : Nat × List Nat} (L0 : Lay h) (O0 : y_Orders h 15) (m : or_row h 15 p v) (hp : p < 11) (hl : v.2.length ≤ 10) (hv : ∀ x ∈ v.2, x < 10) (R : dr h D) {l2 l3 : Option am_V} (k : ∀ D' h', am_fr h h' dP → dr h' D' → (∀ a b, D' a b = true ↔ D a b = true ∨ pc v.2 a b) → Q none h') : ex_ (d + 2) 11 0 [some (v_r (some 41)), some (v_i (nI p)), l2, l3] [] h Q := by
  rw [b_X0_addOrderOf_0 _ _ _ _ _]
  refine lp_up v.2.length (fun i (s : (Nat → Nat → Bool) × Option am_V) => [some (v_r (some 41)), some (v_i (nI p)), some (v_i (nI i)), s.2]) (fun i s h' => am_fr h h' dP ∧ dr h' s.1 ∧ ∀ a b, s.1 a b = true ↔ D a b = true ∨ pcU v.2 i 0 a b) ?_ ?_ (Nat.zero_le _) ⟨am_fr.rf, R, fun a b => by rw [pcU_0, or_false]⟩ (s := (D, l3))
  · rintro i ⟨D1, l3⟩ h' hi ⟨fr, R1, e⟩ nx
    dsimp only at R1 e ⊢
    have L1 : Lay h' := fr.lay L0
    have O1 : y_Orders h' 15 := fr.orders O0
    have m1 : or_row h' 15 p v := m.fr fr (by omega) (by unfold dP; omega) (by unfold dP; omega) (fun k _ => by unfold dP; omega)
    rw [b_X0_addOrderOf_2 _ _ _ _ L1]
    simp (disch := first | assumption | omega | (simp only [ya_pi, ya_pj, ya_pa, ya_pr, yo_pi, yo_pj, yo_pa, yf_pi, yf_pj, yf_pa, yh_pi, yh_pj, yh_pa, yt_pi, yt_pj, yt_pa, la_pi, la_pj, la_pa]; assumption)) only [b_X0_addOrderOf_0, b_X0_addOrderOf_11, b_X0_addOrderOf_64, b_X0_addOrderOf_14, b_X0_addOrderOf_27, b_X0_addOrderOf_58, b_X0_addOrderOf_30, b_X0_addOrderOf_40, b_X0_addOrderOf_49, b_X0_addOrderOf_52, i_lit, i_m1, i_31, il_t, il_f, iq_t, iq_f, it_t, it_f, im_e, im_l, im_g, im_g2, nI_add, pk_mul, i_sub, i_div, sdm, i_dec, i_cl, iv_t, bI_or2, bI_t0, bI_one, not_true_eq_false, not_false_eq_true, ↓reduceIte, am_tl, am_tn, am_t0, am_n0, and_true, true_and, List.cons_append, List.nil_append, List.append_nil, or_true, true_or, or_false, false_or, eq_self, ior0, iand0, im_e2, oI, c_sizeOf O1 m1 hp]
    have L2 := lp_up (d := d + 2) (k := 11) (pc := 18) (Q := Q) (v.2.length - (i + 1)) (fun j (_ : Nat → Nat → Bool) => [some (v_r (some 41)), some (v_i (nI p)), some (v_i (nI i)), some (v_i (nI (i + 1 + j)))]) (fun j D2 h2 => am_fr h h2 dP ∧ dr h2 D2 ∧ ∀ a b, D2 a b = true ↔ D a b = true ∨ pcU v.2 i (i + 1 + j) a b) ?_ ?_ (Nat.zero_le _) (s := D1) (h := h') ⟨fr, R1, fun a b => by rw [e a b, pcU_i]⟩
    · exact L2
    · rintro j D2 h2 hj ⟨fr2, R2, e2⟩ nx2
      have L2 : Lay h2 := fr2.lay L0
      have O2 : y_Orders h2 15 := fr2.orders O0
      have m2 : or_row h2 15 p v := m.fr fr2 (by omega) (by unfold dP; omega) (by unfold dP; omega) (fun k _ => by unfold dP; omega)
      have x1 := hv _ (gd_mem hi)
      have x2 := hv _ (gd_mem (show i + 1 + j < v.2.length by omega))
      rw [b_X0_addOrderOf_18 _ _ _ _ L2]
      simp (disch := first | assumption | omega | (simp only [ya_pi, ya_pj, ya_pa, ya_pr, yo_pi, yo_pj, yo_pa, yf_pi, yf_pj, yf_pa, yh_pi, yh_pj, yh_pa, yt_pi, yt_pj, yt_pa, la_pi, la_pj, la_pa]; assumption)) only [b_X0_addOrderOf_0, b_X0_addOrderOf_11, b_X0_addOrderOf_64, b_X0_addOrderOf_14, b_X0_addOrderOf_27, b_X0_addOrderOf_58, b_X0_addOrderOf_30, b_X0_addOrderOf_40, b_X0_addOrderOf_49, b_X0_addOrderOf_52, i_lit, i_m1, i_31, il_t, il_f, iq_t, iq_f, it_t, it_f, im_e, im_l, im_g, im_g2, nI_add, pk_mul, i_sub, i_div, sdm, i_dec, i_cl, iv_t, bI_or2, bI_t0, bI_one, not_true_eq_false, not_false_eq_true, ↓reduceIte, am_tl, am_tn, am_t0, am_n0, and_true, true_and, List.cons_append, List.nil_append, List.append_nil, or_true, true_or, or_false, false_or, eq_self, ior0, iand0, im_e2, oI, c_sizeOf O2 m2 hp, c_at O2 m2 hp hi (by omega), c_at O2 m2 hp (show i + 1 + j < v.2.length by omega) (by omega)]
      refine c_add L2 R2 x1 x2 (fun h3 fr3 R3 => ?_)
      simp (disch := first | assumption | omega | (simp only [ya_pi, ya_pj, ya_pa, ya_pr, yo_pi, yo_pj, yo_pa, yf_pi, yf_pj, yf_pa, yh_pi, yh_pj, yh_pa, yt_pi, yt_pj, yt_pa, la_pi, la_pj, la_pa]; assumption)) only [b_X0_addOrderOf_0, b_X0_addOrderOf_11, b_X0_addOrderOf_64, b_X0_addOrderOf_14, b_X0_addOrderOf_27, b_X0_addOrderOf_58, b_X0_addOrderOf_30, b_X0_addOrderOf_40, b_X0_addOrderOf_49, b_X0_addOrderOf_52, i_lit, i_m1, i_31, il_t, il_f, iq_t, iq_f, it_t, it_f, im_e, im_l, im_g, im_g2, nI_add, pk_mul, i_sub, i_div, sdm, i_dec, i_cl, iv_t, bI_or2, bI_t0, bI_one, not_true_eq_false, not_false_eq_true, ↓reduceIte, am_tl, am_tn, am_t0, am_n0, and_true, true_and, List.cons_append, List.nil_append, List.append_nil, or_true, true_or, or_false, false_or, eq_self, ior0, iand0, im_e2, oI]
      refine nx2 _ h3 ⟨fr2.tr fr3, R3, fun a b => ?_⟩
      rw [dadd_iff, e2 a b, ← Nat.add_assoc, pcU_s (by omega) (by omega), or_assoc]
    · rintro D2 h2 ⟨fr2, R2, e2⟩
      have L2 : Lay h2 := fr2.lay L0
      have O2 : y_Orders h2 15 := fr2.orders O0
      have m2 : or_row h2 15 p v := m.fr fr2 (by omega) (by unfold dP; omega) (by unfold dP; omega) (fun k _ => by unfold dP; omega)
      rw [b_X0_addOrderOf_18 _ _ _ _ L2]
      simp (disch := first | assumption | omega | (simp only [ya_pi, ya_pj, ya_pa, ya_pr, yo_pi, yo_pj, yo_pa, yf_pi, yf_pj, yf_pa, yh_pi, yh_pj, yh_pa, yt_pi, yt_pj, yt_pa, la_pi, la_pj, la_pa]; assumption)) only [b_X0_addOrderOf_0, b_X0_addOrderOf_11, b_X0_addOrderOf_64, b_X0_addOrderOf_14, b_X0_addOrderOf_27, b_X0_addOrderOf_58, b_X0_addOrderOf_30, b_X0_addOrderOf_40, b_X0_addOrderOf_49, b_X0_addOrderOf_52, i_lit, i_m1, i_31, il_t, il_f, iq_t, iq_f, it_t, it_f, im_e, im_l, im_g, im_g2, nI_add, pk_mul, i_sub, i_div, sdm, i_dec, i_cl, iv_t, bI_or2, bI_t0, bI_one, not_true_eq_false, not_false_eq_true, ↓reduceIte, am_tl, am_tn, am_t0, am_n0, and_true, true_and, List.cons_append, List.nil_append, List.append_nil, or_true, true_or, or_false, false_or, eq_self, ior0, iand0, im_e2, oI, c_sizeOf O2 m2 hp]
      refine nx (D2, _) h2 ⟨fr2, R2, fun a b => ?_⟩
      rw [e2 a b, show i + 1 + (v.2.length - (i + 1)) = v.2.length from by omega, pcU_e]
  · rintro ⟨D1, l3⟩ h' ⟨fr, R1, e⟩
    dsimp only at R1 e ⊢
    have L1 : Lay h' := fr.lay L0
    have O1 : y_Orders h' 15 := fr.orders O0
    have m1 : or_row h' 15 p v := m.fr fr (by omega) (by unfold dP; omega) (by unfold dP; omega) (fun k _ => by unfold dP; omega)
    rw [b_X0_addOrderOf_2 _ _ _ _ L1]
    simp (disch := first | assumption | omega | (simp only [ya_pi, ya_pj, ya_pa, ya_pr, yo_pi, yo_pj, yo_pa, yf_pi, yf_pj, yf_pa, yh_pi, yh_pj, yh_pa, yt_pi, yt_pj, yt_pa, la_pi, la_pj, la_pa]; assumption)) only [b_X0_addOrderOf_0, b_X0_addOrderOf_11, b_X0_addOrderOf_64, b_X0_addOrderOf_14, b_X0_addOrderOf_27, b_X0_addOrderOf_58, b_X0_addOrderOf_30, b_X0_addOrderOf_40, b_X0_addOrderOf_49, b_X0_addOrderOf_52, i_lit, i_m1, i_31, il_t, il_f, iq_t, iq_f, it_t, it_f, im_e, im_l, im_g, im_g2, nI_add, pk_mul, i_sub, i_div, sdm, i_dec, i_cl, iv_t, bI_or2, bI_t0, bI_one, not_true_eq_false, not_false_eq_true, ↓reduceIte, am_tl, am_tn, am_t0, am_n0, and_true, true_and, List.cons_append, List.nil_append, List.append_nil, or_true, true_or, or_false, false_or, eq_self, ior0, iand0, im_e2, oI, c_sizeOf O1 m1 hp]
    exact k D1 h' fr R1 (fun a b => by rw [e a b, pcU_a])
def dG (T : od_T) (c : Nat) (ps : List Nat) (i a b : Nat) : Prop := (∃ t, t < i ∧ (a = c ∧ b = ps.getD t 0)) ∨ pcU ps i 0 a b ∨ ∃ t, t < i ∧ pc (T (ps.getD t 0)).2 a b
theorem dG_all {T : od_T} {c : Nat} {ps : List Nat} {a b : Nat} : dG T c ps ps.length a b ↔ dmP T c ps a b := by
  unfold dG dmP
  rw [pcU_a]
  refine or_congr ?_ (or_congr Iff.rfl ?_)
  · constructor
    · rintro ⟨t, ht, h1, h2⟩
      exact ⟨h1, h2 ▸ gd_mem ht⟩
    · rintro ⟨h1, h2⟩
      obtain ⟨t, ht, e⟩ := gd_ex h2
      exact ⟨t, ht, h1, e.symm⟩
  · constructor
    · rintro ⟨t, ht, h1⟩
      exact ⟨_, gd_mem ht, h1⟩
    · rintro ⟨p, hp, h1⟩
      obtain ⟨t, ht, e⟩ := gd_ex hp
      exact ⟨t, ht, e ▸ h1⟩
def dPm (a k : Nat) : Prop := a = 42 ∨ a = 43 ∨ (a = 41 ∧ k = 2)
theorem c_gather {d : Nat} {Q : Option am_V → am_H → Prop} {h : am_H} {f : fa_S} {T : od_T} {c : Nat} (L0 : Lay h) (ok : fa_ok f) (F : fa_at h 11 f) (O : or_at h 15 T (f_n f)) (okT : od_ok T (f_n f)) (hc : c < f_n f) {l2 l3 l4 l5 : Option am_V} (k : ∀ h', am_fr h h' dPm → dr h' (dmb T c (f_p f c)) → h_i h' 41 2 = nI (bs (up (f_p f) c)) → Q none h') : ex_ (d + 3) 12 0 [some (v_r (some 41)), some (v_i (nI c)), l2, l3, l4, l5] [] h Q := by
  have hn := ok.1
  have h4 := (ok.2 c).1
  have hps : ∀ i, i < (f_p f c).length → (f_p f c).getD i 0 < c := fun i hi => (ok.2 c).2.1 _ (gd_mem hi)
  simp (disch := first | assumption | omega | (simp only [ya_pi, ya_pj, ya_pa, ya_pr, yo_pi, yo_pj, yo_pa, yf_pi, yf_pj, yf_pa, yh_pi, yh_pj, yh_pa, yt_pi, yt_pj, yt_pa, la_pi, la_pj, la_pa]; assumption)) only [b_X0_gather_0, b_X0_gather_8, b_X0_gather_16, b_X0_gather_25, b_X0_gather_36, b_X0_gather_107, b_X0_gather_44, b_X0_gather_53, b_X0_gather_62, b_X0_gather_95, b_X0_gather_73, b_X0_gather_101, b_X0_gather_86, b_X0_gather_89, i_lit, i_m1, i_31, il_t, il_f, iq_t, iq_f, it_t, it_f, im_e, im_l, im_g, im_g2, nI_add, pk_mul, i_sub, i_div, sdm, i_dec, i_cl, iv_t, bI_or2, bI_t0, bI_one, not_true_eq_false, not_false_eq_true, ↓reduceIte, am_tl, am_tn, am_t0, am_n0, and_true, true_and, List.cons_append, List.nil_append, List.append_nil, or_true, true_or, or_false, false_or, eq_self, ior0, iand0, im_e2, oI]
  refine c_fill (la_y L0 rfl) (by omega) (fun h1 fr1 e1 => ?_)
  have L1 : Lay h1 := fr1.lay L0
  simp (disch := first | assumption | omega | (simp only [ya_pi, ya_pj, ya_pa, ya_pr, yo_pi, yo_pj, yo_pa, yf_pi, yf_pj, yf_pa, yh_pi, yh_pj, yh_pa, yt_pi, yt_pj, yt_pa, la_pi, la_pj, la_pa]; assumption)) only [b_X0_gather_0, b_X0_gather_8, b_X0_gather_16, b_X0_gather_25, b_X0_gather_36, b_X0_gather_107, b_X0_gather_44, b_X0_gather_53, b_X0_gather_62, b_X0_gather_95, b_X0_gather_73, b_X0_gather_101, b_X0_gather_86, b_X0_gather_89, i_lit, i_m1, i_31, il_t, il_f, iq_t, iq_f, it_t, it_f, im_e, im_l, im_g, im_g2, nI_add, pk_mul, i_sub, i_div, sdm, i_dec, i_cl, iv_t, bI_or2, bI_t0, bI_one, not_true_eq_false, not_false_eq_true, ↓reduceIte, am_tl, am_tn, am_t0, am_n0, and_true, true_and, List.cons_append, List.nil_append, List.append_nil, or_true, true_or, or_false, false_or, eq_self, ior0, iand0, im_e2, oI]
  refine c_fill (la_y L1 rfl) (by omega) (fun h2 fr2 e2 => ?_)
  have fr12 : am_fr h h2 dPm := (fr1.le (fun a k z => by unfold dPm; omega)).tr (fr2.le (fun a k z => by unfold dPm; omega))
  have F2 : fa_at h2 11 f := fr12.fa F (fun q k _ _ => by unfold dPm; omega)
  have L2 : Lay h2 := fr12.lay L0
  simp (disch := first | assumption | omega | (simp only [ya_pi, ya_pj, ya_pa, ya_pr, yo_pi, yo_pj, yo_pa, yf_pi, yf_pj, yf_pa, yh_pi, yh_pj, yh_pa, yt_pi, yt_pj, yt_pa, la_pi, la_pj, la_pa]; assumption)) only [b_X0_gather_0, b_X0_gather_8, b_X0_gather_16, b_X0_gather_25, b_X0_gather_36, b_X0_gather_107, b_X0_gather_44, b_X0_gather_53, b_X0_gather_62, b_X0_gather_95, b_X0_gather_73, b_X0_gather_101, b_X0_gather_86, b_X0_gather_89, i_lit, i_m1, i_31, il_t, il_f, iq_t, iq_f, it_t, it_f, im_e, im_l, im_g, im_g2, nI_add, pk_mul, i_sub, i_div, sdm, i_dec, i_cl, iv_t, bI_or2, bI_t0, bI_one, not_true_eq_false, not_false_eq_true, ↓reduceIte, am_tl, am_tn, am_t0, am_n0, and_true, true_and, List.cons_append, List.nil_append, List.append_nil, or_true, true_or, or_false, false_or, eq_self, ior0, iand0, im_e2, oI, c_ancestors ok F2 hc]
  have F3 : fa_at (p_i h2 41 2 (nI (bs (up (f_p f) c)))) 11 f := (am_fr_pi (P := fun a _ => a = 41) rfl).fa F2 (fun q k _ _ => by omega)
  simp (disch := first | assumption | omega | (simp only [ya_pi, ya_pj, ya_pa, ya_pr, yo_pi, yo_pj, yo_pa, yf_pi, yf_pj, yf_pa, yh_pi, yh_pj, yh_pa, yt_pi, yt_pj, yt_pa, la_pi, la_pj, la_pa]; assumption)) only [b_X0_gather_0, b_X0_gather_8, b_X0_gather_16, b_X0_gather_25, b_X0_gather_36, b_X0_gather_107, b_X0_gather_44, b_X0_gather_53, b_X0_gather_62, b_X0_gather_95, b_X0_gather_73, b_X0_gather_101, b_X0_gather_86, b_X0_gather_89, i_lit, i_m1, i_31, il_t, il_f, iq_t, iq_f, it_t, it_f, im_e, im_l, im_g, im_g2, nI_add, pk_mul, i_sub, i_div, sdm, i_dec, i_cl, iv_t, bI_or2, bI_t0, bI_one, not_true_eq_false, not_false_eq_true, ↓reduceIte, am_tl, am_tn, am_t0, am_n0, and_true, true_and, List.cons_append, List.nil_append, List.append_nil, or_true, true_or, or_false, false_or, eq_self, ior0, iand0, im_e2, oI, c_parentCount F3 (show c < 10 by omega)]
  have R0 : dr (p_i h2 41 2 (nI (bs (up (f_p f) c)))) (fun _ _ => false) := by
    refine ⟨fun a ha => ?_, fun a ha => ?_⟩
    · rw [hi_o (by omega), fr2.i (by omega), e1 a ha]
      exact congrArg nI bs_0.symm
    · rw [hi_o (by omega), e2 a ha]
      exact congrArg nI bs_0.symm
  refine lp_up (f_p f c).length (fun i (s : (Nat → Nat → Bool) × Option am_V × Option am_V) => [some (v_r (some 41)), some (v_i (nI c)), some (v_i (nI (f_p f c).length)), some (v_i (nI i)), s.2.1, s.2.2]) (fun i s h' => am_fr h h' dPm ∧ h_i h' 41 2 = nI (bs (up (f_p f) c)) ∧ dr h' s.1 ∧ ∀ a b, s.1 a b = true ↔ dG T c (f_p f c) i a b) ?_ ?_ (Nat.zero_le _) ⟨fr12.pi (by unfold dPm; omega), hi_s, R0, fun a b => by unfold dG; rw [pcU_0, ex_0, ex_0]; simp⟩ (s := ((fun _ _ => false), l4, l5))
  · rintro i ⟨D1, l4, l5⟩ h' hi ⟨fr, em, R1, e⟩ nx
    dsimp only at R1 e ⊢
    have L1 : Lay h' := fr.lay L0
    have F1 : fa_at h' 11 f := fr.fa F (fun q k _ _ => by unfold dPm; omega)
    have pi := hps i hi
    rw [b_X0_gather_39 _ _ _ _ _ _ _]
    simp (disch := first | assumption | omega | (simp only [ya_pi, ya_pj, ya_pa, ya_pr, yo_pi, yo_pj, yo_pa, yf_pi, yf_pj, yf_pa, yh_pi, yh_pj, yh_pa, yt_pi, yt_pj, yt_pa, la_pi, la_pj, la_pa]; assumption)) only [b_X0_gather_0, b_X0_gather_8, b_X0_gather_16, b_X0_gather_25, b_X0_gather_36, b_X0_gather_107, b_X0_gather_44, b_X0_gather_53, b_X0_gather_62, b_X0_gather_95, b_X0_gather_73, b_X0_gather_101, b_X0_gather_86, b_X0_gather_89, i_lit, i_m1, i_31, il_t, il_f, iq_t, iq_f, it_t, it_f, im_e, im_l, im_g, im_g2, nI_add, pk_mul, i_sub, i_div, sdm, i_dec, i_cl, iv_t, bI_or2, bI_t0, bI_one, not_true_eq_false, not_false_eq_true, ↓reduceIte, am_tl, am_tn, am_t0, am_n0, and_true, true_and, List.cons_append, List.nil_append, List.append_nil, or_true, true_or, or_false, false_or, eq_self, ior0, iand0, im_e2, oI, c_parentAt ok F1 (show c < 10 by omega) hi]
    refine c_add L1 R1 (by omega) (by omega) (fun h3 fr3 R3 => ?_)
    have fr3' : am_fr h h3 dPm := fr.tr (fr3.le (fun a k z => by unfold dP at z; unfold dPm; omega))
    have em3 : h_i h3 41 2 = nI (bs (up (f_p f) c)) := by rw [fr3.i (by unfold dP; omega), em]
    simp (disch := first | assumption | omega | (simp only [ya_pi, ya_pj, ya_pa, ya_pr, yo_pi, yo_pj, yo_pa, yf_pi, yf_pj, yf_pa, yh_pi, yh_pj, yh_pa, yt_pi, yt_pj, yt_pa, la_pi, la_pj, la_pa]; assumption)) only [b_X0_gather_0, b_X0_gather_8, b_X0_gather_16, b_X0_gather_25, b_X0_gather_36, b_X0_gather_107, b_X0_gather_44, b_X0_gather_53, b_X0_gather_62, b_X0_gather_95, b_X0_gather_73, b_X0_gather_101, b_X0_gather_86, b_X0_gather_89, i_lit, i_m1, i_31, il_t, il_f, iq_t, iq_f, it_t, it_f, im_e, im_l, im_g, im_g2, nI_add, pk_mul, i_sub, i_div, sdm, i_dec, i_cl, iv_t, bI_or2, bI_t0, bI_one, not_true_eq_false, not_false_eq_true, ↓reduceIte, am_tl, am_tn, am_t0, am_n0, and_true, true_and, List.cons_append, List.nil_append, List.append_nil, or_true, true_or, or_false, false_or, eq_self, ior0, iand0, im_e2, oI]
    have L2 := lp_up (d := d + 3) (k := 12) (pc := 67) (Q := Q) ((f_p f c).length - (i + 1)) (fun j (_ : Nat → Nat → Bool) => [some (v_r (some 41)), some (v_i (nI c)), some (v_i (nI (f_p f c).length)), some (v_i (nI i)), some (v_i (nI ((f_p f c).getD i 0))), some (v_i (nI (i + 1 + j)))]) (fun j D2 h2 => am_fr h h2 dPm ∧ h_i h2 41 2 = nI (bs (up (f_p f) c)) ∧ dr h2 D2 ∧ ∀ a b, D2 a b = true ↔ (∃ t, t < i + 1 ∧ (a = c ∧ b = (f_p f c).getD t 0)) ∨ pcU (f_p f c) i (i + 1 + j) a b ∨ ∃ t, t < i ∧ pc (T ((f_p f c).getD t 0)).2 a b) ?_ ?_ (Nat.zero_le _) (s := dadd D1 c ((f_p f c).getD i 0)) (h := h3) ⟨fr3', em3, R3, fun a b => by rw [dadd_iff, e a b, dG, Nat.add_zero, pcU_i, ex_s]; simp only [or_assoc, or_left_comm, or_comm]⟩
    · exact L2
    · rintro j D2 h2 hj ⟨fr2, em2, R2, e2⟩ nx2
      have L2 : Lay h2 := fr2.lay L0
      have F2 : fa_at h2 11 f := fr2.fa F (fun q k _ _ => by unfold dPm; omega)
      have pj := hps (i + 1 + j) (by omega)
      rw [b_X0_gather_67 _ _ _ _ _ _ _]
      simp (disch := first | assumption | omega | (simp only [ya_pi, ya_pj, ya_pa, ya_pr, yo_pi, yo_pj, yo_pa, yf_pi, yf_pj, yf_pa, yh_pi, yh_pj, yh_pa, yt_pi, yt_pj, yt_pa, la_pi, la_pj, la_pa]; assumption)) only [b_X0_gather_0, b_X0_gather_8, b_X0_gather_16, b_X0_gather_25, b_X0_gather_36, b_X0_gather_107, b_X0_gather_44, b_X0_gather_53, b_X0_gather_62, b_X0_gather_95, b_X0_gather_73, b_X0_gather_101, b_X0_gather_86, b_X0_gather_89, i_lit, i_m1, i_31, il_t, il_f, iq_t, iq_f, it_t, it_f, im_e, im_l, im_g, im_g2, nI_add, pk_mul, i_sub, i_div, sdm, i_dec, i_cl, iv_t, bI_or2, bI_t0, bI_one, not_true_eq_false, not_false_eq_true, ↓reduceIte, am_tl, am_tn, am_t0, am_n0, and_true, true_and, List.cons_append, List.nil_append, List.append_nil, or_true, true_or, or_false, false_or, eq_self, ior0, iand0, im_e2, oI, c_parentAt ok F2 (show c < 10 by omega) (show i + 1 + j < (f_p f c).length by omega)]
      refine c_add L2 R2 (by omega) (by omega) (fun h4 fr4 R4 => ?_)
      simp (disch := first | assumption | omega | (simp only [ya_pi, ya_pj, ya_pa, ya_pr, yo_pi, yo_pj, yo_pa, yf_pi, yf_pj, yf_pa, yh_pi, yh_pj, yh_pa, yt_pi, yt_pj, yt_pa, la_pi, la_pj, la_pa]; assumption)) only [b_X0_gather_0, b_X0_gather_8, b_X0_gather_16, b_X0_gather_25, b_X0_gather_36, b_X0_gather_107, b_X0_gather_44, b_X0_gather_53, b_X0_gather_62, b_X0_gather_95, b_X0_gather_73, b_X0_gather_101, b_X0_gather_86, b_X0_gather_89, i_lit, i_m1, i_31, il_t, il_f, iq_t, iq_f, it_t, it_f, im_e, im_l, im_g, im_g2, nI_add, pk_mul, i_sub, i_div, sdm, i_dec, i_cl, iv_t, bI_or2, bI_t0, bI_one, not_true_eq_false, not_false_eq_true, ↓reduceIte, am_tl, am_tn, am_t0, am_n0, and_true, true_and, List.cons_append, List.nil_append, List.append_nil, or_true, true_or, or_false, false_or, eq_self, ior0, iand0, im_e2, oI]
      refine nx2 _ h4 ⟨fr2.tr (fr4.le (fun a k z => by unfold dP at z; unfold dPm; omega)), by rw [fr4.i (by unfold dP; omega), em2], R4, fun a b => ?_⟩
      rw [dadd_iff, e2 a b, ← Nat.add_assoc, pcU_s (by omega) (by omega)]
      simp only [or_assoc, or_left_comm, or_comm]
    · rintro D2 h2 ⟨fr2, em2, R2, e2⟩
      have L2 : Lay h2 := fr2.lay L0
      have pn : (f_p f c).getD i 0 < f_n f := by omega
      have O2 : y_Orders h2 15 := fr2.orders O.1
      have okp := okT _ pn
      have m2 : or_row h2 15 ((f_p f c).getD i 0) (T ((f_p f c).getD i 0)) := (O.2 _ pn).fr fr2 (by omega) (by unfold dPm; omega) (by unfold dPm; omega) (fun k _ => by unfold dPm; omega)
      rw [b_X0_gather_67 _ _ _ _ _ _ _]
      simp (disch := first | assumption | omega | (simp only [ya_pi, ya_pj, ya_pa, ya_pr, yo_pi, yo_pj, yo_pa, yf_pi, yf_pj, yf_pa, yh_pi, yh_pj, yh_pa, yt_pi, yt_pj, yt_pa, la_pi, la_pj, la_pa]; assumption)) only [b_X0_gather_0, b_X0_gather_8, b_X0_gather_16, b_X0_gather_25, b_X0_gather_36, b_X0_gather_107, b_X0_gather_44, b_X0_gather_53, b_X0_gather_62, b_X0_gather_95, b_X0_gather_73, b_X0_gather_101, b_X0_gather_86, b_X0_gather_89, i_lit, i_m1, i_31, il_t, il_f, iq_t, iq_f, it_t, it_f, im_e, im_l, im_g, im_g2, nI_add, pk_mul, i_sub, i_div, sdm, i_dec, i_cl, iv_t, bI_or2, bI_t0, bI_one, not_true_eq_false, not_false_eq_true, ↓reduceIte, am_tl, am_tn, am_t0, am_n0, and_true, true_and, List.cons_append, List.nil_append, List.append_nil, or_true, true_or, or_false, false_or, eq_self, ior0, iand0, im_e2, oI]
      refine c_addOrderOf L2 O2 m2 (by omega) (by omega) okp.2.2.2.1 R2 (fun D4 h4 fr4 R4 e4 => ?_)
      simp (disch := first | assumption | omega | (simp only [ya_pi, ya_pj, ya_pa, ya_pr, yo_pi, yo_pj, yo_pa, yf_pi, yf_pj, yf_pa, yh_pi, yh_pj, yh_pa, yt_pi, yt_pj, yt_pa, la_pi, la_pj, la_pa]; assumption)) only [b_X0_gather_0, b_X0_gather_8, b_X0_gather_16, b_X0_gather_25, b_X0_gather_36, b_X0_gather_107, b_X0_gather_44, b_X0_gather_53, b_X0_gather_62, b_X0_gather_95, b_X0_gather_73, b_X0_gather_101, b_X0_gather_86, b_X0_gather_89, i_lit, i_m1, i_31, il_t, il_f, iq_t, iq_f, it_t, it_f, im_e, im_l, im_g, im_g2, nI_add, pk_mul, i_sub, i_div, sdm, i_dec, i_cl, iv_t, bI_or2, bI_t0, bI_one, not_true_eq_false, not_false_eq_true, ↓reduceIte, am_tl, am_tn, am_t0, am_n0, and_true, true_and, List.cons_append, List.nil_append, List.append_nil, or_true, true_or, or_false, false_or, eq_self, ior0, iand0, im_e2, oI]
      refine nx (D4, _, _) h4 ⟨fr2.tr (fr4.le (fun a k z => by unfold dP at z; unfold dPm; omega)), by rw [fr4.i (by unfold dP; omega), em2], R4, fun a b => ?_⟩
      dsimp only
      rw [e4 a b, e2 a b, dG, show i + 1 + ((f_p f c).length - (i + 1)) = (f_p f c).length from by omega, pcU_e, ex_s (p := fun t => pc (T ((f_p f c).getD t 0)).2 a b)]
      simp only [or_assoc, or_left_comm, or_comm]
  · rintro ⟨D1, l4, l5⟩ h' ⟨fr, em, R1, e⟩
    dsimp only at R1 e ⊢
    rw [b_X0_gather_39 _ _ _ _ _ _ _]
    simp (disch := first | assumption | omega | (simp only [ya_pi, ya_pj, ya_pa, ya_pr, yo_pi, yo_pj, yo_pa, yf_pi, yf_pj, yf_pa, yh_pi, yh_pj, yh_pa, yt_pi, yt_pj, yt_pa, la_pi, la_pj, la_pa]; assumption)) only [b_X0_gather_0, b_X0_gather_8, b_X0_gather_16, b_X0_gather_25, b_X0_gather_36, b_X0_gather_107, b_X0_gather_44, b_X0_gather_53, b_X0_gather_62, b_X0_gather_95, b_X0_gather_73, b_X0_gather_101, b_X0_gather_86, b_X0_gather_89, i_lit, i_m1, i_31, il_t, il_f, iq_t, iq_f, it_t, it_f, im_e, im_l, im_g, im_g2, nI_add, pk_mul, i_sub, i_div, sdm, i_dec, i_cl, iv_t, bI_or2, bI_t0, bI_one, not_true_eq_false, not_false_eq_true, ↓reduceIte, am_tl, am_tn, am_t0, am_n0, and_true, true_and, List.cons_append, List.nil_append, List.append_nil, or_true, true_or, or_false, false_or, eq_self, ior0, iand0, im_e2, oI]
    have eD : D1 = dmb T c (f_p f c) := by
      funext a b
      rw [Bool.eq_iff_iff, e a b, dG_all, dmb_iff]
    exact k h' fr (eD ▸ R1) em
