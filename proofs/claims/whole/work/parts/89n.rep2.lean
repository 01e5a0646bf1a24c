/-! ===== repairs: the class ===== -/
theorem sh_0 : ∀ i, i < 4 → nI 0 <<< nI i = nI 0 := by decide
theorem c_placesOf {d : Nat} {Q : Option am_V → am_H → Prop} {h : am_H} {ch n : Nat} (hn : n ≤ 4) (hc : ch < 1024) {l2 l3 : Option am_V} : ex_ d 58 0 [some (v_i (nI ch)), some (v_i (nI n)), l2, l3] [] h Q ↔ Q (some (v_i (nI (bs (bl (fun j => ch.testBit (n - 1 - j)) n))))) h := by
  apply ex_iff
  simp (disch := first | assumption | omega | (simp only [ya_pi, ya_pj, ya_pa, ya_pr, yo_pi, yo_pj, yo_pa, yf_pi, yf_pj, yf_pa, yh_pi, yh_pj, yh_pa, yt_pi, yt_pj, yt_pa, la_pi, la_pj, la_pa]; assumption)) only [b_X4_placesOf_0, i_lit, i_m1, i_31, il_t, il_f, iq_t, iq_f, it_t, it_f, im_e, im_l, im_g, im_g2, nI_add, pk_mul, i_sub, i_div, sdm, i_dec, i_cl, iv_t, bI_or2, bI_t0, bI_one, not_true_eq_false, not_false_eq_true, ↓reduceIte, am_tl, am_tn, am_t0, am_n0, and_true, true_and, List.cons_append, List.nil_append, List.append_nil]
  have st := lp_up (d := d) (k := 58) (pc := 4) (Q := fun r h' => r = some (v_i (nI (bs (bl (fun j => ch.testBit (n - 1 - j)) n)))) ∧ h' = h) n (fun i (_ : Unit) => [some (v_i (nI ch)), some (v_i (nI n)), some (v_i (nI (bs (bl (fun j => ch.testBit (n - 1 - j)) i)))), some (v_i (nI i))]) (fun i _ h' => h' = h) ?_ ?_ (Nat.zero_le _) rfl (s := ()) (h := h)
  · rw [bl_0] at st
    exact st
  · rintro i - h1 hi rfl nxt
    have nx := nxt () h1 rfl
    have i16 : i < 16 := by omega
    rw [b_X4_placesOf_4 _ _ _ _ _]
    cases w : ch.testBit (n - 1 - i) with
    | true =>
      rw [bl_y (p := fun j => ch.testBit (n - 1 - j)) w] at nx
      simp (disch := first | assumption | omega | (simp only [ya_pi, ya_pj, ya_pa, ya_pr, yo_pi, yo_pj, yo_pa, yf_pi, yf_pj, yf_pa, yh_pi, yh_pj, yh_pa, yt_pi, yt_pj, yt_pa, la_pi, la_pj, la_pa]; assumption)) only [b_X4_placesOf_9, i_lit, i_m1, i_31, il_t, il_f, iq_t, iq_f, it_t, it_f, im_e, im_l, im_g, im_g2, nI_add, pk_mul, i_sub, i_div, sdm, i_dec, i_cl, iv_t, bI_or2, bI_t0, bI_one, not_true_eq_false, not_false_eq_true, ↓reduceIte, am_tl, am_tn, am_t0, am_n0, and_true, true_and, List.cons_append, List.nil_append, List.append_nil, i_31, mI_bit, w]
      exact nx
    | false =>
      rw [bl_n (p := fun j => ch.testBit (n - 1 - j)) w] at nx
      simp (disch := first | assumption | omega | (simp only [ya_pi, ya_pj, ya_pa, ya_pr, yo_pi, yo_pj, yo_pa, yf_pi, yf_pj, yf_pa, yh_pi, yh_pj, yh_pa, yt_pi, yt_pj, yt_pa, la_pi, la_pj, la_pa]; assumption)) only [b_X4_placesOf_9, i_lit, i_m1, i_31, il_t, il_f, iq_t, iq_f, it_t, it_f, im_e, im_l, im_g, im_g2, nI_add, pk_mul, i_sub, i_div, sdm, i_dec, i_cl, iv_t, bI_or2, bI_t0, bI_one, not_true_eq_false, not_false_eq_true, ↓reduceIte, am_tl, am_tn, am_t0, am_n0, and_true, true_and, List.cons_append, List.nil_append, List.append_nil, i_31, mI_bit, w, Bool.false_eq_true, sh_0 i (by omega), ior0]
      exact nx
  · rintro - h1 rfl
    rw [b_X4_placesOf_4 _ _ _ _ _]
    simp (disch := first | assumption | omega | (simp only [ya_pi, ya_pj, ya_pa, ya_pr, yo_pi, yo_pj, yo_pa, yf_pi, yf_pj, yf_pa, yh_pi, yh_pj, yh_pa, yt_pi, yt_pj, yt_pa, la_pi, la_pj, la_pa]; assumption)) only [b_X4_placesOf_29, i_lit, i_m1, i_31, il_t, il_f, iq_t, iq_f, it_t, it_f, im_e, im_l, im_g, im_g2, nI_add, pk_mul, i_sub, i_div, sdm, i_dec, i_cl, iv_t, bI_or2, bI_t0, bI_one, not_true_eq_false, not_false_eq_true, ↓reduceIte, am_tl, am_tn, am_t0, am_n0, and_true, true_and, List.cons_append, List.nil_append, List.append_nil]
theorem c_bitCountN {d : Nat} {Q : Option am_V → am_H → Prop} {h : am_H} {ch : Nat} (hc : ch < 1024) : ex_ d 14 0 [some (v_i (nI ch))] [] h Q ↔ Q (some (v_i (nI (pct ch)))) h := by
  have := c_bitCount (d := d) (Q := Q) (h := h) (P := fun j => ch.testBit j) (fun k hk => Nat.testBit_lt_two_pow (Nat.lt_of_lt_of_le hc (Nat.pow_le_pow_right (n := 2) (i := 10) (by omega) hk)))
  rw [← bs_of (by omega)] at this
  exact this
def dnI (N i : Nat) : Int32 := if i < N then nI (N - 1 - i) else mI
theorem dn_0 {N : Nat} (h : 0 < N) : dnI N 0 = nI (N - 1) := by unfold dnI; rw [if_pos h, Nat.sub_zero]
theorem dn_s {N i : Nat} (h : i < N) : nI (N - 1 - i) + mI = dnI N (i + 1) := by
  unfold dnI
  by_cases z : i + 1 < N
  · rw [if_pos z, i_dec (by omega)]
    exact congrArg nI (by omega)
  · rw [if_neg z, show N - 1 - i = 0 from by omega]
    decide
def mP (c a k : Nat) : Prop := ((a = 58 ∨ a = 59) ∧ c ≤ k) ∨ (a = 60 ∧ 11 * c ≤ k) ∨ (61 ≤ a ∧ a ≤ 66) ∨ (a = 67 ∧ c ≤ k)
theorem or_K.M {c a k : Nat} (z : or_K 57 c a k) : mP c a k := by unfold or_K or_P at z; unfold mP; omega
theorem mP.s {c a k : Nat} (z : mP (c + 1) a k) : mP c a k := by unfold mP at z ⊢; omega
/-- the places taken of a class by a row of links -/
def tkp (f : fa_S) (r : List Nat) (c : Nat) : Nat := bs (bl (fun i => r.contains (lo_at f c + i)) (f_p f c).length)
theorem c_mendFrom {f : fa_S} (ok : fa_ok f) : ∀ (m : Nat) {d c b : Nat} {ks : List Nat} {Q : Option am_V → am_H → Prop} {h : am_H}, c + m = f_n f → b ≤ 3 → (∀ x ∈ ks, x < lo_at f c) → (∀ c', c' < c → (od (wo_p f ks) c c').1 = 0) → Lay h → fa_at h 11 f → or_at h 57 (od (wo_p f ks) c) c → ∀ {l4 l5 l6 l7 : Option am_V}, (∀ h', am_fr h h' (mP c) → (∀ r, ss f (f_lk f - lo_at f c) b ks = some r → ∀ c', c ≤ c' → c' < f_n f → h_i h' 67 c' = nI (tkp f r c')) → Q (some (v_i (nI (if (ss f (f_lk f - lo_at f c) b ks).isSome = true then 1 else 0)))) h') → ex_ (d + m + 4) 59 0 [some (v_r (some 56)), some (v_r (some 11)), some (v_i (nI c)), some (v_i (nI b)), l4, l5, l6, l7] [] h Q := by
  have n10 := ok.1
  intro m
  induction m with
  | zero =>
    intro d c b ks Q h hm hb hks ho L F O l4 l5 l6 l7 k
    have ec : c = f_n f := by omega
    subst ec
    have Y := F.1
    have e0 := F.2.1
    have es : ss f (f_lk f - lo_at f (f_n f)) b ks = some ks := by
      rw [lo_n, Nat.sub_self, ss, if_pos (wh_iff.2 ho)]
    rw [es] at k
    simp (disch := first | assumption | omega | (simp only [ya_pi, ya_pj, ya_pa, ya_pr, yo_pi, yo_pj, yo_pa, yf_pi, yf_pj, yf_pa, yh_pi, yh_pj, yh_pa, yt_pi, yt_pj, yt_pa, la_pi, la_pj, la_pa]; assumption)) only [b_X4_mendFrom_0, b_X4_mendFrom_14, i_lit, i_m1, i_31, il_t, il_f, iq_t, iq_f, it_t, it_f, im_e, im_l, im_g, im_g2, nI_add, pk_mul, i_sub, i_div, sdm, i_dec, i_cl, iv_t, bI_or2, bI_t0, bI_one, not_true_eq_false, not_false_eq_true, ↓reduceIte, am_tl, am_tn, am_t0, am_n0, and_true, true_and, List.cons_append, List.nil_append, List.append_nil, e0]
    exact k h am_fr.rf (fun r _ c' h1 h2 => absurd h2 (by omega))
  | succ m ih =>
    intro d c b ks Q h hm hb hks ho L F O l4 l5 l6 l7 k
    have hc : c < f_n f := by omega
    have Y := F.1
    have e0 := F.2.1
    have l4' := (ok.2 c).1
    have okT := (od_okk (wo_ok ok ks) c (by omega)).1
    rw [ss_class ok hc] at k
    rw [show d + (m + 1) + 4 = (d + m + 4) + 1 from by omega]
    simp (disch := first | assumption | omega | (simp only [ya_pi, ya_pj, ya_pa, ya_pr, yo_pi, yo_pj, yo_pa, yf_pi, yf_pj, yf_pa, yh_pi, yh_pj, yh_pa, yt_pi, yt_pj, yt_pa, la_pi, la_pj, la_pa]; assumption)) only [b_X4_mendFrom_0, b_X4_mendFrom_8, b_X4_mendFrom_16, i_lit, i_m1, i_31, il_t, il_f, iq_t, iq_f, it_t, it_f, im_e, im_l, im_g, im_g2, nI_add, pk_mul, i_sub, i_div, sdm, i_dec, i_cl, iv_t, bI_or2, bI_t0, bI_one, not_true_eq_false, not_false_eq_true, ↓reduceIte, am_tl, am_tn, am_t0, am_n0, and_true, true_and, List.cons_append, List.nil_append, List.append_nil, e0, c_parentCount F (show c < 10 by omega)]
    rw [b_X4_mendFrom_21]
    generalize hk : (f_p f c).length = n at k l4'
    have p4 : 2 ^ n ≤ 2 ^ 4 := Nat.pow_le_pow_right (by omega) l4'
    have p0 : 0 < 2 ^ n := Nat.two_pow_pos n
    simp only [i_lit, it_f (show n ≤ 4 by omega) (show 4 < 2147483648 by omega), if_false, i_31 (show n < 32 by omega), i_shl (show n < 31 by omega), i_sub (show 1 ≤ 2 ^ n by omega)]
    have st := lp_up (d := d + m + 4 + 1) (k := 59) (pc := 35) (Q := Q) (2 ^ n) (fun i (s : Option am_V × Option am_V) => [some (v_r (some 56)), some (v_r (some 11)), some (v_i (nI c)), some (v_i (nI b)), some (v_i (nI n)), some (v_i (dnI (2 ^ n) i)), s.1, s.2]) (fun i _ h' => am_fr h h' (mP c) ∧ fdn (mdC f c b ks) (2 ^ n) = fdn (mdC f c b ks) (2 ^ n - i)) ?_ ?_ (Nat.zero_le _) ⟨am_fr.rf, by rw [Nat.sub_zero]⟩ (s := (l6, l7)) (h := h)
    · dsimp only at st
      rw [dn_0 p0] at st
      exact st
    · rintro i ⟨m6, m7⟩ h1 hi ⟨fr1, eq⟩ nxt
      dsimp only at nxt ⊢
      have L1 := fr1.lay L
      have F1 : fa_at h1 11 f := fr1.fa F (fun a k h1 h2 z => by unfold mP at z; omega)
      have Y1 := F1.1
      have O1 : or_at h1 57 (od (wo_p f ks) c) c := O.fr okT fr1 (fun a k h1 h2 h3 => by unfold mP; omega) (fun k hk => by unfold mP; omega)
      have ed : dnI (2 ^ n) i = nI (2 ^ n - 1 - i) := by unfold dnI; rw [if_pos hi]
      have e16 : (2 : Nat) ^ 4 = 16 := rfl
      rw [ed]
      have nx := fun m6 m7 h' (x : am_fr h h' (mP c) ∧ fdn (mdC f c b ks) (2 ^ n) = fdn (mdC f c b ks) (2 ^ n - (i + 1))) => nxt (m6, m7) h' x
      dsimp only at nx
      rw [← dn_s hi] at nx
      rw [show 2 ^ n - i = (2 ^ n - 1 - i) + 1 from by omega, fdn] at eq
      rw [show 2 ^ n - (i + 1) = 2 ^ n - 1 - i from by omega] at nx
      generalize hch : 2 ^ n - 1 - i = ch at eq nx
      have c16 : ch < 16 := by omega
      have pl : pct ch ≤ 10 := ct_le _ _
      rw [b_X4_mendFrom_35 _ _ _ _ _ _ _ _ _]
      simp (disch := first | assumption | omega | (simp only [ya_pi, ya_pj, ya_pa, ya_pr, yo_pi, yo_pj, yo_pa, yf_pi, yf_pj, yf_pa, yh_pi, yh_pj, yh_pa, yt_pi, yt_pj, yt_pa, la_pi, la_pj, la_pa]; assumption)) only [b_X4_mendFrom_40, b_X4_mendFrom_45, i_lit, i_m1, i_31, il_t, il_f, iq_t, iq_f, it_t, it_f, im_e, im_l, im_g, im_g2, nI_add, pk_mul, i_sub, i_div, sdm, i_dec, i_cl, iv_t, bI_or2, bI_t0, bI_one, not_true_eq_false, not_false_eq_true, ↓reduceIte, am_tl, am_tn, am_t0, am_n0, and_true, true_and, List.cons_append, List.nil_append, List.append_nil, c_bitCountN (show ch < 1024 by omega), c_placesOf l4' (show ch < 1024 by omega)]
      -- the parents that are left
      have ew : lw (f_p f c) (bl (fun j => ch.testBit (n - 1 - j)) n) (f_p f c).length = wo_p f (ks ++ sel (lo_at f c) (f_p f c).length ch) c := by
        unfold wo_p
        refine lw_cong (fun j hj => ?_)
        have nk : ¬ (lo_at f c + j) ∈ ks := fun y => by have := hks _ y; omega
        have : (ks ++ sel (lo_at f c) (f_p f c).length ch).contains (lo_at f c + j) = (sel (lo_at f c) (f_p f c).length ch).contains (lo_at f c + j) := by
          rw [List.contains_eq_mem, List.contains_eq_mem]
          exact decide_eq_decide.2 ⟨fun z => (List.mem_append.1 z).elim (fun y => absurd y nk) id, fun z => List.mem_append.2 (Or.inr z)⟩
        rw [this, sel_con _ hj]
        unfold bl
        rw [decide_eq_true (by omega), Bool.true_and, hk]
      generalize hks' : ks ++ sel (lo_at f c) (f_p f c).length ch = ks' at ew
      have selo : ∀ x ∈ sel (lo_at f c) (f_p f c).length ch, lo_at f c ≤ x := fun x hx => (sel_lo _ _ hx).1
      have eT : od (wo_p f ks') c = od (wo_p f ks) c := by rw [← hks']; exact wo_od selo
      have hks2 : ∀ x ∈ ks', x < lo_at f (c + 1) := fun x hx => by
        rw [← hks'] at hx
        rw [lo_s]
        rcases List.mem_append.1 hx with y | y
        · have := hks x y; omega
        · exact (sel_lo _ _ y).2
      have pk := wo_ok ok ks' c
      have eo : od (wo_p f ks') (c + 1) c = od1 (od (wo_p f ks) c) c (wo_p f ks' c) := by rw [od_at (c + 1) (by omega), eT]
      have o2 := ((od_okk (wo_ok ok ks') (c + 1) (by omega)).1 c (by omega)).1
      by_cases z : b < pct ch
      · have gn : mdC f c b ks ch = none := by unfold mdC; rw [if_neg (fun w => by have := w.1; omega)]
        rw [gn] at eq
        simp (disch := first | assumption | omega | (simp only [ya_pi, ya_pj, ya_pa, ya_pr, yo_pi, yo_pj, yo_pa, yf_pi, yf_pj, yf_pa, yh_pi, yh_pj, yh_pa, yt_pi, yt_pj, yt_pa, la_pi, la_pj, la_pa]; assumption)) only [b_X4_mendFrom_54, b_X4_mendFrom_101, i_lit, i_m1, i_31, il_t, il_f, iq_t, iq_f, it_t, it_f, im_e, im_l, im_g, im_g2, nI_add, pk_mul, i_sub, i_div, sdm, i_dec, i_cl, iv_t, bI_or2, bI_t0, bI_one, not_true_eq_false, not_false_eq_true, ↓reduceIte, am_tl, am_tn, am_t0, am_n0, and_true, true_and, List.cons_append, List.nil_append, List.append_nil]
        exact nx _ _ h1 ⟨fr1, eq⟩
      · have z' : pct ch ≤ b := by omega
        simp (disch := first | assumption | omega | (simp only [ya_pi, ya_pj, ya_pa, ya_pr, yo_pi, yo_pj, yo_pa, yf_pi, yf_pj, yf_pa, yh_pi, yh_pj, yh_pa, yt_pi, yt_pj, yt_pa, la_pi, la_pj, la_pa]; assumption)) only [b_X4_mendFrom_54, b_X4_mendFrom_62, i_lit, i_m1, i_31, il_t, il_f, iq_t, iq_f, it_t, it_f, im_e, im_l, im_g, im_g2, nI_add, pk_mul, i_sub, i_div, sdm, i_dec, i_cl, iv_t, bI_or2, bI_t0, bI_one, not_true_eq_false, not_false_eq_true, ↓reduceIte, am_tl, am_tn, am_t0, am_n0, and_true, true_and, List.cons_append, List.nil_append, List.append_nil]
        refine c_settleWithout ok F1 O1 okT (by omega) (by omega) (by rw [ew]; exact pk.2.1) (by rw [ew]; exact pk.2.2) (by rw [ew]; exact pk.1) (fun h2 fr2 r2 => ?_)
        rw [ew, ← eo] at r2 ⊢
        have L2 := fr2.lay L1
        have F2 : fa_at h2 11 f := fr2.fa F1 (fun a k h1 h2 z => by unfold or_K or_P at z; omega)
        have Y2 := F2.1
        have fr12 := fr1.tr (fr2.le (fun a k z => z.M))
        by_cases y : (od (wo_p f ks') (c + 1) c).1 = 0
        · have gy : mdC f c b ks ch = ss f (f_lk f - lo_at f (c + 1)) (b - pct ch) ks' := by unfold mdC; rw [hks', if_pos ⟨z', y⟩]
          rw [gy] at eq
          simp (disch := first | assumption | omega | (simp only [ya_pi, ya_pj, ya_pa, ya_pr, yo_pi, yo_pj, yo_pa, yf_pi, yf_pj, yf_pa, yh_pi, yh_pj, yh_pa, yt_pi, yt_pj, yt_pa, la_pi, la_pj, la_pa]; assumption)) only [b_X4_mendFrom_73, b_X4_mendFrom_76, i_lit, i_m1, i_31, il_t, il_f, iq_t, iq_f, it_t, it_f, im_e, im_l, im_g, im_g2, nI_add, pk_mul, i_sub, i_div, sdm, i_dec, i_cl, iv_t, bI_or2, bI_t0, bI_one, not_true_eq_false, not_false_eq_true, ↓reduceIte, am_tl, am_tn, am_t0, am_n0, and_true, true_and, List.cons_append, List.nil_append, List.append_nil, y]
          have O2 : or_at h2 57 (od (wo_p f ks') (c + 1)) (c + 1) := by
            have := O1.up okT fr2 r2
            rw [od, eT]
            rw [eo] at this
            exact this
          have fr3 : am_fr h2 (p_i h2 67 c (nI (bs (bl (fun j => ch.testBit (n - 1 - j)) n)))) (fun a k => a = 67 ∧ k = c) := am_fr_pi ⟨rfl, rfl⟩
          have O3 := O2.fr (od_okk (wo_ok ok ks') (c + 1) (by omega)).1 fr3 (fun a k h1 h2 h3 => by omega) (fun k hk => by omega)
          have F3 : fa_at (p_i h2 67 c (nI (bs (bl (fun j => ch.testBit (n - 1 - j)) n)))) 11 f := fr3.fa F2 (fun a k h1 h2 z => by omega)
          refine ih (by omega) (by omega) hks2 (fun c' hc' => ?_) (fr3.lay L2) F3 O3 (fun h4 fr4 r4 => ?_)
          · by_cases u : c' = c
            · rw [u]; exact y
            · rw [← od_st (show c' < c by omega) (show c' < c + 1 by omega), eT]
              exact ho c' (by omega)
          · have L4 := fr4.lay (fr3.lay L2)
            have fr14 := (fr12.tr (fr3.le (fun a k z => by unfold mP; omega))).tr (fr4.le (fun a k z => z.s))
            cases w : ss f (f_lk f - lo_at f (c + 1)) (b - pct ch) ks' with
            | none =>
              rw [w] at eq
              simp (disch := first | assumption | omega | (simp only [ya_pi, ya_pj, ya_pa, ya_pr, yo_pi, yo_pj, yo_pa, yf_pi, yf_pj, yf_pa, yh_pi, yh_pj, yh_pa, yt_pi, yt_pj, yt_pa, la_pi, la_pj, la_pa]; assumption)) only [b_X4_mendFrom_96, b_X4_mendFrom_101, i_lit, i_m1, i_31, il_t, il_f, iq_t, iq_f, it_t, it_f, im_e, im_l, im_g, im_g2, nI_add, pk_mul, i_sub, i_div, sdm, i_dec, i_cl, iv_t, bI_or2, bI_t0, bI_one, not_true_eq_false, not_false_eq_true, ↓reduceIte, am_tl, am_tn, am_t0, am_n0, and_true, true_and, List.cons_append, List.nil_append, List.append_nil, Option.isSome_none, Bool.false_eq_true]
              exact nx _ _ h4 ⟨fr14, eq⟩
            | some r =>
              rw [w] at eq
              have fin := k h4 fr14
              rw [eq] at fin
              simp (disch := first | assumption | omega | (simp only [ya_pi, ya_pj, ya_pa, ya_pr, yo_pi, yo_pj, yo_pa, yf_pi, yf_pj, yf_pa, yh_pi, yh_pj, yh_pa, yt_pi, yt_pj, yt_pa, la_pi, la_pj, la_pa]; assumption)) only [b_X4_mendFrom_96, b_X4_mendFrom_99, i_lit, i_m1, i_31, il_t, il_f, iq_t, iq_f, it_t, it_f, im_e, im_l, im_g, im_g2, nI_add, pk_mul, i_sub, i_div, sdm, i_dec, i_cl, iv_t, bI_or2, bI_t0, bI_one, not_true_eq_false, not_false_eq_true, ↓reduceIte, am_tl, am_tn, am_t0, am_n0, and_true, true_and, List.cons_append, List.nil_append, List.append_nil, Option.isSome_some]
              refine fin (fun r' hr' c' h1 h2 => ?_)
              cases hr'
              by_cases u : c' = c
              · subst u
                rw [fr4.i (by unfold mP; omega), hi_s]
                unfold tkp
                congr 1
                refine bs_ext (fun j _ => ?_)
                unfold bl
                rw [hk]
                by_cases v : j < n
                · rw [decide_eq_true v, Bool.true_and, Bool.true_and]
                  obtain ⟨e, e1, e2, -⟩ := ss_ext _ w (Nat.sub_le _ _)
                  have le1 : lo_at f (c' + 1) ≤ f_lk f := lo_mono (show c' + 1 ≤ f_n f by omega)
                  have ne : ¬ (lo_at f c' + j) ∈ e := fun q => by
                    have := (e2 _ q).1
                    rw [lo_s, hk] at this le1
                    omega
                  have nk : ¬ (lo_at f c' + j) ∈ ks := fun q => by have := hks _ q; omega
                  rw [e1]
                  show ch.testBit (n - 1 - j) = (ks' ++ e).contains (lo_at f c' + j)
                  rw [con_app ne, ← hks']
                  have : (ks ++ sel (lo_at f c') (f_p f c').length ch).contains (lo_at f c' + j) = (sel (lo_at f c') (f_p f c').length ch).contains (lo_at f c' + j) := by
                    rw [List.contains_eq_mem, List.contains_eq_mem]
                    exact decide_eq_decide.2 ⟨fun z => (List.mem_append.1 z).elim (fun y => absurd y nk) id, fun z => List.mem_append.2 (Or.inr z)⟩
                  rw [this, sel_con _ (by omega), hk]
                · rw [decide_eq_false v, Bool.false_and, Bool.false_and]
              · exact r4 r w c' (by omega) h2
        · have gn : mdC f c b ks ch = none := by unfold mdC; rw [hks', if_neg (fun w => y w.2)]
          rw [gn] at eq
          simp (disch := first | assumption | omega | (simp only [ya_pi, ya_pj, ya_pa, ya_pr, yo_pi, yo_pj, yo_pa, yf_pi, yf_pj, yf_pa, yh_pi, yh_pj, yh_pa, yt_pi, yt_pj, yt_pa, la_pi, la_pj, la_pa]; assumption)) only [b_X4_mendFrom_73, b_X4_mendFrom_101, i_lit, i_m1, i_31, il_t, il_f, iq_t, iq_f, it_t, it_f, im_e, im_l, im_g, im_g2, nI_add, pk_mul, i_sub, i_div, sdm, i_dec, i_cl, iv_t, bI_or2, bI_t0, bI_one, not_true_eq_false, not_false_eq_true, ↓reduceIte, am_tl, am_tn, am_t0, am_n0, and_true, true_and, List.cons_append, List.nil_append, List.append_nil]
          exact nx _ _ h2 ⟨fr12, eq⟩
    · rintro ⟨m6, m7⟩ h1 ⟨fr1, eq⟩
      dsimp only
      rw [Nat.sub_self, fdn] at eq
      have ed : dnI (2 ^ n) (2 ^ n) = mI := by unfold dnI; rw [if_neg (by omega)]
      have ml : mI < nI 0 := by decide
      have fin := k h1 fr1
      rw [eq] at fin
      rw [ed, b_X4_mendFrom_35 _ _ _ _ _ _ _ _ _]
      simp (disch := first | assumption | omega | (simp only [ya_pi, ya_pj, ya_pa, ya_pr, yo_pi, yo_pj, yo_pa, yf_pi, yf_pj, yf_pa, yh_pi, yh_pj, yh_pa, yt_pi, yt_pj, yt_pa, la_pi, la_pj, la_pa]; assumption)) only [b_X4_mendFrom_107, i_lit, i_m1, i_31, il_t, il_f, iq_t, iq_f, it_t, it_f, im_e, im_l, im_g, im_g2, nI_add, pk_mul, i_sub, i_div, sdm, i_dec, i_cl, iv_t, bI_or2, bI_t0, bI_one, not_true_eq_false, not_false_eq_true, ↓reduceIte, am_tl, am_tn, am_t0, am_n0, and_true, true_and, List.cons_append, List.nil_append, List.append_nil, ml]
      exact fin (fun r hr => by cases hr)
