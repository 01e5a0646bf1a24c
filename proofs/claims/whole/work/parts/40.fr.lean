/-! ===== numbers: rows for the simplifier ===== -/
def mI : Int32 := -1
theorem i_lit (n : Nat) : (OfNat.ofNat n : Int32) = nI n := rfl
theorem i_m1 : -(nI 1) = mI := rfl
theorem i_31 {k : Nat} (h : k < 32) : nI k &&& nI 31 = nI k := by
  have := pk_andN (n := k) (by omega) (m := nI 31) 5 (by decide)
  rw [this, Nat.mod_eq_of_lt (by omega)]
theorem il_t {a b : Nat} (h : a ≤ b) (hb : b < 2147483648) : (nI a ≤ nI b) = True := eq_true (nI_le h hb)
theorem il_f {a b : Nat} (h : b < a) (ha : a < 2147483648) : (nI a ≤ nI b) = False := eq_false (nI_ge h ha)
theorem it_t {a b : Nat} (h : a < b) (hb : b < 2147483648) : (nI a < nI b) = True := eq_true (nI_lt h hb)
theorem it_f {a b : Nat} (h : b ≤ a) (ha : a < 2147483648) : (nI a < nI b) = False := eq_false (nI_nlt h ha)
theorem iq_t {a b : Nat} (h : a = b) : (nI a = nI b) = True := eq_true (congrArg nI h)
theorem iq_f {a b : Nat} (h : ¬ a = b) (ha : a < 2147483648) (hb : b < 2147483648) : (nI a = nI b) = False := eq_false (fun e => h ((nI_eq ha hb).1 e))
theorem il_i {a b : Nat} (ha : a < 2147483648) (hb : b < 2147483648) : (nI a ≤ nI b) = (a ≤ b) := propext (nI_leI ha hb)
theorem it_i {a b : Nat} (ha : a < 2147483648) (hb : b < 2147483648) : (nI a < nI b) = (a < b) := propext (nI_ltI ha hb)
theorem iq_i {a b : Nat} (ha : a < 2147483648) (hb : b < 2147483648) : (nI a = nI b) = (a = b) := propext (nI_eq ha hb)
theorem mI_toInt : mI.toInt = -1 := by decide
theorem im_e {a : Nat} (ha : a < 2147483648) : (nI a = mI) = False := eq_false (fun e => by
  have := congrArg Int32.toInt e
  rw [nI_toInt ha, mI_toInt] at this
  omega)
theorem im_l {a : Nat} (ha : a < 2147483648) : (mI < nI a) = True := eq_true (by rw [Int32.lt_iff_toInt_lt, nI_toInt ha, mI_toInt]; omega)
theorem im_g {a : Nat} (ha : a < 2147483648) : (nI a ≤ mI) = False := eq_false (fun e => by
  rw [Int32.le_iff_toInt_le, nI_toInt ha, mI_toInt] at e
  omega)
theorem im_g2 {a : Nat} (ha : a < 2147483648) : (nI a < mI) = False := eq_false (fun e => by
  rw [Int32.lt_iff_toInt_lt, nI_toInt ha, mI_toInt] at e
  omega)
theorem i_sub {a b : Nat} (h : b ≤ a) : nI a - nI b = nI (a - b) := pk_sub h
theorem i_dec {a : Nat} (h : 1 ≤ a) : nI a + mI = nI (a - 1) := by
  obtain ⟨b, rfl⟩ : ∃ b, a = b + 1 := ⟨a - 1, by omega⟩
  exact pk_m1 b
theorem i_cl {a : Nat} (h : a < 2147483648) : Int32.toNatClampNeg (nI a) = a := nI_clamp h
theorem iv_t {a n : Nat} (h : a < n) (hn : n < 2147483648) : vp_in (nI a) n = True := eq_true (vp_in_nI h hn)
theorem ix_or (a b : Nat) : nI a ||| nI b = nI (a ||| b) := by
  apply Int32.toBitVec_inj.1
  show BitVec.ofNat 32 a ||| BitVec.ofNat 32 b = BitVec.ofNat 32 (a ||| b)
  apply BitVec.eq_of_getLsbD_eq
  intro i hi
  simp [hi]
theorem ix_and (a b : Nat) : nI a &&& nI b = nI (a &&& b) := by
  apply Int32.toBitVec_inj.1
  show BitVec.ofNat 32 a &&& BitVec.ofNat 32 b = BitVec.ofNat 32 (a &&& b)
  apply BitVec.eq_of_getLsbD_eq
  intro i hi
  simp [hi]
theorem i_sm : ∀ k, k < 32 → ((nI k).toBitVec.smod 32).toNat = k := by decide +kernel
theorem i_shl {k : Nat} (h : k < 31) : nI 1 <<< nI k = nI (2 ^ k) := by
  have := pk_shlN (n := 1) (nI k) k (i_sm k (by omega)) (by rw [Nat.one_mul]; exact Nat.pow_lt_pow_right (by decide) (by omega))
  rw [this, Nat.one_mul]
theorem i_shr {a k : Nat} (ha : a < 2147483648) (h : k < 32) : nI a >>> nI k = nI (a / 2 ^ k) := pk_shrN ha (nI k) k (i_sm k h)
theorem i_and1 {a : Nat} : nI a &&& nI 1 = nI (a % 2) := by
  rw [ix_and, show (1 : Nat) = 2 ^ 1 - 1 from rfl, Nat.and_two_pow_sub_one_eq_mod]
theorem i_div {a d : Nat} (ha : a < 2147483648) (h0 : 0 < d) (hd : d < 2147483648) : nI a / nI d = nI (a / d) := pk_div ha h0 hd
theorem i_rem {a d : Nat} (ha : a < 2147483648) (h0 : 0 < d) (hd : d < 2147483648) : nI a - nI (a / d) * nI d = nI (a % d) := by
  have := pk_rem ha h0 hd
  rwa [pk_div ha h0 hd] at this
theorem sdm (a d : Nat) : a - a / d * d = a % d := by
  have := Nat.div_add_mod a d
  rw [Nat.mul_comm] at this
  omega
theorem l_lit (n : Nat) : (OfNat.ofNat n : Int64) = lN n := rfl
theorem lc_lt (x y : Int64) : (lg_cmp x y < nI 0) = (x < y) := propext (lg_cmp_lt x y)
theorem lc_le (x y : Int64) : (lg_cmp x y ≤ nI 0) = (x ≤ y) := propext (lg_cmp_le x y)
theorem lc_gt (x y : Int64) : (nI 0 < lg_cmp x y) = (y < x) := propext (lg_cmp_gt x y)
theorem lc_ge (x y : Int64) : (nI 0 ≤ lg_cmp x y) = (y ≤ x) := propext (lg_cmp_ge x y)
theorem lc_eq (x y : Int64) : (lg_cmp x y = nI 0) = (x = y) := propext (lg_cmp_eq x y)
theorem ll_t {a b : Nat} (h : a ≤ b) (hb : b < 9223372036854775808) : (lN a ≤ lN b) = True := eq_true ((pk_lLE (by omega) hb).2 h)
theorem ll_f {a b : Nat} (h : b < a) (ha : a < 9223372036854775808) : (lN a ≤ lN b) = False := eq_false (fun e => by have := (pk_lLE ha (by omega)).1 e; omega)
theorem lt_t {a b : Nat} (h : a < b) (hb : b < 9223372036854775808) : (lN a < lN b) = True := eq_true ((pk_lLT (by omega) hb).2 h)
theorem lt_f {a b : Nat} (h : b ≤ a) (ha : a < 9223372036854775808) : (lN a < lN b) = False := eq_false (fun e => by have := (pk_lLT ha (by omega)).1 e; omega)
theorem lq_t {a b : Nat} (h : a = b) : (lN a = lN b) = True := eq_true (congrArg lN h)
theorem lq_f {a b : Nat} (h : ¬ a = b) (ha : a < 9223372036854775808) (hb : b < 9223372036854775808) : (lN a = lN b) = False := eq_false (fun e => h ((pk_lEQ ha hb).1 e))
theorem l_div {a d : Nat} (ha : a < 9223372036854775808) (h0 : 0 < d) (hd : d < 9223372036854775808) : lN a / lN d = lN (a / d) := pk_lDiv ha h0 hd
/-! ===== sets of small numbers as bits ===== -/
def bsr (P : Nat → Bool) : Nat → Nat
  | 0 => 0
  | n + 1 => bsr P n ||| (if P n = true then 2 ^ n else 0)
theorem bsr_tb (P : Nat → Bool) (k : Nat) : ∀ n, (bsr P n).testBit k = (decide (k < n) && P k) := by
  intro n
  induction n with
  | zero => simp [bsr]
  | succ n ih =>
    rw [bsr, Nat.testBit_or, ih]
    by_cases hp : P n = true
    · rw [if_pos hp, Nat.testBit_two_pow]
      by_cases e : n = k
      · subst e
        simp [hp]
      · have : (k < n + 1) ↔ k < n := by omega
        simp [e, this]
    · rw [if_neg hp, Nat.zero_testBit, Bool.or_false]
      by_cases e : n = k
      · subst e
        simp at hp
        simp [hp]
      · have : (k < n + 1) ↔ k < n := by omega
        simp [this]
theorem bsr_lt (P : Nat → Bool) : ∀ n, bsr P n < 2 ^ n := by
  intro n
  induction n with
  | zero => exact Nat.one_pos
  | succ n ih =>
    rw [bsr]
    apply Nat.or_lt_two_pow
    · exact Nat.lt_trans ih (Nat.pow_lt_pow_right (by decide) (by omega))
    · split
      · exact Nat.pow_lt_pow_right (by decide) (by omega)
      · exact Nat.two_pow_pos _
/-- the number of a set of numbers below 16 -/
def bs (P : Nat → Bool) : Nat := bsr P 16
theorem bs_lt (P : Nat → Bool) : bs P < 65536 := bsr_lt P 16
theorem bs_tb {P : Nat → Bool} {k : Nat} (h : k < 16) : (bs P).testBit k = P k := by rw [bs, bsr_tb]; simp [h]
theorem bs_big {P : Nat → Bool} {k : Nat} (h : 16 ≤ k) : (bs P).testBit k = false := by rw [bs, bsr_tb]; simp; omega
theorem bs_of {m : Nat} (h : m < 65536) : m = bs (fun k => m.testBit k) := by
  apply Nat.eq_of_testBit_eq
  intro k
  by_cases hk : k < 16
  · rw [bs_tb hk]
  · rw [bs_big (by omega)]
    exact Nat.testBit_lt_two_pow (Nat.lt_of_lt_of_le h (Nat.pow_le_pow_right (n := 2) (i := 16) (by decide) (by omega)))
theorem bs_ext {P R : Nat → Bool} (h : ∀ k, k < 16 → P k = R k) : bs P = bs R := by
  apply Nat.eq_of_testBit_eq
  intro k
  by_cases hk : k < 16
  · rw [bs_tb hk, bs_tb hk, h k hk]
  · rw [bs_big (by omega), bs_big (by omega)]
theorem bs_inj {P R : Nat → Bool} (h : bs P = bs R) {k : Nat} (hk : k < 16) : P k = R k := by rw [← bs_tb (P := P) hk, h, bs_tb hk]
theorem bs_0 : bs (fun _ => false) = 0 := by decide
theorem bs_or2 (P R : Nat → Bool) : bs P ||| bs R = bs (fun k => P k || R k) := by
  apply Nat.eq_of_testBit_eq
  intro k
  rw [Nat.testBit_or]
  by_cases hk : k < 16
  · rw [bs_tb hk, bs_tb hk, bs_tb hk]
  · rw [bs_big (by omega), bs_big (by omega), bs_big (by omega)]; rfl
theorem bs_and2 (P R : Nat → Bool) : bs P &&& bs R = bs (fun k => P k && R k) := by
  apply Nat.eq_of_testBit_eq
  intro k
  rw [Nat.testBit_and]
  by_cases hk : k < 16
  · rw [bs_tb hk, bs_tb hk, bs_tb hk]
  · rw [bs_big (by omega), bs_big (by omega), bs_big (by omega)]; rfl
theorem bs_one {k : Nat} (h : k < 16) : 2 ^ k = bs (fun j => decide (j = k)) := by
  apply Nat.eq_of_testBit_eq
  intro j
  rw [Nat.testBit_two_pow]
  by_cases hj : j < 16
  · rw [bs_tb hj]
    exact decide_eq_decide.2 ⟨Eq.symm, Eq.symm⟩
  · rw [bs_big (by omega)]
    simp
    omega
theorem bs_or {P : Nat → Bool} {k : Nat} (h : k < 16) : bs P ||| 2 ^ k = bs (fun j => P j || decide (j = k)) := by rw [bs_one h, bs_or2]
theorem bI_or {P : Nat → Bool} {k : Nat} (h : k < 16) : nI (bs P) ||| (nI 1 <<< nI k) = nI (bs (fun j => P j || decide (j = k))) := by
  rw [i_shl (by omega), ix_or, bs_or h]
theorem bI_one {k : Nat} (h : k < 16) : nI 1 <<< nI k = nI (bs (fun j => decide (j = k))) := by
  rw [i_shl (by omega), bs_one h]
theorem bI_or2 (P R : Nat → Bool) : nI (bs P) ||| nI (bs R) = nI (bs (fun k => P k || R k)) := by rw [ix_or, bs_or2]
theorem i_tb (m k : Nat) : m / 2 ^ k % 2 = if m.testBit k = true then 1 else 0 := by
  rw [Nat.testBit_eq_decide_div_mod_eq]
  simp only [decide_eq_true_eq]
  split <;> omega
theorem bI_t0 {P : Nat → Bool} {k : Nat} (h : k < 16) : ((nI (bs P) >>> nI k) &&& nI 1 = nI 0) = (P k = false) := by
  have hb := bs_lt P
  rw [i_shr (by omega) (by omega), i_and1, i_tb, bs_tb h]
  cases P k
  · exact eq_true rfl |>.trans (eq_true rfl).symm
  · exact propext ⟨fun e => by have := (nI_eq (a := 1) (b := 0) (by omega) (by omega)).1 e; omega, fun e => by cases e⟩
/-! ===== runs ===== -/
theorem am_all_and2 {ok : List Prop} {A B : Prop} (h : am_all ok A) (k : am_all ok B) : am_all ok (A ∧ B) := by
  induction ok with
  | nil => exact ⟨h, k⟩
  | cons p r ih => exact ⟨h.1, ih h.2 k.2⟩
theorem am_and {byt : List (List Int32)} {P : am_P} : ∀ (n : Nat) {d k : Nat} {f : am_F} {Q R : Option am_V → am_H → Prop}, am_X byt P n d k f Q → am_X byt P n d k f R → am_X byt P n d k f (fun r h => Q r h ∧ R r h) := by
  intro n
  induction n with
  | zero => intro d k f Q R h; exact h.elim
  | succ n ih =>
    intro d k f Q R h h'
    unfold am_X at h h' ⊢
    rcases he : (P k).1[f.1]? with _ | (_ | e)
    · simp only [he] at h
    · simp only [he] at h
    · simp only [he] at h h' ⊢
      cases hi : am_isr e.1 with
      | true =>
        simp only [hi] at h h' ⊢
        cases hr : am_ret e.1 (P k).2.2.1 f.2.2.1 with
        | none => simp only [hr] at h
        | some r =>
          simp only [hr] at h h' ⊢
          exact ⟨h.1, h.2, h'.2⟩
      | false =>
        simp only [hi] at h h' ⊢
        cases hc : am_call e with
        | some c =>
          simp only [hc] at h h' ⊢
          refine ⟨h.1, ?_⟩
          cases d with
          | zero => exact h.2
          | succ d => exact am_mono n (fun r h1 z => ih z.1 z.2) (ih h.2 h'.2)
        | none =>
          simp only [hc] at h h' ⊢
          cases hs : am_step byt e f.1 f.2.1 f.2.2.1 f.2.2.2 with
          | none => simp only [hs] at h
          | some g =>
            simp only [hs] at h h' ⊢
            exact am_all_imp (fun z => ih z.1 z.2) (am_all_and2 h h')
/-- a run that is known has this end and no other -/
theorem ex_iff {d k pc : Nat} {L : am_L} {S : List am_V} {h b : am_H} {a : Option am_V} {Q : Option am_V → am_H → Prop} (x : ex_ d k pc L S h (fun r h' => r = a ∧ h' = b)) : ex_ d k pc L S h Q ↔ Q a b := by
  constructor
  · intro y
    obtain ⟨n, x⟩ := x
    obtain ⟨m, y⟩ := y
    obtain ⟨r, h', z, -⟩ := am_det (n + m) (am_and (n + m) (am_fuel (Nat.le_add_right n m) x) (am_fuel (Nat.le_add_left m n) y))
    rw [← z.1.1, ← z.1.2]
    exact z.2
  · intro q
    exact x.mono (fun r h' z => by rw [z.1, z.2]; exact q)
/-- a loop that counts up -/
theorem lp_up {d k pc : Nat} {Q : Option am_V → am_H → Prop} {σ : Type} (n : Nat) (L : Nat → σ → am_L) (I : Nat → σ → am_H → Prop) (st : ∀ i s h, i < n → I i s h → (∀ s' h', I (i + 1) s' h' → ex_ d k pc (L (i + 1) s') [] h' Q) → ex_ d k pc (L i s) [] h Q) (en : ∀ s h, I n s h → ex_ d k pc (L n s) [] h Q) : ∀ {i : Nat} {s : σ} {h : am_H}, i ≤ n → I i s h → ex_ d k pc (L i s) [] h Q := by
  have : ∀ m i s h, i + m = n → I i s h → ex_ d k pc (L i s) [] h Q := by
    intro m
    induction m with
    | zero =>
      intro i s h hi hI
      have : i = n := by omega
      subst this
      exact en s h hI
    | succ m ih =>
      intro i s h hi hI
      exact st i s h (by omega) hI (fun s' h' hI' => ih (i + 1) s' h' (by omega) hI')
  intro i s h hi hI
  exact this (n - i) i s h (by omega) hI
/-- a loop of any measure -/
theorem lp_wf {d k pc : Nat} {Q : Option am_V → am_H → Prop} {σ : Type} (μ : σ → Nat) (L : σ → am_L) (I : σ → am_H → Prop) (st : ∀ s h, I s h → (∀ s' h', μ s' < μ s → I s' h' → ex_ d k pc (L s') [] h' Q) → ex_ d k pc (L s) [] h Q) : ∀ {s : σ} {h : am_H}, I s h → ex_ d k pc (L s) [] h Q := by
  have : ∀ m s h, μ s < m → I s h → ex_ d k pc (L s) [] h Q := by
    intro m
    induction m with
    | zero => intro s h hm; omega
    | succ m ih =>
      intro s h hm hI
      exact st s h hI (fun s' h' hs hI' => ih s' h' (by omega) hI')
  intro s h hI
  exact this (μ s + 1) s h (by omega) hI
/-! ===== what a call leaves alone ===== -/
/-- ints of the slots P alone may have changed -/
def am_fr (h h' : am_H) (P : Nat → Nat → Prop) : Prop := h'.1 = h.1 ∧ h'.2.1 = h.2.1 ∧ h'.2.2.2 = h.2.2.2 ∧ ∀ a k, ¬ P a k → h_i h' a k = h_i h a k
theorem am_fr.rf {h : am_H} {P : Nat → Nat → Prop} : am_fr h h P := ⟨rfl, rfl, rfl, fun _ _ _ => rfl⟩
theorem am_fr.tr {h h1 h2 : am_H} {P : Nat → Nat → Prop} (a : am_fr h h1 P) (b : am_fr h1 h2 P) : am_fr h h2 P := ⟨b.1.trans a.1, b.2.1.trans a.2.1, b.2.2.1.trans a.2.2.1, fun q k hq => (b.2.2.2 q k hq).trans (a.2.2.2 q k hq)⟩
theorem am_fr.le {h h1 : am_H} {P P' : Nat → Nat → Prop} (a : am_fr h h1 P) (hp : ∀ q k, P q k → P' q k) : am_fr h h1 P' := ⟨a.1, a.2.1, a.2.2.1, fun q k hq => a.2.2.2 q k (fun z => hq (hp q k z))⟩
theorem h_i_pa {h : am_H} {o a : Nat} {f : Nat → Int32} : h_i (p_a h o f) a = if a = o then f else h_i h a := rfl
theorem h_i_pi {h : am_H} {o k a : Nat} {v : Int32} : h_i (p_i h o k v) a = if a = o then am_up (h_i h o) k v else h_i h a := rfl
theorem am_up_s {α : Type} {f : Nat → α} {k : Nat} {v : α} : am_up f k v k = v := if_pos rfl
theorem am_up_n {α : Type} {f : Nat → α} {k j : Nat} {v : α} (h : j ≠ k) : am_up f k v j = f j := if_neg h
theorem hi_s {h : am_H} {o k : Nat} {v : Int32} : h_i (p_i h o k v) o k = v := by rw [h_i_pi, if_pos rfl, am_up_s]
theorem hi_o {h : am_H} {o k a j : Nat} {v : Int32} (ha : ¬ a = o) : h_i (p_i h o k v) a j = h_i h a j := by rw [h_i_pi, if_neg ha]
theorem hi_k {h : am_H} {o k a j : Nat} {v : Int32} (hk : ¬ j = k) : h_i (p_i h o k v) a j = h_i h a j := by
  rw [h_i_pi]
  split
  · rename_i e
    rw [am_up_n hk, e]
  · rfl
theorem hi_if {h : am_H} {o k a j : Nat} {v : Int32} : h_i (p_i h o k v) a j = if a = o ∧ j = k then v else h_i h a j := by
  by_cases e : a = o
  · by_cases e2 : j = k
    · rw [if_pos ⟨e, e2⟩, e, e2, hi_s]
    · rw [if_neg (fun z => e2 z.2), hi_k e2]
  · rw [if_neg (fun z => e z.1), hi_o e]
theorem hi_pas {h : am_H} {o : Nat} {f : Nat → Int32} : h_i (p_a h o f) o = f := by rw [h_i_pa, if_pos rfl]
theorem hi_pao {h : am_H} {o a : Nat} {f : Nat → Int32} (ha : ¬ a = o) : h_i (p_a h o f) a = h_i h a := by rw [h_i_pa, if_neg ha]
theorem hr_pi {h : am_H} {o k : Nat} {v : Int32} : h_r (p_i h o k v) = h_r h := rfl
theorem hj_pi {h : am_H} {o k : Nat} {v : Int32} : h_j (p_i h o k v) = h_j h := rfl
theorem hn_pi {h : am_H} {o k : Nat} {v : Int32} : h_n (p_i h o k v) = h_n h := rfl
theorem hr_pa {h : am_H} {o : Nat} {f : Nat → Int32} : h_r (p_a h o f) = h_r h := rfl
theorem hj_pa {h : am_H} {o : Nat} {f : Nat → Int32} : h_j (p_a h o f) = h_j h := rfl
theorem am_fr_pi {h : am_H} {o k : Nat} {v : Int32} {P : Nat → Nat → Prop} (hp : P o k) : am_fr h (p_i h o k v) P := ⟨rfl, rfl, rfl, fun a j ha => by
  rw [hi_if, if_neg (fun e => ha (by rw [e.1, e.2]; exact hp))]⟩
theorem am_fr_pa {h : am_H} {o : Nat} {f : Nat → Int32} {P : Nat → Nat → Prop} (hp : ∀ k, P o k) : am_fr h (p_a h o f) P := ⟨rfl, rfl, rfl, fun a j ha => by rw [h_i_pa, if_neg (show ¬ a = o from fun e => ha (by rw [e]; exact hp j))]⟩
theorem am_fr.pi {h h1 : am_H} {o k : Nat} {v : Int32} {P : Nat → Nat → Prop} (a : am_fr h h1 P) (hp : P o k) : am_fr h (p_i h1 o k v) P := a.tr (am_fr_pi hp)
theorem am_fr.r {h h' : am_H} {P : Nat → Nat → Prop} (a : am_fr h h' P) : h_r h' = h_r h := by
  funext o
  show h'.2.2.2.2.1 o = h.2.2.2.2.1 o
  rw [a.2.2.1]
theorem am_fr.j {h h' : am_H} {P : Nat → Nat → Prop} (a : am_fr h h' P) : h_j h' = h_j h := by
  funext o
  show h'.2.2.2.1 o = h.2.2.2.1 o
  rw [a.2.2.1]
theorem am_fr.x {h h' : am_H} {P : Nat → Nat → Prop} (a : am_fr h h' P) : h_x h' = h_x h := by
  show h'.2.2.2.2.2 = h.2.2.2.2.2
  rw [a.2.2.1]
theorem am_fr.i {h h' : am_H} {P : Nat → Nat → Prop} (a : am_fr h h' P) {o k : Nat} (hp : ¬ P o k) : h_i h' o k = h_i h o k := a.2.2.2 o k hp
theorem am_fr.n {h h' : am_H} {P : Nat → Nat → Prop} (a : am_fr h h' P) : h_n h' = h_n h := congrArg Prod.fst a.1
theorem am_fr.lay {h h' : am_H} {P : Nat → Nat → Prop} (a : am_fr h h' P) (L : Lay h) : Lay h' := by
  refine ⟨?_, ?_, ?_⟩
  · rw [a.n]
    exact L.1
  · rw [a.2.1]
    exact L.2.1
  · intro q hq
    rw [a.r]
    exact L.2.2 q hq
theorem am_fr.c {h h' : am_H} {P : Nat → Nat → Prop} (a : am_fr h h' P) {o k n : Nat} (c : y_c h o k n) : y_c h' o k n := by
  obtain ⟨c1, c2, c3⟩ := c
  refine ⟨by rw [a.n]; exact c1, ?_, ?_⟩
  · show (h'.2.1 o).1 = k
    rw [a.2.1]
    exact c2
  · show (h'.2.1 o).2 = n
    rw [a.2.1]
    exact c3
theorem am_fr.facts {h h' : am_H} {P : Nat → Nat → Prop} (a : am_fr h h' P) {o : Nat} (F : y_Facts h o) : y_Facts h' o := ⟨fun k t hk => a.c (F.1 k hk), fun q hq => by rw [a.r]; exact F.2 q hq⟩
theorem am_fr.orders {h h' : am_H} {P : Nat → Nat → Prop} (a : am_fr h h' P) {o : Nat} (F : y_Orders h o) : y_Orders h' o := ⟨fun k t hk => a.c (F.1 k hk), fun q hq => by rw [a.r]; exact F.2 q hq⟩
theorem am_fr.house {h h' : am_H} {P : Nat → Nat → Prop} (a : am_fr h h' P) {o : Nat} (F : y_House h o) : y_House h' o := ⟨fun k t hk => a.c (F.1 k hk), fun q hq => by rw [a.r]; exact F.2 q hq⟩
theorem am_fr.tray {h h' : am_H} {P : Nat → Nat → Prop} (a : am_fr h h' P) {o : Nat} (F : y_Tray h o) : y_Tray h' o := ⟨fun k t hk => a.c (F.1 k hk), fun q hq => by rw [a.r]; exact F.2 q hq⟩
theorem am_tl (v : am_V) (S : List am_V) : (some v : Option am_V).toList ++ S = v :: S := rfl
theorem am_t0 (v : am_V) : (some v : Option am_V).toList = [v] := rfl
theorem am_n0 : (none : Option am_V).toList = [] := rfl
theorem am_tn (S : List am_V) : (none : Option am_V).toList ++ S = S := rfl
/-! ===== a row in a cell ===== -/
def ro (h : am_H) (a b : Nat) (l : List Nat) : Prop := ∀ k, k < l.length → h_i h a (b + k) = nI (l.getD k 0)
theorem am_fr.ro {h h' : am_H} {P : Nat → Nat → Prop} (f : am_fr h h' P) {a b : Nat} {l : List Nat} (r : ro h a b l) (hp : ∀ k, k < l.length → ¬ P a (b + k)) : ro h' a b l := fun k hk => by rw [f.i (hp k hk), r k hk]
theorem nd_len {n : Nat} {l : List Nat} (h : l.Nodup) (hl : ∀ x ∈ l, x < n) : l.length ≤ n := by
  have : l.Sublist l := List.Sublist.refl l
  clear this
  induction n generalizing l with
  | zero =>
    cases l with
    | nil => exact Nat.le_refl _
    | cons a l => exact absurd (hl a List.mem_cons_self) (Nat.not_lt_zero _)
  | succ n ih =>
    have h1 : (l.erase n).Nodup := h.erase n
    have h2 := ih h1 (fun x hx => by
      have hx1 := List.mem_of_mem_erase hx
      have := hl x hx1
      have hne : x ≠ n := fun e => by
        subst e
        exact (List.Nodup.not_mem_erase h) hx
      omega)
    have h3 : l.length ≤ (l.erase n).length + 1 := by
      by_cases hm : n ∈ l
      · rw [List.length_erase_of_mem hm]
        omega
      · rw [List.erase_of_not_mem hm]
        omega
    omega
