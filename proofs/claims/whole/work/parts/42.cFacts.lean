/-! ===== the class's Facts ===== -/
/-- n classes, the mood, each class's row of parents, what it defines: what stands in the cells o, o + 1, o + 2, o + 3 -/
abbrev fa_S : Type := Nat × Int32 × (Nat → List Nat) × (Nat → Nat → Int32)
abbrev f_n (f : fa_S) : Nat := f.1
abbrev f_m (f : fa_S) : Int32 := f.2.1
abbrev f_p (f : fa_S) (c : Nat) : List Nat := f.2.2.1 c
abbrev f_d (f : fa_S) (c m : Nat) : Int32 := f.2.2.2 c m
def fa_ok (f : fa_S) : Prop := f_n f ≤ 10 ∧ ∀ c, (f_p f c).length ≤ 4 ∧ (∀ p ∈ f_p f c, p < c) ∧ (f_p f c).Nodup ∧ (10 ≤ c → f_p f c = [])
def fa_at (h : am_H) (o : Nat) (f : fa_S) : Prop := y_Facts h o ∧ h_i h o 0 = nI (f_n f) ∧ h_i h o 1 = f_m f ∧ (∀ c, c < 10 → h_i h (o + 1) c = nI (f_p f c).length) ∧ (∀ c, c < 10 → ro h (o + 2) (4 * c) (f_p f c)) ∧ (∀ c m, c < 10 → m < 8 → h_i h (o + 3) (8 * c + m) = f_d f c m)
/-- the frame of a Facts -/
def fa_P (o a k : Nat) : Prop := (a = o ∧ k < 2) ∨ (o < a ∧ a < o + 4)
theorem am_fr.fa {h h' : am_H} {P : Nat → Nat → Prop} (a : am_fr h h' P) {o : Nat} {f : fa_S} (F : fa_at h o f) (hp : ∀ q k, o ≤ q → q < o + 4 → ¬ P q k) : fa_at h' o f := by
  obtain ⟨F0, F1, F2, F3, F4, F5⟩ := F
  refine ⟨a.facts F0, ?_, ?_, ?_, ?_, ?_⟩
  · rw [a.i (hp _ _ (by omega) (by omega)), F1]
  · rw [a.i (hp _ _ (by omega) (by omega)), F2]
  · intro c hc
    rw [a.i (hp _ _ (by omega) (by omega)), F3 c hc]
  · intro c hc
    exact a.ro (F4 c hc) (fun k _ => hp _ _ (by omega) (by omega))
  · intro c m hc hm
    rw [a.i (hp _ _ (by omega) (by omega)), F5 c m hc hm]
/-- does a class stand in the house -/
abbrev fa_has (n : Nat) (c : Int32) : Prop := ¬ c < 0 ∧ c < nI n
theorem fa_has_iff {n : Nat} {c : Int32} (hn : n ≤ 10) : fa_has n c ↔ ∃ k, k < n ∧ c = nI k := by
  constructor
  · rintro ⟨h1, h2⟩
    obtain ⟨j, hj, rfl⟩ := nI_of h1
    exact ⟨j, (nI_ltI hj (by omega)).1 h2, rfl⟩
  · rintro ⟨k, hk, rfl⟩
    exact ⟨nI_pos (by omega), (nI_ltI (by omega) (by omega)).2 hk⟩
theorem c_hasClass {d : Nat} {Q : Option am_V → am_H → Prop} {h : am_H} {o : Nat} {c : Int32} {f : fa_S} (ok : fa_ok f) (F : fa_at h o f) : ex_ d 3 0 [some (v_r (some o)), some (v_i c)] [] h Q ↔ Q (some (v_i (if fa_has (f_n f) c then nI 1 else nI 0))) h := by
  have F0 := F.1
  have F1 := F.2.1
  have hn := ok.1
  by_cases h1 : c < 0
  · rw [if_neg (show ¬ fa_has _ c from fun z => z.1 h1), b_X1_hasClass_0, if_pos h1, b_X1_hasClass_22]
    rfl
  · obtain ⟨j, hj, rfl⟩ := nI_of h1
    by_cases h3 : j < f_n f
    · rw [if_pos (show fa_has (f_n f) (nI j) from ⟨h1, nI_lt h3 (by omega)⟩)]
      simp (disch := first | assumption | omega) only [b_X1_hasClass_0, b_X1_hasClass_22, b_X1_hasClass_4, b_X1_hasClass_12, b_X1_hasClass_18, i_lit, i_m1, i_31, il_t, il_f, iq_t, iq_f, it_t, it_f, im_e, im_l, im_g, im_g2, nI_add, pk_mul, i_sub, i_dec, i_cl, iv_t, bI_or, bI_t0, bI_one, not_true_eq_false, not_false_eq_true, ↓reduceIte, am_tl, am_tn, am_t0, am_n0, and_true, true_and, List.cons_append, List.nil_append, List.append_nil, F1]
    · rw [if_neg (show ¬ fa_has (f_n f) (nI j) from fun z => h3 ((nI_ltI hj (by omega)).1 z.2))]
      simp (disch := first | assumption | omega) only [b_X1_hasClass_0, b_X1_hasClass_22, b_X1_hasClass_4, b_X1_hasClass_12, b_X1_hasClass_18, i_lit, i_m1, i_31, il_t, il_f, iq_t, iq_f, it_t, it_f, im_e, im_l, im_g, im_g2, nI_add, pk_mul, i_sub, i_dec, i_cl, iv_t, bI_or, bI_t0, bI_one, not_true_eq_false, not_false_eq_true, ↓reduceIte, am_tl, am_tn, am_t0, am_n0, and_true, true_and, List.cons_append, List.nil_append, List.append_nil, F1]
/-- parentCount: of a class number the length of its row -/
theorem c_parentCount {d : Nat} {Q : Option am_V → am_H → Prop} {h : am_H} {o : Nat} {f : fa_S} (F : fa_at h o f) {c : Nat} (hc : c < 10) : ex_ d 4 0 [some (v_r (some o)), some (v_i (nI c))] [] h Q ↔ Q (some (v_i (nI (f_p f c).length))) h := by
  have F0 := F.1
  have F3 := F.2.2.2.1 c hc
  simp (disch := first | assumption | omega) only [b_X1_parentCount_0, b_X1_parentCount_19, b_X1_parentCount_4, b_X1_parentCount_10, i_lit, i_m1, i_31, il_t, il_f, iq_t, iq_f, it_t, it_f, im_e, im_l, im_g, im_g2, nI_add, pk_mul, i_sub, i_dec, i_cl, iv_t, bI_or, bI_t0, bI_one, not_true_eq_false, not_false_eq_true, ↓reduceIte, am_tl, am_tn, am_t0, am_n0, and_true, true_and, List.cons_append, List.nil_append, List.append_nil, F3, true_and]
/-- parentAt: the parent in a place -/
theorem c_parentAt {d : Nat} {Q : Option am_V → am_H → Prop} {h : am_H} {o : Nat} {f : fa_S} (ok : fa_ok f) (F : fa_at h o f) {c k : Nat} (hc : c < 10) (hk : k < (f_p f c).length) : ex_ (d + 1) 5 0 [some (v_r (some o)), some (v_i (nI c)), some (v_i (nI k))] [] h Q ↔ Q (some (v_i (nI ((f_p f c).getD k 0)))) h := by
  have h4 := (ok.2 c).1
  have F0 := F.1
  have F3 := F.2.2.2.2.1 c hc k hk
  simp (disch := first | assumption | omega) only [b_X1_parentAt_0, b_X1_parentAt_31, b_X1_parentAt_4, b_X1_parentAt_10, b_X1_parentAt_13, b_X1_parentAt_18, i_lit, i_m1, i_31, il_t, il_f, iq_t, iq_f, it_t, it_f, im_e, im_l, im_g, im_g2, nI_add, pk_mul, i_sub, i_dec, i_cl, iv_t, bI_or, bI_t0, bI_one, not_true_eq_false, not_false_eq_true, ↓reduceIte, am_tl, am_tn, am_t0, am_n0, and_true, true_and, List.cons_append, List.nil_append, List.append_nil, c_parentCount F hc, true_and]
  rw [show c * 4 + k = 4 * c + k from by omega, F3]
/-- parentAt: behind the row's end there is none -/
theorem c_parentAt_none {d : Nat} {Q : Option am_V → am_H → Prop} {h : am_H} {o : Nat} {f : fa_S} (F : fa_at h o f) {c : Nat} {x : Int32} (hc : c < 10) (hx : x < 0 ∨ nI (f_p f c).length ≤ x) : ex_ (d + 1) 5 0 [some (v_r (some o)), some (v_i (nI c)), some (v_i x)] [] h Q ↔ Q (some (v_i mI)) h := by
  have F0 := F.1
  by_cases h0 : x < 0
  · rw [b_X1_parentAt_0, if_pos h0, b_X1_parentAt_31]
    rfl
  · have h1 : nI (f_p f c).length ≤ x := by rcases hx with z | z; exact absurd z h0; exact z
    rw [b_X1_parentAt_0, if_neg h0, b_X1_parentAt_4 h _ o _ F0, c_parentCount F hc, am_tl, b_X1_parentAt_10, if_pos h1, b_X1_parentAt_31]
    rfl
theorem c_hasClass_y {d : Nat} {Q : Option am_V → am_H → Prop} {h : am_H} {o : Nat} {k : Nat} {f : fa_S} (ok : fa_ok f) (F : fa_at h o f) (hk : k < f_n f) : ex_ d 3 0 [some (v_r (some o)), some (v_i (nI k))] [] h Q ↔ Q (some (v_i (nI 1))) h := by
  rw [c_hasClass ok F, if_pos ((fa_has_iff ok.1).2 ⟨k, hk, rfl⟩)]
theorem c_hasClass_n {d : Nat} {Q : Option am_V → am_H → Prop} {h : am_H} {o : Nat} {c : Int32} {f : fa_S} (ok : fa_ok f) (F : fa_at h o f) (hc : ¬ fa_has (f_n f) c) : ex_ d 3 0 [some (v_r (some o)), some (v_i c)] [] h Q ↔ Q (some (v_i (nI 0))) h := by
  rw [c_hasClass ok F, if_neg hc]
theorem fa_cs {n : Nat} (hn : n ≤ 10) (c : Int32) : (∃ k, k < n ∧ c = nI k) ∨ ¬ fa_has n c := by
  by_cases h : fa_has n c
  · exact Or.inl ((fa_has_iff hn).1 h)
  · exact Or.inr h
/-- the first i below n, from k on, with p -/
def fi (p : Nat → Bool) (n : Nat) (k : Nat) : Option Nat := if k < n then (if p k then some k else fi p n (k + 1)) else none
termination_by n - k
theorem fi_end {p : Nat → Bool} {n k : Nat} (h : n ≤ k) : fi p n k = none := by rw [fi, if_neg (by omega)]
theorem fi_yes {p : Nat → Bool} {n k : Nat} (h : k < n) (hp : p k = true) : fi p n k = some k := by rw [fi, if_pos h, if_pos hp]
theorem fi_no {p : Nat → Bool} {n k : Nat} (hp : p k = false) : fi p n k = fi p n (k + 1) := by
  by_cases h : k < n
  · rw [fi, if_pos h, if_neg (by rw [hp]; decide)]
  · rw [fi_end (by omega), fi_end (by omega)]
theorem fi_spec {p : Nat → Bool} {n : Nat} : ∀ m k, k + m = n → (∃ j, fi p n k = some j ∧ k ≤ j ∧ j < n ∧ p j = true ∧ ∀ i, k ≤ i → i < j → p i = false) ∨ (fi p n k = none ∧ ∀ i, k ≤ i → i < n → p i = false) := by
  intro m
  induction m with
  | zero => intro k hk; exact Or.inr ⟨fi_end (by omega), fun i h1 h2 => by omega⟩
  | succ m ih =>
    intro k hk
    cases hp : p k with
    | true => exact Or.inl ⟨k, fi_yes (by omega) hp, by omega, by omega, hp, fun i h1 h2 => by omega⟩
    | false =>
      rw [fi_no hp]
      rcases ih (k + 1) (by omega) with ⟨j, e, h1, h2, h3, h4⟩ | ⟨e, h1⟩
      · refine Or.inl ⟨j, e, by omega, h2, h3, fun i hi hj => ?_⟩
        by_cases q : i = k
        · rw [q]; exact hp
        · exact h4 i (by omega) hj
      · refine Or.inr ⟨e, fun i hi hj => ?_⟩
        by_cases q : i = k
        · rw [q]; exact hp
        · exact h1 i (by omega) hj
theorem fi_sp (p : Nat → Bool) (n : Nat) : (∃ j, fi p n 0 = some j ∧ j < n ∧ p j = true ∧ ∀ i, i < j → p i = false) ∨ (fi p n 0 = none ∧ ∀ i, i < n → p i = false) := by
  rcases fi_spec (p := p) (n := n) n 0 (by omega) with ⟨j, e, -, h2, h3, h4⟩ | ⟨e, h⟩
  · exact Or.inl ⟨j, e, h2, h3, fun i hi => h4 i (Nat.zero_le _) hi⟩
  · exact Or.inr ⟨e, fun i hi => h i (Nat.zero_le _) hi⟩
theorem fi_cong {p q : Nat → Bool} {n : Nat} (h : ∀ i, i < n → p i = q i) : fi p n 0 = fi q n 0 := by
  rcases fi_sp p n with ⟨j, e, h1, h2, h3⟩ | ⟨e, h1⟩
  · rcases fi_sp q n with ⟨k, e2, h4, h5, h6⟩ | ⟨e2, h4⟩
    · rw [e, e2]
      rcases Nat.lt_trichotomy j k with z | z | z
      · have := h6 j z
        rw [← h j h1, h2] at this
        cases this
      · rw [z]
      · have := h3 k z
        rw [h k h4, h5] at this
        cases this
    · have := h4 j h1
      rw [← h j h1, h2] at this
      cases this
  · rcases fi_sp q n with ⟨k, e2, h4, h5, h6⟩ | ⟨e2, h4⟩
    · have := h1 k h4
      rw [h k h4, h5] at this
      cases this
    · rw [e, e2]
/-- a place, or -1 -/
def oI : Option Nat → Int32
  | none => mI
  | some k => nI k
/-- the place of q in a row -/
def pl (l : List Nat) (q : Nat) : Option Nat := fi (fun k => l.getD k 0 == q) l.length 0
theorem pl_y {l : List Nat} {q i : Nat} (h : i < l.length) (e : l.getD i 0 = q) : fi (fun k => l.getD k 0 == q) l.length i = some i := fi_yes (p := fun k => l.getD k 0 == q) h (beq_iff_eq.2 e)
theorem pl_x {l : List Nat} {q i : Nat} (e : ¬ l.getD i 0 = q) : fi (fun k => l.getD k 0 == q) l.length i = fi (fun k => l.getD k 0 == q) l.length (i + 1) := fi_no (p := fun k => l.getD k 0 == q) (beq_eq_false_iff_ne.2 e)
theorem gd_mem {l : List Nat} {k : Nat} (h : k < l.length) : l.getD k 0 ∈ l := by
  rw [List.getD_eq_getElem?_getD, List.getElem?_eq_getElem h]
  exact List.getElem_mem h
theorem gd_ex {l : List Nat} {x : Nat} (h : x ∈ l) : ∃ k, k < l.length ∧ l.getD k 0 = x := by
  obtain ⟨k, hk, e⟩ := List.getElem_of_mem h
  exact ⟨k, hk, by rw [List.getD_eq_getElem?_getD, List.getElem?_eq_getElem hk]; exact e⟩
theorem pl_none {l : List Nat} {q : Nat} : pl l q = none ↔ ¬ q ∈ l := by
  rcases fi_sp (fun k => l.getD k 0 == q) l.length with ⟨j, e, h1, h2, h3⟩ | ⟨e, h1⟩
  · rw [pl, e]
    refine ⟨fun z => (by cases z), fun z => absurd ?_ z⟩
    rw [← (beq_iff_eq.1 h2)]
    exact gd_mem h1
  · rw [pl, e]
    refine ⟨fun _ hm => ?_, fun _ => rfl⟩
    obtain ⟨k, hk, ek⟩ := gd_ex hm
    have := h1 k hk
    rw [ek] at this
    simp at this
theorem pl_some {l : List Nat} {q k : Nat} (h : pl l q = some k) : k < l.length ∧ l.getD k 0 = q := by
  rcases fi_sp (fun k => l.getD k 0 == q) l.length with ⟨j, e, h1, h2, h3⟩ | ⟨e, h1⟩
  · rw [pl, e] at h
    cases h
    exact ⟨h1, beq_iff_eq.1 h2⟩
  · rw [pl, e] at h
    cases h
theorem fa_lt10 {f : fa_S} (ok : fa_ok f) {c k : Nat} (hk : k < (f_p f c).length) : (f_p f c).getD k 0 < 10 := by
  have h1 := (ok.2 c).2.1 _ (gd_mem hk)
  rcases Nat.lt_or_ge c 10 with z | z
  · omega
  · rw [(ok.2 c).2.2.2 z] at hk
    exact absurd hk (Nat.not_lt_zero _)
theorem c_parentPlace {d : Nat} {Q : Option am_V → am_H → Prop} {h : am_H} {o : Nat} {f : fa_S} (ok : fa_ok f) (F : fa_at h o f) {c p : Nat} (hc : c < 10) (hp : p < 2147483648) {l3 : Option am_V} : ex_ (d + 2) 29 0 [some (v_r (some o)), some (v_i (nI c)), some (v_i (nI p)), l3] [] h Q ↔ Q (some (v_i (oI (pl (f_p f c) p)))) h := by
  have h4 := (ok.2 c).1
  have F0 := F.1
  apply ex_iff
  rw [b_X1_parentPlace_0]
  refine lp_up (f_p f c).length (fun i (_ : Unit) => [some (v_r (some o)), some (v_i (nI c)), some (v_i (nI p)), some (v_i (nI i))]) (fun i _ h' => h' = h ∧ fi (fun k => (f_p f c).getD k 0 == p) (f_p f c).length i = pl (f_p f c) p) ?_ ?_ (Nat.zero_le _) ⟨rfl, rfl⟩ (s := ())
  · rintro i - h' hi ⟨rfl, e⟩ nx
    have hl := fa_lt10 ok hi
    rw [b_X1_parentPlace_2 _ _ o _ _ F0]
    by_cases he : (f_p f c).getD i 0 = p
    · rw [pl_y hi he] at e
      simp (disch := first | assumption | omega) only [b_X1_parentPlace_0, b_X1_parentPlace_8, b_X1_parentPlace_29, b_X1_parentPlace_11, b_X1_parentPlace_17, b_X1_parentPlace_23, b_X1_parentPlace_21, i_lit, i_m1, i_31, il_t, il_f, iq_t, iq_f, it_t, it_f, im_e, im_l, im_g, im_g2, nI_add, pk_mul, i_sub, i_dec, i_cl, iv_t, bI_or, bI_t0, bI_one, not_true_eq_false, not_false_eq_true, ↓reduceIte, am_tl, am_tn, am_t0, am_n0, and_true, true_and, List.cons_append, List.nil_append, List.append_nil, c_parentCount F hc, c_parentAt ok F hc hi]
      rw [← e]
      rfl
    · rw [pl_x he] at e
      simp (disch := first | assumption | omega) only [b_X1_parentPlace_0, b_X1_parentPlace_8, b_X1_parentPlace_29, b_X1_parentPlace_11, b_X1_parentPlace_17, b_X1_parentPlace_23, b_X1_parentPlace_21, i_lit, i_m1, i_31, il_t, il_f, iq_t, iq_f, it_t, it_f, im_e, im_l, im_g, im_g2, nI_add, pk_mul, i_sub, i_dec, i_cl, iv_t, bI_or, bI_t0, bI_one, not_true_eq_false, not_false_eq_true, ↓reduceIte, am_tl, am_tn, am_t0, am_n0, and_true, true_and, List.cons_append, List.nil_append, List.append_nil, c_parentCount F hc, c_parentAt ok F hc hi]
      exact nx () _ ⟨rfl, e⟩
  · rintro - h' ⟨rfl, e⟩
    rw [fi_end (by omega)] at e
    rw [b_X1_parentPlace_2 _ _ o _ _ F0]
    simp (disch := first | assumption | omega) only [b_X1_parentPlace_0, b_X1_parentPlace_8, b_X1_parentPlace_29, b_X1_parentPlace_11, b_X1_parentPlace_17, b_X1_parentPlace_23, b_X1_parentPlace_21, i_lit, i_m1, i_31, il_t, il_f, iq_t, iq_f, it_t, it_f, im_e, im_l, im_g, im_g2, nI_add, pk_mul, i_sub, i_dec, i_cl, iv_t, bI_or, bI_t0, bI_one, not_true_eq_false, not_false_eq_true, ↓reduceIte, am_tl, am_tn, am_t0, am_n0, and_true, true_and, List.cons_append, List.nil_append, List.append_nil, c_parentCount F hc]
    rw [← e]
    rfl
