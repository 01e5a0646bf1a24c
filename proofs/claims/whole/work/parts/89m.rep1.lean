/-! ===== repairs: two searches, one answer ===== -/
def ss (f : fa_S) : Nat → Nat → List Nat → Option (List Nat)
  | 0, _, ks => if wh f ks = true then some ks else none
  | j + 1, b, ks => if 0 < b then (match ss f j (b - 1) (ks ++ [f_lk f - (j + 1)]) with
    | some r => some r
    | none => ss f j b ks) else ss f j b ks
def sx (f : fa_S) : Nat → Nat → List Nat → Option (List Nat)
  | 0, m, ks => if m = 0 ∧ wh f ks = true then some ks else none
  | j + 1, m, ks => if 0 < m then (match sx f j (m - 1) (ks ++ [f_lk f - (j + 1)]) with
    | some r => some r
    | none => sx f j m ks) else sx f j m ks
theorem ss_sx {f : fa_S} : ∀ j {b : Nat} {ks : List Nat}, (b = 0 ∨ ss f j (b - 1) ks = none) → ss f j b ks = sx f j b ks := by
  intro j
  induction j with
  | zero =>
    intro b ks h
    rw [ss, sx]
    by_cases z : b = 0
    · subst z
      by_cases w : wh f ks = true
      · rw [if_pos w, if_pos ⟨rfl, w⟩]
      · rw [if_neg w, if_neg (fun y => w y.2)]
    · rcases h with h | h
      · exact absurd h z
      · rw [ss] at h
        have w : ¬ wh f ks = true := fun w => by rw [if_pos w] at h; cases h
        rw [if_neg w, if_neg (fun y => w y.2)]
  | succ j ih =>
    intro b ks h
    rw [ss, sx]
    by_cases z : b = 0
    · subst z
      rw [if_neg (Nat.not_lt_zero _), if_neg (Nat.not_lt_zero _)]
      exact ih (Or.inl rfl)
    · have b0 : 0 < b := by omega
      rcases h with h | h
      · exact absurd h z
      · rw [ss] at h
        have h2 : (b - 1 = 0 ∨ ss f j (b - 1 - 1) (ks ++ [f_lk f - (j + 1)]) = none) ∧ ss f j (b - 1) ks = none := by
          by_cases y : b - 1 = 0
          · rw [y, if_neg (Nat.not_lt_zero _)] at h
            rw [y]
            exact ⟨Or.inl rfl, h⟩
          · rw [if_pos (by omega)] at h
            cases w : ss f j (b - 1 - 1) (ks ++ [f_lk f - (j + 1)]) with
            | some r => rw [w] at h; cases h
            | none => rw [w] at h; exact ⟨Or.inr rfl, h⟩
        rw [if_pos b0, if_pos b0, ih h2.1, ih (Or.inr h2.2)]
theorem sx_0 {f : fa_S} : ∀ j {ks : List Nat}, sx f j 0 ks = if wh f ks = true then some ks else none := by
  intro j
  induction j with
  | zero =>
    intro ks
    rw [sx]
    by_cases w : wh f ks = true
    · rw [if_pos w, if_pos ⟨rfl, w⟩]
    · rw [if_neg w, if_neg (fun y => w y.2)]
  | succ j ih =>
    intro ks
    rw [sx, if_neg (Nat.not_lt_zero _), ih]
theorem fo_s {α : Type} {g : Nat → Option α} {n k : Nat} {x : α} (h : k < n) (e : g k = some x) : fo g n k = some x := by rw [fo, if_pos h, e]
theorem fo_n {α : Type} {g : Nat → Option α} {n k : Nat} (h : k < n) (e : g k = none) : fo g n k = fo g n (k + 1) := by rw [fo, if_pos h, e]
theorem fo_e {α : Type} {g : Nat → Option α} {n k : Nat} (h : n ≤ k) : fo g n k = none := by rw [fo, if_neg (by omega)]
theorem sx_none {f : fa_S} {m : Nat} {ks : List Nat} : sx f 0 (m + 1) ks = none := by rw [sx, if_neg (fun y => absurd y.1 (by omega))]
theorem rbs_sx {f : fa_S} : ∀ m j {a : Nat} {ks : List Nat}, a + j = f_lk f → rbs f m a ks = sx f j m ks := by
  intro m
  induction m with
  | zero =>
    intro j a ks _
    rw [rbs, sx_0]
  | succ m ih =>
    intro j
    induction j with
    | zero =>
      intro a ks h
      rw [rbs, fo_e (by omega), sx_none]
    | succ j ihj =>
      intro a ks h
      have ea : f_lk f - (j + 1) = a := by omega
      have i1 := ih j (a := a + 1) (ks := ks ++ [a]) (by omega)
      have i2 := ihj (a := a + 1) (ks := ks) (by omega)
      rw [rbs] at i2
      rw [rbs, sx, if_pos (by omega), ea, Nat.add_sub_cancel, ← i1, ← i2]
      cases w : rbs f m (a + 1) (ks ++ [a]) with
      | some r => rw [fo_s (by omega) w]
      | none => rw [fo_n (by omega) w]
/-- the least that mends -/
theorem rpl_of {f : fa_S} {b : Nat} (hb : b ≤ 3) {r : List Nat} (hl : ∀ b', b' < b → ss f (f_lk f) b' [] = none) (h : ss f (f_lk f) b [] = some r) : rpl f = some r := by
  have key : ∀ b', (∀ c, c < b' → ss f (f_lk f) c [] = none) → rbs f b' 0 [] = ss f (f_lk f) b' [] := fun b' hc => by
    rw [rbs_sx b' (f_lk f) (by omega), ss_sx]
    by_cases z : b' = 0
    · exact Or.inl z
    · exact Or.inr (hc (b' - 1) (by omega))
  unfold rpl
  have go : ∀ j a, a + j = b → fo (fun m => rbs f m 0 []) 4 a = some r := by
    intro j
    induction j with
    | zero =>
      intro a ha
      have : a = b := by omega
      subst this
      exact fo_s (by omega) ((key a hl).trans h)
    | succ j ih =>
      intro a ha
      rw [fo_n (by omega) ((key a (fun c hc => hl c (by omega))).trans (hl a (by omega)))]
      exact ih (a + 1) (by omega)
  exact go b 0 (by omega)
theorem rpl_no {f : fa_S} (hl : ∀ b', b' < 4 → ss f (f_lk f) b' [] = none) : rpl f = none := by
  have key : ∀ b', b' < 4 → rbs f b' 0 [] = none := fun b' hb => by
    rw [rbs_sx b' (f_lk f) (by omega), ← ss_sx]
    · exact hl b' hb
    · by_cases z : b' = 0
      · exact Or.inl z
      · exact Or.inr (hl (b' - 1) (by omega))
  unfold rpl
  rw [fo_n (g := fun m => rbs f m 0 []) (by omega) (key 0 (by omega)), fo_n (g := fun m => rbs f m 0 []) (by omega) (key 1 (by omega)), fo_n (g := fun m => rbs f m 0 []) (by omega) (key 2 (by omega)), fo_n (g := fun m => rbs f m 0 []) (by omega) (key 3 (by omega)), fo_e (by omega)]
/-! what a search finds -/
theorem ss_ext {f : fa_S} : ∀ j {b : Nat} {ks r : List Nat}, ss f j b ks = some r → j ≤ f_lk f → ∃ e, r = ks ++ e ∧ (∀ x ∈ e, f_lk f - j ≤ x ∧ x < f_lk f) ∧ e.Pairwise (fun x y => x < y) ∧ e.length ≤ b ∧ wh f r = true := by
  intro j
  induction j with
  | zero =>
    intro b ks r h _
    rw [ss] at h
    split at h
    · rename_i w
      cases h
      exact ⟨[], (List.append_nil _).symm, (fun x hx => by cases hx), List.Pairwise.nil, Nat.zero_le _, w⟩
    · cases h
  | succ j ih =>
    intro b ks r h hj
    rw [ss] at h
    have skip : ss f j b ks = some r → ∃ e, r = ks ++ e ∧ (∀ x ∈ e, f_lk f - (j + 1) ≤ x ∧ x < f_lk f) ∧ e.Pairwise (fun x y => x < y) ∧ e.length ≤ b ∧ wh f r = true := fun h => by
      obtain ⟨e, e1, e2, e3, e4, e5⟩ := ih h (by omega)
      exact ⟨e, e1, fun x hx => ⟨by have := (e2 x hx).1; omega, (e2 x hx).2⟩, e3, e4, e5⟩
    by_cases z : 0 < b
    · rw [if_pos z] at h
      split at h
      · rename_i r' w
        cases h
        obtain ⟨e, e1, e2, e3, e4, e5⟩ := ih w (by omega)
        refine ⟨(f_lk f - (j + 1)) :: e, by rw [e1, List.append_assoc]; rfl, fun x hx => ?_, List.pairwise_cons.2 ⟨fun x hx => by have := (e2 x hx).1; omega, e3⟩, by rw [List.length_cons]; omega, e5⟩
        rcases List.mem_cons.1 hx with rfl | hx
        · omega
        · have := e2 x hx
          omega
      · exact skip h
    · rw [if_neg z] at h
      exact skip h
theorem lo_s (f : fa_S) (c : Nat) : lo_at f (c + 1) = lo_at f c + (f_p f c).length := rfl
theorem lo_mono {f : fa_S} : ∀ {a b : Nat}, a ≤ b → lo_at f a ≤ lo_at f b := by
  intro a b h
  induction h with
  | refl => exact Nat.le_refl _
  | step _ ih => rw [lo_s]; omega
theorem lo_n (f : fa_S) : lo_at f (f_n f) = f_lk f := rfl
theorem lw_cong {l : List Nat} {P R : Nat → Bool} : ∀ {k : Nat}, (∀ i, i < k → P i = R i) → lw l P k = lw l R k := by
  intro k
  induction k with
  | zero => intro _; rfl
  | succ k ih =>
    intro h
    rw [lw, lw, ih (fun i hi => h i (by omega)), h k (by omega)]
theorem con_app {a e : List Nat} {x : Nat} (h : ¬ x ∈ e) : (a ++ e).contains x = a.contains x := by
  rw [List.contains_eq_mem, List.contains_eq_mem]
  exact decide_eq_decide.2 ⟨fun z => (List.mem_append.1 z).elim id (fun y => absurd y h), fun z => List.mem_append.2 (Or.inl z)⟩
theorem wo_ext {f : fa_S} {a e : List Nat} {c : Nat} (h : ∀ x ∈ e, lo_at f (c + 1) ≤ x) : wo_p f (a ++ e) c = wo_p f a c := by
  unfold wo_p
  refine lw_cong (fun i hi => con_app (fun z => ?_))
  have := h _ z
  rw [lo_s] at this
  omega
theorem od_cong {p q : Nat → List Nat} : ∀ n, (∀ x, x < n → p x = q x) → od p n = od q n := by
  intro n
  induction n with
  | zero => intro _; rfl
  | succ n ih =>
    intro h
    rw [od, od, ih (fun x hx => h x (by omega)), h n (by omega)]
theorem wo_od {f : fa_S} {a e : List Nat} {c : Nat} (h : ∀ x ∈ e, lo_at f c ≤ x) : od (wo_p f (a ++ e)) c = od (wo_p f a) c := od_cong c (fun x hx => wo_ext (fun y hy => Nat.le_trans (lo_mono (show x + 1 ≤ c by omega)) (h y hy)))
theorem lw_mem {l : List Nat} {P : Nat → Bool} : ∀ {k x : Nat}, k ≤ l.length → x ∈ lw l P k → x ∈ l := by
  intro k
  induction k with
  | zero => intro x _ h; cases h
  | succ k ih =>
    intro x hk h
    rw [lw] at h
    split at h
    · exact ih (by omega) h
    · rcases List.mem_append.1 h with h | h
      · exact ih (by omega) h
      · rw [List.mem_singleton.1 h]
        exact gd_mem (by omega)
theorem lw_tk {l : List Nat} {P : Nat → Bool} : ∀ {k x : Nat}, k ≤ l.length → x ∈ lw l P k → ∃ i, i < k ∧ l.getD i 0 = x := by
  intro k
  induction k with
  | zero => intro x _ h; cases h
  | succ k ih =>
    intro x hk h
    rw [lw] at h
    split at h
    · obtain ⟨i, hi, e⟩ := ih (by omega) h
      exact ⟨i, by omega, e⟩
    · rcases List.mem_append.1 h with h | h
      · obtain ⟨i, hi, e⟩ := ih (by omega) h
        exact ⟨i, by omega, e⟩
      · exact ⟨k, by omega, (List.mem_singleton.1 h).symm⟩
theorem lw_nd {l : List Nat} (nd : l.Nodup) {P : Nat → Bool} : ∀ {k : Nat}, k ≤ l.length → (lw l P k).Nodup := by
  intro k
  induction k with
  | zero => intro _; exact List.nodup_nil
  | succ k ih =>
    intro hk
    rw [lw]
    split
    · exact ih (by omega)
    · refine List.nodup_append.2 ⟨ih (by omega), by simp, fun x hx y hy e => ?_⟩
      rw [List.mem_singleton.1 hy] at e
      obtain ⟨i, hi, ei⟩ := lw_tk (by omega) hx
      exact nd_gd.1 nd i k hi (by omega) (ei.trans e)
theorem wo_ok {f : fa_S} (ok : fa_ok f) (ks : List Nat) : p_ok (wo_p f ks) := fun c => by
  refine ⟨Nat.le_trans (lw_len _ _ _) (ok.2 c).1, fun q hq => (ok.2 c).2.1 q (lw_mem (Nat.le_refl _) hq), lw_nd (ok.2 c).2.2.1 (Nat.le_refl _)⟩
theorem wh_iff {f : fa_S} {ks : List Nat} : wh f ks = true ↔ ∀ c, c < f_n f → (od (wo_p f ks) (f_n f) c).1 = 0 := by
  unfold wh
  rw [List.all_eq_true]
  constructor
  · intro h c hc
    exact beq_iff_eq.1 (h c (List.mem_range.2 hc))
  · intro h c hc
    exact beq_iff_eq.2 (h c (List.mem_range.1 hc))
/-! choices, class by class -/
def fdn {α : Type} (g : Nat → Option α) : Nat → Option α
  | 0 => none
  | n + 1 => match g n with
    | some x => some x
    | none => fdn g n
def oel {α : Type} (a b : Option α) : Option α := match a with
  | some x => some x
  | none => b
theorem fdn_add {α : Type} {g : Nat → Option α} {a : Nat} : ∀ b, fdn g (a + b) = oel (fdn (fun k => g (a + k)) b) (fdn g a) := by
  intro b
  induction b with
  | zero => rfl
  | succ b ih =>
    rw [← Nat.add_assoc, fdn, fdn, ih]
    cases g (a + b) with
    | some x => rfl
    | none => rfl
theorem fdn_cong {α : Type} {g g' : Nat → Option α} : ∀ n, (∀ k, k < n → g k = g' k) → fdn g n = fdn g' n := by
  intro n
  induction n with
  | zero => intro _; rfl
  | succ n ih =>
    intro h
    rw [fdn, fdn, h n (by omega), ih (fun k hk => h k (by omega))]
theorem fdn_0 {α : Type} : ∀ n, fdn (fun _ => (none : Option α)) n = none := by
  intro n
  induction n with
  | zero => rfl
  | succ n ih => rw [fdn, ih]
def pct (ch : Nat) : Nat := ct (fun j => ch.testBit j) 10
/-- the links of a choice: the highest bit is the first place -/
def sel (L k ch : Nat) : List Nat := match k with
  | 0 => []
  | k + 1 => (if ch.testBit k = true then [L] else []) ++ sel (L + 1) k ch
theorem sel_lo : ∀ k {L ch : Nat}, (∀ x ∈ sel L k ch, L ≤ x ∧ x < L + k) := by
  intro k
  induction k with
  | zero => intro L ch x hx; cases hx
  | succ k ih =>
    intro L ch x hx
    rw [sel] at hx
    rcases List.mem_append.1 hx with h | h
    · split at h
      · rw [List.mem_singleton.1 h]; omega
      · cases h
    · have := ih x h
      omega
theorem sel_con : ∀ k {L ch i : Nat}, i < k → (sel L k ch).contains (L + i) = ch.testBit (k - 1 - i) := by
  intro k
  induction k with
  | zero => intro L ch i h; exact absurd h (Nat.not_lt_zero _)
  | succ k ih =>
    intro L ch i h
    rw [sel, Nat.add_sub_cancel]
    by_cases z : i = 0
    · subst z
      have nh : ¬ L ∈ sel (L + 1) k ch := fun y => by have := (sel_lo k L y).1; omega
      change ((if ch.testBit k = true then [L] else []) ++ sel (L + 1) k ch).contains L = ch.testBit k
      rw [con_app nh]
      cases w : ch.testBit k with
      | true => simp
      | false => simp
    · have e1 := ih (L := L + 1) (ch := ch) (i := i - 1) (by omega)
      rw [show L + 1 + (i - 1) = L + i from by omega, show k - 1 - (i - 1) = k - i from by omega] at e1
      rw [← e1, List.contains_eq_mem, List.contains_eq_mem]
      apply decide_eq_decide.2
      constructor
      · intro y
        rcases List.mem_append.1 y with y | y
        · split at y
          · have := List.mem_singleton.1 y; omega
          · cases y
        · exact y
      · intro y
        exact List.mem_append.2 (Or.inr y)
theorem tb_hi {k ch j : Nat} (h : ch < 2 ^ k) : (2 ^ k + ch).testBit j = if j = k then true else ch.testBit j := by
  by_cases z : j = k
  · subst z
    rw [if_pos rfl, Nat.testBit_two_pow_add_eq, Nat.testBit_lt_two_pow h]
    rfl
  · rw [if_neg z]
    by_cases y : j < k
    · rw [Nat.testBit_two_pow_add_gt y]
    · have y2 : k < j := by omega
      rw [Nat.testBit_lt_two_pow (Nat.lt_of_lt_of_le h (Nat.pow_le_pow_right (by omega) (by omega)))]
      apply Nat.testBit_lt_two_pow
      have : 2 ^ (k + 1) ≤ 2 ^ j := Nat.pow_le_pow_right (by omega) (by omega)
      rw [Nat.pow_succ] at this
      omega
theorem sel_same : ∀ k {L ch ch' : Nat}, (∀ j, j < k → ch.testBit j = ch'.testBit j) → sel L k ch = sel L k ch' := by
  intro k
  induction k with
  | zero => intro L ch ch' _; rfl
  | succ k ih =>
    intro L ch ch' h
    rw [sel, sel, h k (by omega), ih (fun j hj => h j (by omega))]
theorem pct_hi {k ch : Nat} (hk : k < 10) (h : ch < 2 ^ k) : pct (2 ^ k + ch) = pct ch + 1 := by
  unfold pct
  refine ct_u1 (x := k) (Nat.testBit_lt_two_pow h) (by rw [tb_hi h, if_pos rfl]) hk (fun t _ ht => ?_)
  rw [tb_hi h, if_neg ht]
theorem oel_if {α : Type} {a b : Option α} : oel a b = match a with
  | some x => some x
  | none => b := rfl
theorem ss_block {f : fa_S} : ∀ k {r b : Nat} {ks : List Nat}, k ≤ 4 → k + r ≤ f_lk f → ss f (k + r) b ks = fdn (fun ch => if pct ch ≤ b then ss f r (b - pct ch) (ks ++ sel (f_lk f - (k + r)) k ch) else none) (2 ^ k) := by
  intro k
  induction k with
  | zero =>
    intro r b ks _ _
    have p0 : pct 0 = 0 := by decide
    rw [Nat.zero_add]
    rw [show (2 : Nat) ^ 0 = 0 + 1 from rfl, fdn, fdn, p0, if_pos (Nat.zero_le _), Nat.sub_zero, sel, List.append_nil]
    cases ss f r b ks <;> rfl
  | succ k ih =>
    intro r b ks hk hr
    have eL : f_lk f - (k + 1 + r) + 1 = f_lk f - (k + r) := by omega
    rw [show k + 1 + r = (k + r) + 1 from by omega, ss, Nat.pow_succ, Nat.mul_two, fdn_add]
    have e2 : fdn (fun ch => if pct ch ≤ b then ss f r (b - pct ch) (ks ++ sel (f_lk f - (k + r + 1)) (k + 1) ch) else none) (2 ^ k) = ss f (k + r) b ks := by
      rw [ih (by omega) (by omega)]
      refine fdn_cong _ (fun ch hch => ?_)
      have : sel (f_lk f - (k + r + 1)) (k + 1) ch = sel (f_lk f - (k + r)) k ch := by
        rw [sel, Nat.testBit_lt_two_pow hch, if_neg (by decide), List.nil_append]
        congr 1
        omega
      rw [this]
    rw [e2]
    by_cases z : 0 < b
    · rw [if_pos z]
      have e1 : fdn (fun ch => if pct (2 ^ k + ch) ≤ b then ss f r (b - pct (2 ^ k + ch)) (ks ++ sel (f_lk f - (k + r + 1)) (k + 1) (2 ^ k + ch)) else none) (2 ^ k) = ss f (k + r) (b - 1) (ks ++ [f_lk f - (k + r + 1)]) := by
        rw [ih (by omega) (by omega)]
        refine fdn_cong _ (fun ch hch => ?_)
        have es : sel (f_lk f - (k + r + 1)) (k + 1) (2 ^ k + ch) = [f_lk f - (k + r + 1)] ++ sel (f_lk f - (k + r)) k ch := by
          rw [sel, tb_hi hch, if_pos rfl, if_pos rfl, show f_lk f - (k + r + 1) + 1 = f_lk f - (k + r) from by omega, sel_same k (ch' := ch) (fun j hj => by rw [tb_hi hch, if_neg (by omega)])]
        rw [pct_hi (by omega) hch, es, ← List.append_assoc]
        by_cases y : pct ch ≤ b - 1
        · rw [if_pos y, if_pos (by omega), show b - (pct ch + 1) = b - 1 - pct ch from by omega]
        · rw [if_neg y, if_neg (by omega)]
      rw [e1]
      cases ss f (k + r) (b - 1) (ks ++ [f_lk f - (k + r + 1)]) <;> rfl
    · have b0 : b = 0 := by omega
      subst b0
      rw [if_neg (Nat.not_lt_zero _)]
      have e1 : fdn (fun ch => if pct (2 ^ k + ch) ≤ 0 then ss f r (0 - pct (2 ^ k + ch)) (ks ++ sel (f_lk f - (k + r + 1)) (k + 1) (2 ^ k + ch)) else none) (2 ^ k) = none := by
        rw [fdn_cong (g' := fun _ => none) _ (fun ch hch => by rw [pct_hi (by omega) hch, if_neg (by omega)]), fdn_0]
      rw [e1]
      rfl
/-- a class that is not ordered now is not ordered in the end -/
theorem ss_not {f : fa_S} {j b c : Nat} {ks : List Nat} (hj : j ≤ f_lk f) (hc : c < f_n f) (hl : lo_at f (c + 1) ≤ f_lk f - j) (h : ¬ (od (wo_p f ks) (c + 1) c).1 = 0) : ss f j b ks = none := by
  cases w : ss f j b ks with
  | none => rfl
  | some r =>
    obtain ⟨e, e1, e2, e3, e4, e5⟩ := ss_ext j w hj
    have h1 := wh_iff.1 e5 c hc
    rw [e1, ← od_st (show c < c + 1 by omega) hc, wo_od (fun x hx => Nat.le_trans hl (e2 x hx).1)] at h1
    exact absurd h1 h
/-- what the class does with class c on -/
def mdC (f : fa_S) (c b : Nat) (ks : List Nat) (ch : Nat) : Option (List Nat) := if pct ch ≤ b ∧ (od (wo_p f (ks ++ sel (lo_at f c) (f_p f c).length ch)) (c + 1) c).1 = 0 then ss f (f_lk f - lo_at f (c + 1)) (b - pct ch) (ks ++ sel (lo_at f c) (f_p f c).length ch) else none
theorem ss_class {f : fa_S} (ok : fa_ok f) {c b : Nat} {ks : List Nat} (hc : c < f_n f) : ss f (f_lk f - lo_at f c) b ks = fdn (mdC f c b ks) (2 ^ (f_p f c).length) := by
  have h1 : lo_at f (c + 1) ≤ f_lk f := lo_mono (show c + 1 ≤ f_n f by omega)
  have h2 := lo_s f c
  rw [show f_lk f - lo_at f c = (f_p f c).length + (f_lk f - lo_at f (c + 1)) from by omega, ss_block _ (ok.2 c).1 (by omega)]
  refine fdn_cong _ (fun ch _ => ?_)
  unfold mdC
  rw [show f_lk f - ((f_p f c).length + (f_lk f - lo_at f (c + 1))) = lo_at f c from by omega]
  by_cases z : pct ch ≤ b
  · rw [if_pos z]
    by_cases y : (od (wo_p f (ks ++ sel (lo_at f c) (f_p f c).length ch)) (c + 1) c).1 = 0
    · rw [if_pos ⟨z, y⟩]
    · rw [if_neg (fun w => y w.2)]
      exact ss_not (by omega) hc (by omega) y
  · rw [if_neg z, if_neg (fun w => z w.1)]
