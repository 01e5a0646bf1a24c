/-! ===== rings ===== -/
def wk (D : Nat → Nat → Bool) (K : Nat) : Nat → Nat → Nat → Prop
  | 0, a, b => D a b = true
  | n + 1, a, b => ∃ x, x < K ∧ D a x = true ∧ wk D K n x b
theorem wk_up {D : Nat → Nat → Bool} {K : Nat} : ∀ {n a b}, wk D K n a b → wk D (K + 1) n a b := by
  intro n
  induction n with
  | zero => intro a b h; exact h
  | succ n ih => rintro a b ⟨x, h1, h2, h3⟩; exact ⟨x, by omega, h2, ih h3⟩
theorem wk_cat {D : Nat → Nat → Bool} {K : Nat} {m b c : Nat} (hb : b < K) (h2 : wk D K m b c) : ∀ {n a}, wk D K n a b → wk D K (n + m + 1) a c := by
  intro n
  induction n with
  | zero =>
    intro a h
    rw [Nat.zero_add]
    exact ⟨b, hb, h, h2⟩
  | succ n ih =>
    rintro a ⟨x, h1, h3, h4⟩
    rw [show n + 1 + m + 1 = (n + m + 1) + 1 from by omega]
    exact ⟨x, h1, h3, ih h4⟩
theorem wk_dec {D : Nat → Nat → Bool} {K : Nat} {b : Nat} : ∀ {n a}, wk D (K + 1) n a b → (∃ m, m ≤ n ∧ wk D K m a b) ∨ ∃ n1 n2, wk D K n1 a K ∧ wk D K n2 K b ∧ n1 + n2 + 1 ≤ n := by
  intro n
  induction n with
  | zero => intro a h; exact Or.inl ⟨0, Nat.le_refl _, h⟩
  | succ n ih =>
    rintro a ⟨x, h1, h2, h3⟩
    by_cases z : x = K
    · subst z
      rcases ih h3 with ⟨m, hm, h⟩ | ⟨n1, n2, h4, h5, h6⟩
      · exact Or.inr ⟨0, m, h2, h, by omega⟩
      · exact Or.inr ⟨0, n2, h2, h5, by omega⟩
    · have hx : x < K := by omega
      rcases ih h3 with ⟨m, hm, h⟩ | ⟨n1, n2, h4, h5, h6⟩
      · exact Or.inl ⟨m + 1, by omega, x, hx, h2, h⟩
      · exact Or.inr ⟨n1 + 1, n2, ⟨x, hx, h2, h4⟩, h5, by omega⟩
/-- a table of distances: never below the truth, and no way by classes below K is shorter -/
def dok (D : Nat → Nat → Bool) (t : Nat → Nat → Nat) : Prop := ∀ a b, a < 10 → b < 10 → t a b ≤ 100 ∧ 1 ≤ t a b ∧ (t a b < 100 → ∃ n, t a b = n + 1 ∧ wk D 10 n a b)
def dlo (D : Nat → Nat → Bool) (K : Nat) (t : Nat → Nat → Nat) (a b : Nat) : Prop := ∀ n, wk D K n a b → t a b ≤ n + 1
def t_0 (D : Nat → Nat → Bool) (a b : Nat) : Nat := if D a b = true then 1 else 100
theorem dok_0 {D : Nat → Nat → Bool} : dok D (t_0 D) := fun a b _ _ => by
  unfold t_0
  by_cases z : D a b = true
  · rw [if_pos z]
    exact ⟨by omega, by omega, fun _ => ⟨0, rfl, z⟩⟩
  · rw [if_neg z]
    exact ⟨by omega, by omega, fun h => by omega⟩
theorem dlo_0 {D : Nat → Nat → Bool} {a b : Nat} : dlo D 0 (t_0 D) a b := by
  intro n h
  unfold t_0
  cases n with
  | zero => rw [if_pos (show D a b = true from h)]; omega
  | succ n =>
    obtain ⟨x, hx, _⟩ := h
    omega
def t_up (t : Nat → Nat → Nat) (k a b : Nat) : Nat → Nat → Nat := fun x y => if x = a ∧ y = b then (if t a k + t k b < t a b then t a k + t k b else t a b) else t x y
theorem t_up_le {t : Nat → Nat → Nat} {k a b x y : Nat} : t_up t k a b x y ≤ t x y := by
  unfold t_up
  split
  · rename_i h
    rw [h.1, h.2]
    split <;> omega
  · exact Nat.le_refl _
theorem dok_up {D : Nat → Nat → Bool} {t : Nat → Nat → Nat} {k a b : Nat} (h : dok D t) (hk : k < 10) (ha : a < 10) (hb : b < 10) : dok D (t_up t k a b) := fun x y hx hy => by
  have h0 := h x y hx hy
  unfold t_up
  by_cases z : x = a ∧ y = b
  · rw [if_pos z]
    rw [z.1, z.2] at h0 ⊢
    by_cases w : t a k + t k b < t a b
    · rw [if_pos w]
      have h1 := h a k ha hk
      have h2 := h k b hk hb
      refine ⟨by omega, by omega, fun _ => ?_⟩
      obtain ⟨n1, e1, w1⟩ := h1.2.2 (by omega)
      obtain ⟨n2, e2, w2⟩ := h2.2.2 (by omega)
      exact ⟨n1 + n2 + 1, by omega, wk_cat hk w2 w1⟩
    · rw [if_neg w]
      exact h0
  · rw [if_neg z]
    exact h0
theorem dlo_le {D : Nat → Nat → Bool} {K : Nat} {t t' : Nat → Nat → Nat} {a b : Nat} (h : dlo D K t a b) (hl : t' a b ≤ t a b) : dlo D K t' a b := fun n hn => Nat.le_trans hl (h n hn)
theorem dlo_up {D : Nat → Nat → Bool} {t : Nat → Nat → Nat} {k a b : Nat} (h : dlo D k t a b) (h1 : dlo D k t a k) (h2 : dlo D k t k b) : dlo D (k + 1) (t_up t k a b) a b := by
  intro n hn
  have e : t_up t k a b a b = if t a k + t k b < t a b then t a k + t k b else t a b := if_pos ⟨rfl, rfl⟩
  rcases wk_dec hn with ⟨m, hm, hw⟩ | ⟨n1, n2, w1, w2, hle⟩
  · have := h m hw
    rw [e]
    split <;> omega
  · have q1 := h1 n1 w1
    have q2 := h2 n2 w2
    rw [e]
    split <;> omega
/-- the table is right -/
def dgd (D : Nat → Nat → Bool) (t : Nat → Nat → Nat) : Prop := dok D t ∧ ∀ a b, a < 10 → b < 10 → dlo D 10 t a b
/-- where the ring begins -/
def rst (t : Nat → Nat → Nat) : Nat → Nat × Option Nat
  | 0 => (100, none)
  | n + 1 => if t n n < (rst t n).1 then (t n n, some n) else rst t n
theorem rst_sp {t : Nat → Nat → Nat} : ∀ n, ((rst t n = (100, none) ∧ ∀ c, c < n → 100 ≤ t c c) ∨ ∃ s, s < n ∧ rst t n = (t s s, some s) ∧ t s s < 100 ∧ (∀ c, c < n → t s s ≤ t c c) ∧ ∀ c, c < s → t s s < t c c) := by
  intro n
  induction n with
  | zero => exact Or.inl ⟨rfl, fun c hc => absurd hc (Nat.not_lt_zero _)⟩
  | succ n ih =>
    rw [rst]
    rcases ih with ⟨e, h⟩ | ⟨s, hs, e, h1, h2, h3⟩
    · rw [e]
      by_cases z : t n n < 100
      · rw [if_pos z]
        refine Or.inr ⟨n, by omega, rfl, z, fun c hc => ?_, fun c hc => by have := h c hc; omega⟩
        by_cases y : c = n
        · rw [y]; omega
        · have := h c (by omega); omega
      · rw [if_neg z]
        refine Or.inl ⟨rfl, fun c hc => ?_⟩
        by_cases y : c = n
        · rw [y]; omega
        · exact h c (by omega)
    · rw [e]
      by_cases z : t n n < t s s
      · rw [if_pos z]
        refine Or.inr ⟨n, by omega, rfl, by omega, fun c hc => ?_, fun c hc => by have := h2 c hc; omega⟩
        by_cases y : c = n
        · rw [y]; omega
        · have := h2 c (by omega); omega
      · rw [if_neg z]
        refine Or.inr ⟨s, by omega, rfl, h1, fun c hc => ?_, h3⟩
        by_cases y : c = n
        · rw [y]; omega
        · exact h2 c (by omega)
/-- who is next in the ring -/
def rnx (D : Nat → Nat → Bool) (t : Nat → Nat → Nat) (s x m : Nat) : Option Nat := fi (fun c => D x c && t c s == m) 10 0
def rpt (D : Nat → Nat → Bool) (t : Nat → Nat → Nat) (s : Nat) : Nat → Nat
  | 0 => s
  | k + 1 => (rnx D t s (rpt D t s k) (t s s - 1 - k)).getD 0
/-- what is known of the ring's classes -/
theorem rpt_sp {D : Nat → Nat → Bool} {t : Nat → Nat → Nat} {s : Nat} (g : dgd D t) (hs : s < 10) (hL : t s s < 100) : ∀ k, k < t s s → rpt D t s k < 10 ∧ t (rpt D t s k) s = t s s - k ∧ (k + 1 < t s s → rnx D t s (rpt D t s k) (t s s - 1 - k) = some (rpt D t s (k + 1)) ∧ D (rpt D t s k) (rpt D t s (k + 1)) = true) := by
  have step : ∀ k, k + 1 < t s s → rpt D t s k < 10 → t (rpt D t s k) s = t s s - k → ∃ x, rnx D t s (rpt D t s k) (t s s - 1 - k) = some x ∧ x < 10 ∧ D (rpt D t s k) x = true ∧ t x s = t s s - 1 - k := by
    intro k hk h1 h2
    obtain ⟨n, e, w⟩ := (g.1 _ s h1 hs).2.2 (by omega)
    obtain ⟨m, rfl⟩ : ∃ m, n = m + 1 := ⟨n - 1, by omega⟩
    obtain ⟨x, hx, hD, w2⟩ := w
    have l1 := g.2 x s hx hs m w2
    have l2 : t s s - 1 - k ≤ t x s := by
      obtain ⟨n3, e3, w3⟩ := (g.1 x s hx hs).2.2 (by omega)
      have := g.2 _ s h1 hs (n3 + 1) ⟨x, hx, hD, w3⟩
      omega
    rcases fi_sp (fun c => D (rpt D t s k) c && t c s == t s s - 1 - k) 10 with ⟨j, ej, hj, pj, _⟩ | ⟨ej, hj⟩
    · simp only [Bool.and_eq_true, beq_iff_eq] at pj
      exact ⟨j, ej, hj, pj.1, pj.2⟩
    · have := hj x hx
      simp only [hD, Bool.true_and, beq_eq_false_iff_ne, ne_eq] at this
      omega
  have all : ∀ k, k < t s s → rpt D t s k < 10 ∧ t (rpt D t s k) s = t s s - k := by
    intro k
    induction k with
    | zero => intro _; exact ⟨hs, rfl⟩
    | succ k ih =>
      intro hk
      obtain ⟨h1, h2⟩ := ih (by omega)
      obtain ⟨x, e1, e2, e3, e4⟩ := step k hk h1 h2
      have : rpt D t s (k + 1) = x := by rw [rpt, e1]; rfl
      rw [this]
      exact ⟨e2, by omega⟩
  intro k hk
  obtain ⟨h1, h2⟩ := all k hk
  refine ⟨h1, h2, fun h3 => ?_⟩
  obtain ⟨x, e1, e2, e3, e4⟩ := step k h3 h1 h2
  have : rpt D t s (k + 1) = x := by rw [rpt, e1]; rfl
  rw [this]
  exact ⟨e1, e3⟩
/-- no class twice -/
theorem rpt_ne {D : Nat → Nat → Bool} {t : Nat → Nat → Nat} {s : Nat} (g : dgd D t) (hs : s < 10) (hL : t s s < 100) {i j : Nat} (hij : i < j) (hj : j < t s s) : ¬ rpt D t s i = rpt D t s j := by
  intro e
  have h1 := (rpt_sp g hs hL i (by omega)).2.1
  have h2 := (rpt_sp g hs hL j hj).2.1
  rw [e] at h1
  omega
theorem rpt_to {D : Nat → Nat → Bool} {t : Nat → Nat → Nat} {s : Nat} (g : dgd D t) (hs : s < 10) (hL : t s s < 100) : ∀ k, k + 1 < t s s → wk D 10 k s (rpt D t s (k + 1)) := by
  intro k
  induction k with
  | zero =>
    intro hk
    exact ((rpt_sp g hs hL 0 (by omega)).2.2 hk).2
  | succ k ih =>
    intro hk
    have h1 := ih (by omega)
    have h2 := rpt_sp g hs hL (k + 1) (by omega)
    exact wk_cat (m := 0) h2.1 (h2.2.2 hk).2 h1
theorem rpt_gt {D : Nat → Nat → Bool} {t : Nat → Nat → Nat} {s : Nat} (g : dgd D t) (hs : s < 10) (hL : t s s < 100) (least : ∀ c, c < s → t s s < t c c) {k : Nat} (hk : k + 1 < t s s) : s < rpt D t s (k + 1) := by
  have h1 := rpt_sp g hs hL (k + 1) hk
  obtain ⟨n, e, w⟩ := (g.1 _ s h1.1 hs).2.2 (by omega)
  have w2 := wk_cat hs (rpt_to g hs hL k hk) w
  have l := g.2 _ _ h1.1 h1.1 _ w2
  rcases Nat.lt_trichotomy (rpt D t s (k + 1)) s with z | z | z
  · have := least _ z
    omega
  · exact absurd z.symm (rpt_ne g hs hL (i := 0) (j := k + 1) (by omega) hk)
  · exact z
theorem rpt_10 {D : Nat → Nat → Bool} {t : Nat → Nat → Nat} {s : Nat} (g : dgd D t) (hs : s < 10) (hL : t s s < 100) {n : Nat} (hn : ∀ k, k < t s s → rpt D t s k < n) : t s s ≤ n := by
  have nd : ((List.range (t s s)).map (rpt D t s)).Nodup := by
    unfold List.Nodup
    rw [List.pairwise_map]
    refine List.Pairwise.imp_of_mem ?_ (List.pairwise_lt_range)
    intro a b ha hb hab
    exact rpt_ne g hs hL hab (List.mem_range.1 hb)
  have := nd_len nd (n := n) (fun x hx => by
    obtain ⟨k, hk, rfl⟩ := List.mem_map.1 hx
    exact hn k (List.mem_range.1 hk))
  rw [List.length_map, List.length_range] at this
  exact this
/-! the reference's search -/
def gad (g : Nat → Bool) (c : Nat) : Nat → Bool := fun k => g k || decide (k = c)
def gp (D : Nat → Nat → Bool) (n s : Nat) : Nat → (Nat → Bool) → Nat → Option (List Nat)
  | 0, _, x => if D x s = true then some [] else none
  | m + 1, g, x => match fi (fun c => decide (s < c) && !g c && D x c && (gp D n s m (gad g c) c).isSome) n 0 with
    | none => none
    | some c => (gp D n s m (gad g c) c).map (fun l => c :: l)
theorem gp_wk {D : Nat → Nat → Bool} {n s : Nat} (hn : n ≤ 10) : ∀ {m g x l}, gp D n s m g x = some l → wk D 10 m x s := by
  intro m
  induction m with
  | zero =>
    intro g x l h
    rw [gp] at h
    split at h
    · rename_i z; exact z
    · cases h
  | succ m ih =>
    intro g x l h
    rw [gp] at h
    rcases fi_sp (fun c => decide (s < c) && !g c && D x c && (gp D n s m (gad g c) c).isSome) n with ⟨j, ej, hj, pj, _⟩ | ⟨ej, hj⟩
    · rw [ej] at h
      simp only [Bool.and_eq_true] at pj
      obtain ⟨⟨⟨_, _⟩, hD⟩, hs⟩ := pj
      obtain ⟨l', hl'⟩ := Option.isSome_iff_exists.1 hs
      exact ⟨j, by omega, hD, ih hl'⟩
    · rw [ej] at h
      cases h
theorem gp_some {D : Nat → Nat → Bool} {t : Nat → Nat → Nat} {n s : Nat} (g : dgd D t) (hn : n ≤ 10) (hs : s < 10) (hL : t s s < 100) (least : ∀ c, c < s → t s s < t c c) (hD : ∀ a b, D a b = true → b < n) : ∀ m k, m + k + 1 = t s s → ∀ go : Nat → Bool, (∀ x, go x = true ↔ ∃ j, j ≤ k ∧ x = rpt D t s j) → gp D n s m go (rpt D t s k) = some ((List.range m).map (fun i => rpt D t s (k + 1 + i))) := by
  intro m
  induction m with
  | zero =>
    intro k hk go hgo
    have h1 := rpt_sp g hs hL k (by omega)
    obtain ⟨q, e, w⟩ := (g.1 _ s h1.1 hs).2.2 (by omega)
    obtain rfl : q = 0 := by omega
    rw [gp, if_pos (show D (rpt D t s k) s = true from w)]
    rfl
  | succ m ih =>
    intro k hk go hgo
    have h1 := rpt_sp g hs hL k (by omega)
    have h2 := h1.2.2 (by omega)
    have h3 := rpt_sp g hs hL (k + 1) (by omega)
    have hgo2 : ∀ x, gad go (rpt D t s (k + 1)) x = true ↔ ∃ j, j ≤ k + 1 ∧ x = rpt D t s j := by
      intro x
      simp only [gad, Bool.or_eq_true, decide_eq_true_eq, hgo x]
      constructor
      · rintro (⟨j, hj, e⟩ | e)
        · exact ⟨j, by omega, e⟩
        · exact ⟨k + 1, by omega, e⟩
      · rintro ⟨j, hj, e⟩
        by_cases z : j = k + 1
        · exact Or.inr (z ▸ e)
        · exact Or.inl ⟨j, by omega, e⟩
    have r := ih (k + 1) (by omega) _ hgo2
    have hlt := hD _ _ h2.2
    have hno : go (rpt D t s (k + 1)) = false := by
      cases z : go (rpt D t s (k + 1)) with
      | false => rfl
      | true =>
        obtain ⟨j, hj, e⟩ := (hgo _).1 z
        exact absurd e.symm (rpt_ne g hs hL (by omega) (by omega))
    have py : (fun c => decide (s < c) && !go c && D (rpt D t s k) c && (gp D n s m (gad go c) c).isSome) (rpt D t s (k + 1)) = true := by
      simp only [hno, h2.2, r, rpt_gt g hs hL least (show k + 1 < t s s by omega), decide_true, Bool.not_false, Bool.and_self, Option.isSome_some]
    have pn : ∀ i, i < rpt D t s (k + 1) → (fun c => decide (s < c) && !go c && D (rpt D t s k) c && (gp D n s m (gad go c) c).isSome) i = false := by
      intro i hi
      cases z : (fun c => decide (s < c) && !go c && D (rpt D t s k) c && (gp D n s m (gad go c) c).isSome) i with
      | false => rfl
      | true =>
        simp only [Bool.and_eq_true] at z
        obtain ⟨⟨⟨_, _⟩, hDi⟩, hsi⟩ := z
        obtain ⟨l', hl'⟩ := Option.isSome_iff_exists.1 hsi
        have w := gp_wk hn hl'
        have i10 : i < 10 := by omega
        have l1 := g.2 i s i10 hs m w
        have l2 : t s s - 1 - k ≤ t i s := by
          obtain ⟨n3, e3, w3⟩ := (g.1 i s i10 hs).2.2 (by omega)
          have := g.2 _ s h1.1 hs (n3 + 1) ⟨i, i10, hDi, w3⟩
          omega
        rcases fi_sp (fun c => D (rpt D t s k) c && t c s == t s s - 1 - k) 10 with ⟨j, ej, hj, pj, mj⟩ | ⟨ej, hj⟩
        · have e4 : some j = some (rpt D t s (k + 1)) := ej.symm.trans h2.1
          cases e4
          have := mj i hi
          simp only [hDi, Bool.true_and, beq_eq_false_iff_ne, ne_eq] at this
          omega
        · have := hj i i10
          simp only [hDi, Bool.true_and, beq_eq_false_iff_ne, ne_eq] at this
          omega
    have ef : fi (fun c => decide (s < c) && !go c && D (rpt D t s k) c && (gp D n s m (gad go c) c).isSome) n 0 = some (rpt D t s (k + 1)) := by
      rcases fi_sp (fun c => decide (s < c) && !go c && D (rpt D t s k) c && (gp D n s m (gad go c) c).isSome) n with ⟨j, ej, hj, pj, mj⟩ | ⟨ej, hj⟩
      · rw [ej]
        rcases Nat.lt_trichotomy j (rpt D t s (k + 1)) with z | z | z
        · exact Bool.noConfusion (pj.symm.trans (pn j z))
        · rw [z]
        · exact Bool.noConfusion (py.symm.trans (mj _ z))
      · exact Bool.noConfusion (py.symm.trans (hj _ hlt))
    rw [gp, ef]
    dsimp only
    rw [r, Option.map_some, List.range_succ_eq_map, List.map_cons, List.map_map]
    congr 2
    refine List.map_congr_left (fun i _ => ?_)
    show rpt D t s (k + 1 + 1 + i) = rpt D t s (k + 1 + (i + 1))
    congr 1
    omega
