/-! ===== what a state of the machine in small says of the machine's ===== -/
def am_cv (B : Nat) (xv : Nat → Value) : am_V → Value
  | .inl x => .int x
  | .inr (.inl x) => .long x
  | .inr (.inr (.inl r)) => va_rf (r.map (B + ·))
  | .inr (.inr (.inr j)) => xv j
def am_lv (B : Nat) (xv : Nat → Value) : Nat → am_L → List (Nat × Value)
  | _, [] => []
  | i, none :: r => am_lv B xv (i + 1) r
  | i, some v :: r => (i, am_cv B xv v) :: am_lv B xv (i + 1) r
theorem am_lv_mem {B : Nat} {xv : Nat → Value} : ∀ (L : am_L) (i : Nat) (q : Nat × Value), q ∈ am_lv B xv i L ↔ ∃ j v, L[j]? = some (some v) ∧ q = (i + j, am_cv B xv v) := by
  intro L
  induction L with
  | nil => intro i q; simp [am_lv]
  | cons a r ih =>
    intro i q
    cases a with
    | none =>
      simp only [am_lv, ih]
      constructor
      · rintro ⟨j, v, h1, rfl⟩
        exact ⟨j + 1, v, by simpa using h1, by simp; omega⟩
      · rintro ⟨j, v, h1, rfl⟩
        cases j with
        | zero => simp at h1
        | succ j => exact ⟨j, v, by simpa using h1, by simp; omega⟩
    | some a =>
      simp only [am_lv, List.mem_cons, ih]
      constructor
      · rintro (rfl | ⟨j, v, h1, rfl⟩)
        · exact ⟨0, a, by simp, by simp⟩
        · exact ⟨j + 1, v, by simpa using h1, by simp; omega⟩
      · rintro ⟨j, v, h1, rfl⟩
        cases j with
        | zero => left; simp at h1; simp [h1]
        | succ j => right; exact ⟨j, v, by simpa using h1, by simp; omega⟩
def am_lg (lg : List Nat) (L : am_L) : Prop := ∀ (i : Nat) (x : Int64), L[i]? = some (some (.inr (.inl x))) → i ∈ lg
theorem am_lg_of {lg : List Nat} : ∀ (L : am_L) (i : Nat), am_lgB lg i L = true → ∀ (j : Nat) (x : Int64), L[j]? = some (some (.inr (.inl x))) → i + j ∈ lg := by
  intro L
  induction L with
  | nil => intro i _ j x h; simp at h
  | cons a r ih =>
    intro i h j x hj
    match a, h with
    | none, h =>
      cases j with
      | zero => simp at hj
      | succ j => have := ih (i + 1) h j x (by simpa using hj); rwa [show i + (j + 1) = i + 1 + j by omega]
    | some (.inl y), h =>
      cases j with
      | zero => simp at hj
      | succ j => have := ih (i + 1) h j x (by simpa using hj); rwa [show i + (j + 1) = i + 1 + j by omega]
    | some (.inr (.inl y)), h =>
      simp only [am_lgB, Bool.and_eq_true] at h
      cases j with
      | zero => simpa using h.1
      | succ j => have := ih (i + 1) h.2 j x (by simpa using hj); rwa [show i + (j + 1) = i + 1 + j by omega]
    | some (.inr (.inr y)), h =>
      cases j with
      | zero => simp at hj
      | succ j => have := ih (i + 1) h j x (by simpa using hj); rwa [show i + (j + 1) = i + 1 + j by omega]
/-- the cells -/
def am_ce (B : Nat) (xv : Nat → Value) (cy : Nat → ClassId) (h : am_H) (i : Nat) : va_E :=
  if h_k h i < 20 then .inr (h_k h i, (List.range (am_fn (h_k h i))).map (fun k => am_cv B xv (am_fv h i k (am_ft (h_k h i) k))))
  else if h_k h i < 23 then .inl (cy (h_k h i), h_l h i, .inl (h_i h i))
  else if h_k h i = 23 then .inl (cy 23, h_l h i, .inr (.inl (h_j h i)))
  else .inl (cy (h_k h i), h_l h i, .inr (.inr (.inr (.inr (fun k => (h_r h i k).map (B + ·))))))
def am_ws (B : Nat) (xv : Nat → Value) (cy : Nat → ClassId) (h : am_H) : va_W := (List.range (h_n h)).map (fun i => (B + i, am_ce B xv cy h i))
section AMW
variable {B : Nat} {xv : Nat → Value} {cy : Nat → ClassId} {h h' : am_H}
theorem am_ws_get {i : Nat} (hi : i < h_n h) : (am_ws B xv cy h)[i]? = some (B + i, am_ce B xv cy h i) := by
  simp [am_ws, List.getElem?_map, List.getElem?_range, hi]
theorem am_ws_len : (am_ws B xv cy h).length = h_n h := by simp [am_ws]
theorem am_ws_put {o : Nat} (hn : h_n h' = h_n h) (ho : o < h_n h) (hne : ∀ i, i ≠ o → am_ce B xv cy h' i = am_ce B xv cy h i) : (am_ws B xv cy h).set o (B + o, am_ce B xv cy h' o) = am_ws B xv cy h' := by
  apply List.ext_getElem?
  intro i
  by_cases hi : i = o
  · subst hi
    rw [List.getElem?_set_self (by rw [am_ws_len]; exact ho), am_ws_get (by rw [hn]; exact ho)]
  · rw [List.getElem?_set_ne (fun q => hi q.symm)]
    by_cases hl : i < h_n h
    · rw [am_ws_get hl, am_ws_get (by rw [hn]; exact hl), hne i hi]
    · rw [List.getElem?_eq_none (by rw [am_ws_len]; omega), List.getElem?_eq_none (by rw [am_ws_len, hn]; omega)]
theorem am_ce_pa {o i : Nat} {f : Nat → Int32} (hi : i ≠ o) : am_ce B xv cy (p_a h o f) i = am_ce B xv cy h i := by
  have e : h_i (p_a h o f) i = h_i h i := by simp [h_i, p_a, am_up, hi]
  have e2 : ∀ k t, am_fv (p_a h o f) i k t = am_fv h i k t := by
    intro k t
    match t with
    | 0 => simp only [am_fv, e]
    | 1 => rfl
    | _ + 2 => rfl
  unfold am_ce
  simp only [e, e2, show h_k (p_a h o f) i = h_k h i from rfl, show h_l (p_a h o f) i = h_l h i from rfl, show h_j (p_a h o f) i = h_j h i from rfl, show h_r (p_a h o f) i = h_r h i from rfl]
theorem am_ce_pb {o i : Nat} {f : Nat → Int64} (hi : i ≠ o) : am_ce B xv cy (p_b h o f) i = am_ce B xv cy h i := by
  have e : h_j (p_b h o f) i = h_j h i := by simp [h_j, p_b, am_up, hi]
  have e2 : ∀ k t, am_fv (p_b h o f) i k t = am_fv h i k t := by
    intro k t
    match t with
    | 0 => rfl
    | 1 => simp only [am_fv, e]
    | _ + 2 => rfl
  unfold am_ce
  simp only [e, e2, show h_k (p_b h o f) i = h_k h i from rfl, show h_l (p_b h o f) i = h_l h i from rfl, show h_i (p_b h o f) i = h_i h i from rfl, show h_r (p_b h o f) i = h_r h i from rfl]
theorem am_ce_pc {o i : Nat} {f : Nat → Option Nat} (hi : i ≠ o) : am_ce B xv cy (p_c h o f) i = am_ce B xv cy h i := by
  have e : h_r (p_c h o f) i = h_r h i := by simp [h_r, p_c, am_up, hi]
  have e2 : ∀ k t, am_fv (p_c h o f) i k t = am_fv h i k t := by
    intro k t
    match t with
    | 0 => rfl
    | 1 => rfl
    | _ + 2 => simp only [am_fv, e]
  unfold am_ce
  simp only [e, e2, show h_k (p_c h o f) i = h_k h i from rfl, show h_l (p_c h o f) i = h_l h i from rfl, show h_i (p_c h o f) i = h_i h i from rfl, show h_j (p_c h o f) i = h_j h i from rfl]
theorem am_ce_pn {i k n : Nat} (hi : i < h_n h) : am_ce B xv cy (p_n h k n) i = am_ce B xv cy h i := by
  have hne : i ≠ h_n h := by omega
  have e1 : h_k (p_n h k n) i = h_k h i := by simp [h_k, p_n, am_up, hne]
  have e2 : h_l (p_n h k n) i = h_l h i := by simp [h_l, p_n, am_up, hne]
  have e3 : h_i (p_n h k n) i = h_i h i := by simp [h_i, p_n, am_up, hne]
  have e4 : h_j (p_n h k n) i = h_j h i := by simp [h_j, p_n, am_up, hne]
  have e5 : h_r (p_n h k n) i = h_r h i := by simp [h_r, p_n, am_up, hne]
  have e6 : ∀ k' t, am_fv (p_n h k n) i k' t = am_fv h i k' t := by
    intro k' t
    match t with
    | 0 => simp only [am_fv, e3]
    | 1 => simp only [am_fv, e4]
    | _ + 2 => simp only [am_fv, e5]
  unfold am_ce
  simp only [e1, e2, e3, e4, e5, e6]
theorem am_ws_new {k n : Nat} : am_ws B xv cy (p_n h k n) = am_ws B xv cy h ++ [(B + h_n h, am_ce B xv cy (p_n h k n) (h_n h))] := by
  unfold am_ws
  rw [show h_n (p_n h k n) = h_n h + 1 from rfl, List.range_succ, List.map_append, List.map_singleton]
  congr 1
  apply List.map_congr_left
  intro i hi
  rw [am_ce_pn (List.mem_range.mp hi)]
theorem am_D {A : Nat → Prop} (hA : ∀ q, B ≤ q → A q) : va_D A (am_ws B xv cy h) := by
  refine ⟨fun i j p q hp hq e => ?_, fun k q hq => ?_⟩
  · have hi : i < h_n h := by have := (List.getElem?_eq_some_iff.mp hp).1; rwa [am_ws_len] at this
    have hj : j < h_n h := by have := (List.getElem?_eq_some_iff.mp hq).1; rwa [am_ws_len] at this
    rw [am_ws_get hi] at hp
    rw [am_ws_get hj] at hq
    cases hp
    cases hq
    dsimp only at e
    omega
  · have hk : k < h_n h := by have := (List.getElem?_eq_some_iff.mp hq).1; rwa [am_ws_len] at this
    rw [am_ws_get hk] at hq
    cases hq
    exact hA _ (Nat.le_add_right _ _)
theorem am_ce_ob {o c : Nat} (hk : h_k h o = c) (hc : c < 20) : am_ce B xv cy h o = .inr (c, (List.range (am_fn c)).map (fun k => am_cv B xv (am_fv h o k (am_ft c k)))) := by
  unfold am_ce
  rw [if_pos (by omega), hk]
theorem am_ce_ii {o c : Nat} (hk : h_k h o = c) (h1 : 20 ≤ c) (h2 : c < 23) : am_ce B xv cy h o = .inl (cy c, h_l h o, .inl (h_i h o)) := by
  unfold am_ce
  rw [if_neg (by omega), if_pos (by omega), hk]
theorem am_ce_jj {o : Nat} (hk : h_k h o = 23) : am_ce B xv cy h o = .inl (cy 23, h_l h o, .inr (.inl (h_j h o))) := by
  unfold am_ce
  rw [if_neg (by omega), if_neg (by omega), if_pos hk]
theorem am_ce_rr {o c : Nat} (hk : h_k h o = c) (h1 : 23 < c) : am_ce B xv cy h o = .inl (cy c, h_l h o, .inr (.inr (.inr (.inr (fun k => (h_r h o k).map (B + ·)))))) := by
  unfold am_ce
  rw [if_neg (by omega), if_neg (by omega), if_neg (by omega), hk]
end AMW

section AMI
variable {pc : Nat} {L : am_L} {S : List am_V} {h : am_H} {ok : List Prop} {g : am_F}
theorem so_pu {v : am_V} (hs : k_pu pc L S h v = some (ok, g)) : (True) ∧ ok = [] ∧ g = (pc, L, v :: S, h) := by
  unfold k_pu at hs
  repeat' split at hs
  all_goals first | (cases hs; done) | (have hs := Option.some.inj hs; have h1 := (Prod.mk.inj hs).1; have h2 := (Prod.mk.inj hs).2; subst h1; subst h2; first | exact ⟨trivial, rfl, rfl⟩ | exact ⟨_, ‹_›, rfl, rfl⟩ | exact ⟨_, _, rfl, rfl, rfl⟩ | exact ⟨_, _, _, rfl, rfl, rfl⟩ | exact ⟨_, _, _, _, rfl, rfl, rfl⟩ | exact ⟨_, _, _, _, _, _, rfl, rfl, rfl⟩ | exact ⟨_, _, ⟨rfl, ‹_›⟩, rfl, rfl⟩ | exact ⟨_, _, _, ⟨rfl, ‹_›⟩, rfl, rfl⟩ | exact ⟨_, _, _, _, ⟨rfl, ‹_›⟩, rfl, rfl⟩ | exact ⟨_, _, _, _, _, _, ⟨rfl, ‹_›⟩, rfl, rfl⟩)
theorem so_ild {i : Nat} (hs : k_ild pc L S h i = some (ok, g)) : ∃ (x : Int32), (L[i]? = some (some (.inl x))) ∧ ok = [] ∧ g = (pc, L, .inl x :: S, h) := by
  unfold k_ild at hs
  repeat' split at hs
  all_goals first | (cases hs; done) | (have hs := Option.some.inj hs; have h1 := (Prod.mk.inj hs).1; have h2 := (Prod.mk.inj hs).2; subst h1; subst h2; first | exact ⟨trivial, rfl, rfl⟩ | exact ⟨_, ‹_›, rfl, rfl⟩ | exact ⟨_, _, rfl, rfl, rfl⟩ | exact ⟨_, _, _, rfl, rfl, rfl⟩ | exact ⟨_, _, _, _, rfl, rfl, rfl⟩ | exact ⟨_, _, _, _, _, _, rfl, rfl, rfl⟩ | exact ⟨_, _, ⟨rfl, ‹_›⟩, rfl, rfl⟩ | exact ⟨_, _, _, ⟨rfl, ‹_›⟩, rfl, rfl⟩ | exact ⟨_, _, _, _, ⟨rfl, ‹_›⟩, rfl, rfl⟩ | exact ⟨_, _, _, _, _, _, ⟨rfl, ‹_›⟩, rfl, rfl⟩)
theorem so_lld {i : Nat} (hs : k_lld pc L S h i = some (ok, g)) : ∃ (x : Int64), (L[i]? = some (some (.inr (.inl x)))) ∧ ok = [] ∧ g = (pc, L, .inr (.inl x) :: S, h) := by
  unfold k_lld at hs
  repeat' split at hs
  all_goals first | (cases hs; done) | (have hs := Option.some.inj hs; have h1 := (Prod.mk.inj hs).1; have h2 := (Prod.mk.inj hs).2; subst h1; subst h2; first | exact ⟨trivial, rfl, rfl⟩ | exact ⟨_, ‹_›, rfl, rfl⟩ | exact ⟨_, _, rfl, rfl, rfl⟩ | exact ⟨_, _, _, rfl, rfl, rfl⟩ | exact ⟨_, _, _, _, rfl, rfl, rfl⟩ | exact ⟨_, _, _, _, _, _, rfl, rfl, rfl⟩ | exact ⟨_, _, ⟨rfl, ‹_›⟩, rfl, rfl⟩ | exact ⟨_, _, _, ⟨rfl, ‹_›⟩, rfl, rfl⟩ | exact ⟨_, _, _, _, ⟨rfl, ‹_›⟩, rfl, rfl⟩ | exact ⟨_, _, _, _, _, _, ⟨rfl, ‹_›⟩, rfl, rfl⟩)
theorem so_ald {i : Nat} (hs : k_ald pc L S h i = some (ok, g)) : ∃ (x : Option Nat ⊕ Nat), (L[i]? = some (some (.inr (.inr x)))) ∧ ok = [] ∧ g = (pc, L, .inr (.inr x) :: S, h) := by
  unfold k_ald at hs
  repeat' split at hs
  all_goals first | (cases hs; done) | (have hs := Option.some.inj hs; have h1 := (Prod.mk.inj hs).1; have h2 := (Prod.mk.inj hs).2; subst h1; subst h2; first | exact ⟨trivial, rfl, rfl⟩ | exact ⟨_, ‹_›, rfl, rfl⟩ | exact ⟨_, _, rfl, rfl, rfl⟩ | exact ⟨_, _, _, rfl, rfl, rfl⟩ | exact ⟨_, _, _, _, rfl, rfl, rfl⟩ | exact ⟨_, _, _, _, _, _, rfl, rfl, rfl⟩ | exact ⟨_, _, ⟨rfl, ‹_›⟩, rfl, rfl⟩ | exact ⟨_, _, _, ⟨rfl, ‹_›⟩, rfl, rfl⟩ | exact ⟨_, _, _, _, ⟨rfl, ‹_›⟩, rfl, rfl⟩ | exact ⟨_, _, _, _, _, _, ⟨rfl, ‹_›⟩, rfl, rfl⟩)
theorem so_ist {i : Nat} (hs : k_ist pc L S h i = some (ok, g)) : ∃ (x : Int32) (r : List am_V), (S = .inl x :: r ∧ i < L.length) ∧ ok = [] ∧ g = (pc, L.set i (some (.inl x)), r, h) := by
  unfold k_ist at hs
  repeat' split at hs
  all_goals first | (cases hs; done) | (have hs := Option.some.inj hs; have h1 := (Prod.mk.inj hs).1; have h2 := (Prod.mk.inj hs).2; subst h1; subst h2; first | exact ⟨trivial, rfl, rfl⟩ | exact ⟨_, ‹_›, rfl, rfl⟩ | exact ⟨_, _, rfl, rfl, rfl⟩ | exact ⟨_, _, _, rfl, rfl, rfl⟩ | exact ⟨_, _, _, _, rfl, rfl, rfl⟩ | exact ⟨_, _, _, _, _, _, rfl, rfl, rfl⟩ | exact ⟨_, _, ⟨rfl, ‹_›⟩, rfl, rfl⟩ | exact ⟨_, _, _, ⟨rfl, ‹_›⟩, rfl, rfl⟩ | exact ⟨_, _, _, _, ⟨rfl, ‹_›⟩, rfl, rfl⟩ | exact ⟨_, _, _, _, _, _, ⟨rfl, ‹_›⟩, rfl, rfl⟩)
theorem so_lst {i : Nat} (hs : k_lst pc L S h i = some (ok, g)) : ∃ (x : Int64) (r : List am_V), (S = .inr (.inl x) :: r ∧ i + 1 < L.length) ∧ ok = [] ∧ g = (pc, (L.set i (some (.inr (.inl x)))).set (i + 1) none, r, h) := by
  unfold k_lst at hs
  repeat' split at hs
  all_goals first | (cases hs; done) | (have hs := Option.some.inj hs; have h1 := (Prod.mk.inj hs).1; have h2 := (Prod.mk.inj hs).2; subst h1; subst h2; first | exact ⟨trivial, rfl, rfl⟩ | exact ⟨_, ‹_›, rfl, rfl⟩ | exact ⟨_, _, rfl, rfl, rfl⟩ | exact ⟨_, _, _, rfl, rfl, rfl⟩ | exact ⟨_, _, _, _, rfl, rfl, rfl⟩ | exact ⟨_, _, _, _, _, _, rfl, rfl, rfl⟩ | exact ⟨_, _, ⟨rfl, ‹_›⟩, rfl, rfl⟩ | exact ⟨_, _, _, ⟨rfl, ‹_›⟩, rfl, rfl⟩ | exact ⟨_, _, _, _, ⟨rfl, ‹_›⟩, rfl, rfl⟩ | exact ⟨_, _, _, _, _, _, ⟨rfl, ‹_›⟩, rfl, rfl⟩)
theorem so_ast {i : Nat} (hs : k_ast pc L S h i = some (ok, g)) : ∃ (x : Option Nat ⊕ Nat) (r : List am_V), (S = .inr (.inr x) :: r ∧ i < L.length) ∧ ok = [] ∧ g = (pc, L.set i (some (.inr (.inr x))), r, h) := by
  unfold k_ast at hs
  repeat' split at hs
  all_goals first | (cases hs; done) | (have hs := Option.some.inj hs; have h1 := (Prod.mk.inj hs).1; have h2 := (Prod.mk.inj hs).2; subst h1; subst h2; first | exact ⟨trivial, rfl, rfl⟩ | exact ⟨_, ‹_›, rfl, rfl⟩ | exact ⟨_, _, rfl, rfl, rfl⟩ | exact ⟨_, _, _, rfl, rfl, rfl⟩ | exact ⟨_, _, _, _, rfl, rfl, rfl⟩ | exact ⟨_, _, _, _, _, _, rfl, rfl, rfl⟩ | exact ⟨_, _, ⟨rfl, ‹_›⟩, rfl, rfl⟩ | exact ⟨_, _, _, ⟨rfl, ‹_›⟩, rfl, rfl⟩ | exact ⟨_, _, _, _, ⟨rfl, ‹_›⟩, rfl, rfl⟩ | exact ⟨_, _, _, _, _, _, ⟨rfl, ‹_›⟩, rfl, rfl⟩)
theorem so_inc {i : Nat} {v : Int32} (hs : k_inc pc L S h i v = some (ok, g)) : ∃ (x : Int32), (L[i]? = some (some (.inl x))) ∧ ok = [] ∧ g = (pc, L.set i (some (.inl (x + v))), S, h) := by
  unfold k_inc at hs
  repeat' split at hs
  all_goals first | (cases hs; done) | (have hs := Option.some.inj hs; have h1 := (Prod.mk.inj hs).1; have h2 := (Prod.mk.inj hs).2; subst h1; subst h2; first | exact ⟨trivial, rfl, rfl⟩ | exact ⟨_, ‹_›, rfl, rfl⟩ | exact ⟨_, _, rfl, rfl, rfl⟩ | exact ⟨_, _, _, rfl, rfl, rfl⟩ | exact ⟨_, _, _, _, rfl, rfl, rfl⟩ | exact ⟨_, _, _, _, _, _, rfl, rfl, rfl⟩ | exact ⟨_, _, ⟨rfl, ‹_›⟩, rfl, rfl⟩ | exact ⟨_, _, _, ⟨rfl, ‹_›⟩, rfl, rfl⟩ | exact ⟨_, _, _, _, ⟨rfl, ‹_›⟩, rfl, rfl⟩ | exact ⟨_, _, _, _, _, _, ⟨rfl, ‹_›⟩, rfl, rfl⟩)
theorem so_i2 {f : Int32 → Int32 → Int32} (hs : k_i2 pc L S h f = some (ok, g)) : ∃ (x y : Int32) (r : List am_V), (S = .inl y :: .inl x :: r) ∧ ok = [] ∧ g = (pc, L, .inl (f x y) :: r, h) := by
  unfold k_i2 at hs
  repeat' split at hs
  all_goals first | (cases hs; done) | (have hs := Option.some.inj hs; have h1 := (Prod.mk.inj hs).1; have h2 := (Prod.mk.inj hs).2; subst h1; subst h2; first | exact ⟨trivial, rfl, rfl⟩ | exact ⟨_, ‹_›, rfl, rfl⟩ | exact ⟨_, _, rfl, rfl, rfl⟩ | exact ⟨_, _, _, rfl, rfl, rfl⟩ | exact ⟨_, _, _, _, rfl, rfl, rfl⟩ | exact ⟨_, _, _, _, _, _, rfl, rfl, rfl⟩ | exact ⟨_, _, ⟨rfl, ‹_›⟩, rfl, rfl⟩ | exact ⟨_, _, _, ⟨rfl, ‹_›⟩, rfl, rfl⟩ | exact ⟨_, _, _, _, ⟨rfl, ‹_›⟩, rfl, rfl⟩ | exact ⟨_, _, _, _, _, _, ⟨rfl, ‹_›⟩, rfl, rfl⟩)
theorem so_i2d {f : Int32 → Int32 → Int32} (hs : k_i2d pc L S h f = some (ok, g)) : ∃ (x y : Int32) (r : List am_V), (S = .inl y :: .inl x :: r) ∧ ok = [¬ y = 0] ∧ g = (pc, L, .inl (f x y) :: r, h) := by
  unfold k_i2d at hs
  repeat' split at hs
  all_goals first | (cases hs; done) | (have hs := Option.some.inj hs; have h1 := (Prod.mk.inj hs).1; have h2 := (Prod.mk.inj hs).2; subst h1; subst h2; first | exact ⟨trivial, rfl, rfl⟩ | exact ⟨_, ‹_›, rfl, rfl⟩ | exact ⟨_, _, rfl, rfl, rfl⟩ | exact ⟨_, _, _, rfl, rfl, rfl⟩ | exact ⟨_, _, _, _, rfl, rfl, rfl⟩ | exact ⟨_, _, _, _, _, _, rfl, rfl, rfl⟩ | exact ⟨_, _, ⟨rfl, ‹_›⟩, rfl, rfl⟩ | exact ⟨_, _, _, ⟨rfl, ‹_›⟩, rfl, rfl⟩ | exact ⟨_, _, _, _, ⟨rfl, ‹_›⟩, rfl, rfl⟩ | exact ⟨_, _, _, _, _, _, ⟨rfl, ‹_›⟩, rfl, rfl⟩)
theorem so_l2 {f : Int64 → Int64 → Int64} (hs : k_l2 pc L S h f = some (ok, g)) : ∃ (x y : Int64) (r : List am_V), (S = .inr (.inl y) :: .inr (.inl x) :: r) ∧ ok = [] ∧ g = (pc, L, .inr (.inl (f x y)) :: r, h) := by
  unfold k_l2 at hs
  repeat' split at hs
  all_goals first | (cases hs; done) | (have hs := Option.some.inj hs; have h1 := (Prod.mk.inj hs).1; have h2 := (Prod.mk.inj hs).2; subst h1; subst h2; first | exact ⟨trivial, rfl, rfl⟩ | exact ⟨_, ‹_›, rfl, rfl⟩ | exact ⟨_, _, rfl, rfl, rfl⟩ | exact ⟨_, _, _, rfl, rfl, rfl⟩ | exact ⟨_, _, _, _, rfl, rfl, rfl⟩ | exact ⟨_, _, _, _, _, _, rfl, rfl, rfl⟩ | exact ⟨_, _, ⟨rfl, ‹_›⟩, rfl, rfl⟩ | exact ⟨_, _, _, ⟨rfl, ‹_›⟩, rfl, rfl⟩ | exact ⟨_, _, _, _, ⟨rfl, ‹_›⟩, rfl, rfl⟩ | exact ⟨_, _, _, _, _, _, ⟨rfl, ‹_›⟩, rfl, rfl⟩)
theorem so_l2d {f : Int64 → Int64 → Int64} (hs : k_l2d pc L S h f = some (ok, g)) : ∃ (x y : Int64) (r : List am_V), (S = .inr (.inl y) :: .inr (.inl x) :: r) ∧ ok = [¬ y = 0] ∧ g = (pc, L, .inr (.inl (f x y)) :: r, h) := by
  unfold k_l2d at hs
  repeat' split at hs
  all_goals first | (cases hs; done) | (have hs := Option.some.inj hs; have h1 := (Prod.mk.inj hs).1; have h2 := (Prod.mk.inj hs).2; subst h1; subst h2; first | exact ⟨trivial, rfl, rfl⟩ | exact ⟨_, ‹_›, rfl, rfl⟩ | exact ⟨_, _, rfl, rfl, rfl⟩ | exact ⟨_, _, _, rfl, rfl, rfl⟩ | exact ⟨_, _, _, _, rfl, rfl, rfl⟩ | exact ⟨_, _, _, _, _, _, rfl, rfl, rfl⟩ | exact ⟨_, _, ⟨rfl, ‹_›⟩, rfl, rfl⟩ | exact ⟨_, _, _, ⟨rfl, ‹_›⟩, rfl, rfl⟩ | exact ⟨_, _, _, _, ⟨rfl, ‹_›⟩, rfl, rfl⟩ | exact ⟨_, _, _, _, _, _, ⟨rfl, ‹_›⟩, rfl, rfl⟩)
theorem so_lsh {f : Int64 → Int32 → Int64} (hs : k_lsh pc L S h f = some (ok, g)) : ∃ (x : Int64) (y : Int32) (r : List am_V), (S = .inl y :: .inr (.inl x) :: r) ∧ ok = [] ∧ g = (pc, L, .inr (.inl (f x y)) :: r, h) := by
  unfold k_lsh at hs
  repeat' split at hs
  all_goals first | (cases hs; done) | (have hs := Option.some.inj hs; have h1 := (Prod.mk.inj hs).1; have h2 := (Prod.mk.inj hs).2; subst h1; subst h2; first | exact ⟨trivial, rfl, rfl⟩ | exact ⟨_, ‹_›, rfl, rfl⟩ | exact ⟨_, _, rfl, rfl, rfl⟩ | exact ⟨_, _, _, rfl, rfl, rfl⟩ | exact ⟨_, _, _, _, rfl, rfl, rfl⟩ | exact ⟨_, _, _, _, _, _, rfl, rfl, rfl⟩ | exact ⟨_, _, ⟨rfl, ‹_›⟩, rfl, rfl⟩ | exact ⟨_, _, _, ⟨rfl, ‹_›⟩, rfl, rfl⟩ | exact ⟨_, _, _, _, ⟨rfl, ‹_›⟩, rfl, rfl⟩ | exact ⟨_, _, _, _, _, _, ⟨rfl, ‹_›⟩, rfl, rfl⟩)
theorem so_lcm (hs : k_lcm pc L S h = some (ok, g)) : ∃ (x y : Int64) (r : List am_V), (S = .inr (.inl y) :: .inr (.inl x) :: r) ∧ ok = [] ∧ g = (pc, L, .inl (lg_cmp x y) :: r, h) := by
  unfold k_lcm at hs
  repeat' split at hs
  all_goals first | (cases hs; done) | (have hs := Option.some.inj hs; have h1 := (Prod.mk.inj hs).1; have h2 := (Prod.mk.inj hs).2; subst h1; subst h2; first | exact ⟨trivial, rfl, rfl⟩ | exact ⟨_, ‹_›, rfl, rfl⟩ | exact ⟨_, _, rfl, rfl, rfl⟩ | exact ⟨_, _, _, rfl, rfl, rfl⟩ | exact ⟨_, _, _, _, rfl, rfl, rfl⟩ | exact ⟨_, _, _, _, _, _, rfl, rfl, rfl⟩ | exact ⟨_, _, ⟨rfl, ‹_›⟩, rfl, rfl⟩ | exact ⟨_, _, _, ⟨rfl, ‹_›⟩, rfl, rfl⟩ | exact ⟨_, _, _, _, ⟨rfl, ‹_›⟩, rfl, rfl⟩ | exact ⟨_, _, _, _, _, _, ⟨rfl, ‹_›⟩, rfl, rfl⟩)
theorem so_i1 {f : Int32 → Int32} (hs : k_i1 pc L S h f = some (ok, g)) : ∃ (x : Int32) (r : List am_V), (S = .inl x :: r) ∧ ok = [] ∧ g = (pc, L, .inl (f x) :: r, h) := by
  unfold k_i1 at hs
  repeat' split at hs
  all_goals first | (cases hs; done) | (have hs := Option.some.inj hs; have h1 := (Prod.mk.inj hs).1; have h2 := (Prod.mk.inj hs).2; subst h1; subst h2; first | exact ⟨trivial, rfl, rfl⟩ | exact ⟨_, ‹_›, rfl, rfl⟩ | exact ⟨_, _, rfl, rfl, rfl⟩ | exact ⟨_, _, _, rfl, rfl, rfl⟩ | exact ⟨_, _, _, _, rfl, rfl, rfl⟩ | exact ⟨_, _, _, _, _, _, rfl, rfl, rfl⟩ | exact ⟨_, _, ⟨rfl, ‹_›⟩, rfl, rfl⟩ | exact ⟨_, _, _, ⟨rfl, ‹_›⟩, rfl, rfl⟩ | exact ⟨_, _, _, _, ⟨rfl, ‹_›⟩, rfl, rfl⟩ | exact ⟨_, _, _, _, _, _, ⟨rfl, ‹_›⟩, rfl, rfl⟩)
theorem so_il {f : Int32 → Int64} (hs : k_il pc L S h f = some (ok, g)) : ∃ (x : Int32) (r : List am_V), (S = .inl x :: r) ∧ ok = [] ∧ g = (pc, L, .inr (.inl (f x)) :: r, h) := by
  unfold k_il at hs
  repeat' split at hs
  all_goals first | (cases hs; done) | (have hs := Option.some.inj hs; have h1 := (Prod.mk.inj hs).1; have h2 := (Prod.mk.inj hs).2; subst h1; subst h2; first | exact ⟨trivial, rfl, rfl⟩ | exact ⟨_, ‹_›, rfl, rfl⟩ | exact ⟨_, _, rfl, rfl, rfl⟩ | exact ⟨_, _, _, rfl, rfl, rfl⟩ | exact ⟨_, _, _, _, rfl, rfl, rfl⟩ | exact ⟨_, _, _, _, _, _, rfl, rfl, rfl⟩ | exact ⟨_, _, ⟨rfl, ‹_›⟩, rfl, rfl⟩ | exact ⟨_, _, _, ⟨rfl, ‹_›⟩, rfl, rfl⟩ | exact ⟨_, _, _, _, ⟨rfl, ‹_›⟩, rfl, rfl⟩ | exact ⟨_, _, _, _, _, _, ⟨rfl, ‹_›⟩, rfl, rfl⟩)
theorem so_li {f : Int64 → Int32} (hs : k_li pc L S h f = some (ok, g)) : ∃ (x : Int64) (r : List am_V), (S = .inr (.inl x) :: r) ∧ ok = [] ∧ g = (pc, L, .inl (f x) :: r, h) := by
  unfold k_li at hs
  repeat' split at hs
  all_goals first | (cases hs; done) | (have hs := Option.some.inj hs; have h1 := (Prod.mk.inj hs).1; have h2 := (Prod.mk.inj hs).2; subst h1; subst h2; first | exact ⟨trivial, rfl, rfl⟩ | exact ⟨_, ‹_›, rfl, rfl⟩ | exact ⟨_, _, rfl, rfl, rfl⟩ | exact ⟨_, _, _, rfl, rfl, rfl⟩ | exact ⟨_, _, _, _, rfl, rfl, rfl⟩ | exact ⟨_, _, _, _, _, _, rfl, rfl, rfl⟩ | exact ⟨_, _, ⟨rfl, ‹_›⟩, rfl, rfl⟩ | exact ⟨_, _, _, ⟨rfl, ‹_›⟩, rfl, rfl⟩ | exact ⟨_, _, _, _, ⟨rfl, ‹_›⟩, rfl, rfl⟩ | exact ⟨_, _, _, _, _, _, ⟨rfl, ‹_›⟩, rfl, rfl⟩)
theorem so_dup (hs : k_dup pc L S h = some (ok, g)) : ∃ (v : am_V) (r : List am_V), (S = v :: r ∧ am_c1 v = true) ∧ ok = [] ∧ g = (pc, L, v :: v :: r, h) := by
  unfold k_dup at hs
  repeat' split at hs
  all_goals first | (cases hs; done) | (have hs := Option.some.inj hs; have h1 := (Prod.mk.inj hs).1; have h2 := (Prod.mk.inj hs).2; subst h1; subst h2; first | exact ⟨trivial, rfl, rfl⟩ | exact ⟨_, ‹_›, rfl, rfl⟩ | exact ⟨_, _, rfl, rfl, rfl⟩ | exact ⟨_, _, _, rfl, rfl, rfl⟩ | exact ⟨_, _, _, _, rfl, rfl, rfl⟩ | exact ⟨_, _, _, _, _, _, rfl, rfl, rfl⟩ | exact ⟨_, _, ⟨rfl, ‹_›⟩, rfl, rfl⟩ | exact ⟨_, _, _, ⟨rfl, ‹_›⟩, rfl, rfl⟩ | exact ⟨_, _, _, _, ⟨rfl, ‹_›⟩, rfl, rfl⟩ | exact ⟨_, _, _, _, _, _, ⟨rfl, ‹_›⟩, rfl, rfl⟩)
theorem so_pop (hs : k_pop pc L S h = some (ok, g)) : ∃ (v : am_V) (r : List am_V), (S = v :: r ∧ am_c1 v = true) ∧ ok = [] ∧ g = (pc, L, r, h) := by
  unfold k_pop at hs
  repeat' split at hs
  all_goals first | (cases hs; done) | (have hs := Option.some.inj hs; have h1 := (Prod.mk.inj hs).1; have h2 := (Prod.mk.inj hs).2; subst h1; subst h2; first | exact ⟨trivial, rfl, rfl⟩ | exact ⟨_, ‹_›, rfl, rfl⟩ | exact ⟨_, _, rfl, rfl, rfl⟩ | exact ⟨_, _, _, rfl, rfl, rfl⟩ | exact ⟨_, _, _, _, rfl, rfl, rfl⟩ | exact ⟨_, _, _, _, _, _, rfl, rfl, rfl⟩ | exact ⟨_, _, ⟨rfl, ‹_›⟩, rfl, rfl⟩ | exact ⟨_, _, _, ⟨rfl, ‹_›⟩, rfl, rfl⟩ | exact ⟨_, _, _, _, ⟨rfl, ‹_›⟩, rfl, rfl⟩ | exact ⟨_, _, _, _, _, _, ⟨rfl, ‹_›⟩, rfl, rfl⟩)
theorem so_du2 (hs : k_du2 pc L S h = some (ok, g)) : ∃ (v w : am_V) (r : List am_V), (S = v :: w :: r ∧ am_c1 v = true ∧ am_c1 w = true) ∧ ok = [] ∧ g = (pc, L, v :: w :: v :: w :: r, h) := by
  unfold k_du2 at hs
  repeat' split at hs
  all_goals first | (cases hs; done) | (have hs := Option.some.inj hs; have h1 := (Prod.mk.inj hs).1; have h2 := (Prod.mk.inj hs).2; subst h1; subst h2; first | exact ⟨trivial, rfl, rfl⟩ | exact ⟨_, ‹_›, rfl, rfl⟩ | exact ⟨_, _, rfl, rfl, rfl⟩ | exact ⟨_, _, _, rfl, rfl, rfl⟩ | exact ⟨_, _, _, _, rfl, rfl, rfl⟩ | exact ⟨_, _, _, _, _, _, rfl, rfl, rfl⟩ | exact ⟨_, _, ⟨rfl, ‹_›⟩, rfl, rfl⟩ | exact ⟨_, _, _, ⟨rfl, ‹_›⟩, rfl, rfl⟩ | exact ⟨_, _, _, _, ⟨rfl, ‹_›⟩, rfl, rfl⟩ | exact ⟨_, _, _, _, _, _, ⟨rfl, ‹_›⟩, rfl, rfl⟩)
theorem so_nul {t : Nat} (hs : k_nul pc L S h t = some (ok, g)) : ∃ (x : Option Nat) (r : List am_V), (S = .inr (.inr (.inl x)) :: r) ∧ ok = [] ∧ g = (if x = none then t else pc, L, r, h) := by
  unfold k_nul at hs
  split at hs
  all_goals first | (cases hs; done) | (have hs := Option.some.inj hs; have h1 := (Prod.mk.inj hs).1; have h2 := (Prod.mk.inj hs).2; subst h1; subst h2; first | exact ⟨trivial, rfl, rfl⟩ | exact ⟨_, ‹_›, rfl, rfl⟩ | exact ⟨_, _, rfl, rfl, rfl⟩ | exact ⟨_, _, _, rfl, rfl, rfl⟩ | exact ⟨_, _, _, _, rfl, rfl, rfl⟩ | exact ⟨_, _, _, _, _, _, rfl, rfl, rfl⟩ | exact ⟨_, _, ⟨rfl, ‹_›⟩, rfl, rfl⟩ | exact ⟨_, _, _, ⟨rfl, ‹_›⟩, rfl, rfl⟩ | exact ⟨_, _, _, _, ⟨rfl, ‹_›⟩, rfl, rfl⟩ | exact ⟨_, _, _, _, _, _, ⟨rfl, ‹_›⟩, rfl, rfl⟩)
theorem so_nnu {t : Nat} (hs : k_nnu pc L S h t = some (ok, g)) : ∃ (x : Option Nat) (r : List am_V), (S = .inr (.inr (.inl x)) :: r) ∧ ok = [] ∧ g = (if x = none then pc else t, L, r, h) := by
  unfold k_nnu at hs
  split at hs
  all_goals first | (cases hs; done) | (have hs := Option.some.inj hs; have h1 := (Prod.mk.inj hs).1; have h2 := (Prod.mk.inj hs).2; subst h1; subst h2; first | exact ⟨trivial, rfl, rfl⟩ | exact ⟨_, ‹_›, rfl, rfl⟩ | exact ⟨_, _, rfl, rfl, rfl⟩ | exact ⟨_, _, _, rfl, rfl, rfl⟩ | exact ⟨_, _, _, _, rfl, rfl, rfl⟩ | exact ⟨_, _, _, _, _, _, rfl, rfl, rfl⟩ | exact ⟨_, _, ⟨rfl, ‹_›⟩, rfl, rfl⟩ | exact ⟨_, _, _, ⟨rfl, ‹_›⟩, rfl, rfl⟩ | exact ⟨_, _, _, _, ⟨rfl, ‹_›⟩, rfl, rfl⟩ | exact ⟨_, _, _, _, _, _, ⟨rfl, ‹_›⟩, rfl, rfl⟩)
theorem so_lald (hs : k_lald pc L S h = some (ok, g)) : ∃ (i : Int32) (x : Option Nat) (r : List am_V), (S = .inl i :: .inr (.inr (.inl x)) :: r) ∧ ok = [am_ar h x 23 i] ∧ g = (pc, L, .inr (.inl (h_j h (x.getD 0) i.toNatClampNeg)) :: r, h) := by
  unfold k_lald at hs
  repeat' split at hs
  all_goals first | (cases hs; done) | (have hs := Option.some.inj hs; have h1 := (Prod.mk.inj hs).1; have h2 := (Prod.mk.inj hs).2; subst h1; subst h2; first | exact ⟨trivial, rfl, rfl⟩ | exact ⟨_, ‹_›, rfl, rfl⟩ | exact ⟨_, _, rfl, rfl, rfl⟩ | exact ⟨_, _, _, rfl, rfl, rfl⟩ | exact ⟨_, _, _, _, rfl, rfl, rfl⟩ | exact ⟨_, _, _, _, _, _, rfl, rfl, rfl⟩ | exact ⟨_, _, ⟨rfl, ‹_›⟩, rfl, rfl⟩ | exact ⟨_, _, _, ⟨rfl, ‹_›⟩, rfl, rfl⟩ | exact ⟨_, _, _, _, ⟨rfl, ‹_›⟩, rfl, rfl⟩ | exact ⟨_, _, _, _, _, _, ⟨rfl, ‹_›⟩, rfl, rfl⟩)
theorem so_aald {ci : Nat} (hs : k_aald pc L S h ci = some (ok, g)) : ∃ (i : Int32) (x : Option Nat) (r : List am_V), (S = .inl i :: .inr (.inr (.inl x)) :: r) ∧ ok = [am_ar h x (30 + ci) i] ∧ g = (pc, L, .inr (.inr (.inl (h_r h (x.getD 0) i.toNatClampNeg))) :: r, h) := by
  unfold k_aald at hs
  repeat' split at hs
  all_goals first | (cases hs; done) | (have hs := Option.some.inj hs; have h1 := (Prod.mk.inj hs).1; have h2 := (Prod.mk.inj hs).2; subst h1; subst h2; first | exact ⟨trivial, rfl, rfl⟩ | exact ⟨_, ‹_›, rfl, rfl⟩ | exact ⟨_, _, rfl, rfl, rfl⟩ | exact ⟨_, _, _, rfl, rfl, rfl⟩ | exact ⟨_, _, _, _, rfl, rfl, rfl⟩ | exact ⟨_, _, _, _, _, _, rfl, rfl, rfl⟩ | exact ⟨_, _, ⟨rfl, ‹_›⟩, rfl, rfl⟩ | exact ⟨_, _, _, ⟨rfl, ‹_›⟩, rfl, rfl⟩ | exact ⟨_, _, _, _, ⟨rfl, ‹_›⟩, rfl, rfl⟩ | exact ⟨_, _, _, _, _, _, ⟨rfl, ‹_›⟩, rfl, rfl⟩)
theorem so_iast (hs : k_iast pc L S h = some (ok, g)) : ∃ (v i : Int32) (x : Option Nat) (r : List am_V), (S = .inl v :: .inl i :: .inr (.inr (.inl x)) :: r) ∧ ok = [am_ar h x 20 i] ∧ g = (pc, L, r, p_i h (x.getD 0) i.toNatClampNeg v) := by
  unfold k_iast at hs
  repeat' split at hs
  all_goals first | (cases hs; done) | (have hs := Option.some.inj hs; have h1 := (Prod.mk.inj hs).1; have h2 := (Prod.mk.inj hs).2; subst h1; subst h2; first | exact ⟨trivial, rfl, rfl⟩ | exact ⟨_, ‹_›, rfl, rfl⟩ | exact ⟨_, _, rfl, rfl, rfl⟩ | exact ⟨_, _, _, rfl, rfl, rfl⟩ | exact ⟨_, _, _, _, rfl, rfl, rfl⟩ | exact ⟨_, _, _, _, _, _, rfl, rfl, rfl⟩ | exact ⟨_, _, ⟨rfl, ‹_›⟩, rfl, rfl⟩ | exact ⟨_, _, _, ⟨rfl, ‹_›⟩, rfl, rfl⟩ | exact ⟨_, _, _, _, ⟨rfl, ‹_›⟩, rfl, rfl⟩ | exact ⟨_, _, _, _, _, _, ⟨rfl, ‹_›⟩, rfl, rfl⟩)
theorem so_last (hs : k_last pc L S h = some (ok, g)) : ∃ (v : Int64) (i : Int32) (x : Option Nat) (r : List am_V), (S = .inr (.inl v) :: .inl i :: .inr (.inr (.inl x)) :: r) ∧ ok = [am_ar h x 23 i] ∧ g = (pc, L, r, p_j h (x.getD 0) i.toNatClampNeg v) := by
  unfold k_last at hs
  repeat' split at hs
  all_goals first | (cases hs; done) | (have hs := Option.some.inj hs; have h1 := (Prod.mk.inj hs).1; have h2 := (Prod.mk.inj hs).2; subst h1; subst h2; first | exact ⟨trivial, rfl, rfl⟩ | exact ⟨_, ‹_›, rfl, rfl⟩ | exact ⟨_, _, rfl, rfl, rfl⟩ | exact ⟨_, _, _, rfl, rfl, rfl⟩ | exact ⟨_, _, _, _, rfl, rfl, rfl⟩ | exact ⟨_, _, _, _, _, _, rfl, rfl, rfl⟩ | exact ⟨_, _, ⟨rfl, ‹_›⟩, rfl, rfl⟩ | exact ⟨_, _, _, ⟨rfl, ‹_›⟩, rfl, rfl⟩ | exact ⟨_, _, _, _, ⟨rfl, ‹_›⟩, rfl, rfl⟩ | exact ⟨_, _, _, _, _, _, ⟨rfl, ‹_›⟩, rfl, rfl⟩)
theorem so_aast {ci : Nat} (hs : k_aast pc L S h ci = some (ok, g)) : ∃ (v : Option Nat) (i : Int32) (x : Option Nat) (r : List am_V), (S = .inr (.inr (.inl v)) :: .inl i :: .inr (.inr (.inl x)) :: r ∧ ci < 13) ∧ ok = [am_is h v ci, am_ar h x (30 + ci) i] ∧ g = (pc, L, r, p_r h (x.getD 0) i.toNatClampNeg v) := by
  unfold k_aast at hs
  repeat' split at hs
  all_goals first | (cases hs; done) | (have hs := Option.some.inj hs; have h1 := (Prod.mk.inj hs).1; have h2 := (Prod.mk.inj hs).2; subst h1; subst h2; first | exact ⟨trivial, rfl, rfl⟩ | exact ⟨_, ‹_›, rfl, rfl⟩ | exact ⟨_, _, rfl, rfl, rfl⟩ | exact ⟨_, _, _, rfl, rfl, rfl⟩ | exact ⟨_, _, _, _, rfl, rfl, rfl⟩ | exact ⟨_, _, _, _, _, _, rfl, rfl, rfl⟩ | exact ⟨_, _, ⟨rfl, ‹_›⟩, rfl, rfl⟩ | exact ⟨_, _, _, ⟨rfl, ‹_›⟩, rfl, rfl⟩ | exact ⟨_, _, _, _, ⟨rfl, ‹_›⟩, rfl, rfl⟩ | exact ⟨_, _, _, _, _, _, ⟨rfl, ‹_›⟩, rfl, rfl⟩)
theorem so_newa {a : Nat} (hs : k_newa pc L S h a = some (ok, g)) : ∃ (n : Int32) (r : List am_V), (S = .inl n :: r) ∧ ok = [¬ n < 0, n.toNatClampNeg ≤ 100000] ∧ g = (pc, L, .inr (.inr (.inl (some (h_n h)))) :: r, p_n h a n.toNatClampNeg) := by
  unfold k_newa at hs
  repeat' split at hs
  all_goals first | (cases hs; done) | (have hs := Option.some.inj hs; have h1 := (Prod.mk.inj hs).1; have h2 := (Prod.mk.inj hs).2; subst h1; subst h2; first | exact ⟨trivial, rfl, rfl⟩ | exact ⟨_, ‹_›, rfl, rfl⟩ | exact ⟨_, _, rfl, rfl, rfl⟩ | exact ⟨_, _, _, rfl, rfl, rfl⟩ | exact ⟨_, _, _, _, rfl, rfl, rfl⟩ | exact ⟨_, _, _, _, _, _, rfl, rfl, rfl⟩ | exact ⟨_, _, ⟨rfl, ‹_›⟩, rfl, rfl⟩ | exact ⟨_, _, _, ⟨rfl, ‹_›⟩, rfl, rfl⟩ | exact ⟨_, _, _, _, ⟨rfl, ‹_›⟩, rfl, rfl⟩ | exact ⟨_, _, _, _, _, _, ⟨rfl, ‹_›⟩, rfl, rfl⟩)
theorem so_new {ci n : Nat} (hs : k_new pc L S h ci n = some (ok, g)) : (True) ∧ ok = [] ∧ g = (pc, L, .inr (.inr (.inl (some (h_n h)))) :: S, p_n h ci n) := by
  unfold k_new at hs
  repeat' split at hs
  all_goals first | (cases hs; done) | (have hs := Option.some.inj hs; have h1 := (Prod.mk.inj hs).1; have h2 := (Prod.mk.inj hs).2; subst h1; subst h2; first | exact ⟨trivial, rfl, rfl⟩ | exact ⟨_, ‹_›, rfl, rfl⟩ | exact ⟨_, _, rfl, rfl, rfl⟩ | exact ⟨_, _, _, rfl, rfl, rfl⟩ | exact ⟨_, _, _, _, rfl, rfl, rfl⟩ | exact ⟨_, _, _, _, _, _, rfl, rfl, rfl⟩ | exact ⟨_, _, ⟨rfl, ‹_›⟩, rfl, rfl⟩ | exact ⟨_, _, _, ⟨rfl, ‹_›⟩, rfl, rfl⟩ | exact ⟨_, _, _, _, ⟨rfl, ‹_›⟩, rfl, rfl⟩ | exact ⟨_, _, _, _, _, _, ⟨rfl, ‹_›⟩, rfl, rfl⟩)
theorem so_obj (hs : k_obj pc L S h = some (ok, g)) : ∃ (x : Option Nat) (r : List am_V), (S = .inr (.inr (.inl x)) :: r ∧ am_w r ≤ 40) ∧ ok = [¬ x = none] ∧ g = (pc, L, r, h) := by
  unfold k_obj at hs
  repeat' split at hs
  all_goals first | (cases hs; done) | (have hs := Option.some.inj hs; have h1 := (Prod.mk.inj hs).1; have h2 := (Prod.mk.inj hs).2; subst h1; subst h2; first | exact ⟨trivial, rfl, rfl⟩ | exact ⟨_, ‹_›, rfl, rfl⟩ | exact ⟨_, _, rfl, rfl, rfl⟩ | exact ⟨_, _, _, rfl, rfl, rfl⟩ | exact ⟨_, _, _, _, rfl, rfl, rfl⟩ | exact ⟨_, _, _, _, _, _, rfl, rfl, rfl⟩ | exact ⟨_, _, ⟨rfl, ‹_›⟩, rfl, rfl⟩ | exact ⟨_, _, _, ⟨rfl, ‹_›⟩, rfl, rfl⟩ | exact ⟨_, _, _, _, ⟨rfl, ‹_›⟩, rfl, rfl⟩ | exact ⟨_, _, _, _, _, _, ⟨rfl, ‹_›⟩, rfl, rfl⟩)
theorem so_cpy (hs : k_cpy pc L S h = some (ok, g)) : ∃ (n dp : Int32) (b : Option Nat) (sp : Int32) (a : Option Nat) (r : List am_V), (S = .inl n :: .inl dp :: .inr (.inr (.inl b)) :: .inl sp :: .inr (.inr (.inl a)) :: r ∧ am_w r ≤ 40) ∧ ok = [am_cp h a b sp dp n] ∧ g = (pc, L, r, p_a h (b.getD 0) (va_cpy (h_i h (a.getD 0)) (h_i h (b.getD 0)) sp.toNatClampNeg dp.toNatClampNeg n.toNatClampNeg)) := by
  unfold k_cpy at hs
  repeat' split at hs
  all_goals first | (cases hs; done) | (have hs := Option.some.inj hs; have h1 := (Prod.mk.inj hs).1; have h2 := (Prod.mk.inj hs).2; subst h1; subst h2; first | exact ⟨trivial, rfl, rfl⟩ | exact ⟨_, ‹_›, rfl, rfl⟩ | exact ⟨_, _, rfl, rfl, rfl⟩ | exact ⟨_, _, _, rfl, rfl, rfl⟩ | exact ⟨_, _, _, _, rfl, rfl, rfl⟩ | exact ⟨_, _, _, _, _, _, rfl, rfl, rfl⟩ | exact ⟨_, _, ⟨rfl, ‹_›⟩, rfl, rfl⟩ | exact ⟨_, _, _, ⟨rfl, ‹_›⟩, rfl, rfl⟩ | exact ⟨_, _, _, _, ⟨rfl, ‹_›⟩, rfl, rfl⟩ | exact ⟨_, _, _, _, _, _, ⟨rfl, ‹_›⟩, rfl, rfl⟩)
theorem so_mx (hs : k_mx pc L S h = some (ok, g)) : ∃ (x y : Int32) (r : List am_V), (S = .inl y :: .inl x :: r ∧ am_w r ≤ 40) ∧ ok = [] ∧ g = (pc, L, .inl (if x < y then y else x) :: r, h) := by
  unfold k_mx at hs
  split at hs
  split at hs
  all_goals first | (cases hs; done) | (have hs := Option.some.inj hs; have h1 := (Prod.mk.inj hs).1; have h2 := (Prod.mk.inj hs).2; subst h1; subst h2; first | exact ⟨trivial, rfl, rfl⟩ | exact ⟨_, ‹_›, rfl, rfl⟩ | exact ⟨_, _, rfl, rfl, rfl⟩ | exact ⟨_, _, _, rfl, rfl, rfl⟩ | exact ⟨_, _, _, _, rfl, rfl, rfl⟩ | exact ⟨_, _, _, _, _, _, rfl, rfl, rfl⟩ | exact ⟨_, _, ⟨rfl, ‹_›⟩, rfl, rfl⟩ | exact ⟨_, _, _, ⟨rfl, ‹_›⟩, rfl, rfl⟩ | exact ⟨_, _, _, _, ⟨rfl, ‹_›⟩, rfl, rfl⟩ | exact ⟨_, _, _, _, _, _, ⟨rfl, ‹_›⟩, rfl, rfl⟩)
theorem so_mn (hs : k_mn pc L S h = some (ok, g)) : ∃ (x y : Int32) (r : List am_V), (S = .inl y :: .inl x :: r ∧ am_w r ≤ 40) ∧ ok = [] ∧ g = (pc, L, .inl (if y < x then y else x) :: r, h) := by
  unfold k_mn at hs
  split at hs
  split at hs
  all_goals first | (cases hs; done) | (have hs := Option.some.inj hs; have h1 := (Prod.mk.inj hs).1; have h2 := (Prod.mk.inj hs).2; subst h1; subst h2; first | exact ⟨trivial, rfl, rfl⟩ | exact ⟨_, ‹_›, rfl, rfl⟩ | exact ⟨_, _, rfl, rfl, rfl⟩ | exact ⟨_, _, _, rfl, rfl, rfl⟩ | exact ⟨_, _, _, _, rfl, rfl, rfl⟩ | exact ⟨_, _, _, _, _, _, rfl, rfl, rfl⟩ | exact ⟨_, _, ⟨rfl, ‹_›⟩, rfl, rfl⟩ | exact ⟨_, _, _, ⟨rfl, ‹_›⟩, rfl, rfl⟩ | exact ⟨_, _, _, _, ⟨rfl, ‹_›⟩, rfl, rfl⟩ | exact ⟨_, _, _, _, _, _, ⟨rfl, ‹_›⟩, rfl, rfl⟩)
end AMI
