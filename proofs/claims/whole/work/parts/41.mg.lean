/-! ===== the merge of rows: R 0 .. R n ===== -/
/-- x stands behind the first place of none -/
def mf_free (n : Nat) (R : Nat → List Nat) (x : Nat) : Bool := (List.range (n + 1)).all (fun k => !((R k).tail.contains x))
theorem mf_free_iff {n : Nat} {R : Nat → List Nat} {x : Nat} : mf_free n R x = true ↔ ∀ k, k ≤ n → ¬ x ∈ (R k).tail := by
  simp only [mf_free, List.all_eq_true, List.mem_range, Bool.not_eq_true', List.contains_eq_mem, decide_eq_false_iff_not]
  exact ⟨fun h k hk => h k (by omega), fun h k hk => h k (by omega)⟩
/-- the first head, from row i on, that is free -/
def mf_pick (n : Nat) (R : Nat → List Nat) (i : Nat) : Option Nat :=
  if i ≤ n then (match R i with
    | [] => mf_pick n R (i + 1)
    | x :: _ => if mf_free n R x then some x else mf_pick n R (i + 1)) else none
termination_by n + 1 - i
theorem mf_pick_out {n : Nat} {R : Nat → List Nat} {i : Nat} (h : n < i) : mf_pick n R i = none := by rw [mf_pick, if_neg (by omega)]
theorem mf_pick_nil {n : Nat} {R : Nat → List Nat} {i : Nat} (h : i ≤ n) (e : R i = []) : mf_pick n R i = mf_pick n R (i + 1) := by rw [mf_pick, if_pos h, e]
theorem mf_pick_yes {n : Nat} {R : Nat → List Nat} {i x : Nat} {l : List Nat} (h : i ≤ n) (e : R i = x :: l) (hf : mf_free n R x = true) : mf_pick n R i = some x := by rw [mf_pick, if_pos h, e]; exact if_pos hf
theorem mf_pick_no {n : Nat} {R : Nat → List Nat} {i x : Nat} {l : List Nat} (h : i ≤ n) (e : R i = x :: l) (hf : ¬ mf_free n R x = true) : mf_pick n R i = mf_pick n R (i + 1) := by rw [mf_pick, if_pos h, e]; exact if_neg hf
theorem mf_pick_mem {n : Nat} {R : Nat → List Nat} {x : Nat} : ∀ m i, i + m = n + 1 → mf_pick n R i = some x → mf_free n R x = true ∧ ∃ k, k ≤ n ∧ (R k).head? = some x := by
  intro m
  induction m with
  | zero => intro i hi h; rw [mf_pick_out (by omega)] at h; cases h
  | succ m ih =>
    intro i hi h
    rcases e : R i with _ | ⟨y, l⟩
    · rw [mf_pick_nil (by omega) e] at h
      exact ih (i + 1) (by omega) h
    · by_cases hf : mf_free n R y = true
      · rw [mf_pick_yes (by omega) e hf] at h
        cases h
        exact ⟨hf, i, by omega, by rw [e]; rfl⟩
      · rw [mf_pick_no (by omega) e hf] at h
        exact ih (i + 1) (by omega) h
def mf_drop (x : Nat) (R : Nat → List Nat) : Nat → List Nat := fun k => if (R k).head? = some x then (R k).tail else R k
def mf_len (R : Nat → List Nat) : Nat → Nat
  | 0 => (R 0).length
  | n + 1 => mf_len R n + (R (n + 1)).length
theorem mf_dl (x : Nat) (R : Nat → List Nat) (k : Nat) : (mf_drop x R k).length ≤ (R k).length := by
  unfold mf_drop
  split
  · rw [List.length_tail]
    omega
  · exact Nat.le_refl _
theorem mf_dlt {x : Nat} {R : Nat → List Nat} {k : Nat} (h : (R k).head? = some x) : (mf_drop x R k).length < (R k).length := by
  unfold mf_drop
  rw [if_pos h]
  cases e : R k with
  | nil => rw [e] at h; cases h
  | cons a l => simp
theorem mf_len_le (x : Nat) (R : Nat → List Nat) : ∀ n, mf_len (mf_drop x R) n ≤ mf_len R n := by
  intro n
  induction n with
  | zero => exact mf_dl x R 0
  | succ n ih =>
    have := mf_dl x R (n + 1)
    simp only [mf_len]
    omega
theorem mf_len_lt {x : Nat} {R : Nat → List Nat} {k : Nat} (h : (R k).head? = some x) : ∀ n, k ≤ n → mf_len (mf_drop x R) n < mf_len R n := by
  intro n
  induction n with
  | zero =>
    intro hk
    obtain rfl : k = 0 := by omega
    exact mf_dlt h
  | succ n ih =>
    intro hk
    simp only [mf_len]
    by_cases e : k = n + 1
    · subst e
      have := mf_len_le x R n
      have := mf_dlt h
      omega
    · have := ih (by omega)
      have := mf_dl x R (n + 1)
      omega
def mf_emp (n : Nat) (R : Nat → List Nat) : Bool := (List.range (n + 1)).all (fun k => (R k).isEmpty)
theorem mf_emp_iff {n : Nat} {R : Nat → List Nat} : mf_emp n R = true ↔ ∀ k, k ≤ n → R k = [] := by
  simp only [mf_emp, List.all_eq_true, List.mem_range, List.isEmpty_iff]
  exact ⟨fun h k hk => h k (by omega), fun h k hk => h k (by omega)⟩
theorem mf_len0 {R : Nat → List Nat} : ∀ n, mf_len R n = 0 ↔ ∀ k, k ≤ n → R k = [] := by
  intro n
  induction n with
  | zero =>
    simp only [mf_len, List.length_eq_zero_iff]
    exact ⟨fun h k hk => by obtain rfl : k = 0 := by omega
                            exact h, fun h => h 0 (by omega)⟩
  | succ n ih =>
    simp only [mf_len]
    constructor
    · intro h k hk
      by_cases e : k = n + 1
      · subst e
        exact List.length_eq_zero_iff.1 (by omega)
      · exact ih.1 (by omega) k (by omega)
    · intro h
      have h1 := ih.2 (fun k hk => h k (by omega))
      have h2 := h (n + 1) (by omega)
      rw [h1, h2]
      rfl
/-- the merged row, or none -/
def mf (n : Nat) (R : Nat → List Nat) : Option (List Nat) := match h : mf_pick n R 0 with
  | none => if mf_emp n R then some [] else none
  | some x => (mf n (mf_drop x R)).map (fun l => x :: l)
termination_by mf_len R n
decreasing_by
  obtain ⟨-, k, hk, hh⟩ := mf_pick_mem (n + 1) 0 (by omega) h
  exact mf_len_lt hh n hk
theorem mf_none {n : Nat} {R : Nat → List Nat} (h : mf_pick n R 0 = none) : mf n R = if mf_emp n R then some [] else none := by
  rw [mf]
  split
  · rfl
  · rename_i x hx
    rw [h] at hx
    cases hx
theorem mf_some {n : Nat} {R : Nat → List Nat} {x : Nat} (h : mf_pick n R 0 = some x) : mf n R = (mf n (mf_drop x R)).map (fun l => x :: l) := by
  rw [mf]
  split
  · rename_i hx
    rw [h] at hx
    cases hx
  · rename_i y hx
    rw [h] at hx
    cases hx
    rfl
/-- what holds of the rows while they are merged: acc is what was given already -/
def mf_inv (n : Nat) (R : Nat → List Nat) (acc : List Nat) : Prop := (∀ k, k ≤ n → (R k).Nodup ∧ ∀ x ∈ R k, x < 10 ∧ ¬ x ∈ acc) ∧ acc.Nodup ∧ ∀ x ∈ acc, x < 10
theorem mf_dmem {x y : Nat} {R : Nat → List Nat} {k : Nat} (h : y ∈ mf_drop x R k) : y ∈ R k := by
  unfold mf_drop at h
  split at h
  · exact List.mem_of_mem_tail h
  · exact h
theorem mf_step {n : Nat} {R : Nat → List Nat} {acc : List Nat} {x : Nat} (I : mf_inv n R acc) (h : mf_pick n R 0 = some x) : mf_inv n (mf_drop x R) (acc ++ [x]) ∧ x < 10 ∧ acc.length < 10 := by
  obtain ⟨hf, k, hk, hh⟩ := mf_pick_mem (n + 1) 0 (by omega) h
  rw [mf_free_iff] at hf
  have hx : x ∈ R k := List.mem_of_head? hh
  have h1 := (I.1 k hk).2 x hx
  have nd : (acc ++ [x]).Nodup := by
    rw [List.nodup_append]
    refine ⟨I.2.1, (by simp : [x].Nodup), ?_⟩
    intro a ha b hb
    rw [List.mem_singleton] at hb
    rintro rfl
    exact h1.2 (hb ▸ ha)
  have lt : ∀ y ∈ acc ++ [x], y < 10 := by
    intro y hy
    rcases List.mem_append.1 hy with z | z
    · exact I.2.2 y z
    · rw [List.mem_singleton] at z
      rw [z]
      exact h1.1
  refine ⟨⟨?_, nd, lt⟩, h1.1, ?_⟩
  · intro j hj
    constructor
    · unfold mf_drop
      split
      · exact (I.1 j hj).1.sublist (List.tail_sublist _)
      · exact (I.1 j hj).1
    · intro y hy
      have h2 := (I.1 j hj).2 y (mf_dmem hy)
      refine ⟨h2.1, ?_⟩
      intro hm
      rcases List.mem_append.1 hm with z | z
      · exact h2.2 z
      · rw [List.mem_singleton] at z
        subst z
        unfold mf_drop at hy
        split at hy
        · exact hf j hj hy
        · rename_i hne
          cases e : R j with
          | nil => rw [e] at hy; cases hy
          | cons a l =>
            rw [e] at hy
            rcases List.mem_cons.1 hy with q | q
            · rw [e, q] at hne
              exact hne rfl
            · exact hf j hj (by rw [e]; exact q)
  · have := nd_len nd lt
    simp at this
    omega
/-- what the merged row holds -/
theorem mf_res {n : Nat} : ∀ m {R : Nat → List Nat} {acc l : List Nat}, mf_len R n < m → mf_inv n R acc → mf n R = some l → (acc ++ l).Nodup ∧ (∀ x ∈ l, x < 10) ∧ ∀ x, x ∈ l ↔ ∃ k, k ≤ n ∧ x ∈ R k := by
  intro m
  induction m with
  | zero => intro R acc l h; omega
  | succ m ih =>
    intro R acc l hm I h
    cases hp : mf_pick n R 0 with
    | none =>
      rw [mf_none hp] at h
      split at h
      · rename_i he
        cases h
        rw [mf_emp_iff] at he
        refine ⟨by rw [List.append_nil]; exact I.2.1, (fun x hx => by cases hx), fun x => ⟨fun hx => (by cases hx), ?_⟩⟩
        rintro ⟨k, hk, hx⟩
        rw [he k hk] at hx
        exact hx
      · cases h
    | some x =>
      obtain ⟨hf, k, hk, hh⟩ := mf_pick_mem (n + 1) 0 (by omega) hp
      have hlt := mf_len_lt hh n hk
      have st := mf_step I hp
      rw [mf_some hp] at h
      cases hl : mf n (mf_drop x R) with
      | none => rw [hl] at h; cases h
      | some l' =>
        rw [hl] at h
        cases h
        have := ih (by omega) st.1 hl
        refine ⟨by simpa using this.1, ?_, ?_⟩
        · intro y hy
          rcases List.mem_cons.1 hy with q | q
          · rw [q]
            exact st.2.1
          · exact this.2.1 y q
        · intro y
          constructor
          · intro hy
            rcases List.mem_cons.1 hy with q | q
            · exact ⟨k, hk, by rw [q]; exact List.mem_of_head? hh⟩
            · obtain ⟨j, hj, hy⟩ := (this.2.2 y).1 q
              exact ⟨j, hj, mf_dmem hy⟩
          · rintro ⟨j, hj, hy⟩
            by_cases e : y = x
            · rw [e]
              exact List.mem_cons_self
            · refine List.mem_cons_of_mem _ ((this.2.2 y).2 ⟨j, hj, ?_⟩)
              unfold mf_drop
              split
              · rename_i hd
                cases e2 : R j with
                | nil => rw [e2] at hy; cases hy
                | cons a q =>
                  rw [e2] at hy hd
                  rcases List.mem_cons.1 hy with w | w
                  · exact absurd (w.trans (Option.some.inj hd)) e
                  · exact w
              · exact hy
/-! ===== the orders of classes ===== -/
/-- of each class its state and its order -/
abbrev od_T : Type := Nat → Nat × List Nat
def od_R (T : od_T) (ps : List Nat) : Nat → List Nat := fun k => if k < ps.length then (T (ps.getD k 0)).2 else if k = ps.length then ps else []
def od1 (T : od_T) (c : Nat) (ps : List Nat) : Nat × List Nat := if ps.any (fun p => (T p).2.isEmpty) then (2, []) else match mf ps.length (od_R T ps) with
  | some l => (0, c :: l)
  | none => (1, [])
/-- the rows below n are orders -/
def od_ok (T : od_T) (n : Nat) : Prop := ∀ c, c < n → (T c).1 ≤ 2 ∧ ((T c).1 = 0 ↔ ¬ (T c).2 = []) ∧ (T c).2.Nodup ∧ (∀ x ∈ (T c).2, x < 10) ∧ (T c).2.length ≤ 10
def od_up (T : od_T) (c : Nat) (v : Nat × List Nat) : od_T := fun k => if k = c then v else T k
/-- the orders of the first n classes, by their parents -/
def od (p : Nat → List Nat) : Nat → od_T
  | 0 => fun _ => (2, [])
  | n + 1 => od_up (od p n) n (od1 (od p n) n (p n))
theorem od_inv {T : od_T} {n : Nat} {ps : List Nat} (ok : od_ok T n) (hp : ∀ p ∈ ps, p < n) (hn : ps.Nodup) (h10 : ∀ p ∈ ps, p < 10) : mf_inv ps.length (od_R T ps) [] := by
  refine ⟨?_, List.nodup_nil, fun x hx => by cases hx⟩
  intro k hk
  unfold od_R
  split
  · rename_i h
    have hm : ps.getD k 0 ∈ ps := by
      rw [List.getD_eq_getElem?_getD, List.getElem?_eq_getElem h]
      exact List.getElem_mem h
    have := ok _ (hp _ hm)
    exact ⟨this.2.2.1, fun x hx => ⟨this.2.2.2.1 x hx, fun z => by cases z⟩⟩
  · split
    · exact ⟨hn, fun x hx => ⟨h10 x hx, fun z => by cases z⟩⟩
    · exact ⟨List.nodup_nil, fun x hx => by cases hx⟩
