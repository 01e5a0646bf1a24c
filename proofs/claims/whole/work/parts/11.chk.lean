/-! ===== the code tables are right: a checker, and that it is one ===== -/
def am_inB (w : Cond) (p : Nat) : Bool := decide (lw_tbl[p]? = some w) && goodWord w
theorem am_inB_ok {w : Cond} {p : Nat} (h : am_inB w p = true) : w ∈ am_wd := by
  simp only [am_inB, Bool.and_eq_true, decide_eq_true_eq] at h
  exact List.mem_filter.mpr ⟨List.mem_of_getElem? h.1, h.2⟩
def am_nwB (w : Cond) (p : Nat) : Bool := decide (lw_tbl[p]? = some w) && am_isN w
theorem am_nwB_ok {w : Cond} {p : Nat} (h : am_nwB w p = true) : w ∈ am_nw := by
  simp only [am_nwB, Bool.and_eq_true, decide_eq_true_eq] at h
  exact List.mem_filter.mpr ⟨List.mem_of_getElem? h.1, h.2⟩
def am_tbB (pc : Nat) : Int → List Int → List (Int32 × Nat) → Bool
  | _, [], [] => true
  | v, o :: os, (x, t) :: ts => decide (x.toInt = v) && decide ((pc : Int) + o = (t : Int)) && am_tbB pc (v + 1) os ts
  | _, _, _ => false
theorem am_tbB_ok {pc : Nat} : ∀ (os : List Int) (ts : List (Int32 × Nat)) (v : Int), am_tbB pc v os ts = true → am_tb pc v os ts := by
  intro os
  induction os with
  | nil =>
    intro ts v h
    match ts, h with
    | [], _ => trivial
  | cons o os ih =>
    intro ts v h
    match ts, h with
    | (x, t) :: ts, h =>
      simp only [am_tbB, Bool.and_eq_true, decide_eq_true_eq] at h
      exact ⟨h.1.1, h.1.2, ih ts _ h.2⟩
def am_lbB (pc : Nat) : List (Int × Int) → List (Int32 × Nat) → Bool
  | [], [] => true
  | (v, o) :: os, (x, t) :: ts => decide (x.toInt = v) && decide ((pc : Int) + o = (t : Int)) && am_lbB pc os ts
  | _, _ => false
theorem am_lbB_ok {pc : Nat} : ∀ (os : List (Int × Int)) (ts : List (Int32 × Nat)), am_lbB pc os ts = true → am_lb pc os ts := by
  intro os
  induction os with
  | nil =>
    intro ts h
    match ts, h with
    | [], _ => trivial
  | cons o os ih =>
    intro ts h
    match o, ts, h with
    | (v, o), (x, t) :: ts, h =>
      simp only [am_lbB, Bool.and_eq_true, decide_eq_true_eq] at h
      exact ⟨h.1.1, h.1.2, ih ts h.2⟩
def am_noL (k i : Nat) : Bool := (am_p k).2.2.2.all (fun j => decide (j + 1 ≠ i))
theorem am_noL_ok {k i : Nat} (h : am_noL k i = true) : ∀ j ∈ (am_p k).2.2.2, j + 1 ≠ i := by
  intro j hj
  have := List.all_eq_true.mp h j hj
  exact of_decide_eq_true this
def am_condB (k pc : Nat) (e : am_E) (p : Nat) : Bool := match e.1 with
  | .iconst n => decide (Int32.ofInt n = e.2.2.1)
  | .bipush n => decide ((Int8.ofInt n).toInt32 = e.2.2.1)
  | .sipush n => decide ((Int16.ofInt n).toInt32 = e.2.2.1)
  | .lconst n => decide (Int64.ofNat (n : Nat) = e.2.2.2.1)
  | .ldc i => if e.2.1.2.1 = 0 then am_inB (Cond.constant (am_my k).cls i e.2.2.1) p else am_sr.any (fun q => decide (q.1 = (am_my k).cls) && decide (q.2.1 = i) && decide (q.2.2.2 = e.2.1.2.1 - 1))
  | .ldc_w i => am_inB (Cond.constant (am_my k).cls i e.2.2.1) p
  | .ldc2_w i => am_inB (Cond.constantLong (am_my k).cls i e.2.2.2.1) p
  | .iload_n i => decide ((i : Nat) = e.2.1.2.1)
  | .lload_n i => decide ((i : Nat) = e.2.1.2.1)
  | .aload_n i => decide ((i : Nat) = e.2.1.2.1)
  | .istore_n i => decide ((i : Nat) = e.2.1.2.1) && am_noL k e.2.1.2.1
  | .lstore_n i => decide ((i : Nat) = e.2.1.2.1) && am_noL k e.2.1.2.1 && decide (e.2.1.2.1 ∈ (am_p k).2.2.2)
  | .astore_n i => decide ((i : Nat) = e.2.1.2.1) && am_noL k e.2.1.2.1
  | .iload i => decide (i = e.2.1.2.1)
  | .lload i => decide (i = e.2.1.2.1)
  | .aload i => decide (i = e.2.1.2.1)
  | .istore i => decide (i = e.2.1.2.1) && am_noL k e.2.1.2.1
  | .lstore i => decide (i = e.2.1.2.1) && am_noL k e.2.1.2.1 && decide (e.2.1.2.1 ∈ (am_p k).2.2.2)
  | .astore i => decide (i = e.2.1.2.1) && am_noL k e.2.1.2.1
  | .iinc i n => decide (i = e.2.1.2.1) && decide (Int32.ofInt n = e.2.2.1) && am_noL k e.2.1.2.1
  | .goto o => decide ((pc : Int) + o = (e.2.1.2.1 : Int))
  | .ifCond _ o => decide ((pc : Int) + o = (e.2.1.2.1 : Int))
  | .if_icmp _ o => decide ((pc : Int) + o = (e.2.1.2.1 : Int))
  | .ifnull o => decide ((pc : Int) + o = (e.2.1.2.1 : Int))
  | .ifnonnull o => decide ((pc : Int) + o = (e.2.1.2.1 : Int))
  | .tableswitch d lo hi os => decide ((pc : Int) + d = (e.2.1.2.1 : Int)) && decide (hi + 1 = lo + os.size) && am_tbB pc lo os.toList e.2.2.2.2
  | .lookupswitch d ps => decide ((pc : Int) + d = (e.2.1.2.1 : Int)) && (ps.toList.zip (ps.toList.drop 1)).all (fun (a, next) => a.1 < next.1) && am_lbB pc ps.toList e.2.2.2.2
  | .getfield i => if e.2.1.2.1 = 50 then (if e.2.1.2.2.1 = 0 then am_inB (Cond.fieldLink (am_my k).cls i "java/lang/String" "value" "[B") p else am_inB (Cond.fieldLink (am_my k).cls i "java/lang/String" "coder" "B") p)
    else decide (e.2.1.2.1 < 13) && decide (e.2.1.2.2.1 < (am_T e.2.1.2.1).2.2) && decide (am_ft e.2.1.2.1 e.2.1.2.2.1 = e.2.1.2.2.2.1) && (if e.2.1.2.2.2.2 < 10 then am_inB (Cond.fieldLink (am_my k).cls i ((am_T e.2.1.2.1).2.1 e.2.1.2.2.1).1 ((am_T e.2.1.2.1).2.1 e.2.1.2.2.1).2.1 ((am_T e.2.1.2.1).2.1 e.2.1.2.2.1).2.2.1) p else am_nwB (Cond.fieldLinkNest (am_my k).cls i ((am_T e.2.1.2.1).2.1 e.2.1.2.2.1).1 ((am_T e.2.1.2.1).2.1 e.2.1.2.2.1).2.1 ((am_T e.2.1.2.1).2.1 e.2.1.2.2.1).2.2.1 "OrderMerge") p)
  | .putfield i => decide (e.2.1.2.1 < 13) && decide (e.2.1.2.2.1 < (am_T e.2.1.2.1).2.2) && decide (am_ft e.2.1.2.1 e.2.1.2.2.1 = e.2.1.2.2.2.1) && decide ((e.2.1.2.2.2.2 % 10 == 5) = (am_ty e.2.1.2.1 e.2.1.2.2.1 == .boolean)) &&
    (if e.2.1.2.2.2.2 < 10 then (am_inB (Cond.fieldLink (am_my k).cls i ((am_T e.2.1.2.1).2.1 e.2.1.2.2.1).1 ((am_T e.2.1.2.1).2.1 e.2.1.2.2.1).2.1 ((am_T e.2.1.2.1).2.1 e.2.1.2.2.1).2.2.1) p && (if ((am_T e.2.1.2.1).2.1 e.2.1.2.2.1).2.2.2 = false then true else decide ((am_my k).name = "<init>") && decide (((am_T e.2.1.2.1).2.1 e.2.1.2.2.1).1 = (am_my k).cls))) else (am_nwB (Cond.fieldLinkNest (am_my k).cls i ((am_T e.2.1.2.1).2.1 e.2.1.2.2.1).1 ((am_T e.2.1.2.1).2.1 e.2.1.2.2.1).2.1 ((am_T e.2.1.2.1).2.1 e.2.1.2.2.1).2.2.1 "OrderMerge") p && decide (((am_T e.2.1.2.1).2.1 e.2.1.2.2.1).2.2.2 = false)))
  | .getstatic i => if e.2.1.2.1 = 0 then am_inB (Cond.fieldLink (am_my k).cls i "java/lang/String" "COMPACT_STRINGS" "Z") p else if e.2.1.2.1 = 1 then am_inB (Cond.fieldLink (am_my k).cls i "jdk/internal/util/Preconditions" "SIOOBE_FORMATTER" "Ljava/util/function/BiFunction;") p else true
  | .aaload => decide (e.2.1.2.1 = 1 ∨ e.2.1.2.1 = 2 ∨ e.2.1.2.1 = 9)
  | .aastore => decide (e.2.1.2.1 = 1 ∨ e.2.1.2.1 = 2 ∨ e.2.1.2.1 = 9)
  | .newarray t => (decide (e.2.1.2.1 = 20) && decide (t = .int) && am_inB (Cond.arrayClass .int) p) || (decide (e.2.1.2.1 = 21) && decide (t = .byte) && am_inB (Cond.arrayClass .byte) p) || (decide (e.2.1.2.1 = 22) && decide (t = .boolean) && am_inB (Cond.arrayClass .boolean) p) || (decide (e.2.1.2.1 = 23) && decide (t = .long) && am_inB (Cond.arrayClass .long) p)
  | .anewarray i => (decide (e.2.1.2.1 = 1) && am_inB (Cond.classLink (am_my k).cls i "OrderMerge$Facts") p) || (decide (e.2.1.2.1 = 2) && am_inB (Cond.classLink (am_my k).cls i "OrderMerge$House") p) || (decide (e.2.1.2.1 = 9) && am_inB (Cond.classLink (am_my k).cls i "OrderMerge$Tray") p)
  | .new i => decide (e.2.1.2.1 < 13) && decide (e.2.1.2.2.1 = (am_T e.2.1.2.1).2.2) && am_inB (Cond.classLink (am_my k).cls i (am_T e.2.1.2.1).1) p
  | .invokespecial i => if e.2.1.2.2.2.2 = 6 then am_inB (Cond.methodLink (am_my k).cls i Lib.objectInit) p else true
  | .invokestatic i => if e.2.1.2.2.2.2 = 7 then am_inB (Cond.methodLink (am_my k).cls i arraycopyName) p else if e.2.1.2.2.2.2 = 8 then am_inB (Cond.methodLink (am_my k).cls i Lib.Math.max.name) p else if e.2.1.2.2.2.2 = 9 then am_inB (Cond.methodLink (am_my k).cls i Lib.Math.min.name) p else true
  | _ => true
set_option maxHeartbeats 4000000 in
theorem am_condB_ok {k pc : Nat} {e : am_E} {p : Nat} (h : am_condB k pc e p = true) : am_cond k pc e := by
  obtain ⟨i0, ⟨len, a, b, cc, d⟩, v, lv, tab⟩ := e
  cases i0 with
  | iconst n => simp only [am_condB, decide_eq_true_eq] at h; exact h
  | bipush n => simp only [am_condB, decide_eq_true_eq] at h; exact h
  | sipush n => simp only [am_condB, decide_eq_true_eq] at h; exact h
  | lconst n => simp only [am_condB, decide_eq_true_eq] at h; exact h
  | ldc i =>
    have h : (if a = 0 then _ else _) = true := h
    show if a = 0 then _ else _
    split at h
    · rename_i ha
      rw [if_pos ha]
      exact am_inB_ok h
    · rename_i ha
      rw [if_neg ha]
      obtain ⟨q, hq, hq2⟩ := List.any_eq_true.mp h
      simp only [Bool.and_eq_true, decide_eq_true_eq] at hq2
      obtain ⟨⟨e1, e2⟩, e3⟩ := hq2
      obtain ⟨q1, q2, q3, q4⟩ := q
      dsimp only at e1 e2 e3
      subst e1; subst e2
      exact ⟨q3, by rw [← e3]; exact hq⟩
  | ldc_w i => exact am_inB_ok h
  | ldc2_w i => exact am_inB_ok h
  | iload_n i => simp only [am_condB, decide_eq_true_eq] at h; exact h
  | lload_n i => simp only [am_condB, decide_eq_true_eq] at h; exact h
  | aload_n i => simp only [am_condB, decide_eq_true_eq] at h; exact h
  | istore_n i => simp only [am_condB, Bool.and_eq_true, decide_eq_true_eq] at h; exact ⟨h.1, am_noL_ok h.2⟩
  | astore_n i => simp only [am_condB, Bool.and_eq_true, decide_eq_true_eq] at h; exact ⟨h.1, am_noL_ok h.2⟩
  | lstore_n i => simp only [am_condB, Bool.and_eq_true, decide_eq_true_eq] at h; exact ⟨h.1.1, am_noL_ok h.1.2, h.2⟩
  | iload i => simp only [am_condB, decide_eq_true_eq] at h; exact h
  | lload i => simp only [am_condB, decide_eq_true_eq] at h; exact h
  | aload i => simp only [am_condB, decide_eq_true_eq] at h; exact h
  | istore i => simp only [am_condB, Bool.and_eq_true, decide_eq_true_eq] at h; exact ⟨h.1, am_noL_ok h.2⟩
  | astore i => simp only [am_condB, Bool.and_eq_true, decide_eq_true_eq] at h; exact ⟨h.1, am_noL_ok h.2⟩
  | lstore i => simp only [am_condB, Bool.and_eq_true, decide_eq_true_eq] at h; exact ⟨h.1.1, am_noL_ok h.1.2, h.2⟩
  | iinc i n => simp only [am_condB, Bool.and_eq_true, decide_eq_true_eq] at h; exact ⟨h.1.1, h.1.2, am_noL_ok h.2⟩
  | goto o => simp only [am_condB, decide_eq_true_eq] at h; exact h
  | ifCond c o => simp only [am_condB, decide_eq_true_eq] at h; exact h
  | if_icmp c o => simp only [am_condB, decide_eq_true_eq] at h; exact h
  | ifnull o => simp only [am_condB, decide_eq_true_eq] at h; exact h
  | ifnonnull o => simp only [am_condB, decide_eq_true_eq] at h; exact h
  | tableswitch df lo hi os => simp only [am_condB, Bool.and_eq_true, decide_eq_true_eq] at h; exact ⟨h.1.1, h.1.2, am_tbB_ok _ _ _ h.2⟩
  | lookupswitch df ps =>
    have h : (decide ((pc : Int) + df = (a : Int)) && (ps.toList.zip (ps.toList.drop 1)).all (fun (a, next) => a.1 < next.1) && am_lbB pc ps.toList tab) = true := h
    rw [Bool.and_eq_true, Bool.and_eq_true] at h
    exact ⟨of_decide_eq_true h.1.1, h.1.2, am_lbB_ok _ _ h.2⟩
  | getfield i =>
    have h : (if a = 50 then _ else _) = true := h
    show if a = 50 then _ else _
    split at h
    · rename_i ha
      rw [if_pos ha]
      have h : (if b = 0 then _ else _) = true := h
      split at h
      · rename_i hb
        exact ⟨fun _ => am_inB_ok h, fun z => absurd hb z⟩
      · rename_i hb
        exact ⟨fun z => absurd z hb, fun _ => am_inB_ok h⟩
    · rename_i ha
      rw [if_neg ha]
      simp only [Bool.and_eq_true, decide_eq_true_eq] at h
      refine ⟨h.1.1.1, h.1.1.2, h.1.2, ?_⟩
      have h2 := h.2
      split at h2
      · rename_i hd
        rw [if_pos hd]
        exact am_inB_ok h2
      · rename_i hd
        rw [if_neg hd]
        exact am_nwB_ok h2
  | putfield i =>
    simp only [am_condB, Bool.and_eq_true, decide_eq_true_eq] at h
    refine ⟨h.1.1.1.1, h.1.1.1.2, h.1.1.2, h.1.2, ?_⟩
    have h2 := h.2
    dsimp only at h2 ⊢
    split at h2
    · rename_i hd
      rw [if_pos hd]
      rw [Bool.and_eq_true] at h2
      refine ⟨am_inB_ok h2.1, ?_⟩
      have h3 := h2.2
      split at h3
      · rename_i hf
        exact Or.inl hf
      · rename_i hf
        rw [Bool.and_eq_true] at h3
        refine Or.inr ⟨of_decide_eq_true h3.1, of_decide_eq_true h3.2, ?_⟩
        cases hz : ((am_T a).2.1 b).2.2.2
        · exact absurd hz hf
        · rfl
    · rename_i hd
      rw [if_neg hd]
      rw [Bool.and_eq_true] at h2
      exact ⟨am_nwB_ok h2.1, of_decide_eq_true h2.2⟩
  | getstatic i =>
    have h : (if a = 0 then _ else if a = 1 then _ else _) = true := h
    split at h
    · rename_i ha
      exact ⟨fun _ => am_inB_ok h, fun (z : a = 1) => by omega⟩
    · rename_i ha
      split at h
      · rename_i hb
        exact ⟨fun z => absurd z ha, fun _ => am_inB_ok h⟩
      · rename_i hb
        exact ⟨fun z => absurd z ha, fun z => absurd z hb⟩
  | aaload => simp only [am_condB, decide_eq_true_eq] at h; exact h
  | aastore => simp only [am_condB, decide_eq_true_eq] at h; exact h
  | newarray t =>
    simp only [am_condB, Bool.or_eq_true, Bool.and_eq_true, decide_eq_true_eq] at h
    rcases h with ((h | h) | h) | h
    · exact Or.inl ⟨h.1.1, h.1.2, am_inB_ok h.2⟩
    · exact Or.inr (Or.inl ⟨h.1.1, h.1.2, am_inB_ok h.2⟩)
    · exact Or.inr (Or.inr (Or.inl ⟨h.1.1, h.1.2, am_inB_ok h.2⟩))
    · exact Or.inr (Or.inr (Or.inr ⟨h.1.1, h.1.2, am_inB_ok h.2⟩))
  | anewarray i =>
    simp only [am_condB, Bool.or_eq_true, Bool.and_eq_true, decide_eq_true_eq] at h
    rcases h with (h | h) | h
    · exact Or.inl ⟨h.1, am_inB_ok h.2⟩
    · exact Or.inr (Or.inl ⟨h.1, am_inB_ok h.2⟩)
    · exact Or.inr (Or.inr ⟨h.1, am_inB_ok h.2⟩)
  | new i =>
    simp only [am_condB, Bool.and_eq_true, decide_eq_true_eq] at h
    exact ⟨h.1.1, h.1.2, am_inB_ok h.2⟩
  | invokespecial i =>
    have h : (if d = 6 then _ else _) = true := h
    split at h
    · exact fun _ => am_inB_ok h
    · rename_i hd
      exact fun z => absurd z hd
  | invokestatic i =>
    have h : (if d = 7 then _ else if d = 8 then _ else if d = 9 then _ else _) = true := h
    split at h
    · rename_i hd
      exact ⟨fun _ => am_inB_ok h, fun (z : d = 8) => by omega, fun (z : d = 9) => by omega⟩
    · rename_i hd
      split at h
      · rename_i hd2
        exact ⟨fun z => absurd z hd, fun _ => am_inB_ok h, fun (z : d = 9) => by omega⟩
      · rename_i hd2
        split at h
        · exact ⟨fun z => absurd z hd, fun z => absurd z hd2, fun _ => am_inB_ok h⟩
        · rename_i hd3
          exact ⟨fun z => absurd z hd, fun z => absurd z hd2, fun z => absurd z hd3⟩
  | _ => trivial
def am_mkl : List (Nat × Nat × Nat) := [(9, 0, 0), (2, 2, 0), (1, 2, 0), (0, 1, 1), (0, 1, 1), (0, 2, 1), (0, 1, 1), (1, 1, 0), (0, 2, 0), (0, 1, 6), (0, 2, 6), (0, 1, 0), (0, 1, 0), (0, 2, 0), (1, 1, 0), (0, 0, 0), (0, 1, 0), (0, 1, 0), (0, 2, 0), (0, 0, 0), (0, 0, 0), (0, 3, 0), (0, 0, 0), (0, 2, 0), (0, 0, 0), (0, 1, 0), (2, 0, 0), (0, 0, 1), (0, 1, 1), (0, 2, 1), (0, 3, 1), (1, 1, 0), (0, 2, 1), (0, 0, 1), (0, 0, 1), (0, 2, 1), (0, 2, 1), (0, 2, 1), (0, 2, 1), (0, 3, 1), (0, 1, 1), (0, 1, 1), (2, 0, 0), (0, 1, 2), (2, 0, 0), (2, 0, 0), (0, 1, 3), (0, 1, 6), (0, 2, 6), (0, 1, 6), (0, 2, 6), (0, 1, 6), (0, 3, 6), (0, 2, 6), (0, 3, 6), (0, 2, 3), (0, 2, 3), (2, 0, 0), (1, 2, 0), (0, 3, 4), (0, 1, 4), (0, 1, 4), (0, 1, 4), (2, 0, 0), (0, 1, 5), (0, 2, 5), (0, 2, 5), (0, 2, 5), (0, 2, 5), (0, 2, 5), (0, 2, 5), (0, 1, 6), (0, 2, 6), (0, 2, 6), (0, 1, 6), (2, 0, 0), (0, 0, 7), (0, 1, 7), (0, 2, 7), (2, 0, 0), (0, 1, 8), (1, 1, 0), (1, 1, 0), (0, 1, 8), (0, 0, 50), (0, 0, 50), (0, 0, 50), (1, 3, 0), (1, 2, 0), (1, 2, 0), (1, 1, 0), (1, 2, 0), (1, 2, 0), (1, 2, 0), (0, 1, 50), (0, 3, 8), (0, 2, 8), (0, 2, 8), (1, 1, 0), (1, 4, 0), (1, 4, 0), (1, 4, 0), (1, 3, 0), (1, 3, 0), (1, 4, 0), (1, 4, 0), (1, 1, 0), (1, 1, 0), (1, 1, 0), (1, 4, 0), (1, 4, 0), (0, 2, 50), (0, 1, 50), (0, 2, 8), (0, 0, 8), (0, 0, 8), (0, 1, 8), (0, 1, 8), (0, 0, 8), (0, 1, 8), (0, 0, 8), (0, 0, 8), (0, 0, 8), (0, 0, 8), (0, 1, 8), (0, 0, 8), (0, 0, 8), (0, 0, 8), (0, 0, 8), (0, 0, 8), (0, 0, 8), (0, 0, 8), (0, 0, 8), (0, 0, 8), (0, 0, 8), (0, 0, 8), (1, 2, 0), (0, 0, 8), (0, 0, 8), (0, 2, 8), (0, 1, 8), (2, 0, 0), (0, 0, 9), (1, 2, 0), (0, 2, 9), (0, 1, 9), (0, 1, 9), (0, 2, 9), (2, 2, 0), (0, 1, 10), (0, 0, 10), (1, 3, 0), (1, 1, 0), (0, 1, 10), (0, 1, 10), (0, 3, 10), (0, 1, 10), (0, 3, 10), (0, 3, 10), (0, 0, 10), (0, 2, 10), (2, 0, 0), (0, 1, 11), (0, 5, 11), (0, 0, 11), (0, 1, 11), (0, 1, 11), (0, 2, 11), (0, 2, 11), (0, 1, 11), (0, 2, 11), (0, 2, 11), (0, 1, 11), (0, 1, 11), (0, 0, 11), (0, 2, 11), (0, 2, 11), (0, 2, 11), (0, 2, 11), (0, 3, 11), (0, 1, 11), (0, 1, 11), (1, 1, 0), (0, 1, 11), (0, 2, 11), (0, 1, 11), (0, 1, 11), (1, 1, 0), (1, 2, 0), (0, 2, 11), (0, 1, 11), (0, 1, 11), (0, 2, 11), (0, 2, 11), (0, 1, 11), (0, 1, 11), (1, 1, 0), (0, 3, 11), (0, 2, 11), (0, 1, 11), (0, 1, 11), (0, 2, 11), (0, 3, 11), (0, 2, 11), (0, 0, 11), (0, 0, 11), (0, 2, 11), (0, 1, 11), (0, 1, 11), (0, 2, 11), (0, 2, 11), (0, 1, 11), (0, 0, 11), (0, 1, 11), (0, 1, 11), (0, 1, 11), (0, 1, 11), (0, 1, 11), (0, 1, 11), (1, 2, 0), (1, 3, 0), (0, 2, 11), (0, 2, 11), (0, 3, 11), (0, 3, 11), (0, 2, 11), (0, 1, 11), (0, 1, 11), (0, 1, 11), (1, 3, 0), (1, 1, 0), (2, 0, 0), (0, 5, 12), (0, 1, 12), (1, 1, 0), (1, 1, 0), (0, 0, 12), (0, 0, 12), (0, 1, 12), (0, 1, 12), (0, 1, 12), (0, 2, 12), (1, 2, 0), (0, 1, 12), (0, 1, 12), (0, 1, 12), (0, 1, 12), (0, 1, 12), (0, 1, 12), (0, 1, 12), (0, 1, 12), (0, 1, 12), (0, 1, 12), (0, 3, 12), (0, 2, 12), (0, 0, 12), (0, 0, 12), (0, 1, 12), (0, 0, 12), (0, 0, 12), (0, 1, 12), (0, 1, 12), (0, 1, 12), (1, 1, 0), (0, 2, 12), (0, 2, 12), (0, 0, 12), (0, 1, 12), (0, 1, 12), (0, 1, 12), (0, 1, 12), (0, 0, 12), (0, 2, 12), (0, 1, 12), (1, 1, 0), (0, 2, 12), (0, 2, 12), (0, 1, 12), (0, 2, 12), (0, 2, 12), (0, 1, 12), (0, 1, 12), (0, 1, 12), (0, 0, 12), (0, 0, 12), (0, 0, 12), (0, 2, 12), (0, 2, 12), (0, 2, 12), (0, 3, 12), (0, 2, 12), (0, 2, 12), (0, 2, 12), (0, 1, 12), (0, 2, 12), (0, 2, 12), (0, 2, 12), (0, 3, 12), (0, 1, 12), (0, 1, 12), (0, 1, 12), (0, 1, 12), (0, 1, 12), (0, 1, 12), (0, 0, 12), (0, 2, 12), (0, 1, 12), (0, 1, 12), (0, 0, 12), (0, 2, 12), (0, 2, 12), (0, 1, 12), (0, 1, 12), (0, 1, 12), (0, 2, 12), (0, 3, 12), (0, 0, 12), (0, 2, 12), (0, 3, 12), (0, 1, 12), (0, 1, 12), (0, 1, 12), (0, 1, 12), (0, 1, 12), (0, 1, 12), (0, 2, 12), (1, 1, 0), (0, 3, 12), (0, 2, 12), (0, 1, 12), (1, 1, 0), (1, 3, 0), (0, 1, 12), (0, 4, 12), (0, 4, 12), (0, 3, 12), (0, 3, 12), (0, 2, 12), (0, 3, 12), (0, 2, 12), (0, 1, 12), (0, 0, 12), (0, 0, 12), (0, 2, 12), (0, 1, 12), (0, 1, 12), (0, 1, 12), (0, 2, 12), (0, 2, 12), (0, 1, 12), (0, 1, 12), (0, 1, 12), (0, 0, 12), (0, 2, 12), (0, 0, 12), (0, 0, 12), (0, 1, 12), (0, 1, 12), (0, 1, 12), (0, 1, 12), (0, 3, 12), (0, 1, 12), (0, 1, 12), (1, 1, 0), (1, 2, 0), (0, 3, 12), (0, 2, 12), (0, 2, 12), (1, 2, 0), (0, 3, 12), (0, 3, 12), (0, 2, 12), (0, 1, 12), (0, 1, 12), (0, 0, 12), (0, 1, 12), (1, 2, 0), (1, 2, 0)]
/-- of each method: 0 virtual, 1 static, 2 a constructor, 9 not called; how many parameters; the class of its receiver -/
def am_mk (j : Nat) : Nat × Nat × Nat := am_mkl.getD j (9, 0, 0)
def am_mf (j : Nat) : Prop := match (am_mk j).1 with
  | 0 => am_mok j ∧ am_np j (am_mk j).2.1 ∧ Cond.instanceMethod (am_my j) ∈ am_wd ∧ Cond.selects (am_my j).cls (am_my j) (am_my j) ∈ am_wd ∧ (((am_mk j).2.2 < 13 ∧ (am_my j).cls = (am_T (am_mk j).2.2).1) ∨ ((am_mk j).2.2 = 50 ∧ (am_my j).cls = "java/lang/String"))
  | 1 => am_mok j ∧ am_np j (am_mk j).2.1 ∧ Cond.static (am_my j) ∈ am_wd
  | 2 => am_mok j ∧ am_np j (am_mk j).2.1 ∧ Cond.instanceMethod (am_my j) ∈ am_wd ∧ (am_my j).name = "<init>" ∧ am_mr j = none
  | _ => True
def am_rokB (j : Nat) : Bool := match (am_p j).2.2.1, am_mr j with
  | 0, some .int => true
  | 1, some .boolean => true
  | 2, some .byte => true
  | 3, some .char => true
  | 4, some .long => true
  | 5, some (.array .int) => true
  | 9, none => true
  | _, _ => false
theorem am_rokB_ok {j : Nat} (h : am_rokB j = true) : am_rok j := by
  unfold am_rokB at h
  unfold am_rok
  split at h
  · rename_i a b; exact Or.inl ⟨a, b⟩
  · rename_i a b; exact Or.inr (Or.inl ⟨a, b⟩)
  · rename_i a b; exact Or.inr (Or.inr (Or.inl ⟨a, b⟩))
  · rename_i a b; exact Or.inr (Or.inr (Or.inr (Or.inl ⟨a, b⟩)))
  · rename_i a b; exact Or.inr (Or.inr (Or.inr (Or.inr (Or.inl ⟨a, b⟩))))
  · rename_i a b; exact Or.inr (Or.inr (Or.inr (Or.inr (Or.inr (Or.inl ⟨a, b⟩)))))
  · rename_i a b; exact Or.inr (Or.inr (Or.inr (Or.inr (Or.inr (Or.inr ⟨a, b⟩)))))
  · cases h
/-- p: the places of 'code', 'initialized', 'instanceMethod' or 'static', 'selects' -/
def am_mfB (j : Nat) (p : Nat × Nat × Nat × Nat) : Bool :=
  am_inB (Cond.code (am_my j) (am_mb j) (am_p j).2.1 (am_mr j)) p.1 && am_inB (Cond.initialized (am_my j).cls) p.2.1 && decide ((am_my j).cls ≠ "java/lang/invoke/MethodHandle") && decide ((am_my j).cls ≠ "java/lang/invoke/VarHandle") && plainName (am_my j).cls && decide ((am_p j).2.1 ≤ 60) && am_rokB j && decide ((parseMethodDescriptor (am_my j).desc).map (fun d => d.parameters.length) = some (am_mk j).2.1) &&
  match (am_mk j).1 with
  | 0 => am_inB (Cond.instanceMethod (am_my j)) p.2.2.1 && am_inB (Cond.selects (am_my j).cls (am_my j) (am_my j)) p.2.2.2 && (decide ((am_mk j).2.2 < 13 ∧ (am_my j).cls = (am_T (am_mk j).2.2).1) || decide ((am_mk j).2.2 = 50 ∧ (am_my j).cls = "java/lang/String"))
  | 1 => am_inB (Cond.static (am_my j)) p.2.2.1
  | 2 => am_inB (Cond.instanceMethod (am_my j)) p.2.2.1 && decide ((am_my j).name = "<init>") && decide (am_mr j = none)
  | _ => true
theorem am_mfB_ok {j : Nat} {p : Nat × Nat × Nat × Nat} (h : am_mfB j p = true) : am_mf j := by
  unfold am_mfB at h
  simp only [Bool.and_eq_true, decide_eq_true_eq] at h
  obtain ⟨⟨⟨⟨⟨⟨⟨⟨h1, h2⟩, h3⟩, h4⟩, h5⟩, h6⟩, h7⟩, h8⟩, h9⟩ := h
  have hm : am_mok j := ⟨am_inB_ok h1, am_inB_ok h2, ⟨h3, h4⟩, h5, h6, am_rokB_ok h7⟩
  unfold am_mf
  split
  · rename_i z
    rw [z] at h9
    simp only [Bool.and_eq_true, Bool.or_eq_true, decide_eq_true_eq] at h9
    exact ⟨hm, h8, am_inB_ok h9.1.1, am_inB_ok h9.1.2, h9.2⟩
  · rename_i z
    rw [z] at h9
    exact ⟨hm, h8, am_inB_ok h9⟩
  · rename_i z
    rw [z] at h9
    simp only [Bool.and_eq_true, decide_eq_true_eq] at h9
    exact ⟨hm, h8, am_inB_ok h9.1.1, h9.1.2, h9.2⟩
  · trivial
def am_ccB (k : Nat) (e : am_E) (p : Nat) : Bool := match e.1 with
  | .invokevirtual i => if e.2.1.2.2.2.2 < 2 then decide (am_mk e.2.1.2.1 = (0, e.2.1.2.2.1 - 1, e.2.1.2.2.2.1)) && decide (1 ≤ e.2.1.2.2.1) && (if e.2.1.2.2.2.2 = 0 then am_inB (Cond.methodLink (am_my k).cls i (am_my e.2.1.2.1)) p else am_nwB (Cond.methodLinkNest (am_my k).cls i (am_my e.2.1.2.1) "OrderMerge") p) else true
  | .invokestatic i => if e.2.1.2.2.2.2 = 2 ∨ e.2.1.2.2.2.2 = 3 then decide ((am_mk e.2.1.2.1).1 = 1) && decide ((am_mk e.2.1.2.1).2.1 = e.2.1.2.2.1) && (if e.2.1.2.2.2.2 = 2 then am_inB (Cond.methodLink (am_my k).cls i (am_my e.2.1.2.1)) p else am_nwB (Cond.methodLinkNest (am_my k).cls i (am_my e.2.1.2.1) "OrderMerge") p) else true
  | .invokespecial i => if e.2.1.2.2.2.2 = 4 ∨ e.2.1.2.2.2.2 = 5 then decide ((am_mk e.2.1.2.1).1 = 2) && decide ((am_mk e.2.1.2.1).2.1 = e.2.1.2.2.1 - 1) && decide (1 ≤ e.2.1.2.2.1) && (if e.2.1.2.2.2.2 = 4 then am_inB (Cond.methodLink (am_my k).cls i (am_my e.2.1.2.1)) p else am_nwB (Cond.methodLinkNest (am_my k).cls i (am_my e.2.1.2.1) "OrderMerge") p) else true
  | _ => true
theorem am_ccB_ok {k : Nat} {e : am_E} {p : Nat} (hmf : ∀ j, am_mf j) (h : am_ccB k e p = true) : am_cc k e := by
  obtain ⟨i0, ⟨len, a, b, cc, d⟩, v, lv, tab⟩ := e
  cases i0 with
  | invokevirtual i =>
    intro hd
    have hd : d < 2 := hd
    have h : (if d < 2 then _ else _) = true := h
    rw [if_pos hd] at h
    simp only [Bool.and_eq_true, decide_eq_true_eq] at h
    obtain ⟨⟨h1, h2⟩, h3⟩ := h
    have hf := hmf a
    unfold am_mf at hf
    rw [h1] at hf
    dsimp only at hf ⊢
    refine ⟨hf.1, ⟨h2, hf.2.1⟩, hf.2.2.1, hf.2.2.2.1, hf.2.2.2.2, ?_⟩
    split at h3
    · rename_i hz
      rw [if_pos hz]
      exact am_inB_ok h3
    · rename_i hz
      rw [if_neg hz]
      exact am_nwB_ok h3
  | invokestatic i =>
    intro hd
    have hd : d = 2 ∨ d = 3 := hd
    have h : (if d = 2 ∨ d = 3 then _ else _) = true := h
    rw [if_pos hd] at h
    simp only [Bool.and_eq_true, decide_eq_true_eq] at h
    obtain ⟨⟨h1, h2⟩, h3⟩ := h
    have hf := hmf a
    unfold am_mf at hf
    rw [h1] at hf
    dsimp only at hf ⊢
    rw [h2] at hf
    refine ⟨hf.1, hf.2.1, hf.2.2, ?_⟩
    split at h3
    · rename_i hz
      rw [if_pos hz]
      exact am_inB_ok h3
    · rename_i hz
      rw [if_neg hz]
      exact am_nwB_ok h3
  | invokespecial i =>
    intro hd
    have hd : d = 4 ∨ d = 5 := hd
    have h : (if d = 4 ∨ d = 5 then _ else _) = true := h
    rw [if_pos hd] at h
    simp only [Bool.and_eq_true, decide_eq_true_eq] at h
    obtain ⟨⟨⟨h1, h2⟩, h4⟩, h3⟩ := h
    have hf := hmf a
    unfold am_mf at hf
    rw [h1] at hf
    dsimp only at hf ⊢
    rw [h2] at hf
    refine ⟨hf.1, ⟨h4, hf.2.1⟩, hf.2.2.1, hf.2.2.2.1, hf.2.2.2.2, ?_⟩
    split at h3
    · rename_i hz
      rw [if_pos hz]
      exact am_inB_ok h3
    · rename_i hz
      rw [if_neg hz]
      exact am_nwB_ok h3
  | _ => trivial
/-- a stretch of a method's code, from a place on, with the words' places -/
def am_ckB (k : Nat) : Nat → List (Option am_E) → List Nat → Bool
  | _, [], _ => true
  | pc, none :: r, ps => am_ckB k (pc + 1) r ps.tail
  | pc, some e :: r, ps => decide (decode (am_mb k) pc = .ok (e.1, am_il e.1 e.2.1.1)) && am_condB k pc e (ps.headD 0) && am_ccB k e (ps.headD 0) && am_ckB k (pc + 1) r ps.tail
theorem am_ckB_ok {k : Nat} (hmf : ∀ j, am_mf j) : ∀ (es : List (Option am_E)) (pc : Nat) (ps : List Nat), am_ckB k pc es ps = true → ∀ (i : Nat) (e : am_E), es[i]? = some (some e) → am_ok k (pc + i) e := by
  intro es
  induction es with
  | nil => intro pc ps _ i e h; simp at h
  | cons x es ih =>
    intro pc ps h i e hi
    match x, h with
    | none, h =>
      cases i with
      | zero => simp at hi
      | succ i => have := ih (pc + 1) _ h i e (by simpa using hi); rwa [show pc + (i + 1) = pc + 1 + i by omega]
    | some e0, h =>
      simp only [am_ckB, Bool.and_eq_true, decide_eq_true_eq] at h
      obtain ⟨⟨⟨h1, h2⟩, h3⟩, h4⟩ := h
      cases i with
      | zero =>
        simp at hi
        subst hi
        exact ⟨h1, am_condB_ok h2, am_ccB_ok hmf h3⟩
      | succ i => have := ih (pc + 1) _ h4 i e (by simpa using hi); rwa [show pc + (i + 1) = pc + 1 + i by omega]
