/-! ===== the code tables are right: a checker, and that it is one ===== -/
def am_inB (w : Cond) (p : Nat) : Bool := decide (lw_tbl[p]? = some w) && goodWord w
theorem am_inB_ok {w : Cond} {p : Nat} (h : am_inB w p = true) : w ∈ am_wd := by
  simp only [am_inB, Bool.and_eq_true, decide_eq_true_eq] at h
  exact List.mem_filter.mpr ⟨List.mem_of_getElem? h.1, h.2⟩
def am_nwB (w : Cond) (p : Nat) : Bool := decide (lw_tbl[p]? = some w) && am_isN w
theorem am_nwB_ok {w : Cond} {p : Nat} (h : am_nwB w p = true) : w ∈ am_nw := by
  simp only [am_nwB, Bool.and_eq_true, decide_eq_true_eq] at h
  exact List.mem_filter.mpr ⟨List.mem_of_getElem? h.1, h.2⟩
def am_tbB (pc : Nat) : Int → List Int → List (Int32 × Nat) → Bool
  | _, [], [] => true
  | v, o :: os, (x, t) :: ts => decide (x.toInt = v) && decide ((pc : Int) + o = (t : Int)) && am_tbB pc (v + 1) os ts
  | _, _, _ => false
theorem am_tbB_ok {pc : Nat} : ∀ (os : List Int) (ts : List (Int32 × Nat)) (v : Int), am_tbB pc v os ts = true → am_tb pc v os ts := by
  intro os
  induction os with
  | nil =>
    intro ts v h
    match ts, h with
    | [], _ => trivial
  | cons o os ih =>
    intro ts v h
    match ts, h with
    | (x, t) :: ts, h =>
      simp only [am_tbB, Bool.and_eq_true, decide_eq_true_eq] at h
      exact ⟨h.1.1, h.1.2, ih ts _ h.2⟩
def am_lbB (pc : Nat) : List (Int × Int) → List (Int32 × Nat) → Bool
  | [], [] => true
  | (v, o) :: os, (x, t) :: ts => decide (x.toInt = v) && decide ((pc : Int) + o = (t : Int)) && am_lbB pc os ts
  | _, _ => false
theorem am_lbB_ok {pc : Nat} : ∀ (os : List (Int × Int)) (ts : List (Int32 × Nat)), am_lbB pc os ts = true → am_lb pc os ts := by
  intro os
  induction os with
  | nil =>
    intro ts h
    match ts, h with
    | [], _ => trivial
  | cons o os ih =>
    intro ts h
    match o, ts, h with
    | (v, o), (x, t) :: ts, h =>
      simp only [am_lbB, Bool.and_eq_true, decide_eq_true_eq] at h
      exact ⟨h.1.1, h.1.2, ih ts h.2⟩
def am_noL (k i : Nat) : Bool := (am_p k).2.2.2.all (fun j => decide (j + 1 ≠ i))
theorem am_noL_ok {k i : Nat} (h : am_noL k i = true) : ∀ j ∈ (am_p k).2.2.2, j + 1 ≠ i := by
  intro j hj
  have := List.all_eq_true.mp h j hj
  exact of_decide_eq_true this
def am_mkl : List (Nat × Nat × Nat) := [(9, 0, 0), (2, 2, 0), (1, 2, 0), (0, 1, 1), (0, 1, 1), (0, 2, 1), (0, 1, 1), (1, 1, 0), (0, 2, 0), (0, 1, 6), (0, 2, 6), (0, 1, 0), (0, 1, 0), (0, 2, 0), (1, 1, 0), (0, 0, 0), (0, 1, 0), (0, 1, 0), (0, 2, 0), (0, 0, 0), (0, 0, 0), (0, 3, 0), (0, 0, 0), (0, 2, 0), (0, 0, 0), (0, 1, 0), (2, 0, 0), (0, 0, 1), (0, 1, 1), (0, 2, 1), (0, 3, 1), (1, 1, 0), (0, 2, 1), (0, 0, 1), (0, 0, 1), (0, 2, 1), (0, 2, 1), (0, 2, 1), (0, 2, 1), (0, 3, 1), (0, 1, 1), (0, 1, 1), (2, 0, 0), (0, 1, 2), (2, 0, 0), (2, 0, 0), (0, 1, 3), (0, 1, 6), (0, 2, 6), (0, 1, 6), (0, 2, 6), (0, 1, 6), (0, 3, 6), (0, 2, 6), (0, 3, 6), (0, 2, 3), (0, 2, 3), (2, 0, 0), (1, 2, 0), (0, 3, 4), (0, 1, 4), (0, 1, 4), (0, 1, 4), (2, 0, 0), (0, 1, 5), (0, 2, 5), (0, 2, 5), (0, 2, 5), (0, 2, 5), (0, 2, 5), (0, 2, 5), (0, 1, 6), (0, 2, 6), (0, 2, 6), (0, 1, 6), (2, 0, 0), (0, 0, 7), (0, 1, 7), (0, 2, 7), (2, 0, 0), (0, 1, 8), (1, 1, 0), (1, 1, 0), (0, 1, 8), (0, 0, 50), (0, 0, 50), (0, 0, 50), (1, 3, 0), (1, 2, 0), (1, 2, 0), (1, 1, 0), (1, 2, 0), (1, 2, 0), (1, 2, 0), (0, 1, 50), (0, 3, 8), (0, 2, 8), (0, 2, 8), (1, 1, 0), (1, 4, 0), (1, 4, 0), (1, 4, 0), (1, 3, 0), (1, 3, 0), (1, 4, 0), (1, 4, 0), (1, 1, 0), (1, 1, 0), (1, 1, 0), (1, 4, 0), (1, 4, 0), (0, 2, 50), (0, 1, 50), (0, 2, 8), (0, 0, 8), (0, 0, 8), (0, 1, 8), (0, 1, 8), (0, 0, 8), (0, 1, 8), (0, 0, 8), (0, 0, 8), (0, 0, 8), (0, 0, 8), (0, 1, 8), (0, 0, 8), (0, 0, 8), (0, 0, 8), (0, 0, 8), (0, 0, 8), (0, 0, 8), (0, 0, 8), (0, 0, 8), (0, 0, 8), (0, 0, 8), (0, 0, 8), (1, 2, 0), (0, 0, 8), (0, 0, 8), (0, 2, 8), (0, 1, 8), (2, 0, 0), (0, 0, 9), (1, 2, 0), (0, 2, 9), (0, 1, 9), (0, 1, 9), (0, 2, 9), (2, 2, 0), (0, 1, 10), (0, 0, 10), (1, 3, 0), (1, 1, 0), (0, 1, 10), (0, 1, 10), (0, 3, 10), (0, 1, 10), (0, 3, 10), (0, 3, 10), (0, 0, 10), (0, 2, 10), (2, 0, 0), (0, 1, 11), (0, 5, 11), (0, 0, 11), (0, 1, 11), (0, 1, 11), (0, 2, 11), (0, 2, 11), (0, 1, 11), (0, 2, 11), (0, 2, 11), (0, 1, 11), (0, 1, 11), (0, 0, 11), (0, 2, 11), (0, 2, 11), (0, 2, 11), (0, 2, 11), (0, 3, 11), (0, 1, 11), (0, 1, 11), (1, 1, 0), (0, 1, 11), (0, 2, 11), (0, 1, 11), (0, 1, 11), (1, 1, 0), (1, 2, 0), (0, 2, 11), (0, 1, 11), (0, 1, 11), (0, 2, 11), (0, 2, 11), (0, 1, 11), (0, 1, 11), (1, 1, 0), (0, 3, 11), (0, 2, 11), (0, 1, 11), (0, 1, 11), (0, 2, 11), (0, 3, 11), (0, 2, 11), (0, 0, 11), (0, 0, 11), (0, 2, 11), (0, 1, 11), (0, 1, 11), (0, 2, 11), (0, 2, 11), (0, 1, 11), (0, 0, 11), (0, 1, 11), (0, 1, 11), (0, 1, 11), (0, 1, 11), (0, 1, 11), (0, 1, 11), (1, 2, 0), (1, 3, 0), (0, 2, 11), (0, 2, 11), (0, 3, 11), (0, 3, 11), (0, 2, 11), (0, 1, 11), (0, 1, 11), (0, 1, 11), (1, 3, 0), (1, 1, 0), (2, 0, 0), (0, 5, 12), (0, 1, 12), (1, 1, 0), (1, 1, 0), (0, 0, 12), (0, 0, 12), (0, 1, 12), (0, 1, 12), (0, 1, 12), (0, 2, 12), (1, 2, 0), (0, 1, 12), (0, 1, 12), (0, 1, 12), (0, 1, 12), (0, 1, 12), (0, 1, 12), (0, 1, 12), (0, 1, 12), (0, 1, 12), (0, 1, 12), (0, 3, 12), (0, 2, 12), (0, 0, 12), (0, 0, 12), (0, 1, 12), (0, 0, 12), (0, 0, 12), (0, 1, 12), (0, 1, 12), (0, 1, 12), (1, 1, 0), (0, 2, 12), (0, 2, 12), (0, 0, 12), (0, 1, 12), (0, 1, 12), (0, 1, 12), (0, 1, 12), (0, 0, 12), (0, 2, 12), (0, 1, 12), (1, 1, 0), (0, 2, 12), (0, 2, 12), (0, 1, 12), (0, 2, 12), (0, 2, 12), (0, 1, 12), (0, 1, 12), (0, 1, 12), (0, 0, 12), (0, 0, 12), (0, 0, 12), (0, 2, 12), (0, 2, 12), (0, 2, 12), (0, 3, 12), (0, 2, 12), (0, 2, 12), (0, 2, 12), (0, 1, 12), (0, 2, 12), (0, 2, 12), (0, 2, 12), (0, 3, 12), (0, 1, 12), (0, 1, 12), (0, 1, 12), (0, 1, 12), (0, 1, 12), (0, 1, 12), (0, 0, 12), (0, 2, 12), (0, 1, 12), (0, 1, 12), (0, 0, 12), (0, 2, 12), (0, 2, 12), (0, 1, 12), (0, 1, 12), (0, 1, 12), (0, 2, 12), (0, 3, 12), (0, 0, 12), (0, 2, 12), (0, 3, 12), (0, 1, 12), (0, 1, 12), (0, 1, 12), (0, 1, 12), (0, 1, 12), (0, 1, 12), (0, 2, 12), (1, 1, 0), (0, 3, 12), (0, 2, 12), (0, 1, 12), (1, 1, 0), (1, 3, 0), (0, 1, 12), (0, 4, 12), (0, 4, 12), (0, 3, 12), (0, 3, 12), (0, 2, 12), (0, 3, 12), (0, 2, 12), (0, 1, 12), (0, 0, 12), (0, 0, 12), (0, 2, 12), (0, 1, 12), (0, 1, 12), (0, 1, 12), (0, 2, 12), (0, 2, 12), (0, 1, 12), (0, 1, 12), (0, 1, 12), (0, 0, 12), (0, 2, 12), (0, 0, 12), (0, 0, 12), (0, 1, 12), (0, 1, 12), (0, 1, 12), (0, 1, 12), (0, 3, 12), (0, 1, 12), (0, 1, 12), (1, 1, 0), (1, 2, 0), (0, 3, 12), (0, 2, 12), (0, 2, 12), (1, 2, 0), (0, 3, 12), (0, 3, 12), (0, 2, 12), (0, 1, 12), (0, 1, 12), (0, 0, 12), (0, 1, 12), (9, 0, 0), (9, 0, 0)]
/-- of each method: 0 virtual, 1 static, 2 a constructor, 9 not called; how many parameters; the class of its receiver -/
def am_mk (j : Nat) : Nat × Nat × Nat := am_mkl.getD j (9, 0, 0)
/-- the words that an entry wants: of the tables, or of a nest -/
def am_wl (k : Nat) (e : am_E) : List (Bool × Cond) := match e.1 with
  | .ldc i => if e.2.1.2.1 = 0 then [(false, Cond.constant (am_my k).cls i e.2.2.1)] else []
  | .ldc_w i => [(false, Cond.constant (am_my k).cls i e.2.2.1)]
  | .ldc2_w i => [(false, Cond.constantLong (am_my k).cls i e.2.2.2.1)]
  | .getfield i => if e.2.1.2.1 = 50 then (if e.2.1.2.2.1 = 0 then [(false, Cond.fieldLink (am_my k).cls i "java/lang/String" "value" "[B")] else [(false, Cond.fieldLink (am_my k).cls i "java/lang/String" "coder" "B")])
    else if e.2.1.2.2.2.2 < 10 then [(false, Cond.fieldLink (am_my k).cls i ((am_T e.2.1.2.1).2.1 e.2.1.2.2.1).1 ((am_T e.2.1.2.1).2.1 e.2.1.2.2.1).2.1 ((am_T e.2.1.2.1).2.1 e.2.1.2.2.1).2.2.1)] else [(true, Cond.fieldLinkNest (am_my k).cls i ((am_T e.2.1.2.1).2.1 e.2.1.2.2.1).1 ((am_T e.2.1.2.1).2.1 e.2.1.2.2.1).2.1 ((am_T e.2.1.2.1).2.1 e.2.1.2.2.1).2.2.1 "OrderMerge")]
  | .putfield i => if e.2.1.2.2.2.2 < 10 then [(false, Cond.fieldLink (am_my k).cls i ((am_T e.2.1.2.1).2.1 e.2.1.2.2.1).1 ((am_T e.2.1.2.1).2.1 e.2.1.2.2.1).2.1 ((am_T e.2.1.2.1).2.1 e.2.1.2.2.1).2.2.1)] else [(true, Cond.fieldLinkNest (am_my k).cls i ((am_T e.2.1.2.1).2.1 e.2.1.2.2.1).1 ((am_T e.2.1.2.1).2.1 e.2.1.2.2.1).2.1 ((am_T e.2.1.2.1).2.1 e.2.1.2.2.1).2.2.1 "OrderMerge")]
  | .getstatic i => if e.2.1.2.1 = 0 then [(false, Cond.fieldLink (am_my k).cls i "java/lang/String" "COMPACT_STRINGS" "Z")] else if e.2.1.2.1 = 1 then [(false, Cond.fieldLink (am_my k).cls i "jdk/internal/util/Preconditions" "SIOOBE_FORMATTER" "Ljava/util/function/BiFunction;")] else []
  | .newarray _ => if e.2.1.2.1 = 20 then [(false, Cond.arrayClass .int)] else if e.2.1.2.1 = 21 then [(false, Cond.arrayClass .byte)] else if e.2.1.2.1 = 22 then [(false, Cond.arrayClass .boolean)] else [(false, Cond.arrayClass .long)]
  | .anewarray i => if e.2.1.2.1 = 1 then [(false, Cond.classLink (am_my k).cls i "OrderMerge$Facts")] else if e.2.1.2.1 = 2 then [(false, Cond.classLink (am_my k).cls i "OrderMerge$House")] else [(false, Cond.classLink (am_my k).cls i "OrderMerge$Tray")]
  | .new i => [(false, Cond.classLink (am_my k).cls i (am_T e.2.1.2.1).1)]
  | .invokespecial i => if e.2.1.2.2.2.2 = 6 then [(false, Cond.methodLink (am_my k).cls i Lib.objectInit)] else if e.2.1.2.2.2.2 = 4 then [(false, Cond.methodLink (am_my k).cls i (am_my e.2.1.2.1))] else [(true, Cond.methodLinkNest (am_my k).cls i (am_my e.2.1.2.1) "OrderMerge")]
  | .invokestatic i => if e.2.1.2.2.2.2 = 7 then [(false, Cond.methodLink (am_my k).cls i arraycopyName)] else if e.2.1.2.2.2.2 = 8 then [(false, Cond.methodLink (am_my k).cls i Lib.Math.max.name)] else if e.2.1.2.2.2.2 = 9 then [(false, Cond.methodLink (am_my k).cls i Lib.Math.min.name)] else if e.2.1.2.2.2.2 = 2 then [(false, Cond.methodLink (am_my k).cls i (am_my e.2.1.2.1))] else [(true, Cond.methodLinkNest (am_my k).cls i (am_my e.2.1.2.1) "OrderMerge")]
  | .invokevirtual i => if e.2.1.2.2.2.2 = 0 then [(false, Cond.methodLink (am_my k).cls i (am_my e.2.1.2.1))] else [(true, Cond.methodLinkNest (am_my k).cls i (am_my e.2.1.2.1) "OrderMerge")]
  | _ => []
def am_wok (w : Bool × Cond) : Prop := match w.1 with
  | false => w.2 ∈ am_wd
  | true => w.2 ∈ am_nw
/-- its numbers -/
def am_nB (k pc : Nat) (e : am_E) : Bool := match e.1 with
  | .iconst n => decide (Int32.ofInt n = e.2.2.1)
  | .bipush n => decide ((Int8.ofInt n).toInt32 = e.2.2.1)
  | .sipush n => decide ((Int16.ofInt n).toInt32 = e.2.2.1)
  | .lconst n => decide (Int64.ofNat (n : Nat) = e.2.2.2.1)
  | .ldc i => if e.2.1.2.1 = 0 then true else am_sr.any (fun q => decide (q.1 = (am_my k).cls) && decide (q.2.1 = i) && decide (q.2.2.2 = e.2.1.2.1 - 1))
  | .iload_n i => decide ((i : Nat) = e.2.1.2.1)
  | .lload_n i => decide ((i : Nat) = e.2.1.2.1)
  | .aload_n i => decide ((i : Nat) = e.2.1.2.1)
  | .istore_n i => decide ((i : Nat) = e.2.1.2.1) && am_noL k e.2.1.2.1
  | .lstore_n i => decide ((i : Nat) = e.2.1.2.1) && am_noL k e.2.1.2.1 && decide (e.2.1.2.1 ∈ (am_p k).2.2.2)
  | .astore_n i => decide ((i : Nat) = e.2.1.2.1) && am_noL k e.2.1.2.1
  | .iload i => decide (i = e.2.1.2.1)
  | .lload i => decide (i = e.2.1.2.1)
  | .aload i => decide (i = e.2.1.2.1)
  | .istore i => decide (i = e.2.1.2.1) && am_noL k e.2.1.2.1
  | .lstore i => decide (i = e.2.1.2.1) && am_noL k e.2.1.2.1 && decide (e.2.1.2.1 ∈ (am_p k).2.2.2)
  | .astore i => decide (i = e.2.1.2.1) && am_noL k e.2.1.2.1
  | .iinc i n => decide (i = e.2.1.2.1) && decide (Int32.ofInt n = e.2.2.1) && am_noL k e.2.1.2.1
  | .goto o => decide ((pc : Int) + o = (e.2.1.2.1 : Int))
  | .ifCond _ o => decide ((pc : Int) + o = (e.2.1.2.1 : Int))
  | .if_icmp _ o => decide ((pc : Int) + o = (e.2.1.2.1 : Int))
  | .ifnull o => decide ((pc : Int) + o = (e.2.1.2.1 : Int))
  | .ifnonnull o => decide ((pc : Int) + o = (e.2.1.2.1 : Int))
  | .tableswitch d lo hi os => decide ((pc : Int) + d = (e.2.1.2.1 : Int)) && decide (hi + 1 = lo + os.size) && am_tbB pc lo os.toList e.2.2.2.2
  | .lookupswitch d ps => decide ((pc : Int) + d = (e.2.1.2.1 : Int)) && (ps.toList.zip (ps.toList.drop 1)).all (fun (a, next) => a.1 < next.1) && am_lbB pc ps.toList e.2.2.2.2
  | .getfield _ => if e.2.1.2.1 = 50 then true else decide (e.2.1.2.1 < 13) && decide (e.2.1.2.2.1 < (am_T e.2.1.2.1).2.2) && decide (am_ft e.2.1.2.1 e.2.1.2.2.1 = e.2.1.2.2.2.1)
  | .putfield _ => decide (e.2.1.2.1 < 13) && decide (e.2.1.2.2.1 < (am_T e.2.1.2.1).2.2) && decide (am_ft e.2.1.2.1 e.2.1.2.2.1 = e.2.1.2.2.2.1) && decide ((e.2.1.2.2.2.2 % 10 == 5) = (am_ty e.2.1.2.1 e.2.1.2.2.1 == .boolean)) &&
    (if ((am_T e.2.1.2.1).2.1 e.2.1.2.2.1).2.2.2 = false then true else decide (e.2.1.2.2.2.2 < 10) && decide ((am_my k).name = "<init>") && decide (((am_T e.2.1.2.1).2.1 e.2.1.2.2.1).1 = (am_my k).cls))
  | .getstatic _ => decide (e.2.1.2.1 < 2)
  | .aaload => decide (e.2.1.2.1 = 1 ∨ e.2.1.2.1 = 2 ∨ e.2.1.2.1 = 9)
  | .aastore => decide (e.2.1.2.1 = 1 ∨ e.2.1.2.1 = 2 ∨ e.2.1.2.1 = 9)
  | .newarray t => (decide (e.2.1.2.1 = 20) && decide (t = .int)) || (decide (e.2.1.2.1 = 21) && decide (t = .byte)) || (decide (e.2.1.2.1 = 22) && decide (t = .boolean)) || (decide (e.2.1.2.1 = 23) && decide (t = .long))
  | .anewarray _ => decide (e.2.1.2.1 = 1 ∨ e.2.1.2.1 = 2 ∨ e.2.1.2.1 = 9)
  | .new _ => decide (e.2.1.2.1 < 13) && decide (e.2.1.2.2.1 = (am_T e.2.1.2.1).2.2)
  | .invokespecial _ => if e.2.1.2.2.2.2 = 6 then true else (decide (e.2.1.2.2.2.2 = 4) || decide (e.2.1.2.2.2.2 = 5)) && decide ((am_mk e.2.1.2.1).1 = 2) && decide ((am_mk e.2.1.2.1).2.1 = e.2.1.2.2.1 - 1) && decide (1 ≤ e.2.1.2.2.1)
  | .invokestatic _ => if e.2.1.2.2.2.2 = 7 ∨ e.2.1.2.2.2.2 = 8 ∨ e.2.1.2.2.2.2 = 9 then true else (decide (e.2.1.2.2.2.2 = 2) || decide (e.2.1.2.2.2.2 = 3)) && decide ((am_mk e.2.1.2.1).1 = 1) && decide ((am_mk e.2.1.2.1).2.1 = e.2.1.2.2.1)
  | .invokevirtual _ => decide (e.2.1.2.2.2.2 < 2) && decide (am_mk e.2.1.2.1 = (0, e.2.1.2.2.1 - 1, e.2.1.2.2.2.1)) && decide (1 ≤ e.2.1.2.2.1)
  | _ => true
def am_mf (j : Nat) : Prop := match (am_mk j).1 with
  | 0 => am_mok j ∧ am_np j (am_mk j).2.1 ∧ Cond.instanceMethod (am_my j) ∈ am_wd ∧ Cond.selects (am_my j).cls (am_my j) (am_my j) ∈ am_wd ∧ (((am_mk j).2.2 < 13 ∧ (am_my j).cls = (am_T (am_mk j).2.2).1) ∨ ((am_mk j).2.2 = 50 ∧ (am_my j).cls = "java/lang/String"))
  | 1 => am_mok j ∧ am_np j (am_mk j).2.1 ∧ Cond.static (am_my j) ∈ am_wd
  | 2 => am_mok j ∧ am_np j (am_mk j).2.1 ∧ Cond.instanceMethod (am_my j) ∈ am_wd ∧ (am_my j).name = "<init>" ∧ am_mr j = none
  | _ => True
def am_rokB (j : Nat) : Bool := match (am_p j).2.2.1, am_mr j with
  | 0, some .int => true
  | 1, some .boolean => true
  | 2, some .byte => true
  | 3, some .char => true
  | 4, some .long => true
  | 5, some (.array .int) => true
  | 9, none => true
  | _, _ => false
theorem am_rokB_ok {j : Nat} (h : am_rokB j = true) : am_rok j := by
  unfold am_rokB at h
  unfold am_rok
  split at h
  · rename_i a b; exact Or.inl ⟨a, b⟩
  · rename_i a b; exact Or.inr (Or.inl ⟨a, b⟩)
  · rename_i a b; exact Or.inr (Or.inr (Or.inl ⟨a, b⟩))
  · rename_i a b; exact Or.inr (Or.inr (Or.inr (Or.inl ⟨a, b⟩)))
  · rename_i a b; exact Or.inr (Or.inr (Or.inr (Or.inr (Or.inl ⟨a, b⟩))))
  · rename_i a b; exact Or.inr (Or.inr (Or.inr (Or.inr (Or.inr (Or.inl ⟨a, b⟩)))))
  · rename_i a b; exact Or.inr (Or.inr (Or.inr (Or.inr (Or.inr (Or.inr ⟨a, b⟩)))))
  · cases h
set_option maxHeartbeats 4000000 in
theorem am_nB_ok {k pc : Nat} {e : am_E} (h : am_nB k pc e = true) (hw : ∀ w ∈ am_wl k e, am_wok w) : am_cond k pc e := by
  obtain ⟨i0, ⟨len, a, b, cc, d⟩, v, lv, tab⟩ := e
  cases i0 with
  | iconst n => simp only [am_nB, decide_eq_true_eq] at h; exact h
  | bipush n => simp only [am_nB, decide_eq_true_eq] at h; exact h
  | sipush n => simp only [am_nB, decide_eq_true_eq] at h; exact h
  | lconst n => simp only [am_nB, decide_eq_true_eq] at h; exact h
  | ldc i =>
    have h : (if a = 0 then _ else _) = true := h
    have hw : ∀ w ∈ (if a = 0 then _ else _), am_wok w := hw
    show if a = 0 then _ else _
    split at h
    · rename_i ha
      rw [if_pos ha] at hw ⊢
      exact hw _ (List.mem_singleton.mpr rfl)
    · rename_i ha
      rw [if_neg ha]
      obtain ⟨q, hq, hq2⟩ := List.any_eq_true.mp h
      simp only [Bool.and_eq_true, decide_eq_true_eq] at hq2
      obtain ⟨⟨e1, e2⟩, e3⟩ := hq2
      obtain ⟨q1, q2, q3, q4⟩ := q
      dsimp only at e1 e2 e3
      subst e1; subst e2
      exact ⟨q3, by rw [← e3]; exact hq⟩
  | ldc_w i => exact hw _ (List.mem_singleton.mpr rfl)
  | ldc2_w i => exact hw _ (List.mem_singleton.mpr rfl)
  | iload_n i => simp only [am_nB, decide_eq_true_eq] at h; exact h
  | lload_n i => simp only [am_nB, decide_eq_true_eq] at h; exact h
  | aload_n i => simp only [am_nB, decide_eq_true_eq] at h; exact h
  | istore_n i => simp only [am_nB, Bool.and_eq_true, decide_eq_true_eq] at h; exact ⟨h.1, am_noL_ok h.2⟩
  | astore_n i => simp only [am_nB, Bool.and_eq_true, decide_eq_true_eq] at h; exact ⟨h.1, am_noL_ok h.2⟩
  | lstore_n i => simp only [am_nB, Bool.and_eq_true, decide_eq_true_eq] at h; exact ⟨h.1.1, am_noL_ok h.1.2, h.2⟩
  | iload i => simp only [am_nB, decide_eq_true_eq] at h; exact h
  | lload i => simp only [am_nB, decide_eq_true_eq] at h; exact h
  | aload i => simp only [am_nB, decide_eq_true_eq] at h; exact h
  | istore i => simp only [am_nB, Bool.and_eq_true, decide_eq_true_eq] at h; exact ⟨h.1, am_noL_ok h.2⟩
  | astore i => simp only [am_nB, Bool.and_eq_true, decide_eq_true_eq] at h; exact ⟨h.1, am_noL_ok h.2⟩
  | lstore i => simp only [am_nB, Bool.and_eq_true, decide_eq_true_eq] at h; exact ⟨h.1.1, am_noL_ok h.1.2, h.2⟩
  | iinc i n => simp only [am_nB, Bool.and_eq_true, decide_eq_true_eq] at h; exact ⟨h.1.1, h.1.2, am_noL_ok h.2⟩
  | goto o => simp only [am_nB, decide_eq_true_eq] at h; exact h
  | ifCond c o => simp only [am_nB, decide_eq_true_eq] at h; exact h
  | if_icmp c o => simp only [am_nB, decide_eq_true_eq] at h; exact h
  | ifnull o => simp only [am_nB, decide_eq_true_eq] at h; exact h
  | ifnonnull o => simp only [am_nB, decide_eq_true_eq] at h; exact h
  | tableswitch df lo hi os => simp only [am_nB, Bool.and_eq_true, decide_eq_true_eq] at h; exact ⟨h.1.1, h.1.2, am_tbB_ok _ _ _ h.2⟩
  | lookupswitch df ps =>
    have h : (decide ((pc : Int) + df = (a : Int)) && (ps.toList.zip (ps.toList.drop 1)).all (fun (a, next) => a.1 < next.1) && am_lbB pc ps.toList tab) = true := h
    rw [Bool.and_eq_true, Bool.and_eq_true] at h
    exact ⟨of_decide_eq_true h.1.1, h.1.2, am_lbB_ok _ _ h.2⟩
  | getfield i =>
    have h : (if a = 50 then _ else _) = true := h
    have hw : ∀ w ∈ (if a = 50 then (if b = 0 then _ else _) else if d < 10 then _ else _), am_wok w := hw
    show if a = 50 then _ else _
    split at h
    · rename_i ha
      rw [if_pos ha] at hw ⊢
      by_cases hb : b = 0
      · rw [if_pos hb] at hw
        exact ⟨fun _ => hw _ (List.mem_singleton.mpr rfl), fun z => absurd hb z⟩
      · rw [if_neg hb] at hw
        exact ⟨fun z => absurd z hb, fun _ => hw _ (List.mem_singleton.mpr rfl)⟩
    · rename_i ha
      rw [if_neg ha] at hw ⊢
      simp only [Bool.and_eq_true, decide_eq_true_eq] at h
      refine ⟨h.1.1, h.1.2, h.2, ?_⟩
      by_cases hd : d < 10
      · rw [if_pos hd] at hw ⊢
        exact hw _ (List.mem_singleton.mpr rfl)
      · rw [if_neg hd] at hw ⊢
        exact hw _ (List.mem_singleton.mpr rfl)
  | putfield i =>
    have hw : ∀ w ∈ (if d < 10 then _ else _), am_wok w := hw
    simp only [am_nB, Bool.and_eq_true, decide_eq_true_eq] at h
    refine ⟨h.1.1.1.1, h.1.1.1.2, h.1.1.2, h.1.2, ?_⟩
    have h2 := h.2
    dsimp only at h2 ⊢
    by_cases hd : d < 10
    · rw [if_pos hd] at hw ⊢
      refine ⟨hw _ (List.mem_singleton.mpr rfl), ?_⟩
      split at h2
      · rename_i hf
        exact Or.inl hf
      · rename_i hf
        simp only [Bool.and_eq_true, decide_eq_true_eq] at h2
        refine Or.inr ⟨h2.1.2, h2.2, ?_⟩
        cases hz : ((am_T a).2.1 b).2.2.2
        · exact absurd hz hf
        · rfl
    · rw [if_neg hd] at hw ⊢
      refine ⟨hw _ (List.mem_singleton.mpr rfl), ?_⟩
      split at h2
      · rename_i hf
        exact hf
      · simp only [Bool.and_eq_true, decide_eq_true_eq] at h2
        exact absurd h2.1.1 hd
  | getstatic i =>
    have hw : ∀ w ∈ (if a = 0 then _ else if a = 1 then _ else _), am_wok w := hw
    by_cases h0 : a = 0
    · rw [if_pos h0] at hw
      exact ⟨fun _ => hw _ (List.mem_singleton.mpr rfl), fun (z : a = 1) => by omega⟩
    · rw [if_neg h0] at hw
      by_cases h1 : a = 1
      · rw [if_pos h1] at hw
        exact ⟨fun z => absurd z h0, fun _ => hw _ (List.mem_singleton.mpr rfl)⟩
      · exact ⟨fun z => absurd z h0, fun z => absurd z h1⟩
  | aaload => simp only [am_nB, decide_eq_true_eq] at h; exact h
  | aastore => simp only [am_nB, decide_eq_true_eq] at h; exact h
  | newarray t =>
    have hw : ∀ w ∈ (if a = 20 then _ else if a = 21 then _ else if a = 22 then _ else _), am_wok w := hw
    simp only [am_nB, Bool.or_eq_true, Bool.and_eq_true, decide_eq_true_eq] at h
    rcases h with ((h | h) | h) | h
    · obtain ⟨rfl, h⟩ := h
      exact Or.inl ⟨rfl, h, hw _ (List.mem_singleton.mpr rfl)⟩
    · obtain ⟨rfl, h⟩ := h
      exact Or.inr (Or.inl ⟨rfl, h, hw _ (List.mem_singleton.mpr rfl)⟩)
    · obtain ⟨rfl, h⟩ := h
      exact Or.inr (Or.inr (Or.inl ⟨rfl, h, hw _ (List.mem_singleton.mpr rfl)⟩))
    · obtain ⟨rfl, h⟩ := h
      exact Or.inr (Or.inr (Or.inr ⟨rfl, h, hw _ (List.mem_singleton.mpr rfl)⟩))
  | anewarray i =>
    have hw : ∀ w ∈ (if a = 1 then _ else if a = 2 then _ else _), am_wok w := hw
    simp only [am_nB, decide_eq_true_eq] at h
    rcases h with rfl | rfl | rfl
    · exact Or.inl ⟨rfl, hw _ (List.mem_singleton.mpr rfl)⟩
    · exact Or.inr (Or.inl ⟨rfl, hw _ (List.mem_singleton.mpr rfl)⟩)
    · exact Or.inr (Or.inr ⟨rfl, hw _ (List.mem_singleton.mpr rfl)⟩)
  | new i =>
    simp only [am_nB, Bool.and_eq_true, decide_eq_true_eq] at h
    exact ⟨h.1, h.2, hw _ (List.mem_singleton.mpr rfl)⟩
  | invokespecial i =>
    have hw : ∀ w ∈ (if d = 6 then _ else if d = 4 then _ else _), am_wok w := hw
    intro (z : d = 6)
    rw [if_pos z] at hw
    exact hw _ (List.mem_singleton.mpr rfl)
  | invokestatic i =>
    have hw : ∀ w ∈ (if d = 7 then _ else if d = 8 then _ else if d = 9 then _ else if d = 2 then _ else _), am_wok w := hw
    refine ⟨fun (z : d = 7) => ?_, fun (z : d = 8) => ?_, fun (z : d = 9) => ?_⟩
    · subst z
      exact hw _ (List.mem_singleton.mpr rfl)
    · subst z
      exact hw _ (List.mem_singleton.mpr rfl)
    · subst z
      exact hw _ (List.mem_singleton.mpr rfl)
  | _ => trivial
theorem am_cc_ok {k pc : Nat} {e : am_E} (hmf : ∀ j, am_mf j) (h : am_nB k pc e = true) (hw : ∀ w ∈ am_wl k e, am_wok w) : am_cc k e := by
  obtain ⟨i0, ⟨len, a, b, cc, d⟩, v, lv, tab⟩ := e
  cases i0 with
  | invokevirtual i =>
    intro hd
    have hd : d < 2 := hd
    have hw : ∀ w ∈ (if d = 0 then _ else _), am_wok w := hw
    simp only [am_nB, Bool.and_eq_true, decide_eq_true_eq] at h
    obtain ⟨⟨-, h1⟩, h2⟩ := h
    have hf := hmf a
    unfold am_mf at hf
    rw [h1] at hf
    dsimp only at hf ⊢
    refine ⟨hf.1, ⟨h2, hf.2.1⟩, hf.2.2.1, hf.2.2.2.1, hf.2.2.2.2, ?_⟩
    by_cases hz : d = 0
    · rw [if_pos hz] at hw ⊢
      exact hw _ (List.mem_singleton.mpr rfl)
    · rw [if_neg hz] at hw ⊢
      exact hw _ (List.mem_singleton.mpr rfl)
  | invokestatic i =>
    intro hd
    have hd : d = 2 ∨ d = 3 := hd
    have hw : ∀ w ∈ (if d = 7 then _ else if d = 8 then _ else if d = 9 then _ else if d = 2 then _ else _), am_wok w := hw
    have h : (if d = 7 ∨ d = 8 ∨ d = 9 then _ else _) = true := h
    rw [if_neg (by omega)] at h
    simp only [Bool.and_eq_true, decide_eq_true_eq] at h
    obtain ⟨⟨-, h1⟩, h2⟩ := h
    have hf := hmf a
    unfold am_mf at hf
    rw [h1] at hf
    dsimp only at hf ⊢
    rw [h2] at hf
    refine ⟨hf.1, hf.2.1, hf.2.2, ?_⟩
    rw [if_neg (by omega), if_neg (by omega), if_neg (by omega)] at hw
    by_cases hz : d = 2
    · rw [if_pos hz] at hw ⊢
      exact hw _ (List.mem_singleton.mpr rfl)
    · rw [if_neg hz] at hw ⊢
      exact hw _ (List.mem_singleton.mpr rfl)
  | invokespecial i =>
    intro hd
    have hd : d = 4 ∨ d = 5 := hd
    have hw : ∀ w ∈ (if d = 6 then _ else if d = 4 then _ else _), am_wok w := hw
    have h : (if d = 6 then _ else _) = true := h
    rw [if_neg (by omega)] at h
    simp only [Bool.and_eq_true, decide_eq_true_eq] at h
    obtain ⟨⟨⟨-, h1⟩, h2⟩, h4⟩ := h
    have hf := hmf a
    unfold am_mf at hf
    rw [h1] at hf
    dsimp only at hf ⊢
    rw [h2] at hf
    refine ⟨hf.1, ⟨h4, hf.2.1⟩, hf.2.2.1, hf.2.2.2.1, hf.2.2.2.2, ?_⟩
    rw [if_neg (by omega)] at hw
    by_cases hz : d = 4
    · rw [if_pos hz] at hw ⊢
      exact hw _ (List.mem_singleton.mpr rfl)
    · rw [if_neg hz] at hw ⊢
      exact hw _ (List.mem_singleton.mpr rfl)
  | _ => trivial
/-- a stretch of a method's code, from a place on -/
def am_ckB (k : Nat) : Nat → List (Option am_E) → Bool
  | _, [] => true
  | pc, none :: r => am_ckB k (pc + 1) r
  | pc, some e :: r => decide (decode (am_mb k) pc = .ok (e.1, am_il e.1 e.2.1.1)) && am_nB k pc e && am_ckB k (pc + 1) r
/-- all words of a code -/
def am_wls (k : Nat) : List (Option am_E) → List (Bool × Cond)
  | [] => []
  | none :: r => am_wls k r
  | some e :: r => am_wl k e ++ am_wls k r
def am_gd (k : Nat) : Prop := ∀ pc e, (am_p k).1[pc]? = some (some e) → am_ok k pc e
theorem am_ckB_ok {k : Nat} (hmf : ∀ j, am_mf j) : ∀ (es : List (Option am_E)) (pc : Nat), am_ckB k pc es = true → (∀ w ∈ am_wls k es, am_wok w) → ∀ (i : Nat) (e : am_E), es[i]? = some (some e) → am_ok k (pc + i) e := by
  intro es
  induction es with
  | nil => intro pc _ _ i e h; simp at h
  | cons x es ih =>
    intro pc h hw i e hi
    match x, h, hw with
    | none, h, hw =>
      cases i with
      | zero => simp at hi
      | succ i => have := ih (pc + 1) h hw i e (by simpa using hi); rwa [show pc + (i + 1) = pc + 1 + i by omega]
    | some e0, h, hw =>
      simp only [am_ckB, Bool.and_eq_true, decide_eq_true_eq] at h
      obtain ⟨⟨h1, h2⟩, h4⟩ := h
      have hw1 : ∀ w ∈ am_wl k e0, am_wok w := fun w q => hw w (List.mem_append_left _ q)
      have hw2 : ∀ w ∈ am_wls k es, am_wok w := fun w q => hw w (List.mem_append_right _ q)
      cases i with
      | zero =>
        simp at hi
        subst hi
        exact ⟨h1, am_nB_ok h2 hw1, am_cc_ok hmf h2 hw1⟩
      | succ i => have := ih (pc + 1) h4 hw2 i e (by simpa using hi); rwa [show pc + (i + 1) = pc + 1 + i by omega]
theorem am_gd_of {k : Nat} (hmf : ∀ j, am_mf j) (h : am_ckB k 0 (am_p k).1 = true) (hw : ∀ w ∈ am_wls k (am_p k).1, am_wok w) : am_gd k := fun pc e he => by
  have := am_ckB_ok hmf _ 0 h hw pc e he
  rwa [Nat.zero_add] at this
theorem wd_m {w : Cond} (h : w ∈ tables_1) (hg : goodWord w = true) : am_wok (false, w) := List.mem_filter.mpr ⟨List.mem_append_right _ h, hg⟩
theorem wd_p {w : Cond} (h : w ∈ k2_sels lw_privs) (hg : goodWord w = true) : am_wok (false, w) := List.mem_filter.mpr ⟨List.mem_append_left _ h, hg⟩
theorem wd_n {w : Cond} (h : w ∈ tables_1) (hg : am_isN w = true) : am_wok (true, w) := List.mem_filter.mpr ⟨List.mem_append_right _ h, hg⟩
theorem wc_0 {w : Bool × Cond} {l : List (Bool × Cond)} (h : am_wok w) (hl : ∀ x ∈ l, am_wok x) : ∀ x ∈ w :: l, am_wok x := List.forall_mem_cons.mpr ⟨h, hl⟩
theorem wc_e : ∀ x ∈ ([] : List (Bool × Cond)), am_wok x := fun _ h => absurd h List.not_mem_nil
theorem tb_1 {w : Cond} {i : Nat} (h : tables_1_1[i]? = some w) : w ∈ tables_1 := List.mem_append_left _ (List.mem_of_getElem? h)
theorem tb_2 {w : Cond} {i : Nat} (h : tables_1_2[i]? = some w) : w ∈ tables_1 := List.mem_append_right _ (List.mem_append_left _ (List.mem_of_getElem? h))
theorem tb_3 {w : Cond} {i : Nat} (h : tables_1_3[i]? = some w) : w ∈ tables_1 := List.mem_append_right _ (List.mem_append_right _ (List.mem_append_left _ (List.mem_of_getElem? h)))
theorem tb_4 {w : Cond} {i : Nat} (h : tables_1_4[i]? = some w) : w ∈ tables_1 := List.mem_append_right _ (List.mem_append_right _ (List.mem_append_right _ (List.mem_append_left _ (List.mem_of_getElem? h))))
theorem tb_5 {w : Cond} {i : Nat} (h : tables_1_5[i]? = some w) : w ∈ tables_1 := List.mem_append_right _ (List.mem_append_right _ (List.mem_append_right _ (List.mem_append_right _ (List.mem_append_left _ (List.mem_of_getElem? h)))))
theorem tb_6 {w : Cond} {i : Nat} (h : tables_1_6[i]? = some w) : w ∈ tables_1 := List.mem_append_right _ (List.mem_append_right _ (List.mem_append_right _ (List.mem_append_right _ (List.mem_append_right _ (List.mem_append_left _ (List.mem_of_getElem? h))))))
theorem tb_7 {w : Cond} {i : Nat} (h : tables_1_7[i]? = some w) : w ∈ tables_1 := List.mem_append_right _ (List.mem_append_right _ (List.mem_append_right _ (List.mem_append_right _ (List.mem_append_right _ (List.mem_append_right _ (List.mem_append_left _ (List.mem_of_getElem? h)))))))
theorem tb_8 {w : Cond} {i : Nat} (h : tables_1_8[i]? = some w) : w ∈ tables_1 := List.mem_append_right _ (List.mem_append_right _ (List.mem_append_right _ (List.mem_append_right _ (List.mem_append_right _ (List.mem_append_right _ (List.mem_append_right _ (List.mem_append_left _ (List.mem_of_getElem? h))))))))
theorem tb_9 {w : Cond} {i : Nat} (h : tables_1_9[i]? = some w) : w ∈ tables_1 := List.mem_append_right _ (List.mem_append_right _ (List.mem_append_right _ (List.mem_append_right _ (List.mem_append_right _ (List.mem_append_right _ (List.mem_append_right _ (List.mem_append_right _ (List.mem_of_getElem? h))))))))
