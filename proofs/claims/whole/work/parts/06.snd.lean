/-! ===== one step of the machine in small is one step of the machine ===== -/
/-- the words of the tables that every method has -/
def am_wd : List Cond := lw_tbl.filter goodWord
def am_wk (k : Nat) : List Cond := Cond.code (am_my k) (am_mb k) (am_p k).2.1 (am_mr k) :: am_wd
def am_isN : Cond → Bool
  | .fieldLinkNest _ _ _ _ _ _ => true
  | .methodLinkNest _ _ _ _ => true
  | _ => false
def am_nw : List Cond := lw_tbl.filter am_isN
/-- the String constants: class, entry, text, number -/
def am_sr : List (String × Nat × String × Nat) := [("OrderMerge$Reader", 128, "house mood class method in ends next says seen if then else end for depth or and not ", 0), ("OrderMerge$Reader", 121, ";:+-*()[]=<>", 1), ("OrderMergeModel", 101, " house mood class method in ends next says seen if then else end for depth and or not ", 2), ("OrderMergeModel", 139, ";:+-*()[]=<>", 1)]
def am_tys (cy : Nat → ClassId) : List (ClassId × FieldType) := [(cy 20, .int), (cy 21, .byte), (cy 22, .boolean), (cy 23, .long), (cy 31, .object "OrderMerge$Facts"), (cy 32, .object "OrderMerge$House"), (cy 39, .object "OrderMerge$Tray")]
def am_len : List Nat := am_byt.map List.length
abbrev am_A (B : Nat) : Nat → Prop := fun q => B ≤ q
/-- what is outside, and where: D, B, xv, cy, the Strings, the script -/
abbrev am_G : Type := va_G × Nat × (Nat → Value) × (Nat → ClassId) × (Nat → Nat) × (Nat → Nat) × Nat × Nat × (Nat → Int32)
def g_D (G : am_G) : va_G := G.1
def g_B (G : am_G) : Nat := G.2.1
def g_xv (G : am_G) : Nat → Value := G.2.2.1
def g_cy (G : am_G) : Nat → ClassId := G.2.2.2.1
def g_K (G : am_G) : Nat → Nat := G.2.2.2.2.1
def g_V (G : am_G) : Nat → Nat := G.2.2.2.2.2.1
def g_b (G : am_G) : Nat := G.2.2.2.2.2.2.1
def g_n (G : am_G) : Nat := G.2.2.2.2.2.2.2.1
def g_xs (G : am_G) : Nat → Int32 := G.2.2.2.2.2.2.2.2
/-- what the tables say -/
def am_K (G : am_G) (U : State) : Prop := va_K (g_D G) am_cl (am_tys (g_cy G)) U ∧ (∀ w ∈ am_nw, va_Nw w U) ∧ (∀ q ∈ am_sr, vk_R q.1 q.2.1 q.2.2.1 (g_K G q.2.2.2) U) ∧ va_AO "OrderMerge$Facts" U ∧ va_AO "OrderMerge$House" U ∧ va_AO "OrderMerge$Tray" U
/-- what the heap outside holds -/
def am_XH (G : am_G) (U : State) (H : Heap) : Prop := va_X (g_b G) (g_n G) (g_xs G) U H ∧ g_b G < g_B G ∧ g_B G ≤ H.size ∧ vk_S 3 am_len am_byt (g_K G) (g_V G) (am_A (g_B G)) U H ∧ va_Z "java/lang/String" "COMPACT_STRINGS" "Z" (.int 1) (am_A (g_B G)) U H ∧ va_Z "jdk/internal/util/Preconditions" "SIOOBE_FORMATTER" "Ljava/util/function/BiFunction;" (g_xv G 30) (am_A (g_B G)) U H
/-- the values from outside -/
def am_xo (G : am_G) : Prop := (∀ i, i < 3 → g_xv G i = .ref (g_K G i)) ∧ (∀ i, i < 3 → g_xv G (10 + i) = .ref (g_V G i)) ∧ g_xv G 20 = .ref (g_b G) ∧ ∀ i, g_xv G i = .null ∨ ∃ a, g_xv G i = .ref a
def am_Ctx (G : am_G) (p : Program) (s : State) (m : MethodId) (args : Array Value) (meth : Method) (c : Code) (k n0 : Nat) : Prop :=
  p.tables.exec = Jvm.exec ∧ c.code = am_mb k ∧ c.maxLocals = (am_p k).2.1 ∧ meth.sig.returnType = am_mr k ∧ s.vm.findClass (am_my k).cls = some m.cls ∧ (∀ w ∈ am_wd, w.before args s = true) ∧ meth.locks = false ∧ ((am_my k).name = "<init>" → meth.name = "<init>") ∧ am_K G s ∧ am_XH G s s.heap ∧ am_xo G ∧ s.heap.size = g_B G + n0
abbrev am_W (G : am_G) (h : am_H) : va_W := am_ws (g_B G) (g_xv G) (g_cy G) h
abbrev am_c (G : am_G) : am_V → Value := am_cv (g_B G) (g_xv G)
def am_St (G : am_G) (s : State) (k : Nat) (h : am_H) (L : am_L) (H : Heap) (locs : List Loc) (ls : Array Slot) : Prop :=
  va_P (g_D G) am_cl (am_W G h) H ∧ va_S (am_A (g_B G)) s.heap H locs ∧ lv_has ls (am_p k).2.1 (am_lv (g_B G) (g_xv G) 0 L) ∧ L.length = (am_p k).2.1 ∧ am_lg (am_p k).2.2.2 L ∧ h_x h = (g_n G, g_xs G)
/-- a switch's table is the instruction's -/
def am_tb (pc : Nat) : Int → List Int → List (Int32 × Nat) → Prop
  | _, [], [] => True
  | v, o :: os, (x, t) :: ts => x.toInt = v ∧ (pc : Int) + o = (t : Int) ∧ am_tb pc (v + 1) os ts
  | _, _, _ => False
def am_lb (pc : Nat) : List (Int × Int) → List (Int32 × Nat) → Prop
  | [], [] => True
  | (v, o) :: os, (x, t) :: ts => x.toInt = v ∧ (pc : Int) + o = (t : Int) ∧ am_lb pc os ts
  | _, _ => False
abbrev am_T (ci : Nat) : vw_C := am_cl.getD ci (RX0, TX0, 9)
/-- an entry's numbers are right -/
def am_cond (k pc : Nat) (e : am_E) : Prop := match e.1 with
  | .iconst n => Int32.ofInt n = e.2.2.1
  | .bipush n => (Int8.ofInt n).toInt32 = e.2.2.1
  | .sipush n => (Int16.ofInt n).toInt32 = e.2.2.1
  | .lconst n => Int64.ofNat (n : Nat) = e.2.2.2.1
  | .ldc i => if e.2.1.2.1 = 0 then Cond.constant (am_my k).cls i e.2.2.1 ∈ am_wd else ∃ t, ((am_my k).cls, i, t, e.2.1.2.1 - 1) ∈ am_sr
  | .ldc_w i => Cond.constant (am_my k).cls i e.2.2.1 ∈ am_wd
  | .ldc2_w i => Cond.constantLong (am_my k).cls i e.2.2.2.1 ∈ am_wd
  | .iload_n i => (i : Nat) = e.2.1.2.1
  | .lload_n i => (i : Nat) = e.2.1.2.1
  | .aload_n i => (i : Nat) = e.2.1.2.1
  | .istore_n i => (i : Nat) = e.2.1.2.1 ∧ ∀ j ∈ (am_p k).2.2.2, j + 1 ≠ e.2.1.2.1
  | .lstore_n i => (i : Nat) = e.2.1.2.1 ∧ (∀ j ∈ (am_p k).2.2.2, j + 1 ≠ e.2.1.2.1) ∧ e.2.1.2.1 ∈ (am_p k).2.2.2
  | .astore_n i => (i : Nat) = e.2.1.2.1 ∧ ∀ j ∈ (am_p k).2.2.2, j + 1 ≠ e.2.1.2.1
  | .iload i => i = e.2.1.2.1
  | .lload i => i = e.2.1.2.1
  | .aload i => i = e.2.1.2.1
  | .istore i => i = e.2.1.2.1 ∧ ∀ j ∈ (am_p k).2.2.2, j + 1 ≠ e.2.1.2.1
  | .lstore i => i = e.2.1.2.1 ∧ (∀ j ∈ (am_p k).2.2.2, j + 1 ≠ e.2.1.2.1) ∧ e.2.1.2.1 ∈ (am_p k).2.2.2
  | .astore i => i = e.2.1.2.1 ∧ ∀ j ∈ (am_p k).2.2.2, j + 1 ≠ e.2.1.2.1
  | .iinc i n => i = e.2.1.2.1 ∧ Int32.ofInt n = e.2.2.1 ∧ ∀ j ∈ (am_p k).2.2.2, j + 1 ≠ e.2.1.2.1
  | .goto o => (pc : Int) + o = (e.2.1.2.1 : Int)
  | .ifCond _ o => (pc : Int) + o = (e.2.1.2.1 : Int)
  | .if_icmp _ o => (pc : Int) + o = (e.2.1.2.1 : Int)
  | .ifnull o => (pc : Int) + o = (e.2.1.2.1 : Int)
  | .ifnonnull o => (pc : Int) + o = (e.2.1.2.1 : Int)
  | .tableswitch d lo hi os => (pc : Int) + d = (e.2.1.2.1 : Int) ∧ hi + 1 = lo + os.size ∧ am_tb pc lo os.toList e.2.2.2.2
  | .lookupswitch d ps => (pc : Int) + d = (e.2.1.2.1 : Int) ∧ (ps.toList.zip (ps.toList.drop 1)).all (fun (a, next) => a.1 < next.1) = true ∧ am_lb pc ps.toList e.2.2.2.2
  | .getfield i => if e.2.1.2.1 = 50 then (e.2.1.2.2.1 = 0 → Cond.fieldLink (am_my k).cls i "java/lang/String" "value" "[B" ∈ am_wd) ∧ (e.2.1.2.2.1 ≠ 0 → Cond.fieldLink (am_my k).cls i "java/lang/String" "coder" "B" ∈ am_wd)
    else e.2.1.2.1 < 13 ∧ e.2.1.2.2.1 < (am_T e.2.1.2.1).2.2 ∧ am_ft e.2.1.2.1 e.2.1.2.2.1 = e.2.1.2.2.2.1 ∧ (if e.2.1.2.2.2.2 < 10 then Cond.fieldLink (am_my k).cls i ((am_T e.2.1.2.1).2.1 e.2.1.2.2.1).1 ((am_T e.2.1.2.1).2.1 e.2.1.2.2.1).2.1 ((am_T e.2.1.2.1).2.1 e.2.1.2.2.1).2.2.1 ∈ am_wd else Cond.fieldLinkNest (am_my k).cls i ((am_T e.2.1.2.1).2.1 e.2.1.2.2.1).1 ((am_T e.2.1.2.1).2.1 e.2.1.2.2.1).2.1 ((am_T e.2.1.2.1).2.1 e.2.1.2.2.1).2.2.1 "OrderMerge" ∈ am_nw)
  | .putfield i => e.2.1.2.1 < 13 ∧ e.2.1.2.2.1 < (am_T e.2.1.2.1).2.2 ∧ am_ft e.2.1.2.1 e.2.1.2.2.1 = e.2.1.2.2.2.1 ∧ ((e.2.1.2.2.2.2 % 10 == 5) = (am_ty e.2.1.2.1 e.2.1.2.2.1 == .boolean)) ∧
    (if e.2.1.2.2.2.2 < 10 then (Cond.fieldLink (am_my k).cls i ((am_T e.2.1.2.1).2.1 e.2.1.2.2.1).1 ((am_T e.2.1.2.1).2.1 e.2.1.2.2.1).2.1 ((am_T e.2.1.2.1).2.1 e.2.1.2.2.1).2.2.1 ∈ am_wd ∧ (((am_T e.2.1.2.1).2.1 e.2.1.2.2.1).2.2.2 = false ∨ ((am_my k).name = "<init>" ∧ ((am_T e.2.1.2.1).2.1 e.2.1.2.2.1).1 = (am_my k).cls ∧ ((am_T e.2.1.2.1).2.1 e.2.1.2.2.1).2.2.2 = true))) else (Cond.fieldLinkNest (am_my k).cls i ((am_T e.2.1.2.1).2.1 e.2.1.2.2.1).1 ((am_T e.2.1.2.1).2.1 e.2.1.2.2.1).2.1 ((am_T e.2.1.2.1).2.1 e.2.1.2.2.1).2.2.1 "OrderMerge" ∈ am_nw ∧ ((am_T e.2.1.2.1).2.1 e.2.1.2.2.1).2.2.2 = false))
  | .getstatic i => (e.2.1.2.1 = 0 → Cond.fieldLink (am_my k).cls i "java/lang/String" "COMPACT_STRINGS" "Z" ∈ am_wd) ∧ (e.2.1.2.1 = 1 → Cond.fieldLink (am_my k).cls i "jdk/internal/util/Preconditions" "SIOOBE_FORMATTER" "Ljava/util/function/BiFunction;" ∈ am_wd)
  | .aaload => e.2.1.2.1 = 1 ∨ e.2.1.2.1 = 2 ∨ e.2.1.2.1 = 9
  | .aastore => e.2.1.2.1 = 1 ∨ e.2.1.2.1 = 2 ∨ e.2.1.2.1 = 9
  | .newarray t => (e.2.1.2.1 = 20 ∧ t = .int ∧ Cond.arrayClass .int ∈ am_wd) ∨ (e.2.1.2.1 = 21 ∧ t = .byte ∧ Cond.arrayClass .byte ∈ am_wd) ∨ (e.2.1.2.1 = 22 ∧ t = .boolean ∧ Cond.arrayClass .boolean ∈ am_wd) ∨ (e.2.1.2.1 = 23 ∧ t = .long ∧ Cond.arrayClass .long ∈ am_wd)
  | .anewarray i => (e.2.1.2.1 = 1 ∧ Cond.classLink (am_my k).cls i "OrderMerge$Facts" ∈ am_wd) ∨ (e.2.1.2.1 = 2 ∧ Cond.classLink (am_my k).cls i "OrderMerge$House" ∈ am_wd) ∨ (e.2.1.2.1 = 9 ∧ Cond.classLink (am_my k).cls i "OrderMerge$Tray" ∈ am_wd)
  | .new i => e.2.1.2.1 < 13 ∧ e.2.1.2.2.1 = (am_T e.2.1.2.1).2.2 ∧ Cond.classLink (am_my k).cls i (am_T e.2.1.2.1).1 ∈ am_wd
  | .invokespecial i => e.2.1.2.2.2.2 = 6 → Cond.methodLink (am_my k).cls i Lib.objectInit ∈ am_wd
  | .invokestatic i => (e.2.1.2.2.2.2 = 7 → Cond.methodLink (am_my k).cls i arraycopyName ∈ am_wd) ∧ (e.2.1.2.2.2.2 = 8 → Cond.methodLink (am_my k).cls i Lib.Math.max.name ∈ am_wd) ∧ (e.2.1.2.2.2.2 = 9 → Cond.methodLink (am_my k).cls i Lib.Math.min.name ∈ am_wd)
  | _ => True
/-- what is right of each class once and for all -/
def am_cls (ci : Nat) : Prop := (∀ w ∈ u_ws (am_T ci).1 (am_T ci).2.1 (am_T ci).2.2, w ∈ am_wd) ∧ (∀ k, k < (am_T ci).2.2 → parseFieldDescriptor ((am_T ci).2.1 k).2.2.1 = some (am_ty ci k)) ∧ (∀ a, a < (am_T ci).2.2 → ∀ b, b < (am_T ci).2.2 → a ≠ b → ((am_T ci).2.1 a).2.1 ≠ ((am_T ci).2.1 b).2.1) ∧ Cond.instantiable (am_T ci).1 (am_T ci).2.2 ∈ am_wd ∧ Cond.initialized (am_T ci).1 ∈ am_wd ∧ am_cl[ci]? = some (am_T ci) ∧ am_fn ci = (am_T ci).2.2 ∧ ∀ k, k < (am_T ci).2.2 → (am_ft ci k = 0 ∧ (am_ty ci k = .int ∨ am_ty ci k = .boolean)) ∨ (am_ft ci k = 1 ∧ am_ty ci k = .long) ∨ (am_ft ci k = 2 ∧ ((∃ C, am_ty ci k = .object C) ∨ ∃ t, am_ty ci k = .array t))

/-- an instruction's length -/
def am_il (i : Instr) (len : Nat) : Nat := match i with
  | .bipush _ => 2
  | .ldc _ => 2
  | .iload _ => 2
  | .lload _ => 2
  | .aload _ => 2
  | .istore _ => 2
  | .lstore _ => 2
  | .astore _ => 2
  | .newarray _ => 2
  | .sipush _ => 3
  | .ldc_w _ => 3
  | .ldc2_w _ => 3
  | .iinc _ _ => 3
  | .goto _ => 3
  | .ifCond _ _ => 3
  | .if_icmp _ _ => 3
  | .ifnull _ => 3
  | .ifnonnull _ => 3
  | .getfield _ => 3
  | .putfield _ => 3
  | .getstatic _ => 3
  | .anewarray _ => 3
  | .new _ => 3
  | .invokevirtual _ => 3
  | .invokespecial _ => 3
  | .invokestatic _ => 3
  | .tableswitch _ _ _ _ => len
  | .lookupswitch _ _ => len
  | _ => 1
theorem am_c1_cat {G : am_G} (hx : am_xo G) {v : am_V} (h : am_c1 v = true) : (am_c G v).category = 1 := by
  match v, h with
  | .inl x, _ => rfl
  | .inr (.inr (.inl none)), _ => rfl
  | .inr (.inr (.inl (some a))), _ => rfl
  | .inr (.inr (.inr j)), _ =>
    show (g_xv G j).category = 1
    rcases hx.2.2.2 j with e | ⟨a, e⟩ <;> rw [e] <;> rfl
theorem am_W_size {p : Program} {l : Launch} {e : Env} {R : Room} {s : State} {m : MethodId} {args : Array Value} {below : List Frame} {meth : Method} {c : Code} {H : Heap} {locs : List Loc} {cells slots : Nat} {Q : State → Prop} {g : JFrame} (kk : H.size ≤ s.heap.size + cells → W p l e R s m args below meth c H locs cells slots Q g) : W p l e R s m args below meth c H locs cells slots Q g := by
  intro T hT X
  refine kk ?_ T hT X
  have h := X.same.2.2.1
  rw [← hT]
  exact h
theorem am_lv_ld {ls : Array Slot} {n B : Nat} {xv : Nat → Value} {L : am_L} {i : Nat} {v : am_V} (h : lv_has ls n (am_lv B xv 0 L)) (hv : L[i]? = some (some v)) : ls[i]? = some (.val (am_cv B xv v)) := by
  have := h.2.2 (i, am_cv B xv v) ((am_lv_mem L 0 _).2 ⟨i, v, hv, by simp⟩)
  exact this
theorem am_lv_st {ls : Array Slot} {n B : Nat} {xv : Nat → Value} {L : am_L} {i : Nat} {v : am_V} {lg : List Nat} (hlg : am_lg lg L) (hi : ∀ j ∈ lg, j + 1 ≠ i) (hxo : ∀ j, xv j = .null ∨ ∃ a, xv j = .ref a)
    (h : lv_has ls n ((i, am_cv B xv v) :: (am_lv B xv 0 L).filter (fun q => !(q.1 == i) && !(q.1 + 1 == i && q.2.category == 2)))) : lv_has ls n (am_lv B xv 0 (L.set i (some v))) := by
  refine ⟨h.1, h.2.1, fun q hq => h.2.2 q ?_⟩
  obtain ⟨j, w, hj, rfl⟩ := (am_lv_mem _ 0 q).1 hq
  simp only [Nat.zero_add] at *
  by_cases hji : j = i
  · subst hji
    have hlt : j < L.length := by
      have := (List.getElem?_eq_some_iff.mp hj).1
      simpa using this
    rw [List.getElem?_set_self hlt] at hj
    simp at hj
    subst hj
    exact List.mem_cons_self
  · rw [List.getElem?_set_ne (fun q => hji q.symm)] at hj
    refine List.mem_cons_of_mem _ (List.mem_filter.mpr ⟨(am_lv_mem L 0 _).2 ⟨j, w, hj, by simp⟩, ?_⟩)
    have hc : (am_cv B xv w).category = 2 → j ∈ lg := by
      match w, hj with
      | .inl x, _ => intro e; cases e
      | .inr (.inl x), hj => intro _; exact hlg j x hj
      | .inr (.inr (.inl none)), _ => intro e; cases e
      | .inr (.inr (.inl (some a))), _ => intro e; cases e
      | .inr (.inr (.inr y)), _ =>
        intro e
        have e : (xv y).category = 2 := e
        rcases hxo y with z | ⟨a, z⟩ <;> rw [z] at e <;> cases e
    simp only [Bool.and_eq_true, Bool.not_eq_true', beq_eq_false_iff_ne, ne_eq, Bool.and_eq_false_iff]
    refine ⟨hji, ?_⟩
    by_cases hz : j + 1 = i
    · right
      intro e
      exact hi j (hc e) hz
    · left
      exact hz
theorem am_lv_st2 {ls : Array Slot} {n B : Nat} {xv : Nat → Value} {L : am_L} {i : Nat} {x : Int64} {lg : List Nat} (hlg : am_lg lg L) (hi : ∀ j ∈ lg, j + 1 ≠ i) (hxo : ∀ j, xv j = .null ∨ ∃ a, xv j = .ref a)
    (h : lv_has ls n ((i, Value.long x) :: (am_lv B xv 0 L).filter (fun q => !(q.1 == i) && (!(q.1 == i + 1) && !(q.1 + 1 == i && q.2.category == 2))))) : lv_has ls n (am_lv B xv 0 ((L.set i (some (.inr (.inl x)))).set (i + 1) none)) := by
  refine ⟨h.1, h.2.1, fun q hq => h.2.2 q ?_⟩
  obtain ⟨j, w, hj, rfl⟩ := (am_lv_mem _ 0 q).1 hq
  simp only [Nat.zero_add] at *
  by_cases hj1 : j = i + 1
  · subst hj1
    have hlt : i + 1 < (L.set i (some (.inr (.inl x)))).length := by
      have := (List.getElem?_eq_some_iff.mp hj).1
      simpa using this
    rw [List.getElem?_set_self hlt] at hj
    simp at hj
  · rw [List.getElem?_set_ne (fun q => hj1 q.symm)] at hj
    by_cases hji : j = i
    · subst hji
      have hlt : j < L.length := by
        have := (List.getElem?_eq_some_iff.mp hj).1
        simpa using this
      rw [List.getElem?_set_self hlt] at hj
      simp at hj
      subst hj
      exact List.mem_cons_self
    · rw [List.getElem?_set_ne (fun q => hji q.symm)] at hj
      refine List.mem_cons_of_mem _ (List.mem_filter.mpr ⟨(am_lv_mem L 0 _).2 ⟨j, w, hj, by simp⟩, ?_⟩)
      have hc : (am_cv B xv w).category = 2 → j ∈ lg := by
        match w, hj with
        | .inl x, _ => intro e; cases e
        | .inr (.inl x), hj => intro _; exact hlg j x hj
        | .inr (.inr (.inl none)), _ => intro e; cases e
        | .inr (.inr (.inl (some a))), _ => intro e; cases e
        | .inr (.inr (.inr y)), _ =>
          intro e
          have e : (xv y).category = 2 := e
          rcases hxo y with z | ⟨a, z⟩ <;> rw [z] at e <;> cases e
      simp only [Bool.and_eq_true, Bool.not_eq_true', beq_eq_false_iff_ne, ne_eq, Bool.and_eq_false_iff]
      refine ⟨hji, hj1, ?_⟩
      by_cases hz : j + 1 = i
      · right
        intro e
        exact hi j (hc e) hz
      · left
        exact hz
theorem am_lg_set {lg : List Nat} {L : am_L} {i : Nat} {v : Option am_V} (h : am_lg lg L) (hv : ∀ x, v = some (.inr (.inl x)) → i ∈ lg) : am_lg lg (L.set i v) := by
  intro j x hj
  by_cases hji : j = i
  · subst hji
    have hlt : j < L.length := by
      have := (List.getElem?_eq_some_iff.mp hj).1
      simpa using this
    rw [List.getElem?_set_self hlt] at hj
    exact hv x (Option.some.inj hj)
  · rw [List.getElem?_set_ne (fun q => hji q.symm)] at hj
    exact h j x hj
