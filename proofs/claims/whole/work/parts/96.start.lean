theorem tn_1 {w : Cond} {i : Nat} (h : tables_1_1[i]? = some w) : w ∈ lw_tbl := List.mem_append_right _ (List.mem_append_left _ (List.mem_of_getElem? h))
theorem tn_2 {w : Cond} {i : Nat} (h : tables_1_2[i]? = some w) : w ∈ lw_tbl := List.mem_append_right _ (List.mem_append_right _ (List.mem_append_left _ (List.mem_of_getElem? h)))
theorem tn_3 {w : Cond} {i : Nat} (h : tables_1_3[i]? = some w) : w ∈ lw_tbl := List.mem_append_right _ (List.mem_append_right _ (List.mem_append_right _ (List.mem_append_left _ (List.mem_of_getElem? h))))
theorem tn_4 {w : Cond} {i : Nat} (h : tables_1_4[i]? = some w) : w ∈ lw_tbl := List.mem_append_right _ (List.mem_append_right _ (List.mem_append_right _ (List.mem_append_right _ (List.mem_append_left _ (List.mem_of_getElem? h)))))
theorem tn_5 {w : Cond} {i : Nat} (h : tables_1_5[i]? = some w) : w ∈ lw_tbl := List.mem_append_right _ (List.mem_append_right _ (List.mem_append_right _ (List.mem_append_right _ (List.mem_append_right _ (List.mem_append_left _ (List.mem_of_getElem? h))))))
theorem tn_6 {w : Cond} {i : Nat} (h : tables_1_6[i]? = some w) : w ∈ lw_tbl := List.mem_append_right _ (List.mem_append_right _ (List.mem_append_right _ (List.mem_append_right _ (List.mem_append_right _ (List.mem_append_right _ (List.mem_append_left _ (List.mem_of_getElem? h)))))))
theorem tn_7 {w : Cond} {i : Nat} (h : tables_1_7[i]? = some w) : w ∈ lw_tbl := List.mem_append_right _ (List.mem_append_right _ (List.mem_append_right _ (List.mem_append_right _ (List.mem_append_right _ (List.mem_append_right _ (List.mem_append_right _ (List.mem_append_left _ (List.mem_of_getElem? h))))))))
theorem tn_8 {w : Cond} {i : Nat} (h : tables_1_8[i]? = some w) : w ∈ lw_tbl := List.mem_append_right _ (List.mem_append_right _ (List.mem_append_right _ (List.mem_append_right _ (List.mem_append_right _ (List.mem_append_right _ (List.mem_append_right _ (List.mem_append_right _ (List.mem_append_left _ (List.mem_of_getElem? h)))))))))
theorem tn_9 {w : Cond} {i : Nat} (h : tables_1_9[i]? = some w) : w ∈ lw_tbl := List.mem_append_right _ (List.mem_append_right _ (List.mem_append_right _ (List.mem_append_right _ (List.mem_append_right _ (List.mem_append_right _ (List.mem_append_right _ (List.mem_append_right _ (List.mem_append_right _ (List.mem_of_getElem? h)))))))))
/-! THE CLAIM OUT OF ONE WALK OF THE LAW'S BODY. Your part is whole_start (and what it stands on); all else here is the same for every law, but numbers. -/
def R_law : String := "OrderMergeLaw"
def lw_P (b : Addr) (xs : List Int32) (args : Array Value) (s : State) : Prop := args = #[.ref b] ∧ s.IntsAt b xs ∧ xs.length ≤ 3072 ∧ (Jvm.Cond.and given_1 narrow_1).before args s = true
def lw_Q (_ : Array Value) (s : State) (o : Outcome) (t : State) : Prop := o = .returned (some (.int 1)) ∧ Framed s o t [] 600000 7302250
def lw_Z (below : List Frame) (a : Array Value) (s : State) : State → Prop := fun t => ∃ o, t.status = .running ∧ Ended t below o ∧ lw_Q a s o t
/-- the law's own end, with 1 on the stack, nothing written that was there before, its room as the claim has it -/
theorem lw_ret {p : Program} {l : Launch} {e : Env} {s : State} {m : MethodId} {below : List Frame} {meth : Method} {c : Code} {b : Nat} (hx : p.tables.exec = Jvm.exec) (hb : c.code = code) (hr : meth.sig.returnType = ret) (hlocks : meth.locks = false) {pc : Nat} {H : Heap} {ls : Array Slot} (hdg : decode code pc = .ok (.ireturn, 1)) : W p l e room_1 s m #[Value.ref b] below meth c H [] 600000 7302250 (lw_Z below #[Value.ref b] s) (F0 m pc ls [.int 1]) := by
  intro T hT X
  obtain ⟨fs, hret, hrun, hended, hW, hframe⟩ := X.leave (v := some (.int 1)) (hlocks := hlocks) (fun h => by rw [hr] at h; cases h)
  have hmeth' : T.vm.method? m = some meth := X.method'
  refine ⟨T.setFrames fs, ?_, .returned (some (.int 1)), hrun, hended, rfl, ⟨_, rfl⟩, hW, hframe⟩
  jvm_step X.here [X.here.top, hx, hb, hdg, hmeth', hr, ret, narrow_b1]
  (try refine ⟨rfl, ?_⟩); (try refine ⟨rfl, ?_⟩)
  first | (intro acts; rw [hret _ acts rfl rfl rfl]) | rw [hret _ _ rfl rfl rfl]
  exact Steps.refl _
/-- what holds at the law's entry: the machine, the code, the tables' words (any of lw_tbl by 'hts w (by decide +kernel)'), the script of L ints xs at the cell b, what the Statement gives of the start (any of its parts by flat_of_before) -/
def lw_At (p : Program) (s : State) (m : MethodId) (meth : Method) (c : Code) (b L : Nat) (xs : Nat → Int32) : Prop :=
  p.tables.exec = Jvm.exec ∧ c.code = code ∧ meth.sig.returnType = ret ∧ c.maxLocals = 4 ∧ s.vm.findClass R_law = some m.cls ∧ (∀ w ∈ lw_tbl, w.before #[Value.ref b] s = true) ∧ va_X b L xs s s.heap ∧ b < s.heap.size ∧ meth.locks = false ∧ (Jvm.Cond.and given_1 narrow_1).before #[Value.ref b] s = true

def st_t (i : Nat) : Term := match i with
  | 0 => .string "OrderMerge$Reader" 128
  | 1 => .string "OrderMerge$Reader" 121
  | _ => .string "OrderMergeModel" 101
set_option maxRecDepth 100000 in
theorem st_e0 : ∀ j, j < 85 → (flatC narrow_1)[50 + j]? = some (Cond.eq (.elem (.field (st_t 0) "java/lang/String" "value" "[B") (.int (Int32.ofNat j))) (.int ((am_byt.getD 0 []).getD j 0))) := by
  intro j hj
  match j, hj with
  | 0, _ => rfl
  | 1, _ => rfl
  | 2, _ => rfl
  | 3, _ => rfl
  | 4, _ => rfl
  | 5, _ => rfl
  | 6, _ => rfl
  | 7, _ => rfl
  | 8, _ => rfl
  | 9, _ => rfl
  | 10, _ => rfl
  | 11, _ => rfl
  | 12, _ => rfl
  | 13, _ => rfl
  | 14, _ => rfl
  | 15, _ => rfl
  | 16, _ => rfl
  | 17, _ => rfl
  | 18, _ => rfl
  | 19, _ => rfl
  | 20, _ => rfl
  | 21, _ => rfl
  | 22, _ => rfl
  | 23, _ => rfl
  | 24, _ => rfl
  | 25, _ => rfl
  | 26, _ => rfl
  | 27, _ => rfl
  | 28, _ => rfl
  | 29, _ => rfl
  | 30, _ => rfl
  | 31, _ => rfl
  | 32, _ => rfl
  | 33, _ => rfl
  | 34, _ => rfl
  | 35, _ => rfl
  | 36, _ => rfl
  | 37, _ => rfl
  | 38, _ => rfl
  | 39, _ => rfl
  | 40, _ => rfl
  | 41, _ => rfl
  | 42, _ => rfl
  | 43, _ => rfl
  | 44, _ => rfl
  | 45, _ => rfl
  | 46, _ => rfl
  | 47, _ => rfl
  | 48, _ => rfl
  | 49, _ => rfl
  | 50, _ => rfl
  | 51, _ => rfl
  | 52, _ => rfl
  | 53, _ => rfl
  | 54, _ => rfl
  | 55, _ => rfl
  | 56, _ => rfl
  | 57, _ => rfl
  | 58, _ => rfl
  | 59, _ => rfl
  | 60, _ => rfl
  | 61, _ => rfl
  | 62, _ => rfl
  | 63, _ => rfl
  | 64, _ => rfl
  | 65, _ => rfl
  | 66, _ => rfl
  | 67, _ => rfl
  | 68, _ => rfl
  | 69, _ => rfl
  | 70, _ => rfl
  | 71, _ => rfl
  | 72, _ => rfl
  | 73, _ => rfl
  | 74, _ => rfl
  | 75, _ => rfl
  | 76, _ => rfl
  | 77, _ => rfl
  | 78, _ => rfl
  | 79, _ => rfl
  | 80, _ => rfl
  | 81, _ => rfl
  | 82, _ => rfl
  | 83, _ => rfl
  | 84, _ => rfl
  | j + 85, hj => exact absurd hj (by omega)
set_option maxRecDepth 100000 in
theorem st_e1 : ∀ j, j < 12 → (flatC narrow_1)[139 + j]? = some (Cond.eq (.elem (.field (st_t 1) "java/lang/String" "value" "[B") (.int (Int32.ofNat j))) (.int ((am_byt.getD 1 []).getD j 0))) := by
  intro j hj
  match j, hj with
  | 0, _ => rfl
  | 1, _ => rfl
  | 2, _ => rfl
  | 3, _ => rfl
  | 4, _ => rfl
  | 5, _ => rfl
  | 6, _ => rfl
  | 7, _ => rfl
  | 8, _ => rfl
  | 9, _ => rfl
  | 10, _ => rfl
  | 11, _ => rfl
  | j + 12, hj => exact absurd hj (by omega)
set_option maxRecDepth 100000 in
theorem st_e2 : ∀ j, j < 86 → (flatC narrow_1)[156 + j]? = some (Cond.eq (.elem (.field (st_t 2) "java/lang/String" "value" "[B") (.int (Int32.ofNat j))) (.int ((am_byt.getD 2 []).getD j 0))) := by
  intro j hj
  match j, hj with
  | 0, _ => rfl
  | 1, _ => rfl
  | 2, _ => rfl
  | 3, _ => rfl
  | 4, _ => rfl
  | 5, _ => rfl
  | 6, _ => rfl
  | 7, _ => rfl
  | 8, _ => rfl
  | 9, _ => rfl
  | 10, _ => rfl
  | 11, _ => rfl
  | 12, _ => rfl
  | 13, _ => rfl
  | 14, _ => rfl
  | 15, _ => rfl
  | 16, _ => rfl
  | 17, _ => rfl
  | 18, _ => rfl
  | 19, _ => rfl
  | 20, _ => rfl
  | 21, _ => rfl
  | 22, _ => rfl
  | 23, _ => rfl
  | 24, _ => rfl
  | 25, _ => rfl
  | 26, _ => rfl
  | 27, _ => rfl
  | 28, _ => rfl
  | 29, _ => rfl
  | 30, _ => rfl
  | 31, _ => rfl
  | 32, _ => rfl
  | 33, _ => rfl
  | 34, _ => rfl
  | 35, _ => rfl
  | 36, _ => rfl
  | 37, _ => rfl
  | 38, _ => rfl
  | 39, _ => rfl
  | 40, _ => rfl
  | 41, _ => rfl
  | 42, _ => rfl
  | 43, _ => rfl
  | 44, _ => rfl
  | 45, _ => rfl
  | 46, _ => rfl
  | 47, _ => rfl
  | 48, _ => rfl
  | 49, _ => rfl
  | 50, _ => rfl
  | 51, _ => rfl
  | 52, _ => rfl
  | 53, _ => rfl
  | 54, _ => rfl
  | 55, _ => rfl
  | 56, _ => rfl
  | 57, _ => rfl
  | 58, _ => rfl
  | 59, _ => rfl
  | 60, _ => rfl
  | 61, _ => rfl
  | 62, _ => rfl
  | 63, _ => rfl
  | 64, _ => rfl
  | 65, _ => rfl
  | 66, _ => rfl
  | 67, _ => rfl
  | 68, _ => rfl
  | 69, _ => rfl
  | 70, _ => rfl
  | 71, _ => rfl
  | 72, _ => rfl
  | 73, _ => rfl
  | 74, _ => rfl
  | 75, _ => rfl
  | 76, _ => rfl
  | 77, _ => rfl
  | 78, _ => rfl
  | 79, _ => rfl
  | 80, _ => rfl
  | 81, _ => rfl
  | 82, _ => rfl
  | 83, _ => rfl
  | 84, _ => rfl
  | 85, _ => rfl
  | j + 86, hj => exact absurd hj (by omega)
theorem am_W_mono {p : Program} {l : Launch} {e : Env} {R : Room} {s : State} {m : MethodId} {args : Array Value} {below : List Frame} {meth : Method} {c : Code} {H : Heap} {locs : List Loc} {cells slots : Nat} {Q Q' : State → Prop} {g : JFrame} (h : W p l e R s m args below meth c H locs cells slots Q g) (hQ : ∀ t, Q t → Q' t) : W p l e R s m args below meth c H locs cells slots Q' g := by
  intro T hT X
  obtain ⟨t, a, b⟩ := h T hT X
  exact ⟨t, a, hQ t b⟩
theorem am_same {s s' : State} {locs : List Loc} {c n c' n' : Nat} (h : s.sameButNew s' locs c n) (hl : ∀ q ∈ locs, s.heap.size ≤ q.base) (hc : c ≤ c') (hn : n ≤ n') : s.sameButNew s' [] c' n' := by
  obtain ⟨h1, h2, h3, h4, h5, h6⟩ := h
  refine ⟨h1, h2, by omega, h4, by omega, fun a cl ha => ?_⟩
  obtain ⟨cl', g1, g2, g3, g4⟩ := h6 a cl ha
  refine ⟨cl', g1, g2, g3, fun i _ => g4 i (fun hm => ?_)⟩
  have := hl _ hm
  have hlt : a < s.heap.size := (Array.getElem?_eq_some_iff.mp ha).1
  exact absurd hlt (Nat.not_lt.mpr this)
set_option maxHeartbeats 8000000 in
set_option maxRecDepth 100000 in
/-- what the start gives -/
theorem am_G0 {s : State} {m : MethodId} {b L : Nat} {xs : Nat → Int32} (hcl : ∀ ci, ci < 13 → am_cls ci) (hts : ∀ w ∈ lw_tbl, w.before #[Value.ref b] s = true) (hX : va_X b L xs s s.heap) (hbl : b < s.heap.size) (hgv : (Jvm.Cond.and given_1 narrow_1).before #[Value.ref b] s = true) : ∃ G : am_G, am_K G s ∧ am_XH G s s.heap ∧ am_xo G ∧ g_B G = s.heap.size ∧ g_n G = L ∧ g_xs G = xs ∧ g_b G = b := by
  have hwd : ∀ w ∈ am_wd, w ∈ lw_tbl := fun w q => (List.mem_filter.mp q).1
  have hA : ∀ a : Nat, a < s.heap.size → ¬ am_A s.heap.size a := fun a h z => Nat.not_le.mpr h z
  have hN : ∀ {i : Nat} {w : Cond}, (flatC narrow_1)[i]? = some w → w.before #[Value.ref b] s = true := fun h => flat_of_before _ hgv _ (List.mem_append_right _ (List.mem_of_getElem? h))
  have h0 : ∀ k : Nat, ∃ q : ClassId × (Nat → Nat), k < 13 → u_Kn s (am_T k).1 (am_T k).2.1 (am_T k).2.2 q.1 q.2 := by
    intro k
    by_cases hk : k < 13
    · obtain ⟨u1, u2, u3, u4, u5, u6, u7, u8⟩ := hcl k hk
      obtain ⟨cC, iS, hh⟩ := u_known (C := (am_T k).1) (T := (am_T k).2.1) (N := (am_T k).2.2) (n := (am_T k).2.2) hts (fun w q => hwd _ (u1 w q)) (hts _ (hwd _ u4))
      exact ⟨(cC, iS), fun _ => hh⟩
    · exact ⟨(0, fun _ => 0), fun z => absurd z hk⟩
  obtain ⟨f, hf⟩ := Classical.axiomOfChoice h0
  have harr : ∀ ty : FieldType, Cond.arrayClass ty ∈ lw_tbl → ∃ cA : ClassId, ArrOfT s cA ty ∧ s.vm.findClass ("[" ++ ty.toString) = some cA := by
    intro ty hm
    obtain ⟨cA, k, comp, e1, e2, e3⟩ := Cond.arrayClass_spec (hts _ hm)
    exact ⟨cA, fun n z => ⟨fun k h => (by cases h), k, e2, comp, e3⟩, e1⟩
  have hobj : ∀ C : String, Cond.arrayOver (.object C) ∈ lw_tbl → ∃ cA : ClassId, ArrOfT s cA (.object C) ∧ va_RA s cA (.object C) := by
    intro C hm
    obtain ⟨comp, cA, k, e1, e2, e3, e4, e5⟩ := Cond.arrayOver_spec (hts _ hm)
    exact ⟨cA, fun n z => ⟨fun k h => (by cases h), k, e3, comp, e4⟩, k, comp, e3, e4, e1, e5⟩
  obtain ⟨cI, i1, i2⟩ := harr .int (tn_1 (i := 70) rfl)
  obtain ⟨cB, b1, b2⟩ := harr .byte (tn_1 (i := 69) rfl)
  obtain ⟨cZ, z1, z2⟩ := harr .boolean (tn_7 (i := 85) rfl)
  obtain ⟨cJ, j1, j2⟩ := harr .long (tn_2 (i := 145) rfl)
  obtain ⟨cF, f1, f2⟩ := hobj "OrderMerge$Facts" (tn_1 (i := 196) rfl)
  obtain ⟨cH, g1, g2⟩ := hobj "OrderMerge$House" (tn_2 (i := 128) rfl)
  obtain ⟨cT, t1, t2⟩ := hobj "OrderMerge$Tray" (tn_2 (i := 127) rfl)
  obtain ⟨adK, adV, hS, hev⟩ := vk_Sof (args := #[Value.ref b]) (s := s) (N := 3) (tm := st_t) (len := am_len) (byt := am_byt) (A := am_A s.heap.size)
    (fun i hi => by rw [am_bl i hi]; rcases (show i = 0 ∨ i = 1 ∨ i = 2 by omega) with rfl | rfl | rfl <;> decide)
    (fun i hi => by rcases (show i = 0 ∨ i = 1 ∨ i = 2 by omega) with rfl | rfl | rfl; exact hN (i := 46) rfl; exact hN (i := 135) rfl; exact hN (i := 152) rfl)
    (fun i hi => by rcases (show i = 0 ∨ i = 1 ∨ i = 2 by omega) with rfl | rfl | rfl; exact hN (i := 47) rfl; exact hN (i := 136) rfl; exact hN (i := 153) rfl)
    (fun i hi => by rcases (show i = 0 ∨ i = 1 ∨ i = 2 by omega) with rfl | rfl | rfl; exact hN (i := 48) rfl; exact hN (i := 137) rfl; exact hN (i := 154) rfl)
    (fun i hi => by rcases (show i = 0 ∨ i = 1 ∨ i = 2 by omega) with rfl | rfl | rfl; exact hN (i := 49) rfl; exact hN (i := 138) rfl; exact hN (i := 155) rfl)
    (fun i hi j hj => by
      rw [am_bl i hi] at hj
      rcases (show i = 0 ∨ i = 1 ∨ i = 2 by omega) with rfl | rfl | rfl
      · exact hN (st_e0 j hj)
      · exact hN (st_e1 j hj)
      · exact hN (st_e2 j hj))
    (fun i j hi hj hij => by
      rcases (show i = 0 ∨ i = 1 ∨ i = 2 by omega) with rfl | rfl | rfl <;> rcases (show j = 0 ∨ j = 1 ∨ j = 2 by omega) with rfl | rfl | rfl
      · exact absurd rfl hij
      · exact Or.inl (hN (i := 151) rfl)
      · exact Or.inl (hN (i := 242) rfl)
      · exact Or.inr (hN (i := 151) rfl)
      · exact absurd rfl hij
      · exact Or.inl (hN (i := 243) rfl)
      · exact Or.inr (hN (i := 242) rfl)
      · exact Or.inr (hN (i := 243) rfl)
      · exact absurd rfl hij) hA
  have hZ1 : va_Z "java/lang/String" "COMPACT_STRINGS" "Z" (.int 1) (am_A s.heap.size) s s.heap := va_Zof (hts _ (tn_3 (i := 29) rfl)) (hts _ (tn_1 (i := 16) rfl)) (va_eqi (hN (i := 2) rfl)) hA
  obtain ⟨v30, hv30, hZ2⟩ : ∃ v : Value, (v = .null ∨ ∃ a, v = .ref a) ∧ va_Z "jdk/internal/util/Preconditions" "SIOOBE_FORMATTER" "Ljava/util/function/BiFunction;" v (am_A s.heap.size) s s.heap := by
    rcases va_Zqof (A := am_A s.heap.size) (hts _ (tn_3 (i := 45) rfl)) (hts _ (tn_1 (i := 18) rfl)) (hN (i := 3) rfl) hA with h | ⟨t, h⟩
    · exact ⟨_, Or.inl rfl, h⟩
    · exact ⟨_, Or.inr ⟨t, rfl⟩, h⟩
  have h139 : (Term.string "OrderMergeModel" 139).eval #[Value.ref b] s none [] s = some (.ref (adK 1)) := by
    have e1 := hev 1 (by omega)
    have e2 : (Cond.eq (.string "OrderMerge$Reader" 121) (.string "OrderMergeModel" 139)).before #[Value.ref b] s = true := hN (i := 261) rfl
    exact va_eqR e2 e1
  refine ⟨(((fun k => (f k).1), fun k => (f k).2), s.heap.size, (fun i => if i < 3 then .ref (adK i) else if 10 ≤ i ∧ i < 13 then .ref (adV (i - 10)) else if i = 20 then .ref b else if i = 30 then v30 else .null), (fun k => if k = 20 then cI else if k = 21 then cB else if k = 22 then cZ else if k = 23 then cJ else if k = 31 then cF else if k = 32 then cH else cT), adK, adV, b, L, xs), ⟨⟨?_, ?_⟩, ?_, ?_, hts _ (tn_1 (i := 196) rfl), hts _ (tn_2 (i := 128) rfl), hts _ (tn_2 (i := 127) rfl)⟩, ⟨hX, hbl, Nat.le_refl _, hS, hZ1, hZ2⟩, ⟨?_, ?_, rfl, ?_⟩, rfl, rfl, rfl, rfl⟩
  · intro k q hq
    have hk : k < 13 := (List.getElem?_eq_some_iff.mp hq).1
    have e := (hcl k hk).2.2.2.2.2.1
    rw [hq] at e
    cases e
    exact hf k hk
  · intro k q hq
    have hk : k < 7 := (List.getElem?_eq_some_iff.mp hq).1
    rcases (show k = 0 ∨ k = 1 ∨ k = 2 ∨ k = 3 ∨ k = 4 ∨ k = 5 ∨ k = 6 by omega) with rfl | rfl | rfl | rfl | rfl | rfl | rfl <;> cases hq
    · exact ⟨i1, i2⟩
    · exact ⟨b1, b2⟩
    · exact ⟨z1, z2⟩
    · exact ⟨j1, j2⟩
    · exact ⟨f1, f2⟩
    · exact ⟨g1, g2⟩
    · exact ⟨t1, t2⟩
  · intro w hw
    obtain ⟨h1, h2⟩ := List.mem_filter.mp hw
    refine va_Nw.of ?_ (hts w h1)
    match w, h2 with
    | .fieldLinkNest _ _ _ _ _ _, _ => rfl
    | .methodLinkNest _ _ _ _, _ => rfl
  · intro q hq
    simp only [am_sr, List.mem_cons, List.not_mem_nil, or_false] at hq
    rcases hq with rfl | rfl | rfl | rfl
    · exact vk_R.of (hts _ (tn_3 (i := 19) rfl)) (hev 0 (by omega))
    · exact vk_R.of (hts _ (tn_3 (i := 76) rfl)) (hev 1 (by omega))
    · exact vk_R.of (hts _ (tn_7 (i := 112) rfl)) (hev 2 (by omega))
    · exact vk_R.of (hts _ (tn_7 (i := 118) rfl)) h139
  · intro i hi
    show (if i < 3 then Value.ref (adK i) else _) = Value.ref (adK i)
    rw [if_pos hi]
  · intro i hi
    show (if 10 + i < 3 then Value.ref (adK (10 + i)) else if 10 ≤ 10 + i ∧ 10 + i < 13 then Value.ref (adV (10 + i - 10)) else _) = Value.ref (adV i)
    rw [if_neg (by omega), if_pos (by omega), show 10 + i - 10 = i by omega]
  · intro i
    generalize hz : g_xv _ i = z
    have hz : (if i < 3 then Value.ref (adK i) else if 10 ≤ i ∧ i < 13 then Value.ref (adV (i - 10)) else if i = 20 then Value.ref b else if i = 30 then v30 else Value.null) = z := hz
    rw [← hz]
    split
    · exact Or.inr ⟨_, rfl⟩
    · split
      · exact Or.inr ⟨_, rfl⟩
      · split
        · exact Or.inr ⟨_, rfl⟩
        · split
          · exact hv30
          · exact Or.inl rfl
set_option maxHeartbeats 8000000 in
set_option maxRecDepth 100000 in
/-- THE LAW, from its entry, out of a run of the small machine -/
theorem whole_of {p : Program} {e : Env} {s : State} {m : MethodId} {below : List Frame} {meth : Method} {c : Code} (l : Launch) {b L : Nat} {xs : Nat → Int32} (hcl : ∀ ci, ci < 13 → am_cls ci) (hgl : am_gl) (hck : ∀ k pc e, (am_p k).1[pc]? = some (some e) → am_ok k pc e) (hlaw : am_law L xs) (C0 : lw_At p s m meth c b L xs) : W p l e room_1 s m #[Value.ref b] below meth c s.heap [] 0 0 (lw_Z below #[Value.ref b] s) (entryFrame m ([Value.ref b] : List Value).toArray 4) := by
  obtain ⟨hx, hb, hr, hml, hown, hts, hX, hbl, hlocks, hgv⟩ := C0
  obtain ⟨G, hK, hXH, hxo, hB, hn, hxs, hgb⟩ := am_G0 (m := m) hcl hts hX hbl hgv
  obtain ⟨d, hd, n, hrun⟩ := hlaw
  obtain ⟨r, h', ⟨hr1, hc1, hs1⟩, hrun⟩ := am_det n hrun
  subst hr1
  have hwd : ∀ w ∈ am_wd, w.before #[Value.ref b] s = true := fun w q => hts w (List.mem_filter.mp q).1
  have hc20 : am_c G (v_x 20) = .ref b := by rw [← hgb]; exact hxo.2.2.1
  have hC : am_Ctx G p s m #[Value.ref b] meth c 0 0 := ⟨hx, hb, hml, hr, hown, hwd, hlocks, fun hz => absurd hz (by decide +kernel), hK, hXH, hxo, by rw [hB]; rfl⟩
  · have hl := lv_entry ([Value.ref b]) (n := 4) (Nat.le_of_ble_eq_true rfl)
    rw [lg_entry_eq]
    have hSt : am_St G s 0 (h_0 L xs) [some (v_x 20), none, none, none] s.heap [] ((lg_sl [Value.ref b] ++ List.replicate (4 - (lg_sl [Value.ref b]).length) Slot.unset).toArray) := by
      refine ⟨fun k q hq => by simp [am_ws, h_0, h_n] at hq, va_S.rf, ?_, rfl, fun i x hi => ?_, by rw [← hn, ← hxs]; rfl⟩
      · show lv_has _ _ [(0, am_c G (v_x 20))]
        rw [hc20]
        exact hl
      · match i, hi with
        | 0, hi => cases hi
        | 1, hi => cases hi
        | 2, hi => cases hi
        | 3, hi => cases hi
        | i + 4, hi => simp at hi
    have z := am_snd (l := l) (G := G) hcl hgl hck n d 0 _ _ _ hrun (Or.inr (Or.inl ⟨rfl, rfl⟩)) p e room_1 s m #[Value.ref b] below meth c s.heap [] _ 0 0 hC (va_Nw.of rfl (hwd _ (am_natw hgl))) hSt (Nat.zero_le _) (Nat.zero_le _) (by show h_n h' - 0 ≤ 600000; omega) (by show h_s h' - 0 ≤ 7302250; omega) (by show d + 1 ≤ 2048; omega) (by show 100 * (d + 1) ≤ 84000; omega)
    refine am_W_mono z ?_
    rintro t ⟨o, q1, q2, ⟨q3, -⟩, Lc, ⟨q4, q5, q6⟩, q7⟩
    refine ⟨o, q1, q2, q3, q4, q5, am_same q6 (fun q hq => by have : g_B G ≤ q.base := q7 q hq; omega) (by omega) (by omega)⟩
