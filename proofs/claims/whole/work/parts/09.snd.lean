/-! ===== the machine follows the machine in small: calls, returns, whole runs ===== -/
theorem am_lv_none {B : Nat} {xv : Nat → Value} (n : Nat) : ∀ i, am_lv B xv i (List.replicate n none) = [] := by
  induction n with
  | zero => intro i; rfl
  | succ n ih => intro i; rw [List.replicate_succ]; exact ih (i + 1)
theorem am_lv_sl {G : am_G} (hx : am_xo G) (n : Nat) : ∀ (a : List am_V) (i : Nat), am_lv (g_B G) (g_xv G) i (am_sl a ++ List.replicate n none) = lv_args i (a.map (am_c G)) := by
  intro a
  induction a with
  | nil => intro i; exact am_lv_none n i
  | cons v r ih =>
    intro i
    match v with
    | .inl x =>
      show (i, _) :: am_lv _ _ (i + 1) (am_sl r ++ _) = (i, _) :: lv_args _ _
      rw [ih (i + 1)]
      rfl
    | .inr (.inl x) =>
      show (i, _) :: am_lv _ _ (i + 1 + 1) (am_sl r ++ _) = (i, _) :: lv_args _ _
      rw [ih (i + 1 + 1)]
      rfl
    | .inr (.inr x) =>
      show (i, _) :: am_lv _ _ (i + 1) (am_sl r ++ _) = (i, _) :: lv_args _ _
      rw [ih (i + 1)]
      have hc : ¬ (am_c G (.inr (.inr x))).category = 2 := by
        rcases am_rf hx x with z | ⟨q, z⟩ <;> rw [z] <;> exact fun e => by cases e
      rw [if_neg hc]
theorem am_sl_len {G : am_G} (hx : am_xo G) : ∀ a : List am_V, (lg_sl (a.map (am_c G))).length = (am_sl a).length := by
  intro a
  induction a with
  | nil => rfl
  | cons v r ih =>
    have e : lg_sl ((v :: r).map (am_c G)) = (if (am_c G v).category = 2 then [.val (am_c G v), .second] else [.val (am_c G v)]) ++ lg_sl (r.map (am_c G)) := by
      simp [lg_sl]
    rw [e, List.length_append, ih]
    match v with
    | .inl x =>
      rw [if_neg (by intro e; cases e)]
      show 1 + _ = _ + 1
      omega
    | .inr (.inl x) =>
      rw [if_pos (show (am_c G (.inr (.inl x))).category = 2 from rfl)]
      show 2 + _ = _ + 1 + 1
      omega
    | .inr (.inr x) =>
      have hc : ¬ (am_c G (.inr (.inr x))).category = 2 := by
        rcases am_rf hx x with z | ⟨q, z⟩ <;> rw [z] <;> exact fun e => by cases e
      rw [if_neg hc]
      show 1 + _ = _ + 1
      omega
theorem am_lg_lo {lg : List Nat} {n : Nat} {a : List am_V} (h : am_lgB lg 0 (am_sl a) = true) : am_lg lg (am_lo n a) := by
  intro i x hi
  unfold am_lo at hi
  by_cases hl : i < (am_sl a).length
  · rw [List.getElem?_append_left hl] at hi
    have := am_lg_of (am_sl a) 0 h i x hi
    rwa [Nat.zero_add] at this
  · rw [List.getElem?_append_right (by omega), List.getElem?_replicate] at hi
    split at hi <;> simp at hi
theorem am_lo_len {n : Nat} {a : List am_V} (h : (am_sl a).length ≤ n) : (am_lo n a).length = n := by
  unfold am_lo
  rw [List.length_append, List.length_replicate]
  omega
set_option maxHeartbeats 4000000 in
theorem am_grow1 {byt : List (List Int32)} {e : am_E} {pc : Nat} {L : am_L} {S : List am_V} {h : am_H} {ok : List Prop} {g : am_F} (hs : am_step byt e pc L S h = some (ok, g)) : h_n h ≤ h_n g.2.2.2 ∧ h_s h ≤ h_s g.2.2.2 := by
  obtain ⟨i, ⟨len, a, b, cc, d⟩, v, lv, tab⟩ := e
  have fin1 : ∀ {o1 : List Prop} {p1 : Nat} {L1 : am_L} {S1 : List am_V}, some (o1, (p1, L1, S1, h)) = some (ok, g) → h_n h ≤ h_n g.2.2.2 ∧ h_s h ≤ h_s g.2.2.2 := by
    intro o1 p1 L1 S1 q
    have q := (Prod.mk.inj (Option.some.inj q)).2
    subst q
    exact ⟨Nat.le_refl _, Nat.le_refl _⟩
  have fin2 : ∀ {h1 : am_H} {o1 : List Prop} {p1 : Nat} {L1 : am_L} {S1 : List am_V}, h1.1 = h.1 → some (o1, (p1, L1, S1, h1)) = some (ok, g) → h_n h ≤ h_n g.2.2.2 ∧ h_s h ≤ h_s g.2.2.2 := by
    intro h1 o1 p1 L1 S1 e q
    have q := (Prod.mk.inj (Option.some.inj q)).2
    subst q
    show h.1.1 ≤ h1.1.1 ∧ h.1.2 ≤ h1.1.2
    rw [e]
    exact ⟨Nat.le_refl _, Nat.le_refl _⟩
  have fin3 : ∀ {a1 b1 : Nat} {o1 : List Prop} {p1 : Nat} {L1 : am_L} {S1 : List am_V}, some (o1, (p1, L1, S1, p_n h a1 b1)) = some (ok, g) → h_n h ≤ h_n g.2.2.2 ∧ h_s h ≤ h_s g.2.2.2 := by
    intro a1 b1 o1 p1 L1 S1 q
    have q := (Prod.mk.inj (Option.some.inj q)).2
    subst q
    exact ⟨Nat.le_succ _, Nat.le_add_right _ _⟩
  cases i <;> (try (rename_i c0 o0; cases c0)) <;> simp only [am_step] at hs <;> (try unfold k_pu at hs) <;> (try unfold k_ild at hs) <;> (try unfold k_lld at hs) <;> (try unfold k_ald at hs) <;> (try unfold k_ist at hs) <;> (try unfold k_lst at hs) <;> (try unfold k_ast at hs) <;> (try unfold k_inc at hs) <;> (try unfold k_i2 at hs) <;> (try unfold k_i2d at hs) <;> (try unfold k_l2 at hs) <;> (try unfold k_l2d at hs) <;> (try unfold k_lsh at hs) <;> (try unfold k_lcm at hs) <;> (try unfold k_i1 at hs) <;> (try unfold k_il at hs) <;> (try unfold k_li at hs) <;> (try unfold k_dup at hs) <;> (try unfold k_pop at hs) <;> (try unfold k_du2 at hs) <;> (try unfold k_if at hs) <;> (try unfold k_ic at hs) <;> (try unfold k_nul at hs) <;> (try unfold k_nnu at hs) <;> (try unfold k_swi at hs) <;> (try unfold k_get at hs) <;> (try unfold k_put at hs) <;> (try unfold k_gst at hs) <;> (try unfold k_iald at hs) <;> (try unfold k_bald at hs) <;> (try unfold k_lald at hs) <;> (try unfold k_aald at hs) <;> (try unfold k_iast at hs) <;> (try unfold k_bast at hs) <;> (try unfold k_last at hs) <;> (try unfold k_aast at hs) <;> (try unfold k_len at hs) <;> (try unfold k_newa at hs) <;> (try unfold k_new at hs) <;> (try unfold k_obj at hs) <;> (try unfold k_cpy at hs) <;> (try unfold k_mx at hs) <;> (try unfold k_mn at hs) <;> (repeat' split at hs) <;> first | exact fin1 hs | exact fin3 hs | exact fin2 (by rfl) hs | (cases hs; done)
theorem am_grow {byt : List (List Int32)} {P : am_P} : ∀ (n : Nat) {d k : Nat} {f : am_F} {Q : Option am_V → am_H → Prop}, am_X byt P n d k f Q → am_X byt P n d k f (fun r h' => Q r h' ∧ h_n f.2.2.2 ≤ h_n h' ∧ h_s f.2.2.2 ≤ h_s h') := by
  intro n
  induction n with
  | zero => intro d k f Q h; exact h
  | succ n ih =>
    intro d k f Q h
    unfold am_X at h ⊢
    split at h
    · split at h
      · split at h
        · exact ⟨h.1, h.2, Nat.le_refl _, Nat.le_refl _⟩
        · exact h
      · split at h
        · refine ⟨h.1, ?_⟩
          cases d with
          | zero => exact h.2
          | succ d =>
            refine am_mono n (fun r h' x => ?_) (ih h.2)
            exact am_mono n (fun r2 h2 y => ⟨y.1, Nat.le_trans x.2.1 y.2.1, Nat.le_trans x.2.2 y.2.2⟩) (ih x.1)
        · split at h
          · rename_i g hg
            refine am_all_imp (fun x => ?_) h
            have hgr := am_grow1 (ok := g.1) (g := g.2) hg
            exact am_mono n (fun r2 h2 y => ⟨y.1, Nat.le_trans hgr.1 y.2.1, Nat.le_trans hgr.2 y.2.2⟩) (ih x)
          · exact h
    · exact h
/-- the answer's type -/
def am_rok (j : Nat) : Prop := ((am_p j).2.2.1 = 0 ∧ am_mr j = some .int) ∨ ((am_p j).2.2.1 = 1 ∧ am_mr j = some .boolean) ∨ ((am_p j).2.2.1 = 2 ∧ am_mr j = some .byte) ∨ ((am_p j).2.2.1 = 3 ∧ am_mr j = some .char) ∨ ((am_p j).2.2.1 = 4 ∧ am_mr j = some .long) ∨ ((am_p j).2.2.1 = 5 ∧ am_mr j = some (.array .int)) ∨ ((am_p j).2.2.1 = 9 ∧ am_mr j = none)
/-- a method that may be called -/
def am_mok (j : Nat) : Prop := Cond.code (am_my j) (am_mb j) (am_p j).2.1 (am_mr j) ∈ am_wd ∧ Cond.initialized (am_my j).cls ∈ am_wd ∧ ((am_my j).cls ≠ "java/lang/invoke/MethodHandle" ∧ (am_my j).cls ≠ "java/lang/invoke/VarHandle") ∧ plainName (am_my j).cls = true ∧ (am_p j).2.1 ≤ 60 ∧ am_rok j
def am_np (j n : Nat) : Prop := (parseMethodDescriptor (am_my j).desc).map (fun d => d.parameters.length) = some n
/-- a call's words -/
def am_cc (k : Nat) (e : am_E) : Prop := match e.1 with
  | .invokevirtual i => e.2.1.2.2.2.2 < 2 → am_mok e.2.1.2.1 ∧ (1 ≤ e.2.1.2.2.1 ∧ am_np e.2.1.2.1 (e.2.1.2.2.1 - 1)) ∧ Cond.instanceMethod (am_my e.2.1.2.1) ∈ am_wd ∧ Cond.selects (am_my e.2.1.2.1).cls (am_my e.2.1.2.1) (am_my e.2.1.2.1) ∈ am_wd ∧ ((e.2.1.2.2.2.1 < 13 ∧ (am_my e.2.1.2.1).cls = (am_T e.2.1.2.2.2.1).1) ∨ (e.2.1.2.2.2.1 = 50 ∧ (am_my e.2.1.2.1).cls = "java/lang/String")) ∧ (if e.2.1.2.2.2.2 = 0 then Cond.methodLink (am_my k).cls i (am_my e.2.1.2.1) ∈ am_wd else Cond.methodLinkNest (am_my k).cls i (am_my e.2.1.2.1) "OrderMerge" ∈ am_nw)
  | .invokestatic i => (e.2.1.2.2.2.2 = 2 ∨ e.2.1.2.2.2.2 = 3) → am_mok e.2.1.2.1 ∧ am_np e.2.1.2.1 e.2.1.2.2.1 ∧ Cond.static (am_my e.2.1.2.1) ∈ am_wd ∧ (if e.2.1.2.2.2.2 = 2 then Cond.methodLink (am_my k).cls i (am_my e.2.1.2.1) ∈ am_wd else Cond.methodLinkNest (am_my k).cls i (am_my e.2.1.2.1) "OrderMerge" ∈ am_nw)
  | .invokespecial i => (e.2.1.2.2.2.2 = 4 ∨ e.2.1.2.2.2.2 = 5) → am_mok e.2.1.2.1 ∧ (1 ≤ e.2.1.2.2.1 ∧ am_np e.2.1.2.1 (e.2.1.2.2.1 - 1)) ∧ Cond.instanceMethod (am_my e.2.1.2.1) ∈ am_wd ∧ (am_my e.2.1.2.1).name = "<init>" ∧ am_mr e.2.1.2.1 = none ∧ (if e.2.1.2.2.2.2 = 4 then Cond.methodLink (am_my k).cls i (am_my e.2.1.2.1) ∈ am_wd else Cond.methodLinkNest (am_my k).cls i (am_my e.2.1.2.1) "OrderMerge" ∈ am_nw)
  | _ => True
/-- an entry is right -/
def am_ok (k pc : Nat) (e : am_E) : Prop := decode (am_mb k) pc = .ok (e.1, am_il e.1 e.2.1.1) ∧ am_cond k pc e ∧ am_cc k e
def am_Pc (G : am_G) (a : List am_V) (h : am_H) : Array Value → State → Prop := fun v U => v = (a.map (am_c G)).toArray ∧ U.heap.size = g_B G + h_n h ∧ va_P (g_D G) am_cl (am_W G h) U.heap ∧ am_K G U ∧ am_XH G U U.heap ∧ (Cond.native arraycopyName).before #[] U = true ∧ h_x h = (g_n G, g_xs G)
def am_Qc (G : am_G) (r : Option am_V) (h' : am_H) : Array Value → State → Outcome → State → Prop := fun _ st o t => o = .returned (r.map (am_c G)) ∧ t.heap.size = g_B G + h_n h' ∧ va_P (g_D G) am_cl (am_W G h') t.heap ∧ (∀ q, q < g_B G → t.heap[q]? = st.heap[q]?) ∧ h_x h' = (g_n G, g_xs G)
def am_rm (d mc ms : Nat) : Room := { frames := d + 1, cells := mc, slots := ms, locals := 100 * (d + 1) }
theorem am_K.moved {G : am_G} {u U : State} (hW : u.WarmedH U.vm) (h : am_K G u) : am_K G U := by
  obtain ⟨h1, h2, h3, h4, h5, h6⟩ := h
  refine ⟨va_K.moved hW.alike h1, fun w hw => ?_, fun q hq => vk_R.warm hW (h3 q hq), va_AO.moved hW.alike h4, va_AO.moved hW.alike h5, va_AO.moved hW.alike h6⟩
  have hz := h2 w hw
  have hi : am_isN w = true := (List.mem_filter.mp hw).2
  match w, hi, hz with
  | .fieldLinkNest a i b n d h, _, hz => exact va_Nw.warmF hW hz
  | .methodLinkNest a i x h, _, hz => exact va_Nw.warmM hW hz
theorem am_XH.moved {G : am_G} {u U : State} {H : Heap} (hW : u.WarmedH U.vm) (h : am_XH G u H) : am_XH G U H := by
  obtain ⟨h1, h2, h3, h4, h5, h6⟩ := h
  exact ⟨va_X.moved hW.alike h1, h2, h3, h4.moved hW.alike, h5.moved hW.alike, h6.moved hW.alike⟩
theorem am_XH.kept {G : am_G} {U : State} {H H1 : Heap} (h : am_XH G U H) (hz : H.size ≤ H1.size) (hk : ∀ q, q < g_B G → H1[q]? = H[q]?) : am_XH G U H1 := by
  obtain ⟨h1, h2, h3, h4, h5, h6⟩ := h
  have hk' : ∀ a : Nat, a < H.size → ¬ am_A (g_B G) a → H1[a]? = H[a]? := fun a _ z => hk a (Nat.lt_of_not_le z)
  exact ⟨h1.kept (hk _ h2), h2, Nat.le_trans h3 hz, h4.kept hk', h5.kept hk', h6.kept hk'⟩
theorem am_blind {G : am_G} {a : List am_V} {h : am_H} : FrameBlind (am_Pc G a h) := by
  intro v U g mk q
  obtain ⟨q1, q2, q3, q4, q5, q6, q7⟩ := q
  have hW : U.WarmedH (U.calling g mk v).vm := State.WarmedH.refl U
  exact ⟨q1, q2, q3, am_K.moved hW q4, am_XH.moved hW q5, q6, q7⟩
theorem am_good {w : Cond} (h : w ∈ am_wd) : (w.onTables && w.keeps) = true ∨ ∃ ty, w = .arrayClass ty := good_of_word (List.mem_filter.mp h).2
theorem am_goodIn {j : Nat} (h : Cond.code (am_my j) (am_mb j) (am_p j).2.1 (am_mr j) ∈ am_wd) : GoodIn am_wd (am_wk j) := by
  intro w hw
  rcases List.mem_cons.mp hw with rfl | hw
  · exact ⟨h, am_good h⟩
  · exact ⟨hw, am_good hw⟩
/-- behind a call -/
theorem am_behind {G : am_G} {p : Program} {l : Launch} {e : Env} {R : Room} {s : State} {m : MethodId} {args : Array Value} {below : List Frame} {meth : Method} {c : Code} {H : Heap} {locs : List Loc} {ls : Array Slot} {cells slots mc ms pc : Nat} {Q : State → Prop} {rest st0 : List Value} {a : Array Value} {r1 : Option am_V} {h1 : am_H} (hr : va_Run p l e R s m args below meth c H locs cells slots mc ms (F0 m pc ls st0) rest (am_Qc G r1 h1 a) (am_A (g_B G))) (hS : va_S (am_A (g_B G)) s.heap H locs) (hB : g_B G ≤ s.heap.size) (hz : H.size ≤ g_B G + h_n h1)
    (kk : ∀ (H1 : Heap) (locs1 : List Loc), va_P (g_D G) am_cl (am_W G h1) H1 → va_S (am_A (g_B G)) s.heap H1 locs1 → h_x h1 = (g_n G, g_xs G) → W p l e R s m args below meth c H1 locs1 (cells + mc) (slots + ms) Q (F0 m (pc + 3) ls ((r1.map (am_c G)).toList ++ rest))) : W p l e R s m args below meth c H locs cells slots Q (F0 m pc ls st0) := by
  intro T hT X
  obtain ⟨v, st₀, t, T', L, h0, X', hL, e1, e2, ⟨hv, hsz, hP1, hk1, hx1⟩, st⟩ := hr T hT X
  cases hv
  rw [h0] at hk1
  obtain ⟨t2, a1, b1⟩ := kk T'.heap (locs ++ L) (by rw [e1]; exact hP1) ⟨by rw [e1, hsz]; exact Nat.le_trans hS.1 hz, fun q g1 g2 => by rw [e1, hk1 q (Nat.lt_of_not_le g2)]; exact hS.2.1 q g1 g2, fun q hq => by
      rcases List.mem_append.mp hq with g | g
      · exact hS.2.2 q g
      · exact hL q g⟩ hx1 T' rfl X'
  exact ⟨t2, st t2 a1, b1⟩
set_option maxHeartbeats 8000000 in
set_option maxRecDepth 100000 in
/-- a method's contract out of its run -/
theorem am_met {G : am_G} {l : Launch} {n d j : Nat} {a : List am_V} {h : am_H} {r1 : Option am_V} {h1 : am_H}
    (ih : ∀ (p : Program) (e : Env) (R : Room) (s : State) (m : MethodId) (args : Array Value) (below : List Frame) (meth : Method) (c : Code) (H : Heap) (locs : List Loc) (ls : Array Slot) (n0 s0 : Nat), am_Ctx G p s m args meth c j n0 → (Cond.native arraycopyName).before #[] s = true → am_St G s j h (am_lo (am_p j).2.1 a) H locs ls → n0 ≤ h_n h → s0 ≤ h_s h → h_n h1 - n0 ≤ R.cells → h_s h1 - s0 ≤ R.slots → d + 1 ≤ R.frames → 100 * (d + 1) ≤ R.locals → W p l e R s m args below meth c H locs (h_n h - n0) (h_s h - s0) (MQ below (am_Qc G r1 h1) args s (h_n h1 - n0) (h_s h1 - s0) (am_A (g_B G))) (F0 m 0 ls []))
    (hx : am_xo G) (hm : am_mok j) (hl1 : (am_sl a).length ≤ (am_p j).2.1) (hl2 : am_lgB (am_p j).2.2.2 0 (am_sl a) = true) :
    Met l (am_my j) (am_wk j) (am_rm d (h_n h1 - h_n h) (h_s h1 - h_s h)) (am_Pc G a h) (am_Qc G r1 h1) (h_n h1 - h_n h) (h_s h1 - h_s h) (am_A (g_B G)) := by
  obtain ⟨m1, m2, m3, m4, m5, m6⟩ := hm
  refine Met.ofW (cc := am_mb j) (maxL := (am_p j).2.1) (ret := am_mr j) m4 rfl ?_
  intro p e s m args below meth c s₁ B hml hv
  obtain ⟨rfl, hsz, hP, hK, hXH, hnat, hhx⟩ := hv
  rw [lg_entry_eq]
  have hl := lv_entry (a.map (am_c G)) (n := (am_p j).2.1) (by rw [am_sl_len hx]; exact hl1)
  have hC : am_Ctx G p s m (a.map (am_c G)).toArray meth c j (h_n h) := ⟨B.exec, B.bytes, hml, B.returns, findClass_of_methodNamed B.named, fun w q => atoms_spec (ws := am_wk j) B.pre w (List.mem_cons_of_mem _ q), B.notSynchronized, fun hz => ((name_of_methodNamed B.named B.method).1).trans hz, hK, hXH, hx, hsz⟩
  have hB : g_B G ≤ s.heap.size := by omega
  have hSt : am_St G s j h (am_lo (am_p j).2.1 a) s.heap [] ((lg_sl (a.map (am_c G)) ++ List.replicate ((am_p j).2.1 - (lg_sl (a.map (am_c G))).length) Slot.unset).toArray) := by
    refine ⟨hP, va_S.rf, ?_, am_lo_len hl1, am_lg_lo hl2, hhx⟩
    unfold am_lo
    rw [am_lv_sl hx]
    exact hl
  have z := ih p e (headSpec (am_wk j) (am_rm d (h_n h1 - h_n h) (h_s h1 - h_s h))).room s m (a.map (am_c G)).toArray below meth c s.heap [] _ (h_n h) (h_s h) hC hnat hSt (Nat.le_refl _) (Nat.le_refl _) (Nat.le_refl _) (Nat.le_refl _) (Nat.le_refl _) (Nat.le_refl _)
  rw [Nat.sub_self, Nat.sub_self] at z
  exact z
