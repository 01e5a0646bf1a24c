/-! ===== am_one: one step ===== -/
theorem am_wd_in {w : Cond} (h : w ∈ am_wd) {k : Nat} : w ∈ am_wk k := List.mem_cons_of_mem _ h
theorem am_nw_fl {w : Cond} {G : am_G} {s : State} (hK : am_K G s) (h : w ∈ am_nw) : va_Nw w s := hK.2.1 w h
section AMS
variable {G : am_G} {p : Program} {l : Launch} {e : Env} {R : Room} {s : State} {m : MethodId} {args : Array Value} {below : List Frame} {meth : Method} {c : Code} {H : Heap} {locs : List Loc} {ls : Array Slot} {Q : State → Prop} {k n0 s0 pc : Nat} {L : am_L} {h : am_H} {r : List am_V}
/-- what goes on: the same after a change of the heap's cell o -/
theorem am_sw_t {x : Int32} {d : Nat} {pc : Nat} : ∀ (os : List Int) (ts : List (Int32 × Nat)) (v : Int), am_tb pc v os ts → v ≤ x.toInt → x.toInt < v + os.length → ∃ o, os[(x.toInt - v).toNat]? = some o ∧ (pc : Int) + o = ((am_sw x d ts : Nat) : Int) := by
  intro os
  induction os with
  | nil => intro ts v _ h1 h2; simp at h2; omega
  | cons a os ih =>
    intro ts v ht h1 h2
    match ts, ht with
    | (y, t) :: ts, ht =>
      obtain ⟨e1, e2, e3⟩ := ht
      by_cases hx : x.toInt = v
      · refine ⟨a, by rw [hx]; simp, ?_⟩
        have : x = y := Int32.toInt_inj.mp (by rw [hx, e1])
        simp only [am_sw, if_pos this]
        exact e2
      · obtain ⟨o, h3, h4⟩ := ih ts (v + 1) e3 (by omega) (by simp only [List.length_cons] at h2; omega)
        refine ⟨o, ?_, ?_⟩
        · rw [show (x.toInt - v).toNat = (x.toInt - (v + 1)).toNat + 1 by omega, List.getElem?_cons_succ]
          exact h3
        · have : ¬ x = y := fun q => hx (by rw [q, e1])
          simp only [am_sw, if_neg this]
          exact h4
theorem am_sw_o {x : Int32} {d : Nat} {pc : Nat} : ∀ (os : List Int) (ts : List (Int32 × Nat)) (v : Int), am_tb pc v os ts → (x.toInt < v ∨ v + os.length ≤ x.toInt) → am_sw x d ts = d := by
  intro os
  induction os with
  | nil =>
    intro ts v ht _
    match ts, ht with
    | [], _ => rfl
  | cons a os ih =>
    intro ts v ht h2
    match ts, ht with
    | (y, t) :: ts, ht =>
      obtain ⟨e1, e2, e3⟩ := ht
      have hx : ¬ x = y := fun q => by rw [q, e1] at h2; simp only [List.length_cons] at h2; omega
      simp only [am_sw, if_neg hx]
      exact ih ts (v + 1) e3 (by simp only [List.length_cons] at h2; omega)
theorem am_sw_l {x : Int32} {d : Nat} {dd : Int} {pc : Nat} (hd : (pc : Int) + dd = (d : Int)) : ∀ (os : List (Int × Int)) (ts : List (Int32 × Nat)), am_lb pc os ts → (pc : Int) + Op.lookupswitch.offset os dd x.toInt = ((am_sw x d ts : Nat) : Int) := by
  intro os
  induction os with
  | nil =>
    intro ts ht
    match ts, ht with
    | [], _ => simpa [Op.lookupswitch.offset, am_sw] using hd
  | cons a os ih =>
    intro ts ht
    obtain ⟨v, o⟩ := a
    match ts, ht with
    | (y, t) :: ts, ht =>
      obtain ⟨e1, e2, e3⟩ := ht
      rw [Op.lookupswitch.offset_cons]
      by_cases hx : x = y
      · subst hx
        simp only [am_sw, if_pos rfl]
        rw [if_pos (by first | exact e1.symm | exact e1)]
        exact e2
      · simp only [am_sw, if_neg hx]
        rw [if_neg (by
          intro q
          exact hx (Int32.toInt_inj.mp (by first | exact (q.symm.trans e1.symm) | exact (q.trans e1.symm) | (rw [e1]; first | exact q | exact q.symm))))]
        exact ih ts e3
end AMS

theorem so_swi {L : am_L} {S : List am_V} {h : am_H} {ok : List Prop} {g : am_F} {t : Nat} {ts : List (Int32 × Nat)} (hs : k_swi L S h t ts = some (ok, g)) : ∃ (x : Int32) (r : List am_V), S = .inl x :: r ∧ ok = [] ∧ g = (am_sw x t ts, L, r, h) := by
  unfold k_swi at hs
  split at hs
  · have hs := Option.some.inj hs
    have h1 := (Prod.mk.inj hs).1
    have h2 := (Prod.mk.inj hs).2
    subst h1
    subst h2
    exact ⟨_, _, rfl, rfl, rfl⟩
  · cases hs
theorem am_rf {G : am_G} (hxo : am_xo G) (x : Option Nat ⊕ Nat) : am_c G (.inr (.inr x)) = .null ∨ ∃ q, am_c G (.inr (.inr x)) = .ref q := by
  match x with
  | .inl none => exact Or.inl rfl
  | .inl (some a) => exact Or.inr ⟨_, rfl⟩
  | .inr j => exact hxo.2.2.2 j

/-- instructions that leave the heap alone -/
def am_pl (i : Instr) : Bool := match i with
  | .aconst_null => true
  | .iconst _ => true
  | .bipush _ => true
  | .sipush _ => true
  | .lconst _ => true
  | .ldc_w _ => true
  | .ldc2_w _ => true
  | .ldc _ => true
  | .iload_n _ => true
  | .iload _ => true
  | .lload_n _ => true
  | .lload _ => true
  | .aload_n _ => true
  | .aload _ => true
  | .istore_n _ => true
  | .istore _ => true
  | .lstore_n _ => true
  | .lstore _ => true
  | .astore_n _ => true
  | .astore _ => true
  | .iinc _ _ => true
  | .iadd => true
  | .isub => true
  | .imul => true
  | .iand => true
  | .ior => true
  | .ixor => true
  | .ishl => true
  | .ishr => true
  | .iushr => true
  | .idiv => true
  | .irem => true
  | .ladd => true
  | .lsub => true
  | .lmul => true
  | .land => true
  | .lor => true
  | .ldiv => true
  | .lrem => true
  | .lshl => true
  | .lshr => true
  | .lcmp => true
  | .ineg => true
  | .i2b => true
  | .i2s => true
  | .i2c => true
  | .i2l => true
  | .l2i => true
  | .dup => true
  | .pop => true
  | .dup2 => true
  | .goto _ => true
  | .ifCond _ _ => true
  | .if_icmp _ _ => true
  | .ifnull _ => true
  | .ifnonnull _ => true
  | .tableswitch _ _ _ _ => true
  | .lookupswitch _ _ => true
  | _ => false


set_option maxHeartbeats 4000000 in
set_option maxRecDepth 100000 in
theorem am_one1 {G : am_G} {p : Program} {l : Launch} {e : Env} {R : Room} {s : State} {m : MethodId} {args : Array Value} {below : List Frame} {meth : Method} {c : Code} {H : Heap} {locs : List Loc} {ls : Array Slot} {Q : State → Prop} {k n0 s0 pc pc' : Nat} {L L' : am_L} {S S' : List am_V} {h h' : am_H} {ok : List Prop} (C : am_Ctx G p s m args meth c k n0) (hcl : ∀ ci, ci < 13 → am_cls ci) (i0 : Instr) (len a b cc d : Nat) (v : Int32) (lv : Int64) (tab : List (Int32 × Nat)) (hdec : decode (am_mb k) pc = .ok (i0, am_il i0 len)) (hc : am_cond k pc (i0, (len, a, b, cc, d), v, lv, tab)) (hs : am_step am_byt (i0, (len, a, b, cc, d), v, lv, tab) pc L S h = some (ok, (pc', L', S', h'))) (hok : am_all ok True) (St : am_St G s k h L H locs ls) (hn0 : n0 ≤ h_n h) (hs0 : s0 ≤ h_s h) (hR : h_n h' - n0 ≤ R.cells ∧ h_s h' - s0 ≤ R.slots) (hfr : 1 ≤ R.frames ∧ 100 ≤ R.locals) (hpl : am_pl i0 = true)
    (kk : ∀ (H' : Heap) (locs' : List Loc) (ls' : Array Slot), am_St G s k h' L' H' locs' ls' → W p l e R s m args below meth c H' locs' (h_n h' - n0) (h_s h' - s0) Q (F0 m pc' ls' (S'.map (am_c G)))) :
    W p l e R s m args below meth c H locs (h_n h - n0) (h_s h - s0) Q (F0 m pc ls (S.map (am_c G))) := by
  obtain ⟨hx, hb, hml, hr, hown, hts, hlk, hnm, hK, hXH, hxo, hsz⟩ := id C
  obtain ⟨hP, hS, hl, hLn, hlg, hhx⟩ := id St
  have hwd : ∀ w ∈ am_wd, w.before args s = true := hts
  cases i0 with
  | aconst_null =>
    have hs : k_pu (pc + 1) L S h (v_r none) = some (ok, (pc', L', S', h')) := hs
    obtain ⟨-, -, hg⟩ := so_pu hs
    cases hg
    exact lv_null hx hb hdec (kk H locs ls ⟨hP, hS, hl, hLn, hlg, hhx⟩)
  | iconst n =>
    have hs : k_pu (pc + 1) L S h (v_i v) = some (ok, (pc', L', S', h')) := hs
    obtain ⟨-, -, hg⟩ := so_pu hs
    cases hg
    exact lv_iconst hx hb hdec hc (kk H locs ls ⟨hP, hS, hl, hLn, hlg, hhx⟩)
  | bipush n =>
    have hs : k_pu (pc + 2) L S h (v_i v) = some (ok, (pc', L', S', h')) := hs
    obtain ⟨-, -, hg⟩ := so_pu hs
    cases hg
    exact lv_bipush hx hb hdec hc (kk H locs ls ⟨hP, hS, hl, hLn, hlg, hhx⟩)
  | sipush n =>
    have hs : k_pu (pc + 3) L S h (v_i v) = some (ok, (pc', L', S', h')) := hs
    obtain ⟨-, -, hg⟩ := so_pu hs
    cases hg
    exact lv_sipush hx hb hdec hc (kk H locs ls ⟨hP, hS, hl, hLn, hlg, hhx⟩)
  | lconst n =>
    have hs : k_pu (pc + 1) L S h (v_l lv) = some (ok, (pc', L', S', h')) := hs
    obtain ⟨-, -, hg⟩ := so_pu hs
    cases hg
    exact lv_lconst hx hb hdec hc (kk H locs ls ⟨hP, hS, hl, hLn, hlg, hhx⟩)
  | ldc_w i =>
    have hs : k_pu (pc + 3) L S h (v_i v) = some (ok, (pc', L', S', h')) := hs
    obtain ⟨-, -, hg⟩ := so_pu hs
    cases hg
    exact lv_ldcw hx hb hown (hwd _ hc) hdec (kk H locs ls ⟨hP, hS, hl, hLn, hlg, hhx⟩)
  | ldc2_w i =>
    have hs : k_pu (pc + 3) L S h (v_l lv) = some (ok, (pc', L', S', h')) := hs
    obtain ⟨-, -, hg⟩ := so_pu hs
    cases hg
    exact lv_ldc2 hx hb hown (hwd _ hc) hdec (kk H locs ls ⟨hP, hS, hl, hLn, hlg, hhx⟩)
  | ldc i =>
    have hs : (if a = 0 then k_pu (pc + 2) L S h (v_i v) else if a < 4 then k_pu (pc + 2) L S h (v_x (a - 1)) else none) = some (ok, (pc', L', S', h')) := hs
    have hc : if a = 0 then Cond.constant (am_my k).cls i v ∈ am_wd else ∃ t, ((am_my k).cls, i, t, a - 1) ∈ am_sr := hc
    by_cases ha : a = 0
    · rw [if_pos ha] at hs hc
      obtain ⟨-, -, hg⟩ := so_pu hs
      cases hg
      exact lv_ldc hx hb hown (hwd _ hc) hdec (kk H locs ls ⟨hP, hS, hl, hLn, hlg, hhx⟩)
    · rw [if_neg ha] at hs hc
      split at hs
      · rename_i ha4
        obtain ⟨-, -, hg⟩ := so_pu hs
        cases hg
        obtain ⟨t, ht⟩ := hc
        refine va_ldcS hx hb hown (hK.2.2.1 _ ht) hdec ?_
        have e := kk H locs ls ⟨hP, hS, hl, hLn, hlg, hhx⟩
        have e2 : am_c G (v_x (a - 1)) = .ref (g_K G (a - 1)) := hxo.1 _ (by omega)
        rw [List.map_cons, e2] at e
        exact e
      · cases hs
  | iload_n i =>
    have hs : k_ild (pc + 1) L S h a = some (ok, (pc', L', S', h')) := hs
    obtain ⟨x, hx1, -, hg⟩ := so_ild hs
    cases hg
    exact lv_iload_n hx hb hdec hc (am_lv_ld hl hx1) (kk H locs ls ⟨hP, hS, hl, hLn, hlg, hhx⟩)
  | iload i =>
    have hs : k_ild (pc + 2) L S h a = some (ok, (pc', L', S', h')) := hs
    obtain ⟨x, hx1, -, hg⟩ := so_ild hs
    cases hg
    have hc : i = a := hc
    subst hc
    exact lv_iload hx hb hdec (am_lv_ld hl hx1) (kk H locs ls ⟨hP, hS, hl, hLn, hlg, hhx⟩)
  | lload_n i =>
    have hs : k_lld (pc + 1) L S h a = some (ok, (pc', L', S', h')) := hs
    obtain ⟨x, hx1, -, hg⟩ := so_lld hs
    cases hg
    exact lv_lload_n hx hb hdec hc (am_lv_ld hl hx1) (kk H locs ls ⟨hP, hS, hl, hLn, hlg, hhx⟩)
  | lload i =>
    have hs : k_lld (pc + 2) L S h a = some (ok, (pc', L', S', h')) := hs
    obtain ⟨x, hx1, -, hg⟩ := so_lld hs
    cases hg
    have hc : i = a := hc
    subst hc
    exact lv_lload hx hb hdec (am_lv_ld hl hx1) (kk H locs ls ⟨hP, hS, hl, hLn, hlg, hhx⟩)
  | aload_n i =>
    have hs : k_ald (pc + 1) L S h a = some (ok, (pc', L', S', h')) := hs
    obtain ⟨x, hx1, -, hg⟩ := so_ald hs
    cases hg
    have hq := am_lv_ld hl hx1
    have e := kk H locs ls ⟨hP, hS, hl, hLn, hlg, hhx⟩
    rw [List.map_cons] at e
    rcases am_rf hxo x with z | ⟨q, z⟩
    · rw [show am_c G (.inr (.inr x)) = .null from z] at e
      rw [show am_cv (g_B G) (g_xv G) (.inr (.inr x)) = .null from z] at hq
      exact lv_aload_nN hx hb hdec hc hq e
    · rw [show am_c G (.inr (.inr x)) = .ref q from z] at e
      rw [show am_cv (g_B G) (g_xv G) (.inr (.inr x)) = .ref q from z] at hq
      exact lv_aload_n hx hb hdec hc hq e
  | aload i =>
    have hs : k_ald (pc + 2) L S h a = some (ok, (pc', L', S', h')) := hs
    obtain ⟨x, hx1, -, hg⟩ := so_ald hs
    cases hg
    have hc : i = a := hc
    subst hc
    have hq := am_lv_ld hl hx1
    have e := kk H locs ls ⟨hP, hS, hl, hLn, hlg, hhx⟩
    rw [List.map_cons] at e
    rcases am_rf hxo x with z | ⟨q, z⟩
    · rw [show am_c G (.inr (.inr x)) = .null from z] at e
      rw [show am_cv (g_B G) (g_xv G) (.inr (.inr x)) = .null from z] at hq
      exact lv_aloadN hx hb hdec hq e
    · rw [show am_c G (.inr (.inr x)) = .ref q from z] at e
      rw [show am_cv (g_B G) (g_xv G) (.inr (.inr x)) = .ref q from z] at hq
      exact lv_aload hx hb hdec hq e
  | istore_n i =>
    have hs : k_ist (pc + 1) L S h a = some (ok, (pc', L', S', h')) := hs
    obtain ⟨x, r, ⟨rfl, hi⟩, -, hg⟩ := so_ist hs
    cases hg
    exact lv_istore_n hx hb hdec hc.1 hl (by rw [← hLn]; exact hi) rfl (fun ls' hl' => kk H locs ls' ⟨hP, hS, am_lv_st (v := .inl x) hlg hc.2 hxo.2.2.2 hl', by rw [List.length_set]; exact hLn, am_lg_set hlg (fun _ q => by cases q), hhx⟩)
  | istore i =>
    have hs : k_ist (pc + 2) L S h a = some (ok, (pc', L', S', h')) := hs
    obtain ⟨x, r, ⟨rfl, hi⟩, -, hg⟩ := so_ist hs
    cases hg
    obtain ⟨hc1, hc2⟩ := hc
    have hc1 : i = a := hc1
    subst hc1
    exact lv_istore hx hb hdec hl (by rw [← hLn]; exact hi) rfl (fun ls' hl' => kk H locs ls' ⟨hP, hS, am_lv_st (v := .inl x) hlg hc2 hxo.2.2.2 hl', by rw [List.length_set]; exact hLn, am_lg_set hlg (fun _ q => by cases q), hhx⟩)
  | lstore_n i =>
    have hs : k_lst (pc + 1) L S h a = some (ok, (pc', L', S', h')) := hs
    obtain ⟨x, r, ⟨rfl, hi⟩, -, hg⟩ := so_lst hs
    cases hg
    exact lv_lstore_n hx hb hdec hc.1 hl (by rw [← hLn]; exact hi) rfl (fun ls' hl' => kk H locs ls' ⟨hP, hS, am_lv_st2 hlg hc.2.1 hxo.2.2.2 hl', by rw [List.length_set, List.length_set]; exact hLn, am_lg_set (am_lg_set hlg (fun _ _ => hc.2.2)) (fun _ q => by cases q), hhx⟩)
  | lstore i =>
    have hs : k_lst (pc + 2) L S h a = some (ok, (pc', L', S', h')) := hs
    obtain ⟨x, r, ⟨rfl, hi⟩, -, hg⟩ := so_lst hs
    cases hg
    obtain ⟨hc1, hc2⟩ := hc
    have hc1 : i = a := hc1
    subst hc1
    exact lv_lstore hx hb hdec hl (by rw [← hLn]; exact hi) rfl (fun ls' hl' => kk H locs ls' ⟨hP, hS, am_lv_st2 hlg hc2.1 hxo.2.2.2 hl', by rw [List.length_set, List.length_set]; exact hLn, am_lg_set (am_lg_set hlg (fun _ _ => hc2.2)) (fun _ q => by cases q), hhx⟩)
  | astore_n i =>
    have hs : k_ast (pc + 1) L S h a = some (ok, (pc', L', S', h')) := hs
    obtain ⟨x, r, ⟨rfl, hi⟩, -, hg⟩ := so_ast hs
    cases hg
    rw [List.map_cons]
    rcases am_rf hxo x with z | ⟨q, z⟩
    · rw [show am_c G (.inr (.inr x)) = .null from z]
      exact lv_astore_nN hx hb hdec hc.1 hl (by rw [← hLn]; exact hi) rfl (fun ls' hl' => kk H locs ls' ⟨hP, hS, am_lv_st (v := .inr (.inr x)) hlg hc.2 hxo.2.2.2 (by rw [show am_cv (g_B G) (g_xv G) (.inr (.inr x)) = _ from z]; exact hl'), by rw [List.length_set]; exact hLn, am_lg_set hlg (fun _ q => by cases q), hhx⟩)
    · rw [show am_c G (.inr (.inr x)) = .ref q from z]
      exact lv_astore_n hx hb hdec hc.1 hl (by rw [← hLn]; exact hi) rfl (fun ls' hl' => kk H locs ls' ⟨hP, hS, am_lv_st (v := .inr (.inr x)) hlg hc.2 hxo.2.2.2 (by rw [show am_cv (g_B G) (g_xv G) (.inr (.inr x)) = _ from z]; exact hl'), by rw [List.length_set]; exact hLn, am_lg_set hlg (fun _ q => by cases q), hhx⟩)
  | astore i =>
    have hs : k_ast (pc + 2) L S h a = some (ok, (pc', L', S', h')) := hs
    obtain ⟨x, r, ⟨rfl, hi⟩, -, hg⟩ := so_ast hs
    cases hg
    obtain ⟨hc1, hc2⟩ := hc
    have hc1 : i = a := hc1
    subst hc1
    rw [List.map_cons]
    rcases am_rf hxo x with z | ⟨q, z⟩
    · rw [show am_c G (.inr (.inr x)) = .null from z]
      exact lv_astoreN hx hb hdec hl (by rw [← hLn]; exact hi) rfl (fun ls' hl' => kk H locs ls' ⟨hP, hS, am_lv_st (v := .inr (.inr x)) hlg hc2 hxo.2.2.2 (by rw [show am_cv (g_B G) (g_xv G) (.inr (.inr x)) = _ from z]; exact hl'), by rw [List.length_set]; exact hLn, am_lg_set hlg (fun _ q => by cases q), hhx⟩)
    · rw [show am_c G (.inr (.inr x)) = .ref q from z]
      exact lv_astore hx hb hdec hl (by rw [← hLn]; exact hi) rfl (fun ls' hl' => kk H locs ls' ⟨hP, hS, am_lv_st (v := .inr (.inr x)) hlg hc2 hxo.2.2.2 (by rw [show am_cv (g_B G) (g_xv G) (.inr (.inr x)) = _ from z]; exact hl'), by rw [List.length_set]; exact hLn, am_lg_set hlg (fun _ q => by cases q), hhx⟩)
  | iinc i n =>
    have hs : k_inc (pc + 3) L S h a v = some (ok, (pc', L', S', h')) := hs
    obtain ⟨x, hx1, -, hg⟩ := so_inc hs
    cases hg
    obtain ⟨hc1, hc2, hc3⟩ := hc
    have hc1 : i = a := hc1
    subst hc1
    obtain ⟨j, hj⟩ := List.getElem?_of_mem ((am_lv_mem (B := g_B G) (xv := g_xv G) L 0 _).2 ⟨i, .inl x, hx1, rfl⟩)
    rw [Nat.zero_add] at hj
    have hi : i < L.length := (List.getElem?_eq_some_iff.mp hx1).1
    exact lv_iinc hx hb hdec hl hj (by rw [hc2]) (by rw [← hLn]; exact hi) rfl (fun ls' hl' => kk H locs ls' ⟨hP, hS, am_lv_st (v := .inl (x + v)) hlg hc3 hxo.2.2.2 hl', by rw [List.length_set]; exact hLn, am_lg_set hlg (fun _ q => by cases q), hhx⟩)
  | iadd =>
    have hs : k_i2 (pc + 1) L S h (fun x y => x + y) = some (ok, (pc', L', S', h')) := hs
    obtain ⟨x, y, r, rfl, -, hg⟩ := so_i2 hs
    cases hg
    exact lv_iadd hx hb hdec (kk H locs ls ⟨hP, hS, hl, hLn, hlg, hhx⟩)
  | isub =>
    have hs : k_i2 (pc + 1) L S h (fun x y => x - y) = some (ok, (pc', L', S', h')) := hs
    obtain ⟨x, y, r, rfl, -, hg⟩ := so_i2 hs
    cases hg
    exact lv_isub hx hb hdec (kk H locs ls ⟨hP, hS, hl, hLn, hlg, hhx⟩)
  | imul =>
    have hs : k_i2 (pc + 1) L S h (fun x y => x * y) = some (ok, (pc', L', S', h')) := hs
    obtain ⟨x, y, r, rfl, -, hg⟩ := so_i2 hs
    cases hg
    exact lv_imul hx hb hdec (kk H locs ls ⟨hP, hS, hl, hLn, hlg, hhx⟩)
  | iand =>
    have hs : k_i2 (pc + 1) L S h (fun x y => x &&& y) = some (ok, (pc', L', S', h')) := hs
    obtain ⟨x, y, r, rfl, -, hg⟩ := so_i2 hs
    cases hg
    exact lv_iand hx hb hdec (kk H locs ls ⟨hP, hS, hl, hLn, hlg, hhx⟩)
  | ior =>
    have hs : k_i2 (pc + 1) L S h (fun x y => x ||| y) = some (ok, (pc', L', S', h')) := hs
    obtain ⟨x, y, r, rfl, -, hg⟩ := so_i2 hs
    cases hg
    exact lv_ior hx hb hdec (kk H locs ls ⟨hP, hS, hl, hLn, hlg, hhx⟩)
  | ixor =>
    have hs : k_i2 (pc + 1) L S h (fun x y => x ^^^ y) = some (ok, (pc', L', S', h')) := hs
    obtain ⟨x, y, r, rfl, -, hg⟩ := so_i2 hs
    cases hg
    exact lv_ixor hx hb hdec (kk H locs ls ⟨hP, hS, hl, hLn, hlg, hhx⟩)
  | ishl =>
    have hs : k_i2 (pc + 1) L S h (fun x y => x <<< (y &&& 31)) = some (ok, (pc', L', S', h')) := hs
    obtain ⟨x, y, r, rfl, -, hg⟩ := so_i2 hs
    cases hg
    exact lv_ishl hx hb hdec (kk H locs ls ⟨hP, hS, hl, hLn, hlg, hhx⟩)
  | ishr =>
    have hs : k_i2 (pc + 1) L S h (fun x y => x >>> (y &&& 31)) = some (ok, (pc', L', S', h')) := hs
    obtain ⟨x, y, r, rfl, -, hg⟩ := so_i2 hs
    cases hg
    exact lv_ishr hx hb hdec (kk H locs ls ⟨hP, hS, hl, hLn, hlg, hhx⟩)
  | iushr =>
    have hs : k_i2 (pc + 1) L S h (fun x y => (x.toUInt32 >>> (y.toUInt32 &&& Int32.toUInt32 31)).toInt32) = some (ok, (pc', L', S', h')) := hs
    obtain ⟨x, y, r, rfl, -, hg⟩ := so_i2 hs
    cases hg
    exact lv_iushr hx hb hdec rfl (kk H locs ls ⟨hP, hS, hl, hLn, hlg, hhx⟩)
  | idiv =>
    have hs : k_i2d (pc + 1) L S h (fun x y => x / y) = some (ok, (pc', L', S', h')) := hs
    obtain ⟨x, y, r, rfl, rfl, hg⟩ := so_i2d hs
    cases hg
    exact lv_idiv hx hb hdec hok.1 (kk H locs ls ⟨hP, hS, hl, hLn, hlg, hhx⟩)
  | irem =>
    have hs : k_i2d (pc + 1) L S h (fun x y => x - x / y * y) = some (ok, (pc', L', S', h')) := hs
    obtain ⟨x, y, r, rfl, rfl, hg⟩ := so_i2d hs
    cases hg
    exact lv_irem hx hb hdec hok.1 (kk H locs ls ⟨hP, hS, hl, hLn, hlg, hhx⟩)
  | ladd =>
    have hs : k_l2 (pc + 1) L S h (fun x y => x + y) = some (ok, (pc', L', S', h')) := hs
    obtain ⟨x, y, r, rfl, -, hg⟩ := so_l2 hs
    cases hg
    exact lv_ladd hx hb hdec (kk H locs ls ⟨hP, hS, hl, hLn, hlg, hhx⟩)
  | lsub =>
    have hs : k_l2 (pc + 1) L S h (fun x y => x - y) = some (ok, (pc', L', S', h')) := hs
    obtain ⟨x, y, r, rfl, -, hg⟩ := so_l2 hs
    cases hg
    exact lv_lsub hx hb hdec (kk H locs ls ⟨hP, hS, hl, hLn, hlg, hhx⟩)
  | lmul =>
    have hs : k_l2 (pc + 1) L S h (fun x y => x * y) = some (ok, (pc', L', S', h')) := hs
    obtain ⟨x, y, r, rfl, -, hg⟩ := so_l2 hs
    cases hg
    exact lv_lmul hx hb hdec (kk H locs ls ⟨hP, hS, hl, hLn, hlg, hhx⟩)
  | land =>
    have hs : k_l2 (pc + 1) L S h (fun x y => x &&& y) = some (ok, (pc', L', S', h')) := hs
    obtain ⟨x, y, r, rfl, -, hg⟩ := so_l2 hs
    cases hg
    exact lv_land hx hb hdec (kk H locs ls ⟨hP, hS, hl, hLn, hlg, hhx⟩)
  | lor =>
    have hs : k_l2 (pc + 1) L S h (fun x y => x ||| y) = some (ok, (pc', L', S', h')) := hs
    obtain ⟨x, y, r, rfl, -, hg⟩ := so_l2 hs
    cases hg
    exact lv_lor hx hb hdec (kk H locs ls ⟨hP, hS, hl, hLn, hlg, hhx⟩)
  | ldiv =>
    have hs : k_l2d (pc + 1) L S h (fun x y => x / y) = some (ok, (pc', L', S', h')) := hs
    obtain ⟨x, y, r, rfl, rfl, hg⟩ := so_l2d hs
    cases hg
    exact lv_ldiv hx hb hdec hok.1 (kk H locs ls ⟨hP, hS, hl, hLn, hlg, hhx⟩)
  | lrem =>
    have hs : k_l2d (pc + 1) L S h (fun x y => x - x / y * y) = some (ok, (pc', L', S', h')) := hs
    obtain ⟨x, y, r, rfl, rfl, hg⟩ := so_l2d hs
    cases hg
    exact lv_lrem hx hb hdec hok.1 (kk H locs ls ⟨hP, hS, hl, hLn, hlg, hhx⟩)
  | lshl =>
    have hs : k_lsh (pc + 1) L S h (fun x y => x <<< (y.toInt64 &&& 63)) = some (ok, (pc', L', S', h')) := hs
    obtain ⟨x, y, r, rfl, -, hg⟩ := so_lsh hs
    cases hg
    exact lv_lshl hx hb hdec rfl (kk H locs ls ⟨hP, hS, hl, hLn, hlg, hhx⟩)
  | lshr =>
    have hs : k_lsh (pc + 1) L S h (fun x y => x >>> (y.toInt64 &&& 63)) = some (ok, (pc', L', S', h')) := hs
    obtain ⟨x, y, r, rfl, -, hg⟩ := so_lsh hs
    cases hg
    exact lv_lshr hx hb hdec rfl (kk H locs ls ⟨hP, hS, hl, hLn, hlg, hhx⟩)
  | lcmp =>
    have hs : k_lcm (pc + 1) L S h = some (ok, (pc', L', S', h')) := hs
    obtain ⟨x, y, r, rfl, -, hg⟩ := so_lcm hs
    cases hg
    exact W.lcmp hx hb hdec (kk H locs ls ⟨hP, hS, hl, hLn, hlg, hhx⟩)
  | ineg =>
    have hs : k_i1 (pc + 1) L S h (fun x => -x) = some (ok, (pc', L', S', h')) := hs
    obtain ⟨x, r, rfl, -, hg⟩ := so_i1 hs
    cases hg
    exact lv_ineg hx hb hdec (kk H locs ls ⟨hP, hS, hl, hLn, hlg, hhx⟩)
  | i2b =>
    have hs : k_i1 (pc + 1) L S h (fun x => x.toInt8.toInt32) = some (ok, (pc', L', S', h')) := hs
    obtain ⟨x, r, rfl, -, hg⟩ := so_i1 hs
    cases hg
    exact lv_i2b hx hb hdec rfl (kk H locs ls ⟨hP, hS, hl, hLn, hlg, hhx⟩)
  | i2s =>
    have hs : k_i1 (pc + 1) L S h (fun x => x.toInt16.toInt32) = some (ok, (pc', L', S', h')) := hs
    obtain ⟨x, r, rfl, -, hg⟩ := so_i1 hs
    cases hg
    exact lv_i2s hx hb hdec rfl (kk H locs ls ⟨hP, hS, hl, hLn, hlg, hhx⟩)
  | i2c =>
    have hs : k_i1 (pc + 1) L S h (fun x => (x.toUInt32 % 65536).toInt32) = some (ok, (pc', L', S', h')) := hs
    obtain ⟨x, r, rfl, -, hg⟩ := so_i1 hs
    cases hg
    exact lv_i2c hx hb hdec rfl (kk H locs ls ⟨hP, hS, hl, hLn, hlg, hhx⟩)
  | i2l =>
    have hs : k_il (pc + 1) L S h (fun x => x.toInt64) = some (ok, (pc', L', S', h')) := hs
    obtain ⟨x, r, rfl, -, hg⟩ := so_il hs
    cases hg
    exact lv_i2l hx hb hdec rfl (kk H locs ls ⟨hP, hS, hl, hLn, hlg, hhx⟩)
  | l2i =>
    have hs : k_li (pc + 1) L S h (fun x => x.toInt32) = some (ok, (pc', L', S', h')) := hs
    obtain ⟨x, r, rfl, -, hg⟩ := so_li hs
    cases hg
    exact lv_l2i hx hb hdec rfl (kk H locs ls ⟨hP, hS, hl, hLn, hlg, hhx⟩)
  | dup =>
    have hs : k_dup (pc + 1) L S h = some (ok, (pc', L', S', h')) := hs
    obtain ⟨w, r, ⟨rfl, hw⟩, -, hg⟩ := so_dup hs
    cases hg
    exact lv_dup hx hb hdec (am_c1_cat hxo hw) (kk H locs ls ⟨hP, hS, hl, hLn, hlg, hhx⟩)
  | pop =>
    have hs : k_pop (pc + 1) L S h = some (ok, (pc', L', S', h')) := hs
    obtain ⟨w, r, ⟨rfl, hw⟩, -, hg⟩ := so_pop hs
    cases hg
    exact lv_pop hx hb hdec (am_c1_cat hxo hw) (kk H locs ls ⟨hP, hS, hl, hLn, hlg, hhx⟩)
  | dup2 =>
    have hs : k_du2 (pc + 1) L S h = some (ok, (pc', L', S', h')) := hs
    obtain ⟨w, w2, r, ⟨rfl, hw, hw2⟩, -, hg⟩ := so_du2 hs
    cases hg
    exact lv_dup2_11 hx hb hdec (am_c1_cat hxo hw) (am_c1_cat hxo hw2) (kk H locs ls ⟨hP, hS, hl, hLn, hlg, hhx⟩)
  | goto o =>
    have hs : some (([] : List Prop), a, L, S, h) = some (ok, (pc', L', S', h')) := hs
    cases hs
    exact lv_goto hx hb hdec hc (kk H locs ls ⟨hP, hS, hl, hLn, hlg, hhx⟩)
  | ifCond cnd o =>
    cases cnd with
    | eq =>
      have hs : k_if (pc + 3) L S h a (fun x => x = 0) = some (ok, (pc', L', S', h')) := hs
      unfold k_if at hs
      split at hs
      · rename_i x r
        have hs := Option.some.inj hs
        cases hs
        refine lv_if_eq hx hb hdec hc (fun q => ?_) (fun q => ?_)
        · have e := kk H locs ls ⟨hP, hS, hl, hLn, hlg, hhx⟩
          rw [if_pos q] at e
          exact e
        · have e := kk H locs ls ⟨hP, hS, hl, hLn, hlg, hhx⟩
          rw [if_neg q] at e
          exact e
      · cases hs
    | ne =>
      have hs : k_if (pc + 3) L S h a (fun x => ¬ x = 0) = some (ok, (pc', L', S', h')) := hs
      unfold k_if at hs
      split at hs
      · rename_i x r
        have hs := Option.some.inj hs
        cases hs
        refine lv_if_ne hx hb hdec hc (fun q => ?_) (fun q => ?_)
        · have e := kk H locs ls ⟨hP, hS, hl, hLn, hlg, hhx⟩
          rw [if_pos q] at e
          exact e
        · have e := kk H locs ls ⟨hP, hS, hl, hLn, hlg, hhx⟩
          rw [if_neg (fun z => z q)] at e
          exact e
      · cases hs
    | lt =>
      have hs : k_if (pc + 3) L S h a (fun x => x < 0) = some (ok, (pc', L', S', h')) := hs
      unfold k_if at hs
      split at hs
      · rename_i x r
        have hs := Option.some.inj hs
        cases hs
        refine lv_if_lt hx hb hdec hc (fun q => ?_) (fun q => ?_)
        · have e := kk H locs ls ⟨hP, hS, hl, hLn, hlg, hhx⟩
          rw [if_pos q] at e
          exact e
        · have e := kk H locs ls ⟨hP, hS, hl, hLn, hlg, hhx⟩
          rw [if_neg q] at e
          exact e
      · cases hs
    | ge =>
      have hs : k_if (pc + 3) L S h a (fun x => 0 ≤ x) = some (ok, (pc', L', S', h')) := hs
      unfold k_if at hs
      split at hs
      · rename_i x r
        have hs := Option.some.inj hs
        cases hs
        refine lv_if_ge hx hb hdec hc (fun q => ?_) (fun q => ?_)
        · have e := kk H locs ls ⟨hP, hS, hl, hLn, hlg, hhx⟩
          rw [if_pos q] at e
          exact e
        · have e := kk H locs ls ⟨hP, hS, hl, hLn, hlg, hhx⟩
          rw [if_neg q] at e
          exact e
      · cases hs
    | gt =>
      have hs : k_if (pc + 3) L S h a (fun x => 0 < x) = some (ok, (pc', L', S', h')) := hs
      unfold k_if at hs
      split at hs
      · rename_i x r
        have hs := Option.some.inj hs
        cases hs
        refine lv_if_gt hx hb hdec hc (fun q => ?_) (fun q => ?_)
        · have e := kk H locs ls ⟨hP, hS, hl, hLn, hlg, hhx⟩
          rw [if_pos q] at e
          exact e
        · have e := kk H locs ls ⟨hP, hS, hl, hLn, hlg, hhx⟩
          rw [if_neg q] at e
          exact e
      · cases hs
    | le =>
      have hs : k_if (pc + 3) L S h a (fun x => x ≤ 0) = some (ok, (pc', L', S', h')) := hs
      unfold k_if at hs
      split at hs
      · rename_i x r
        have hs := Option.some.inj hs
        cases hs
        refine lv_if_le hx hb hdec hc (fun q => ?_) (fun q => ?_)
        · have e := kk H locs ls ⟨hP, hS, hl, hLn, hlg, hhx⟩
          rw [if_pos q] at e
          exact e
        · have e := kk H locs ls ⟨hP, hS, hl, hLn, hlg, hhx⟩
          rw [if_neg q] at e
          exact e
      · cases hs
  | if_icmp cnd o =>
    cases cnd with
    | eq =>
      have hs : k_ic (pc + 3) L S h a (fun x y => x = y) = some (ok, (pc', L', S', h')) := hs
      unfold k_ic at hs
      split at hs
      · rename_i y x r
        have hs := Option.some.inj hs
        cases hs
        refine lv_icmp_eq hx hb hdec hc (fun q => ?_) (fun q => ?_)
        · have e := kk H locs ls ⟨hP, hS, hl, hLn, hlg, hhx⟩
          rw [if_pos q] at e
          exact e
        · have e := kk H locs ls ⟨hP, hS, hl, hLn, hlg, hhx⟩
          rw [if_neg q] at e
          exact e
      · cases hs
    | ne =>
      have hs : k_ic (pc + 3) L S h a (fun x y => ¬ x = y) = some (ok, (pc', L', S', h')) := hs
      unfold k_ic at hs
      split at hs
      · rename_i y x r
        have hs := Option.some.inj hs
        cases hs
        refine lv_icmp_ne hx hb hdec hc (fun q => ?_) (fun q => ?_)
        · have e := kk H locs ls ⟨hP, hS, hl, hLn, hlg, hhx⟩
          rw [if_pos q] at e
          exact e
        · have e := kk H locs ls ⟨hP, hS, hl, hLn, hlg, hhx⟩
          rw [if_neg (fun z => z q)] at e
          exact e
      · cases hs
    | lt =>
      have hs : k_ic (pc + 3) L S h a (fun x y => x < y) = some (ok, (pc', L', S', h')) := hs
      unfold k_ic at hs
      split at hs
      · rename_i y x r
        have hs := Option.some.inj hs
        cases hs
        refine lv_icmp_lt hx hb hdec hc (fun q => ?_) (fun q => ?_)
        · have e := kk H locs ls ⟨hP, hS, hl, hLn, hlg, hhx⟩
          rw [if_pos q] at e
          exact e
        · have e := kk H locs ls ⟨hP, hS, hl, hLn, hlg, hhx⟩
          rw [if_neg q] at e
          exact e
      · cases hs
    | ge =>
      have hs : k_ic (pc + 3) L S h a (fun x y => y ≤ x) = some (ok, (pc', L', S', h')) := hs
      unfold k_ic at hs
      split at hs
      · rename_i y x r
        have hs := Option.some.inj hs
        cases hs
        refine lv_icmp_ge hx hb hdec hc (fun q => ?_) (fun q => ?_)
        · have e := kk H locs ls ⟨hP, hS, hl, hLn, hlg, hhx⟩
          rw [if_pos q] at e
          exact e
        · have e := kk H locs ls ⟨hP, hS, hl, hLn, hlg, hhx⟩
          rw [if_neg q] at e
          exact e
      · cases hs
    | gt =>
      have hs : k_ic (pc + 3) L S h a (fun x y => y < x) = some (ok, (pc', L', S', h')) := hs
      unfold k_ic at hs
      split at hs
      · rename_i y x r
        have hs := Option.some.inj hs
        cases hs
        refine lv_icmp_gt hx hb hdec hc (fun q => ?_) (fun q => ?_)
        · have e := kk H locs ls ⟨hP, hS, hl, hLn, hlg, hhx⟩
          rw [if_pos q] at e
          exact e
        · have e := kk H locs ls ⟨hP, hS, hl, hLn, hlg, hhx⟩
          rw [if_neg q] at e
          exact e
      · cases hs
    | le =>
      have hs : k_ic (pc + 3) L S h a (fun x y => x ≤ y) = some (ok, (pc', L', S', h')) := hs
      unfold k_ic at hs
      split at hs
      · rename_i y x r
        have hs := Option.some.inj hs
        cases hs
        refine lv_icmp_le hx hb hdec hc (fun q => ?_) (fun q => ?_)
        · have e := kk H locs ls ⟨hP, hS, hl, hLn, hlg, hhx⟩
          rw [if_pos q] at e
          exact e
        · have e := kk H locs ls ⟨hP, hS, hl, hLn, hlg, hhx⟩
          rw [if_neg q] at e
          exact e
      · cases hs
  | ifnull o =>
    have hs : k_nul (pc + 3) L S h a = some (ok, (pc', L', S', h')) := hs
    obtain ⟨x, r, rfl, -, hg⟩ := so_nul hs
    cases hg
    cases x with
    | none => exact lv_ifnullN hx hb hdec hc (kk H locs ls ⟨hP, hS, hl, hLn, hlg, hhx⟩)
    | some x => exact lv_ifnull hx hb hdec (kk H locs ls ⟨hP, hS, hl, hLn, hlg, hhx⟩)
  | ifnonnull o =>
    have hs : k_nnu (pc + 3) L S h a = some (ok, (pc', L', S', h')) := hs
    obtain ⟨x, r, rfl, -, hg⟩ := so_nnu hs
    cases hg
    cases x with
    | none => exact lv_ifnonnullN hx hb hdec (kk H locs ls ⟨hP, hS, hl, hLn, hlg, hhx⟩)
    | some x => exact lv_ifnonnull hx hb hdec hc (kk H locs ls ⟨hP, hS, hl, hLn, hlg, hhx⟩)
  | tableswitch df lo hi os =>
    have hs : k_swi L S h a tab = some (ok, (pc', L', S', h')) := hs
    obtain ⟨x, r, rfl, -, hg⟩ := so_swi hs
    simp only [Prod.mk.injEq] at hg
    obtain ⟨rfl, rfl, rfl, rfl⟩ := hg
    · obtain ⟨c1, c2, c3⟩ := hc
      have c2 : hi + 1 = lo + os.size := c2
      by_cases hq : x.toInt < lo ∨ hi < x.toInt
      · refine lv_tableOut hx hb hdec hq c1 ?_
        have e := kk H locs ls ⟨hP, hS, hl, hLn, hlg, hhx⟩
        rw [am_sw_o os.toList tab lo c3 (by rw [Array.length_toList]; omega)] at e
        exact e
      · obtain ⟨o, h3, h4⟩ := am_sw_t (d := a) (x := x) os.toList tab lo c3 (by omega) (by rw [Array.length_toList]; omega)
        exact lv_tableIn hx hb hdec (fun z => hq (Or.inl z)) (fun z => hq (Or.inr z)) (by rw [← Array.getElem?_toList]; exact h3) h4 (kk H locs ls ⟨hP, hS, hl, hLn, hlg, hhx⟩)
  | lookupswitch df ps =>
    have hs : k_swi L S h a tab = some (ok, (pc', L', S', h')) := hs
    obtain ⟨x, r, rfl, -, hg⟩ := so_swi hs
    simp only [Prod.mk.injEq] at hg
    obtain ⟨rfl, rfl, rfl, rfl⟩ := hg
    · obtain ⟨c1, c2, c3⟩ := hc
      exact lv_lookup hx hb hdec c2 rfl (am_sw_l c1 ps.toList tab c3) (kk H locs ls ⟨hP, hS, hl, hLn, hlg, hhx⟩)
  | _ => cases hpl
