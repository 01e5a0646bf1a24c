/-! ===== the machine follows the machine in small ===== -/
theorem am_all_last {ok : List Prop} {A : Prop} (h : am_all ok A) : A := by
  induction ok with
  | nil => exact h
  | cons p r ih => exact ih h.2
theorem so_ret {i : Instr} {t : Nat} {S : List am_V} {p : Prop} {v : Option am_V} (hs : am_ret i t S = some (p, v)) : (i = .return_ ∧ S = [] ∧ p = (t = 9) ∧ v = none) ∨ (i = .ireturn ∧ ∃ x, S = [.inl x] ∧ p = am_fit t x ∧ v = some (.inl x)) ∨ (i = .lreturn ∧ ∃ x, S = [.inr (.inl x)] ∧ p = (t = 4) ∧ v = some (.inr (.inl x))) ∨ (i = .areturn ∧ ∃ x, S = [.inr (.inr (.inl x))] ∧ p = (t = 5) ∧ v = some (.inr (.inr (.inl x)))) := by
  unfold am_ret at hs
  split at hs
  · split at hs
    · have hs := Option.some.inj hs
      have h1 := (Prod.mk.inj hs).1
      have h2 := (Prod.mk.inj hs).2
      exact Or.inl ⟨rfl, rfl, h1.symm, h2.symm⟩
    · cases hs
  · split at hs
    · have hs := Option.some.inj hs
      have h1 := (Prod.mk.inj hs).1
      have h2 := (Prod.mk.inj hs).2
      exact Or.inr (Or.inl ⟨rfl, _, rfl, h1.symm, h2.symm⟩)
    · cases hs
  · split at hs
    · have hs := Option.some.inj hs
      have h1 := (Prod.mk.inj hs).1
      have h2 := (Prod.mk.inj hs).2
      exact Or.inr (Or.inr (Or.inl ⟨rfl, _, rfl, h1.symm, h2.symm⟩))
    · cases hs
  · split at hs
    · have hs := Option.some.inj hs
      have h1 := (Prod.mk.inj hs).1
      have h2 := (Prod.mk.inj hs).2
      exact Or.inr (Or.inr (Or.inr ⟨rfl, _, rfl, h1.symm, h2.symm⟩))
    · cases hs
  · cases hs
theorem am_sizeEq {G : am_G} {p : Program} {l : Launch} {e : Env} {R : Room} {s : State} {m : MethodId} {args : Array Value} {below : List Frame} {meth : Method} {c : Code} {H : Heap} {locs : List Loc} {slots : Nat} {Q : State → Prop} {h : am_H} {n0 : Nat} {g : JFrame} (hsz : s.heap.size = g_B G + n0) (hn0 : n0 ≤ h_n h) (hP : va_P (g_D G) am_cl (am_W G h) H) (hS : s.heap.size ≤ H.size) (kk : H.size = g_B G + h_n h → W p l e R s m args below meth c H locs (h_n h - n0) slots Q g) : W p l e R s m args below meth c H locs (h_n h - n0) slots Q g := by
  refine am_W_size fun hH => kk ?_
  rcases Nat.eq_zero_or_pos (h_n h) with h0 | h0
  · omega
  · have h1 := (hP (h_n h - 1) _ (am_ws_get (by omega))).lt
    have h1 : g_B G + (h_n h - 1) < H.size := h1
    omega
set_option maxHeartbeats 8000000 in
set_option maxRecDepth 100000 in
theorem am_retW {G : am_G} {p : Program} {l : Launch} {e : Env} {R : Room} {s : State} {m : MethodId} {args : Array Value} {below : List Frame} {meth : Method} {c : Code} {H : Heap} {locs : List Loc} {ls : Array Slot} {k n0 s0 pc : Nat} {L : am_L} {S : List am_V} {h : am_H} {i0 : Instr} {pp : Prop} {v : Option am_V} (C : am_Ctx G p s m args meth c k n0) (hrk : am_rok k) (hdec : decode (am_mb k) pc = .ok (i0, 1)) (hret : am_ret i0 (am_p k).2.2.1 S = some (pp, v)) (hp : pp) (St : am_St G s k h L H locs ls) (hn0 : n0 ≤ h_n h) :
    W p l e R s m args below meth c H locs (h_n h - n0) (h_s h - s0) (MQ below (am_Qc G v h) args s (h_n h - n0) (h_s h - s0) (am_A (g_B G))) (F0 m pc ls (S.map (am_c G))) := by
  obtain ⟨hx, hb, hml, hr, hown, hts, hlk, hnm, hK, hXH, hxo, hsz⟩ := id C
  obtain ⟨hP, hS, hl, hLn, hlg, hhx⟩ := id St
  refine am_sizeEq hsz hn0 hP hS.1 fun hHs => ?_
  have hq : ∀ (w : Option Value), w = v.map (am_c G) → ∀ t : State, t.heap = H → s.WarmedH t.vm → am_Qc G v h args s (.returned w) t := by
    rintro w rfl t ht -
    exact ⟨rfl, by rw [ht]; exact hHs, by rw [ht]; exact hP, fun q hq => by rw [ht]; exact hS.2.1 q (by omega) (Nat.not_le.mpr hq), hhx⟩
  rcases so_ret hret with ⟨rfl, rfl, rfl, rfl⟩ | ⟨rfl, x, rfl, rfl, rfl⟩ | ⟨rfl, x, rfl, rfl, rfl⟩ | ⟨rfl, x, rfl, rfl, rfl⟩
  · have ht : am_mr k = none := by
      rcases hrk with ⟨a, b⟩ | ⟨a, b⟩ | ⟨a, b⟩ | ⟨a, b⟩ | ⟨a, b⟩ | ⟨a, b⟩ | ⟨a, b⟩ <;> first | exact b | (exfalso; rw [hp] at a; cases a)
    exact W.vret hx hb (hr.trans ht) (hq _ rfl) hS.2.2 hdec hlk
  · rcases hrk with ⟨a, b⟩ | ⟨a, b⟩ | ⟨a, b⟩ | ⟨a, b⟩ | ⟨a, b⟩ | ⟨a, b⟩ | ⟨a, b⟩
    · exact W.iret hx hb (hr.trans b) (hq _ rfl) hS.2.2 hdec hlk
    · rw [a] at hp
      refine W.zret hx hb (hr.trans b) ?_ (hq _ rfl) hS.2.2 hdec hlk
      rcases hp with rfl | rfl <;> rfl
    · rw [a] at hp
      refine W.zret hx hb (hr.trans b) ?_ (hq _ rfl) hS.2.2 hdec hlk
      exact congrArg Value.int hp
    · rw [a] at hp
      refine W.zret hx hb (hr.trans b) ?_ (hq _ rfl) hS.2.2 hdec hlk
      have hp : (x.toUInt32 % 65536).toInt32 = x := hp
      have hz := pk_nc x
      rw [hp] at hz
      exact hz
    · rw [a] at hp
      exact hp.elim
    · rw [a] at hp
      exact hp.elim
    · rw [a] at hp
      exact hp.elim
  · have ht : am_mr k = some .long := by
      rcases hrk with ⟨a, b⟩ | ⟨a, b⟩ | ⟨a, b⟩ | ⟨a, b⟩ | ⟨a, b⟩ | ⟨a, b⟩ | ⟨a, b⟩ <;> first | exact b | (exfalso; rw [hp] at a; cases a)
    exact W.lret hx hb (hr.trans ht) (hq _ rfl) hS.2.2 hdec hlk
  · have ht : am_mr k = some (.array .int) := by
      rcases hrk with ⟨a, b⟩ | ⟨a, b⟩ | ⟨a, b⟩ | ⟨a, b⟩ | ⟨a, b⟩ | ⟨a, b⟩ | ⟨a, b⟩ <;> first | exact b | (exfalso; rw [hp] at a; cases a)
    refine W.aret hx hb (hr.trans ht) (Or.inr ⟨_, rfl⟩) ?_ (hq _ rfl) hS.2.2 hdec hlk
    cases x with
    | none => exact Or.inl rfl
    | some x => exact Or.inr ⟨_, rfl⟩
theorem so_call {e : am_E} {j na ci fl : Nat} (hs : am_call e = some (j, na, ci, fl)) : j = e.2.1.2.1 ∧ na = e.2.1.2.2.1 ∧ ci = e.2.1.2.2.2.1 ∧ fl = e.2.1.2.2.2.2 ∧ ((∃ i, e.1 = .invokevirtual i ∧ fl < 2) ∨ (∃ i, e.1 = .invokestatic i ∧ (fl = 2 ∨ fl = 3)) ∨ (∃ i, e.1 = .invokespecial i ∧ (fl = 4 ∨ fl = 5))) := by
  unfold am_call at hs
  split at hs
  · split at hs
    · rename_i h1 h2
      have hs := Option.some.inj hs
      simp only [Prod.mk.injEq] at hs
      obtain ⟨rfl, rfl, rfl, rfl⟩ := hs
      exact ⟨rfl, rfl, rfl, rfl, Or.inl ⟨_, h1, h2⟩⟩
    · cases hs
  · split at hs
    · rename_i h1 h2
      have hs := Option.some.inj hs
      simp only [Prod.mk.injEq] at hs
      obtain ⟨rfl, rfl, rfl, rfl⟩ := hs
      exact ⟨rfl, rfl, rfl, rfl, Or.inr (Or.inl ⟨_, h1, h2⟩)⟩
    · cases hs
  · split at hs
    · rename_i h1 h2
      have hs := Option.some.inj hs
      simp only [Prod.mk.injEq] at hs
      obtain ⟨rfl, rfl, rfl, rfl⟩ := hs
      exact ⟨rfl, rfl, rfl, rfl, Or.inr (Or.inr ⟨_, h1, h2⟩)⟩
    · cases hs
  · cases hs
theorem am_natw (hgl : am_gl) : Cond.native arraycopyName ∈ am_wd := List.mem_filter.mpr ⟨hgl.2.2.1, rfl⟩
set_option maxHeartbeats 8000000 in
set_option maxRecDepth 100000 in
theorem am_callW {G : am_G} {p : Program} {l : Launch} {e : Env} {R : Room} {s : State} {m : MethodId} {args : Array Value} {below : List Frame} {meth : Method} {c : Code} {H : Heap} {locs : List Loc} {ls : Array Slot} {k n0 s0 pc d j na ci fl : Nat} {L : am_L} {S : List am_V} {h h1 : am_H} {e0 : am_E} {r1 : Option am_V} (C : am_Ctx G p s m args meth c k n0) (hcl : ∀ ci, ci < 13 → am_cls ci) (hgl : am_gl) (hdec : decode (am_mb k) pc = .ok (e0.1, am_il e0.1 e0.2.1.1)) (hcc : am_cc k e0) (hcall : am_call e0 = some (j, na, ci, fl)) (hcok : am_cok am_p h S j na ci fl) (St : am_St G s k h L H locs ls) (hHs : H.size = g_B G + h_n h) (hn0 : n0 ≤ h_n h) (hs0 : s0 ≤ h_s h) (hR1 : h_n h1 - n0 ≤ R.cells) (hR2 : h_s h1 - s0 ≤ R.slots) (hg1 : h_n h ≤ h_n h1) (hg2 : h_s h ≤ h_s h1) (hfr : d + 2 ≤ R.frames) (hlo : 100 * (d + 2) ≤ R.locals)
    (hM : am_mok j → Met l (am_my j) (am_wk j) (am_rm d (h_n h1 - h_n h) (h_s h1 - h_s h)) (am_Pc G (S.take na).reverse h) (am_Qc G r1 h1) (h_n h1 - h_n h) (h_s h1 - h_s h) (am_A (g_B G))) :
    ∃ a', va_Run p l e R s m args below meth c H locs (h_n h - n0) (h_s h - s0) (h_n h1 - h_n h) (h_s h1 - h_s h) (F0 m pc ls (S.map (am_c G))) ((S.drop na).map (am_c G)) (am_Qc G r1 h1 a') (am_A (g_B G)) := by
  obtain ⟨hx, hb, hml, hr, hown, hts, hlk, hnm, hK, hXH, hxo, hsz⟩ := id C
  obtain ⟨hP, hS, hl, hLn, hlg, hhx⟩ := id St
  have hwd : ∀ w ∈ am_wd, w.before args s = true := hts
  obtain ⟨⟨hna, hw8, hl1, hl2⟩, hrc⟩ := hcok
  obtain ⟨e1, e2, e3, e4, hI⟩ := so_call hcall
  have hpre : ∀ U : State, U.heap = H → s.WarmedH U.vm → am_Pc G (S.take na).reverse h ((S.take na).reverse.map (am_c G)).toArray U := by
    intro U hU hW
    refine ⟨rfl, by rw [hU]; exact hHs, by rw [hU]; exact hP, am_K.moved hW hK, ?_, word_at hW (Or.inl rfl) (hwd _ (am_natw hgl)), hhx⟩
    rw [hU]
    exact am_XH.moved hW (hXH.kept hS.1 (fun q hq => hS.2.1 q (by have := hXH.2.2.1; omega) (Nat.not_le.mpr hq)))
  have hroom : 2 * (F0 m pc ls (S.map (am_c G))).monitorRoom + (((S.drop na).map (am_c G)).map fun v => v.category).sum ≤ 8 := by
    rw [am_w_cat hxo]
    show 2 * 0 + _ ≤ 8
    omega
  have hcs : h_n h - n0 + (h_n h1 - h_n h) ≤ R.cells ∧ h_s h - s0 + (h_s h1 - h_s h) ≤ R.slots := ⟨by omega, by omega⟩
  have hfix : CallFix p m c (am_mb k) (am_p k).2.1 s args am_wd (am_my k).cls := ⟨hx, hb, hml, hown, hts⟩
  have hsplit : S = (S.take na).reverse.reverse ++ S.drop na := by
    rw [List.reverse_reverse, List.take_append_drop]
  have hlenA : (S.take na).reverse.length = na := by
    rw [List.length_reverse, List.length_take]
    omega
  have hRm : ∀ q, q ≤ 60 → (am_rm d (h_n h1 - h_n h) (h_s h1 - h_s h)).frames + 1 ≤ R.frames ∧ 8 + (q + 11) + (am_rm d (h_n h1 - h_n h) (h_s h1 - h_s h)).locals ≤ R.locals := by
    intro q hq
    show d + 1 + 1 ≤ R.frames ∧ 8 + (q + 11) + 100 * (d + 1) ≤ R.locals
    omega
  obtain ⟨i0, ⟨len, ea, eb, ec, ed⟩, ev, elv, etab⟩ := e0
  dsimp only at e1 e2 e3 e4 hdec
  subst e1; subst e2; subst e3; subst e4
  rcases hI with ⟨i, hi, hfl⟩ | ⟨i, hi, hfl⟩ | ⟨i, hi, hfl⟩
  · dsimp only at hi
    subst hi
    obtain ⟨c1, c2, c3, c4, c5, c6⟩ := hcc hfl
    dsimp only at c1 c2 c3 c4 c5 c6
    obtain ⟨m1, m2, m3, m4, m5, m6⟩ := id c1
    have hrc : am_rc h ci (S.take na).reverse := by
      rcases hrc with z | z | z
      · omega
      · omega
      · exact z
    generalize hA : (S.take na).reverse = A at *
    match A, hrc with
    | v :: as, hrc =>
      have hst : S.map (am_c G) = (as.map (am_c G)).reverse ++ am_c G v :: (S.drop na).map (am_c G) := by
        refine (congrArg (List.map (am_c G)) hsplit).trans ?_
        rw [List.map_append, List.reverse_cons, List.map_append, List.map_reverse, List.append_assoc]
        rfl
      have hrec : ∃ b, am_c G v = .ref b ∧ ∃ cellB : Cell, H[b]? = some cellB ∧ cellB.vm.isStatics = false ∧ s.vm.findClass (am_my j).cls = some cellB.cls := by
        match v, hrc with
        | .inr (.inr (.inl x)), hrc =>
          obtain ⟨hc20, o, rfl, ho, hk⟩ := hrc
          refine ⟨g_B G + o, rfl, ?_⟩
          rcases c5 with ⟨z1, z2⟩ | ⟨z1, z2⟩
          · rw [z2]
            exact va_recv hK.1 hP (hcl ci z1).2.2.2.2.2.1 (am_g_ob ho hk (by omega))
          · omega
        | .inr (.inr (.inr x)), hrc =>
          obtain ⟨z, hx3⟩ := hrc
          refine ⟨g_K G x, hxo.1 x hx3, ?_⟩
          rcases c5 with ⟨z1, z2⟩ | ⟨z1, z2⟩
          · omega
          · rw [z2]
            exact vk_recv hXH.2.2.2.1 hx3 hS
      obtain ⟨b, hvb, hcell⟩ := hrec
      rw [hvb] at hst
      have hpre' : ∀ U : State, U.heap = H → s.WarmedH U.vm → am_Pc G (v :: as) h (Value.ref b :: as.map (am_c G)).toArray U := by
        intro U hU hW
        have := hpre U hU hW
        rw [List.map_cons, hvb] at this
        exact this
      have hlen2 : (as.map (am_c G)).length = na - 1 := by
        rw [List.length_map]
        simp at hlenA
        omega
      by_cases hz : fl = 0
      · rw [if_pos hz] at c6
        exact ⟨_, va_runV (As := as.map (am_c G)) (rest := (S.drop na).map (am_c G)) (b := b) hfix (hM c1) ⟨callB_of (na - 1) hts (am_goodIn m1) rfl rfl rfl (hwd _ m2) (hwd _ c6) ⟨m3.1, m3.2, c2.2⟩ (hRm _ m5), hwd _ c3, hwd _ c4⟩ ⟨am_blind, hcell, hpre'⟩ rfl hlen2 hl.1 hst hroom hdec hcs⟩
      · rw [if_neg hz] at c6
        exact ⟨_, va_runVN (As := as.map (am_c G)) (rest := (S.drop na).map (am_c G)) (b := b) (host := "OrderMerge") hfix (hM c1) ⟨va_cnB (na - 1) hts (am_goodIn m1) rfl rfl rfl (hK.2.1 _ c6) (hwd _ m2) ⟨m3.1, m3.2, c2.2⟩ (hRm _ m5), hwd _ c3, hwd _ c4⟩ ⟨am_blind, hcell, hpre'⟩ rfl hlen2 hl.1 hst hroom hdec hcs⟩
  · dsimp only at hi
    subst hi
    obtain ⟨c1, c2, c3, c6⟩ := hcc hfl
    dsimp only at c1 c2 c3 c6
    obtain ⟨m1, m2, m3, m4, m5, m6⟩ := id c1
    have hst : S.map (am_c G) = ((S.take na).reverse.map (am_c G)).reverse ++ (S.drop na).map (am_c G) := by
      rw [← List.map_reverse, ← List.map_append, ← hsplit]
    have hlen2 : ((S.take na).reverse.map (am_c G)).length = na := by
      rw [List.length_map]
      exact hlenA
    by_cases hz : fl = 2
    · rw [if_pos hz] at c6
      exact ⟨_, va_runS (As := (S.take na).reverse.map (am_c G)) (rest := (S.drop na).map (am_c G)) hfix (hM c1) ⟨callB_of na hts (am_goodIn m1) rfl rfl rfl (hwd _ m2) (hwd _ c6) ⟨m3.1, m3.2, c2⟩ (hRm _ m5), hwd _ c3⟩ ⟨am_blind, hpre⟩ rfl hlen2 hl.1 hst hroom hdec hcs⟩
    · rw [if_neg hz] at c6
      exact ⟨_, va_runSN (As := (S.take na).reverse.map (am_c G)) (rest := (S.drop na).map (am_c G)) (host := "OrderMerge") hfix (hM c1) ⟨va_cnB na hts (am_goodIn m1) rfl rfl rfl (hK.2.1 _ c6) (hwd _ m2) ⟨m3.1, m3.2, c2⟩ (hRm _ m5), hwd _ c3, trivial⟩ ⟨am_blind, hpre⟩ rfl hlen2 hl.1 hst hroom hdec hcs⟩
  · dsimp only at hi
    subst hi
    obtain ⟨c1, c2, c3, c4, c5, c6⟩ := hcc hfl
    dsimp only at c1 c2 c3 c4 c5 c6
    obtain ⟨m1, m2, m3, m4, m5, m6⟩ := id c1
    have hrc : am_rc h ci (S.take na).reverse := by
      rcases hrc with z | z | z
      · omega
      · omega
      · exact z
    generalize hA : (S.take na).reverse = A at *
    match A, hrc with
    | v :: as, hrc =>
      have hst : S.map (am_c G) = (as.map (am_c G)).reverse ++ am_c G v :: (S.drop na).map (am_c G) := by
        refine (congrArg (List.map (am_c G)) hsplit).trans ?_
        rw [List.map_append, List.reverse_cons, List.map_append, List.map_reverse, List.append_assoc]
        rfl
      have hrec : ∃ b, am_c G v = .ref b := by
        match v, hrc with
        | .inr (.inr (.inl x)), hrc =>
          obtain ⟨-, o, rfl, ho, hk⟩ := hrc
          exact ⟨g_B G + o, rfl⟩
        | .inr (.inr (.inr x)), hrc =>
          obtain ⟨z, hx3⟩ := hrc
          exact ⟨g_K G x, hxo.1 x hx3⟩
      obtain ⟨b, hvb⟩ := hrec
      rw [hvb] at hst
      have hpre' : ∀ U : State, U.heap = H → s.WarmedH U.vm → am_Pc G (v :: as) h (Value.ref b :: as.map (am_c G)).toArray U := by
        intro U hU hW
        have := hpre U hU hW
        rw [List.map_cons, hvb] at this
        exact this
      have hlen2 : (as.map (am_c G)).length = na - 1 := by
        rw [List.length_map]
        simp at hlenA
        omega
      have hM' := hM c1
      rw [c5] at m1
      have hwk : am_wk j = Cond.code (am_my j) (am_mb j) (am_p j).2.1 none :: am_wd := by
        unfold am_wk
        rw [c5]
      have hgi : GoodIn am_wd (am_wk j) := am_goodIn (by rw [c5]; exact m1)
      by_cases hz : fl = 4
      · rw [if_pos hz] at c6
        exact ⟨_, va_runI (As := as.map (am_c G)) (rest := (S.drop na).map (am_c G)) (b := b) hfix hM' ⟨callB_of (na - 1) hts hgi hwk rfl rfl (hwd _ m2) (hwd _ c6) ⟨m3.1, m3.2, c2.2⟩ (hRm _ m5), c4, hwd _ c3⟩ ⟨am_blind, hpre'⟩ rfl hlen2 hl.1 hst hroom hdec hcs⟩
      · rw [if_neg hz] at c6
        exact ⟨_, va_runIN (As := as.map (am_c G)) (rest := (S.drop na).map (am_c G)) (b := b) (host := "OrderMerge") hfix hM' ⟨va_cnB (na - 1) hts hgi hwk rfl rfl (hK.2.1 _ c6) (hwd _ m2) ⟨m3.1, m3.2, c2.2⟩ (hRm _ m5), c4, hwd _ c3⟩ ⟨am_blind, hpre'⟩ rfl hlen2 hl.1 hst hroom hdec hcs⟩
set_option maxHeartbeats 8000000 in
set_option maxRecDepth 100000 in
/-- THE MACHINE FOLLOWS -/
theorem am_snd {G : am_G} {l : Launch} (hcl : ∀ ci, ci < 13 → am_cls ci) (hgl : am_gl) (hck : ∀ k pc e, (am_p k).1[pc]? = some (some e) → am_ok k pc e) : ∀ (n d k : Nat) (f : am_F) (r : Option am_V) (h' : am_H), am_X am_byt am_p n d k f (fun r' h'' => r' = r ∧ h'' = h') → am_rok k →
    ∀ (p : Program) (e : Env) (R : Room) (s : State) (m : MethodId) (args : Array Value) (below : List Frame) (meth : Method) (c : Code) (H : Heap) (locs : List Loc) (ls : Array Slot) (n0 s0 : Nat), am_Ctx G p s m args meth c k n0 → (Cond.native arraycopyName).before #[] s = true → am_St G s k f.2.2.2 f.2.1 H locs ls → n0 ≤ h_n f.2.2.2 → s0 ≤ h_s f.2.2.2 → h_n h' - n0 ≤ R.cells → h_s h' - s0 ≤ R.slots → d + 1 ≤ R.frames → 100 * (d + 1) ≤ R.locals → W p l e R s m args below meth c H locs (h_n f.2.2.2 - n0) (h_s f.2.2.2 - s0) (MQ below (am_Qc G r h') args s (h_n h' - n0) (h_s h' - s0) (am_A (g_B G))) (F0 m f.1 ls (f.2.2.1.map (am_c G))) := by
  intro n
  induction n with
  | zero =>
    intro d k f r h' hX
    exact hX.elim
  | succ n ih =>
    intro d k f r h' hX hrk p e R s m args below meth c H locs ls n0 s0 C hnat St hn0 hs0 hR1 hR2 hfr hlo
    obtain ⟨pc, L, S, h⟩ := f
    have hgr : ∀ {n d k : Nat} {f : am_F} {r : Option am_V} {h' : am_H}, am_X am_byt am_p n d k f (fun r' h'' => r' = r ∧ h'' = h') → h_n f.2.2.2 ≤ h_n h' ∧ h_s f.2.2.2 ≤ h_s h' := by
      intro n d k f r h' hX
      obtain ⟨r0, h0, ⟨⟨-, e0⟩, e1⟩, -⟩ := am_det n (am_grow n hX)
      rw [← e0]
      exact e1
    dsimp only at St hn0 hs0 ⊢
    unfold am_X at hX
    split at hX
    · rename_i e0 he
      obtain ⟨ok1, ok2, ok3⟩ := hck k pc e0 he
      split at hX
      · rename_i hisr
        split at hX
        · rename_i rr hret
          obtain ⟨hp, e1, e2⟩ := hX
          dsimp only at e2
          subst e2
          subst e1
          refine am_retW C hrk ?_ hret hp St hn0
          have hil : am_il e0.1 e0.2.1.1 = 1 := by
            revert hisr
            generalize e0.1 = i0
            intro hisr
            cases i0 <;> first | rfl | cases hisr
          rw [hil] at ok1
          exact ok1
        · exact hX.elim
      · split at hX
        · rename_i c0 hcall
          obtain ⟨j, na, ci, fl⟩ := c0
          obtain ⟨hcok, hX⟩ := hX
          cases d with
          | zero => exact hX.elim
          | succ d =>
            dsimp only at hX hcok
            obtain ⟨r1, h1, hX2, hX1⟩ := am_det n hX
            have g1 := hgr hX1
            have g2 := hgr hX2
            dsimp only at g1 g2
            obtain ⟨hP, hS, hl, hLn, hlg, hhx⟩ := id St
            obtain ⟨hx, hb, hml, hr, hown, hts, hlk, hnm, hK, hXH, hxo, hsz⟩ := id C
            refine am_sizeEq hsz hn0 hP hS.1 fun hHs => ?_
            obtain ⟨a', hrun⟩ := am_callW (d := d) (R := R) (e := e) (l := l) (below := below) C hcl hgl ok1 ok3 hcall hcok St hHs hn0 hs0 (by omega) (by omega) g1.1 g1.2 (by omega) (by omega) (fun hm => am_met (n := 0) (fun p e R s m args below meth c H locs ls n0 s0 => ih d j _ r1 h1 hX1 hm.2.2.2.2.2 p e R s m args below meth c H locs ls n0 s0) hxo hm hcok.1.2.2.1 hcok.1.2.2.2)
            refine am_behind hrun hS (by omega) (by omega) (fun H1 locs1 q1 q2 q3 => ?_)
            have z := ih (d + 1) k _ r h' hX2 hrk p e R s m args below meth c H1 locs1 ls n0 s0 C hnat ⟨q1, q2, hl, hLn, hlg, q3⟩ (by show n0 ≤ h_n h1; omega) (by show s0 ≤ h_s h1; omega) hR1 hR2 hfr hlo
            dsimp only at z
            rw [show h_n h - n0 + (h_n h1 - h_n h) = h_n h1 - n0 by omega, show h_s h - s0 + (h_s h1 - h_s h) = h_s h1 - s0 by omega]
            rw [List.map_append] at z
            cases r1 with
            | none => exact z
            | some v => exact z
        · split at hX
          · rename_i g hg
            have hok : am_all g.1 True := am_all_imp (fun _ => trivial) hX
            have hX' := am_all_last hX
            obtain ⟨ok, pc', L', S', h1⟩ := g
            have g1 := am_grow1 hg
            have g2 := hgr hX'
            dsimp only at g1 g2 hok hX' hg
            obtain ⟨i0, ⟨len, ea, eb, ec, ed⟩, ev, elv, etab⟩ := e0
            have kk : ∀ (H' : Heap) (locs' : List Loc) (ls' : Array Slot), am_St G s k h1 L' H' locs' ls' → W p l e R s m args below meth c H' locs' (h_n h1 - n0) (h_s h1 - s0) (MQ below (am_Qc G r h') args s (h_n h' - n0) (h_s h' - s0) (am_A (g_B G))) (F0 m pc' ls' (S'.map (am_c G))) :=
              fun H' locs' ls' St' => ih d k (pc', L', S', h1) r h' hX' hrk p e R s m args below meth c H' locs' ls' n0 s0 C hnat St' (by show n0 ≤ h_n h1; omega) (by show s0 ≤ h_s h1; omega) hR1 hR2 hfr hlo
            cases hpl : am_pl i0 with
            | true => exact am_one1 C hcl i0 len ea eb ec ed ev elv etab ok1 ok2 hg hok St hn0 hs0 ⟨by omega, by omega⟩ ⟨by omega, by omega⟩ hpl kk
            | false => exact am_one2 C hcl i0 len ea eb ec ed ev elv etab ok1 ok2 hg hok St hn0 hs0 ⟨by omega, by omega⟩ ⟨by omega, by omega⟩ hgl (C.2.2.2.2.2.1 _ (am_natw hgl)) hpl kk
          · exact hX.elim
    · exact hX.elim
