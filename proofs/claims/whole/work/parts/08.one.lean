/-! ===== am_one: the steps that read or write the heap ===== -/
/-- words that hold once and for all -/
def am_gl : Prop := Cond.instanceMethod Lib.objectInit ∈ am_wd ∧ Cond.code Lib.objectInit ⟨#[0xb1]⟩ 1 none ∈ am_wd ∧ Cond.native arraycopyName ∈ lw_tbl ∧ Cond.static arraycopyName ∈ am_wd ∧ Cond.initialized "java/lang/System" ∈ am_wd ∧ Cond.static Lib.Math.max.name ∈ am_wd ∧ Cond.static Lib.Math.min.name ∈ am_wd ∧ Cond.initialized "java/lang/Math" ∈ am_wd ∧ Cond.code Lib.Math.max.name Lib.Math.max.code 2 (some .int) ∈ am_wd ∧ Cond.code Lib.Math.min.name Lib.Math.min.code 2 (some .int) ∈ am_wd
section AMV
variable {pc : Nat} {L : am_L} {S : List am_V} {h : am_H} {ok : List Prop} {g : am_F}
theorem so_get {ci k ty : Nat} (hs : k_get pc L S h ci k ty = some (ok, g)) : (∃ x r, S = .inr (.inr (.inl x)) :: r ∧ ci < 20 ∧ ok = [am_is h x ci] ∧ g = (pc, L, am_fv h (x.getD 0) k ty :: r, h)) ∨ (∃ x r, S = .inr (.inr (.inr x)) :: r ∧ ci = 50 ∧ x < 3 ∧ ((k = 0 ∧ g = (pc, L, .inr (.inr (.inr (10 + x))) :: r, h)) ∨ (k ≠ 0 ∧ g = (pc, L, .inl 0 :: r, h)))) := by
  unfold k_get at hs
  split at hs
  · split at hs
    · have hs := Option.some.inj hs
      have h1 := (Prod.mk.inj hs).1
      have h2 := (Prod.mk.inj hs).2
      subst h1
      subst h2
      exact Or.inl ⟨_, _, rfl, by assumption, rfl, rfl⟩
    · cases hs
  · split at hs
    · split at hs
      · split at hs
        · have hs := Option.some.inj hs
          have h2 := (Prod.mk.inj hs).2
          subst h2
          exact Or.inr ⟨_, _, rfl, by assumption, by assumption, Or.inl ⟨by assumption, rfl⟩⟩
        · have hs := Option.some.inj hs
          have h2 := (Prod.mk.inj hs).2
          subst h2
          exact Or.inr ⟨_, _, rfl, by assumption, by assumption, Or.inr ⟨by assumption, rfl⟩⟩
      · cases hs
    · cases hs
  · cases hs
theorem so_put {ci k ty : Nat} {bo : Bool} (hs : k_put pc L S h ci k ty bo = some (ok, g)) : (∃ v x r, S = .inl v :: .inr (.inr (.inl x)) :: r ∧ ty = 0 ∧ ok = (if bo = true then [am_is h x ci, v = 0 ∨ v = 1] else [am_is h x ci]) ∧ g = (pc, L, r, p_i h (x.getD 0) k v)) ∨ (∃ v x r, S = .inr (.inl v) :: .inr (.inr (.inl x)) :: r ∧ ty = 1 ∧ ok = [am_is h x ci] ∧ g = (pc, L, r, p_j h (x.getD 0) k v)) ∨ (∃ v x r, S = .inr (.inr (.inl v)) :: .inr (.inr (.inl x)) :: r ∧ ty = 2 ∧ ok = [am_is h x ci] ∧ g = (pc, L, r, p_r h (x.getD 0) k v)) := by
  unfold k_put at hs
  split at hs
  · split at hs
    · have hs := Option.some.inj hs
      have h1 := (Prod.mk.inj hs).1
      have h2 := (Prod.mk.inj hs).2
      subst h1
      subst h2
      exact Or.inl ⟨_, _, _, rfl, by assumption, rfl, rfl⟩
    · cases hs
  · split at hs
    · have hs := Option.some.inj hs
      have h1 := (Prod.mk.inj hs).1
      have h2 := (Prod.mk.inj hs).2
      subst h1
      subst h2
      exact Or.inr (Or.inl ⟨_, _, _, rfl, by assumption, rfl, rfl⟩)
    · cases hs
  · split at hs
    · have hs := Option.some.inj hs
      have h1 := (Prod.mk.inj hs).1
      have h2 := (Prod.mk.inj hs).2
      subst h1
      subst h2
      exact Or.inr (Or.inr ⟨_, _, _, rfl, by assumption, rfl, rfl⟩)
    · cases hs
  · cases hs
theorem so_iald (hs : k_iald pc L S h = some (ok, g)) : (∃ i x r, S = .inl i :: .inr (.inr (.inl x)) :: r ∧ ok = [am_ar h x 20 i] ∧ g = (pc, L, .inl (h_i h (x.getD 0) i.toNatClampNeg) :: r, h)) ∨ (∃ i r, S = .inl i :: .inr (.inr (.inr 20)) :: r ∧ ok = [vp_in i (h_x h).1] ∧ g = (pc, L, .inl ((h_x h).2 i.toNatClampNeg) :: r, h)) := by
  unfold k_iald at hs
  split at hs
  · have hs := Option.some.inj hs
    have h1 := (Prod.mk.inj hs).1
    have h2 := (Prod.mk.inj hs).2
    subst h1
    subst h2
    exact Or.inl ⟨_, _, _, rfl, rfl, rfl⟩
  · split at hs
    · rename_i e
      subst e
      have hs := Option.some.inj hs
      have h1 := (Prod.mk.inj hs).1
      have h2 := (Prod.mk.inj hs).2
      subst h1
      subst h2
      exact Or.inr ⟨_, _, rfl, rfl, rfl⟩
    · cases hs
  · cases hs
theorem so_bald {byt : List (List Int32)} {a : Nat} (hs : k_bald pc L S h byt a = some (ok, g)) : (∃ i x r, S = .inl i :: .inr (.inr (.inl x)) :: r ∧ (a = 21 ∨ a = 22) ∧ ok = [am_ar h x a i] ∧ g = (pc, L, .inl (h_i h (x.getD 0) i.toNatClampNeg) :: r, h)) ∨ (∃ i x r, S = .inl i :: .inr (.inr (.inr x)) :: r ∧ (10 ≤ x ∧ x < 13) ∧ ok = [vp_in i (byt.getD (x - 10) []).length] ∧ g = (pc, L, .inl ((byt.getD (x - 10) []).getD i.toNatClampNeg 0) :: r, h)) := by
  unfold k_bald at hs
  split at hs
  · split at hs
    · have hs := Option.some.inj hs
      have h1 := (Prod.mk.inj hs).1
      have h2 := (Prod.mk.inj hs).2
      subst h1
      subst h2
      exact Or.inl ⟨_, _, _, rfl, by assumption, rfl, rfl⟩
    · cases hs
  · split at hs
    · have hs := Option.some.inj hs
      have h1 := (Prod.mk.inj hs).1
      have h2 := (Prod.mk.inj hs).2
      subst h1
      subst h2
      exact Or.inr ⟨_, _, _, rfl, by assumption, rfl, rfl⟩
    · cases hs
  · cases hs
theorem so_bast {a : Nat} (hs : k_bast pc L S h a = some (ok, g)) : ∃ v i x r, S = .inl v :: .inl i :: .inr (.inr (.inl x)) :: r ∧ ok = [am_ar h x a i] ∧ ((a = 21 ∧ g = (pc, L, r, p_i h (x.getD 0) i.toNatClampNeg (vp_nar .byte v))) ∨ (a = 22 ∧ g = (pc, L, r, p_i h (x.getD 0) i.toNatClampNeg (vp_nar .boolean v)))) := by
  unfold k_bast at hs
  split at hs
  · split at hs
    · rename_i e
      subst e
      have hs := Option.some.inj hs
      have h1 := (Prod.mk.inj hs).1
      have h2 := (Prod.mk.inj hs).2
      subst h1
      subst h2
      exact ⟨_, _, _, _, rfl, rfl, Or.inl ⟨rfl, rfl⟩⟩
    · split at hs
      · rename_i e
        subst e
        have hs := Option.some.inj hs
        have h1 := (Prod.mk.inj hs).1
        have h2 := (Prod.mk.inj hs).2
        subst h1
        subst h2
        exact ⟨_, _, _, _, rfl, rfl, Or.inr ⟨rfl, rfl⟩⟩
      · cases hs
  · cases hs
theorem so_len {byt : List (List Int32)} (hs : k_len pc L S h byt = some (ok, g)) : (∃ x r, S = .inr (.inr (.inl x)) :: r ∧ ok = [am_an h x] ∧ g = (pc, L, .inl (nI (h_l h (x.getD 0))) :: r, h)) ∨ (∃ r, S = .inr (.inr (.inr 20)) :: r ∧ g = (pc, L, .inl (nI (h_x h).1) :: r, h)) ∨ (∃ x r, S = .inr (.inr (.inr x)) :: r ∧ (10 ≤ x ∧ x < 13) ∧ g = (pc, L, .inl (nI (byt.getD (x - 10) []).length) :: r, h)) := by
  unfold k_len at hs
  split at hs
  · have hs := Option.some.inj hs
    have h1 := (Prod.mk.inj hs).1
    have h2 := (Prod.mk.inj hs).2
    subst h1
    subst h2
    exact Or.inl ⟨_, _, rfl, rfl, rfl⟩
  · split at hs
    · rename_i e
      subst e
      have hs := Option.some.inj hs
      have h2 := (Prod.mk.inj hs).2
      subst h2
      exact Or.inr (Or.inl ⟨_, rfl, rfl⟩)
    · split at hs
      · have hs := Option.some.inj hs
        have h2 := (Prod.mk.inj hs).2
        subst h2
        exact Or.inr (Or.inr ⟨_, _, rfl, by assumption, rfl⟩)
      · cases hs
  · cases hs
end AMV
theorem am_bl (x : Nat) (h : x < 3) : am_len.getD x 0 = (am_byt.getD x []).length := by
  rcases (show x = 0 ∨ x = 1 ∨ x = 2 by omega) with rfl | rfl | rfl <;> rfl
theorem am_w_cat {G : am_G} (hx : am_xo G) : ∀ r : List am_V, ((r.map (am_c G)).map fun v => v.category).sum = am_w r := by
  intro r
  induction r with
  | nil => rfl
  | cons v r ih =>
    simp only [List.map_cons, List.sum_cons, ih]
    match v with
    | .inl x => rfl
    | .inr (.inl x) => rfl
    | .inr (.inr x) =>
      rcases am_rf hx x with z | ⟨q, z⟩ <;> rw [z] <;> rfl
theorem am_ce_put {B : Nat} {xv : Nat → Value} {cy : Nat → ClassId} {h h' : am_H} {o a b : Nat} {w : am_V} (ha : a < 20) (hk : h_k h o = a) (hk' : h_k h' o = a) (h1 : am_fv h' o b (am_ft a b) = w) (h2 : ∀ k, k ≠ b → am_fv h' o k (am_ft a k) = am_fv h o k (am_ft a k)) :
    am_ce B xv cy h' o = .inr (a, ((List.range (am_fn a)).map (fun k => am_cv B xv (am_fv h o k (am_ft a k)))).set b (am_cv B xv w)) := by
  rw [am_ce_ob hk' ha]
  congr 2
  apply List.ext_getElem?
  intro k
  by_cases hb : k = b
  · subst hb
    by_cases hl : k < am_fn a
    · rw [List.getElem?_set_self (by simpa using hl)]
      simp [List.getElem?_map, List.getElem?_range, hl, h1]
    · rw [List.getElem?_eq_none (by simpa using hl), List.getElem?_eq_none (by simpa using hl)]
  · rw [List.getElem?_set_ne (fun q => hb q.symm)]
    by_cases hl : k < am_fn a
    · simp [List.getElem?_map, List.getElem?_range, hl, h2 k hb]
    · rw [List.getElem?_eq_none (by simpa using hl), List.getElem?_eq_none (by simpa using hl)]
theorem am_fv_i {h : am_H} {o b k t : Nat} {v : Int32} (hk : k ≠ b) : am_fv (p_i h o b v) o k t = am_fv h o k t := by
  match t with
  | 0 => simp [am_fv, p_i, p_a, h_i, am_up, hk]
  | 1 => rfl
  | _ + 2 => rfl
theorem am_fv_j {h : am_H} {o b k t : Nat} {v : Int64} (hk : k ≠ b) : am_fv (p_j h o b v) o k t = am_fv h o k t := by
  match t with
  | 0 => rfl
  | 1 => simp [am_fv, p_j, p_b, h_j, am_up, hk]
  | _ + 2 => rfl
theorem am_fv_r {h : am_H} {o b k t : Nat} {v : Option Nat} (hk : k ≠ b) : am_fv (p_r h o b v) o k t = am_fv h o k t := by
  match t with
  | 0 => rfl
  | 1 => rfl
  | _ + 2 => simp [am_fv, p_r, p_c, h_r, am_up, hk]
theorem am_g_ii {G : am_G} {h : am_H} {o c : Nat} (ho : o < h_n h) (hk : h_k h o = c) (h1 : 20 ≤ c) (h2 : c < 23) : (am_W G h)[o]? = some (g_B G + o, .inl (g_cy G c, h_l h o, .inl (h_i h o))) := by
  rw [am_ws_get ho, am_ce_ii hk h1 h2]
theorem am_g_jj {G : am_G} {h : am_H} {o : Nat} (ho : o < h_n h) (hk : h_k h o = 23) : (am_W G h)[o]? = some (g_B G + o, .inl (g_cy G 23, h_l h o, .inr (.inl (h_j h o)))) := by
  rw [am_ws_get ho, am_ce_jj hk]
theorem am_g_rr {G : am_G} {h : am_H} {o c : Nat} (ho : o < h_n h) (hk : h_k h o = c) (h1 : 23 < c) : (am_W G h)[o]? = some (g_B G + o, .inl (g_cy G c, h_l h o, .inr (.inr (.inr (.inr (fun k => (h_r h o k).map (g_B G + ·))))))) := by
  rw [am_ws_get ho, am_ce_rr hk h1]
theorem am_g_ob {G : am_G} {h : am_H} {o c : Nat} (ho : o < h_n h) (hk : h_k h o = c) (h1 : c < 20) : (am_W G h)[o]? = some (g_B G + o, .inr (c, (List.range (am_fn c)).map (fun k => am_cv (g_B G) (g_xv G) (am_fv h o k (am_ft c k))))) := by
  rw [am_ws_get ho, am_ce_ob hk h1]
set_option maxHeartbeats 4000000 in
/-- a field put -/
theorem am_putf {G : am_G} {p : Program} {l : Launch} {e : Env} {R : Room} {s : State} {m : MethodId} {args : Array Value} {below : List Frame} {meth : Method} {c : Code} {H : Heap} {locs : List Loc} {ls : Array Slot} {Q : State → Prop} {k n0 s0 pc : Nat} {L : am_L} {r : List am_V} {h h' : am_H} (C : am_Ctx G p s m args meth c k n0) (hcl : ∀ ci, ci < 13 → am_cls ci) {i len a b cc d : Nat} {v : Int32} {lv : Int64} {tab : List (Int32 × Nat)} (hdec : decode (am_mb k) pc = .ok (.putfield i, 3)) (hc : am_cond k pc (.putfield i, (len, a, b, cc, d), v, lv, tab)) (St : am_St G s k h L H locs ls) {o : Nat} {w : am_V} (ho : o < h_n h) (hk : h_k h o = a)
    (e1 : h_n h' = h_n h) (e2 : h_s h' = h_s h) (e3 : ∀ j, j ≠ o → am_ce (g_B G) (g_xv G) (g_cy G) h' j = am_ce (g_B G) (g_xv G) (g_cy G) h j) (e4 : h_k h' o = a) (e5 : am_fv h' o b cc = w) (e6 : ∀ j t, j ≠ b → am_fv h' o j t = am_fv h o j t) (e7 : h_x h' = h_x h) (hn : narrow (am_ty a b) (am_c G w) = am_c G w) (hf : fits (am_ty a b) (am_c G w) = true)
    (kk : ∀ (H' : Heap) (locs' : List Loc) (ls' : Array Slot), am_St G s k h' L H' locs' ls' → W p l e R s m args below meth c H' locs' (h_n h' - n0) (h_s h' - s0) Q (F0 m (pc + 3) ls' (r.map (am_c G)))) :
    W p l e R s m args below meth c H locs (h_n h - n0) (h_s h - s0) Q (F0 m pc ls (am_c G w :: .ref (g_B G + o) :: r.map (am_c G))) := by
  obtain ⟨hx, hb, hml, hr, hown, hts, hlk, hnm, hK, hXH, hxo, hsz⟩ := id C
  obtain ⟨hP, hS, hl, hLn, hlg, hhx⟩ := id St
  have hwd : ∀ w ∈ am_wd, w.before args s = true := hts
  obtain ⟨c1, c2, c3, c4, c5⟩ := hc
  dsimp only at c1 c2 c3 c5
  obtain ⟨u1, u2, u3, u4, u5, u6, u7, u8⟩ := hcl a c1
  have he : (am_W G h)[o]? = some (g_B G + o, .inr (a, (List.range (am_fn a)).map (fun k => am_cv (g_B G) (g_xv G) (am_fv h o k (am_ft a k))))) := by
    rw [am_ws_get ho, am_ce_ob hk (by omega)]
  have hD : va_D (am_A (g_B G)) (am_W G h) := am_D (fun q z => z)
  have hset : (am_W G h).set o (g_B G + o, .inr (a, ((List.range (am_fn a)).map (fun k => am_cv (g_B G) (g_xv G) (am_fv h o k (am_ft a k)))).set b (am_c G w))) = am_W G h' := by
    rw [← am_ce_put (cy := g_cy G) (by omega) hk e4 (by rw [c3]; exact e5) (fun j hj => e6 j _ hj)]
    exact am_ws_put e1 ho e3
  have hlen : b < ((List.range (am_fn a)).map (fun k => am_cv (g_B G) (g_xv G) (am_fv h o k (am_ft a k)))).length := by
    simp only [List.length_map, List.length_range, u7]
    exact c2
  have fin : ∀ (H1 : Heap) (locs1 : List Loc), va_P (g_D G) am_cl ((am_W G h).set o (g_B G + o, .inr (a, ((List.range (am_fn a)).map (fun k => am_cv (g_B G) (g_xv G) (am_fv h o k (am_ft a k)))).set b (am_c G w)))) H1 → va_D (am_A (g_B G)) ((am_W G h).set o (g_B G + o, .inr (a, ((List.range (am_fn a)).map (fun k => am_cv (g_B G) (g_xv G) (am_fv h o k (am_ft a k)))).set b (am_c G w)))) → va_S (am_A (g_B G)) s.heap H1 locs1 → W p l e R s m args below meth c H1 locs1 (h_n h - n0) (h_s h - s0) Q (F0 m (pc + 3) ls (r.map (am_c G))) := by
    intro H1 locs1 q1 q2 q3
    have z := kk H1 locs1 ls ⟨by rw [← hset]; exact q1, q3, hl, hLn, hlg, by rw [e7]; exact hhx⟩
    rw [e1, e2] at z
    exact z
  by_cases hd : d < 10
  · rw [if_pos hd] at c5
    obtain ⟨c6, c7 | ⟨c7, c8, c9⟩⟩ := c5
    · exact va_put (C := (am_T a).1) (T := (am_T a).2.1) (N := (am_T a).2.2) hx hb hwd u1 (am_ty a) u2 u3 hown hK.1 hP hD hS o he u6 b c2 (hwd _ c6) (fun _ z => z) c7 (u2 b c2) hn hf hlen hdec fin
    · exact va_putF (C := (am_T a).1) (T := (am_T a).2.1) (N := (am_T a).2.2) hx hb hwd u1 (am_ty a) u2 u3 hown hK.1 hP hD hS o he u6 b c2 (hwd _ c6) (fun _ z => z) c9 (hnm c7) c8 (u2 b c2) hn hf hlen hdec fin
  · rw [if_neg hd] at c5
    exact va_putN (C := (am_T a).1) (T := (am_T a).2.1) (N := (am_T a).2.2) (host := "OrderMerge") hx hb hwd u1 (am_ty a) u2 u3 hown hK.1 hP hD hS o he u6 b c2 (va_Nw.use rfl (hK.2.1 _ c5.1)) (fun _ z => z) c5.2 (u2 b c2) hn hf hlen hdec fin
theorem am_newq {G : am_G} {p : Program} {l : Launch} {e : Env} {R : Room} {s : State} {m : MethodId} {args : Array Value} {below : List Frame} {meth : Method} {c : Code} {H1 : Heap} {locs : List Loc} {cells slots : Nat} {Q : State → Prop} {h : am_H} {n0 q : Nat} {x : va_E} {g : JFrame} (hsz : s.heap.size = g_B G + n0) (hn0 : n0 ≤ h_n h) (hcells : cells = h_n h - n0 + 1) (hP1 : va_P (g_D G) am_cl (am_W G h ++ [(q, x)]) H1) (hD1 : va_D (am_A (g_B G)) (am_W G h ++ [(q, x)])) (kk : q = g_B G + h_n h → W p l e R s m args below meth c H1 locs cells slots Q g) : W p l e R s m args below meth c H1 locs cells slots Q g := by
  refine am_W_size fun hH => kk ?_
  have hq : (am_W G h ++ [(q, x)])[h_n h]? = some (q, x) := by
    rw [List.getElem?_append_right (by rw [am_ws_len]; exact Nat.le_refl _), am_ws_len, Nat.sub_self]
    rfl
  have h1 : q < H1.size := (hP1 _ _ hq).lt
  have h2 : g_B G ≤ q := hD1.2 _ _ hq
  rcases Nat.lt_or_ge q (g_B G + h_n h) with h3 | h3
  · have hi : q - g_B G < h_n h := by omega
    have h4 : (am_W G h ++ [(q, x)])[q - g_B G]? = some (g_B G + (q - g_B G), am_ce (g_B G) (g_xv G) (g_cy G) h (q - g_B G)) := by
      rw [List.getElem?_append_left (by rw [am_ws_len]; exact hi)]
      exact am_ws_get hi
    have := hD1.1 _ _ _ _ h4 hq (by dsimp only; omega)
    omega
  · rw [hsz, hcells] at hH
    omega

set_option maxHeartbeats 4000000 in
set_option maxRecDepth 100000 in
theorem am_one2 {G : am_G} {p : Program} {l : Launch} {e : Env} {R : Room} {s : State} {m : MethodId} {args : Array Value} {below : List Frame} {meth : Method} {c : Code} {H : Heap} {locs : List Loc} {ls : Array Slot} {Q : State → Prop} {k n0 s0 pc pc' : Nat} {L L' : am_L} {S S' : List am_V} {h h' : am_H} {ok : List Prop} (C : am_Ctx G p s m args meth c k n0) (hcl : ∀ ci, ci < 13 → am_cls ci) (i0 : Instr) (len a b cc d : Nat) (v : Int32) (lv : Int64) (tab : List (Int32 × Nat)) (hdec : decode (am_mb k) pc = .ok (i0, am_il i0 len)) (hc : am_cond k pc (i0, (len, a, b, cc, d), v, lv, tab)) (hs : am_step am_byt (i0, (len, a, b, cc, d), v, lv, tab) pc L S h = some (ok, (pc', L', S', h'))) (hok : am_all ok True) (St : am_St G s k h L H locs ls) (hn0 : n0 ≤ h_n h) (hs0 : s0 ≤ h_s h) (hR : h_n h' - n0 ≤ R.cells ∧ h_s h' - s0 ≤ R.slots) (hfr : 1 ≤ R.frames ∧ 100 ≤ R.locals) (hgl : am_gl) (hnat : (Cond.native arraycopyName).before args s = true) (hpl : am_pl i0 = false)
    (kk : ∀ (H' : Heap) (locs' : List Loc) (ls' : Array Slot), am_St G s k h' L' H' locs' ls' → W p l e R s m args below meth c H' locs' (h_n h' - n0) (h_s h' - s0) Q (F0 m pc' ls' (S'.map (am_c G)))) :
    W p l e R s m args below meth c H locs (h_n h - n0) (h_s h - s0) Q (F0 m pc ls (S.map (am_c G))) := by
  obtain ⟨hx, hb, hml, hr, hown, hts, hlk, hnm, hK, hXH, hxo, hsz⟩ := id C
  obtain ⟨hP, hS, hl, hLn, hlg, hhx⟩ := id St
  have hwd : ∀ w ∈ am_wd, w.before args s = true := hts
  cases i0 with
  | getfield i =>
    have hs : k_get (pc + 3) L S h a b cc = some (ok, (pc', L', S', h')) := hs
    rcases so_get hs with ⟨x, r, rfl, ha, rfl, hg⟩ | ⟨x, r, rfl, ha, hx3, hg⟩
    · cases hg
      obtain ⟨⟨o, rfl, ho, hk⟩, -⟩ := hok
      have hc : if a = 50 then _ else _ := hc
      rw [if_neg (by omega)] at hc
      obtain ⟨c1, c2, c3, c5⟩ := hc
      dsimp only at c1 c2 c3 c5
      obtain ⟨u1, u2, u3, u4, u5, u6, u7, u8⟩ := hcl a c1
      have he : (am_W G h)[o]? = some (g_B G + o, .inr (a, (List.range (am_fn a)).map (fun k => am_cv (g_B G) (g_xv G) (am_fv h o k (am_ft a k))))) := by
        rw [am_ws_get ho, am_ce_ob hk (by omega)]
      have hv : ((List.range (am_fn a)).map (fun k => am_cv (g_B G) (g_xv G) (am_fv h o k (am_ft a k))))[b]? = some (am_c G (am_fv h o b cc)) := by
        rw [List.getElem?_map, List.getElem?_range (by rw [u7]; exact c2), ← c3]
        rfl
      by_cases hd : d < 10
      · rw [if_pos hd] at c5
        exact va_get (C := (am_T a).1) (T := (am_T a).2.1) (N := (am_T a).2.2) hx hb hwd u1 hown hK.1 hP o he u6 b c2 (hwd _ c5) (fun _ z => z) hv hdec (kk H locs ls ⟨hP, hS, hl, hLn, hlg, hhx⟩)
      · rw [if_neg hd] at c5
        exact va_getN (C := (am_T a).1) (T := (am_T a).2.1) (N := (am_T a).2.2) (host := "OrderMerge") hx hb hwd u1 hown hK.1 hP o he u6 b c2 (va_Nw.use rfl (hK.2.1 _ c5)) (fun _ z => z) hv hdec (kk H locs ls ⟨hP, hS, hl, hLn, hlg, hhx⟩)
    · have hc : if a = 50 then _ else _ := hc
      rw [if_pos ha] at hc
      have e0 : am_c G (.inr (.inr (.inr x))) = .ref (g_K G x) := hxo.1 x hx3
      rw [List.map_cons, e0]
      rcases hg with ⟨hb0, hg⟩ | ⟨hb0, hg⟩
      · cases hg
        have z := kk H locs ls ⟨hP, hS, hl, hLn, hlg, hhx⟩
        rw [List.map_cons, show am_c G (.inr (.inr (.inr (10 + x)))) = .ref (g_V G x) from hxo.2.1 x hx3] at z
        exact vk_getf hx hb (hXH.2.2.2.1.1 x hx3).2.2.1 hS hown (hwd _ (hc.1 hb0)) (fun _ z => z) hdec z
      · cases hg
        exact vk_getf hx hb (hXH.2.2.2.1.1 x hx3).2.1 hS hown (hwd _ (hc.2 hb0)) (fun _ z => z) hdec (kk H locs ls ⟨hP, hS, hl, hLn, hlg, hhx⟩)
  | putfield i =>
    have hs : k_put (pc + 3) L S h a b cc (d % 10 == 5) = some (ok, (pc', L', S', h')) := hs
    obtain ⟨c1, c2, c3, c4, c5⟩ := id hc
    dsimp only at c1 c2 c3 c4 c5
    obtain ⟨u1, u2, u3, u4, u5, u6, u7, u8⟩ := hcl a c1
    rcases so_put hs with ⟨w, x, r, rfl, ht, rfl, hg⟩ | ⟨w, x, r, rfl, ht, rfl, hg⟩ | ⟨w, x, r, rfl, ht, rfl, hg⟩
    · cases hg
      have hfit : narrow (am_ty a b) (.int w) = .int w ∧ fits (am_ty a b) (.int w) = true := by
        rcases u8 b c2 with ⟨-, h1 | h1⟩ | ⟨h1, -⟩ | ⟨h1, -⟩
        · rw [h1]
          exact ⟨rfl, rfl⟩
        · have hbo : (d % 10 == 5) = true := by rw [c4, h1]; rfl
          rw [if_pos hbo] at hok
          rw [h1]
          rcases hok.2.1 with rfl | rfl <;> exact ⟨rfl, rfl⟩
        · omega
        · omega
      have hob : am_is h x a := by
        split at hok
        · exact hok.1
        · exact hok.1
      obtain ⟨o, rfl, ho, hk⟩ := hob
      exact am_putf C hcl hdec hc St (w := .inl w) (h' := p_i h o b w) ho hk rfl rfl (fun j hj => am_ce_pa hj) hk (by rw [ht]; simp [am_fv, p_i, p_a, h_i, am_up]) (fun j t hj => am_fv_i hj) rfl hfit.1 hfit.2 kk
    · cases hg
      obtain ⟨⟨o, rfl, ho, hk⟩, -⟩ := hok
      have hfit : narrow (am_ty a b) (.long w) = .long w ∧ fits (am_ty a b) (.long w) = true := by
        rcases u8 b c2 with ⟨h1, -⟩ | ⟨-, h1⟩ | ⟨h1, -⟩
        · omega
        · rw [h1]
          exact ⟨rfl, rfl⟩
        · omega
      exact am_putf C hcl hdec hc St (w := .inr (.inl w)) (h' := p_j h o b w) ho hk rfl rfl (fun j hj => am_ce_pb hj) hk (by rw [ht]; simp [am_fv, p_j, p_b, h_j, am_up]) (fun j t hj => am_fv_j hj) rfl hfit.1 hfit.2 kk
    · cases hg
      obtain ⟨⟨o, rfl, ho, hk⟩, -⟩ := hok
      have hfit : narrow (am_ty a b) (am_c G (.inr (.inr (.inl w)))) = am_c G (.inr (.inr (.inl w))) ∧ fits (am_ty a b) (am_c G (.inr (.inr (.inl w)))) = true := by
        rcases u8 b c2 with ⟨h1, -⟩ | ⟨h1, -⟩ | ⟨-, ⟨C', h1⟩ | ⟨t, h1⟩⟩
        · omega
        · omega
        · rw [h1]
          cases w <;> exact ⟨rfl, rfl⟩
        · rw [h1]
          cases w <;> exact ⟨rfl, rfl⟩
      exact am_putf C hcl hdec hc St (w := .inr (.inr (.inl w))) (h' := p_r h o b w) ho hk rfl rfl (fun j hj => am_ce_pc hj) hk (by rw [ht]; simp [am_fv, p_r, p_c, h_r, am_up]) (fun j t hj => am_fv_r hj) rfl hfit.1 hfit.2 kk
  | getstatic i =>
    have hs : k_gst (pc + 3) L S h a = some (ok, (pc', L', S', h')) := hs
    unfold k_gst at hs
    split at hs
    · rename_i ha
      cases hs
      exact va_gets hx hb hXH.2.2.2.2.1 hS hown (hwd _ (hc.1 ha)) (fun _ z => z) hdec (kk H locs ls ⟨hP, hS, hl, hLn, hlg, hhx⟩)
    · split at hs
      · rename_i ha
        cases hs
        exact va_gets hx hb hXH.2.2.2.2.2 hS hown (hwd _ (hc.2 ha)) (fun _ z => z) hdec (kk H locs ls ⟨hP, hS, hl, hLn, hlg, hhx⟩)
      · cases hs
  | iaload =>
    have hs : k_iald (pc + 1) L S h = some (ok, (pc', L', S', h')) := hs
    rcases so_iald hs with ⟨i, x, r, rfl, rfl, hg⟩ | ⟨i, r, rfl, rfl, hg⟩
    · cases hg
      obtain ⟨⟨o, rfl, ho, hk, hi⟩, -⟩ := hok
      exact va_iald hx hb hK.1 hP o 0 (am_g_ii ho hk (by omega) (by omega)) rfl hi hdec (kk H locs ls ⟨hP, hS, hl, hLn, hlg, hhx⟩)
    · cases hg
      have hX := hXH.1
      rw [show h_x h = _ from hhx] at hok
      have z := kk H locs ls ⟨hP, hS, hl, hLn, hlg, hhx⟩
      rw [show h_x h = _ from hhx] at z
      rw [List.map_cons, List.map_cons, show am_c G (.inr (.inr (.inr 20))) = .ref (g_b G) from hxo.2.2.1]
      exact va_sld hx hb hX (by have := hXH.2.1; have := hXH.2.2.1; omega) (fun z => by have := hXH.2.1; have z : g_B G ≤ g_b G := z; omega) hS hok.1 hdec z
  | baload =>
    have hs : k_bald (pc + 1) L S h am_byt a = some (ok, (pc', L', S', h')) := hs
    rcases so_bald hs with ⟨i, x, r, rfl, ha, rfl, hg⟩ | ⟨i, x, r, rfl, hx3, rfl, hg⟩
    · cases hg
      obtain ⟨⟨o, rfl, ho, hk, hi⟩, -⟩ := hok
      rcases ha with rfl | rfl
      · exact va_bald hx hb hK.1 hP o 1 (am_g_ii ho hk (by omega) (by omega)) rfl hi hdec (kk H locs ls ⟨hP, hS, hl, hLn, hlg, hhx⟩)
      · exact va_zald hx hb hK.1 hP o 2 (am_g_ii ho hk (by omega) (by omega)) rfl hi hdec (kk H locs ls ⟨hP, hS, hl, hLn, hlg, hhx⟩)
    · cases hg
      have e0 : am_c G (.inr (.inr (.inr x))) = .ref (g_V G (x - 10)) := by
        have := hxo.2.1 (x - 10) (by omega)
        rwa [show 10 + (x - 10) = x by omega] at this
      rw [List.map_cons, List.map_cons, e0]
      exact va_tb hx hb (hXH.2.2.2.1.1 (x - 10) (by omega)).2.2.2 hS (by rw [am_bl _ (by omega)]; exact hok.1) rfl hdec (kk H locs ls ⟨hP, hS, hl, hLn, hlg, hhx⟩)
  | laload =>
    have hs : k_lald (pc + 1) L S h = some (ok, (pc', L', S', h')) := hs
    obtain ⟨i, x, r, rfl, rfl, hg⟩ := so_lald hs
    cases hg
    obtain ⟨⟨o, rfl, ho, hk, hi⟩, -⟩ := hok
    exact va_lald hx hb hK.1 hP o 3 (am_g_jj ho hk) rfl hi hdec (kk H locs ls ⟨hP, hS, hl, hLn, hlg, hhx⟩)
  | aaload =>
    have hs : k_aald (pc + 1) L S h a = some (ok, (pc', L', S', h')) := hs
    obtain ⟨i, x, r, rfl, rfl, hg⟩ := so_aald hs
    cases hg
    obtain ⟨⟨o, rfl, ho, hk, hi⟩, -⟩ := hok
    rcases hc with hc | hc | hc
    · have hc : a = 1 := hc
      subst hc
      exact va_aldq hx hb hK.1 hP o 4 (am_g_rr ho hk (by omega)) rfl hi hdec (kk H locs ls ⟨hP, hS, hl, hLn, hlg, hhx⟩)
    · have hc : a = 2 := hc
      subst hc
      exact va_aldq hx hb hK.1 hP o 5 (am_g_rr ho hk (by omega)) rfl hi hdec (kk H locs ls ⟨hP, hS, hl, hLn, hlg, hhx⟩)
    · have hc : a = 9 := hc
      subst hc
      exact va_aldq hx hb hK.1 hP o 6 (am_g_rr ho hk (by omega)) rfl hi hdec (kk H locs ls ⟨hP, hS, hl, hLn, hlg, hhx⟩)
  | iastore =>
    have hs : k_iast (pc + 1) L S h = some (ok, (pc', L', S', h')) := hs
    obtain ⟨w, i, x, r, rfl, rfl, hg⟩ := so_iast hs
    cases hg
    obtain ⟨⟨o, rfl, ho, hk, hi⟩, -⟩ := hok
    refine va_iast hx hb hK.1 hP (am_D (fun q z => z)) hS o 0 (am_g_ii ho hk (by omega) (by omega)) rfl hi hdec (fun H1 locs1 q1 q2 q3 => kk H1 locs1 ls ⟨?_, q3, hl, hLn, hlg, hhx⟩)
    show va_P _ _ (am_W G (p_i h o i.toNatClampNeg w)) _
    rw [show am_W G _ = _ from (am_ws_put (h := h) (h' := p_i h o i.toNatClampNeg w) (o := o) rfl ho (fun j hj => am_ce_pa hj)).symm, am_ce_ii (h := p_i h o i.toNatClampNeg w) (show h_k _ o = 20 from hk) (by omega) (by omega)]
    rw [show h_i (p_i h o i.toNatClampNeg w) o = upd (h_i h o) i.toNatClampNeg w from by simp [h_i, p_i, p_a, am_up, upd]; rfl]
    exact q1
  | bastore =>
    have hs : k_bast (pc + 1) L S h a = some (ok, (pc', L', S', h')) := hs
    obtain ⟨w, i, x, r, rfl, rfl, hg⟩ := so_bast hs
    obtain ⟨⟨o, rfl, ho, hk, hi⟩, -⟩ := hok
    rcases hg with ⟨rfl, hg⟩ | ⟨rfl, hg⟩
    · cases hg
      refine va_bast hx hb hK.1 hP (am_D (fun q z => z)) hS o 1 (am_g_ii ho hk (by omega) (by omega)) rfl hi hdec (fun H1 locs1 q1 q2 q3 => kk H1 locs1 ls ⟨?_, q3, hl, hLn, hlg, hhx⟩)
      show va_P _ _ (am_W G (p_i h o i.toNatClampNeg (vp_nar .byte w))) _
      rw [show am_W G _ = _ from (am_ws_put (h := h) (h' := p_i h o i.toNatClampNeg (vp_nar .byte w)) (o := o) rfl ho (fun j hj => am_ce_pa hj)).symm, am_ce_ii (h := p_i h o i.toNatClampNeg (vp_nar .byte w)) (show h_k _ o = 21 from hk) (by omega) (by omega)]
      rw [show h_i (p_i h o i.toNatClampNeg (vp_nar .byte w)) o = upd (h_i h o) i.toNatClampNeg (vp_nar .byte w) from by simp [h_i, p_i, p_a, am_up, upd]; rfl]
      exact q1
    · cases hg
      refine va_zast hx hb hK.1 hP (am_D (fun q z => z)) hS o 2 (am_g_ii ho hk (by omega) (by omega)) rfl hi hdec (fun H1 locs1 q1 q2 q3 => kk H1 locs1 ls ⟨?_, q3, hl, hLn, hlg, hhx⟩)
      show va_P _ _ (am_W G (p_i h o i.toNatClampNeg (vp_nar .boolean w))) _
      rw [show am_W G _ = _ from (am_ws_put (h := h) (h' := p_i h o i.toNatClampNeg (vp_nar .boolean w)) (o := o) rfl ho (fun j hj => am_ce_pa hj)).symm, am_ce_ii (h := p_i h o i.toNatClampNeg (vp_nar .boolean w)) (show h_k _ o = 22 from hk) (by omega) (by omega)]
      rw [show h_i (p_i h o i.toNatClampNeg (vp_nar .boolean w)) o = upd (h_i h o) i.toNatClampNeg (vp_nar .boolean w) from by simp [h_i, p_i, p_a, am_up, upd]; rfl]
      exact q1
  | lastore =>
    have hs : k_last (pc + 1) L S h = some (ok, (pc', L', S', h')) := hs
    obtain ⟨w, i, x, r, rfl, rfl, hg⟩ := so_last hs
    cases hg
    obtain ⟨⟨o, rfl, ho, hk, hi⟩, -⟩ := hok
    refine va_last hx hb hK.1 hP (am_D (fun q z => z)) hS o 3 (am_g_jj ho hk) rfl hi hdec (fun H1 locs1 q1 q2 q3 => kk H1 locs1 ls ⟨?_, q3, hl, hLn, hlg, hhx⟩)
    show va_P _ _ (am_W G (p_j h o i.toNatClampNeg w)) _
    rw [show am_W G _ = _ from (am_ws_put (h := h) (h' := p_j h o i.toNatClampNeg w) (o := o) rfl ho (fun j hj => am_ce_pb hj)).symm, am_ce_jj (h := p_j h o i.toNatClampNeg w) (show h_k _ o = 23 from hk)]
    rw [show h_j (p_j h o i.toNatClampNeg w) o = vp_updL (h_j h o) i.toNatClampNeg w from by simp [h_j, p_j, p_b, am_up, vp_updL]; rfl]
    exact q1
  | aastore =>
    have hs : k_aast (pc + 1) L S h a = some (ok, (pc', L', S', h')) := hs
    obtain ⟨w, i, x, r, ⟨rfl, ha⟩, rfl, hg⟩ := so_aast hs
    cases hg
    obtain ⟨⟨q, rfl, hq, hkq⟩, ⟨o, rfl, ho, hk, hi⟩, -⟩ := hok
    have hset : ∀ c0 : Nat, 30 + a = c0 → (am_W G h).set o (g_B G + o, .inl (g_cy G c0, h_l h o, .inr (.inr (.inr (.inr (va_up (fun k => (h_r h o k).map (g_B G + ·)) i.toNatClampNeg (some (g_B G + q)))))))) = am_W G (p_r h o i.toNatClampNeg (some q)) := by
      rintro c0 rfl
      refine Eq.trans ?_ (am_ws_put (B := g_B G) (xv := g_xv G) (cy := g_cy G) (h := h) (h' := p_r h o i.toNatClampNeg (some q)) (o := o) rfl ho (fun j hj => am_ce_pc hj))
      rw [am_ce_rr (h := p_r h o i.toNatClampNeg (some q)) (show h_k _ o = 30 + a from hk) (by omega)]
      refine congrArg (fun f => (am_W G h).set o (g_B G + o, .inl (g_cy G (30 + a), h_l h o, .inr (.inr (.inr (.inr f)))))) ?_
      funext j
      by_cases hj : j = i.toNatClampNeg
      · subst hj
        simp [va_up, h_r, p_r, p_c, am_up]
      · simp [va_up, h_r, p_r, p_c, am_up, hj]
    rcases hc with hc | hc | hc
    · have hc : a = 1 := hc
      subst hc
      exact va_astq hx hb hK.1 hP (am_D (fun q z => z)) hS o 4 q 1 (am_g_rr ho hk (by omega)) (by rfl) (am_g_ob hq hkq (by omega)) (hcl 1 (by omega)).2.2.2.2.2.1 hi hdec (fun H1 locs1 q1 q2 q3 => kk H1 locs1 ls ⟨by show va_P _ _ (am_W G (p_r h o i.toNatClampNeg (some q))) _; rw [← hset _ rfl]; exact q1, q3, hl, hLn, hlg, hhx⟩)
    · have hc : a = 2 := hc
      subst hc
      exact va_astq hx hb hK.1 hP (am_D (fun q z => z)) hS o 5 q 2 (am_g_rr ho hk (by omega)) (by rfl) (am_g_ob hq hkq (by omega)) (hcl 2 (by omega)).2.2.2.2.2.1 hi hdec (fun H1 locs1 q1 q2 q3 => kk H1 locs1 ls ⟨by show va_P _ _ (am_W G (p_r h o i.toNatClampNeg (some q))) _; rw [← hset _ rfl]; exact q1, q3, hl, hLn, hlg, hhx⟩)
    · have hc : a = 9 := hc
      subst hc
      exact va_astq hx hb hK.1 hP (am_D (fun q z => z)) hS o 6 q 9 (am_g_rr ho hk (by omega)) (by rfl) (am_g_ob hq hkq (by omega)) (hcl 9 (by omega)).2.2.2.2.2.1 hi hdec (fun H1 locs1 q1 q2 q3 => kk H1 locs1 ls ⟨by show va_P _ _ (am_W G (p_r h o i.toNatClampNeg (some q))) _; rw [← hset _ rfl]; exact q1, q3, hl, hLn, hlg, hhx⟩)
  | arraylength =>
    have hs : k_len (pc + 1) L S h am_byt = some (ok, (pc', L', S', h')) := hs
    rcases so_len hs with ⟨x, r, rfl, rfl, hg⟩ | ⟨r, rfl, hg⟩ | ⟨x, r, rfl, hx3, hg⟩
    · cases hg
      obtain ⟨⟨o, rfl, ho, hk⟩, -⟩ := hok
      rcases hk with hk | hk | hk
      · exact va_alen hx hb hK.1 hP o 0 (am_g_ii ho hk (by omega) (by omega)) rfl rfl hdec (kk H locs ls ⟨hP, hS, hl, hLn, hlg, hhx⟩)
      · exact va_alen hx hb hK.1 hP o 1 (am_g_ii ho hk (by omega) (by omega)) rfl rfl hdec (kk H locs ls ⟨hP, hS, hl, hLn, hlg, hhx⟩)
      · exact va_alen hx hb hK.1 hP o 3 (am_g_jj ho hk) rfl rfl hdec (kk H locs ls ⟨hP, hS, hl, hLn, hlg, hhx⟩)
    · cases hg
      have z := kk H locs ls ⟨hP, hS, hl, hLn, hlg, hhx⟩
      rw [show h_x h = _ from hhx] at z
      rw [List.map_cons, show am_c G (.inr (.inr (.inr 20))) = .ref (g_b G) from hxo.2.2.1]
      exact va_slen hx hb hXH.1 (by have := hXH.2.1; have := hXH.2.2.1; omega) (fun z => by have := hXH.2.1; have z : g_B G ≤ g_b G := z; omega) hS hdec z
    · cases hg
      have e0 : am_c G (.inr (.inr (.inr x))) = .ref (g_V G (x - 10)) := by
        have := hxo.2.1 (x - 10) (by omega)
        rwa [show 10 + (x - 10) = x by omega] at this
      rw [List.map_cons, e0]
      exact va_tlen hx hb (hXH.2.2.2.1.1 (x - 10) (by omega)).2.2.2 hS (by rw [am_bl _ (by omega)]; rfl) hdec (kk H locs ls ⟨hP, hS, hl, hLn, hlg, hhx⟩)
  | newarray at0 =>
    have hs : k_newa (pc + 2) L S h a = some (ok, (pc', L', S', h')) := hs
    obtain ⟨n, r, rfl, rfl, hg⟩ := so_newa hs
    cases hg
    obtain ⟨h1, h2, -⟩ := hok
    have hA : ∀ q, s.heap.size ≤ q → am_A (g_B G) q := fun q z => by show g_B G ≤ q; omega
    rw [show h_n (p_n h a n.toNatClampNeg) = h_n h + 1 from rfl, show h_s (p_n h a n.toNatClampNeg) = h_s h + n.toNatClampNeg from rfl] at hR
    rcases hc with hc | hc | hc | hc
    · obtain ⟨ha, hty, hw⟩ := hc
      have ha : a = 20 := ha
      subst ha
      subst hty
      refine va_newa (atype := .int) (ty := .int) (a0 := (n.toNatClampNeg, (.inl fun _ => 0))) hx hb (hwd _ hw) rfl hK.1 hP (am_D (fun q z => z)) hS hA (fun cA => rfl) h1 rfl (by show _ * 4 ≤ _; omega) (by omega) (by omega) hdec (fun q cA H1 q1 q2 q3 q4 => ?_)
      refine am_newq hsz hn0 rfl q2 q3 (fun hq => ?_)
      subst hq
      have hcA : cA = g_cy G 20 := by
        have e1 := (q1.2 7 (cA, .int) rfl).2
        have e2 := (hK.1.2 0 (g_cy G 20, .int) rfl).2
        exact Option.some.inj (e1.symm.trans e2)
      subst hcA
      have z := kk H1 locs ls ⟨by
        show va_P _ _ (am_ws _ _ _ _) _
        rw [am_ws_new, am_ce_ii (c := 20) (by simp [h_k, p_n, am_up]) (by omega) (by omega)]
        simp only [h_l, h_i, h_j, p_n, am_up, if_pos]
        exact q2, q4, hl, hLn, hlg, hhx⟩
      rw [show h_n (p_n h 20 n.toNatClampNeg) - n0 = h_n h - n0 + 1 by show h_n h + 1 - n0 = _; omega, show h_s (p_n h 20 n.toNatClampNeg) - s0 = h_s h - s0 + n.toNatClampNeg by show h_s h + _ - s0 = _; omega] at z
      exact z
    · obtain ⟨ha, hty, hw⟩ := hc
      have ha : a = 21 := ha
      subst ha
      subst hty
      refine va_newa (atype := .byte) (ty := .byte) (a0 := (n.toNatClampNeg, (.inl fun _ => 0))) hx hb (hwd _ hw) rfl hK.1 hP (am_D (fun q z => z)) hS hA (fun cA => rfl) h1 rfl (by show _ * 1 ≤ _; omega) (by omega) (by omega) hdec (fun q cA H1 q1 q2 q3 q4 => ?_)
      refine am_newq hsz hn0 rfl q2 q3 (fun hq => ?_)
      subst hq
      have hcA : cA = g_cy G 21 := by
        have e1 := (q1.2 7 (cA, .byte) rfl).2
        have e2 := (hK.1.2 1 (g_cy G 21, .byte) rfl).2
        exact Option.some.inj (e1.symm.trans e2)
      subst hcA
      have z := kk H1 locs ls ⟨by
        show va_P _ _ (am_ws _ _ _ _) _
        rw [am_ws_new, am_ce_ii (c := 21) (by simp [h_k, p_n, am_up]) (by omega) (by omega)]
        simp only [h_l, h_i, h_j, p_n, am_up, if_pos]
        exact q2, q4, hl, hLn, hlg, hhx⟩
      rw [show h_n (p_n h 21 n.toNatClampNeg) - n0 = h_n h - n0 + 1 by show h_n h + 1 - n0 = _; omega, show h_s (p_n h 21 n.toNatClampNeg) - s0 = h_s h - s0 + n.toNatClampNeg by show h_s h + _ - s0 = _; omega] at z
      exact z
    · obtain ⟨ha, hty, hw⟩ := hc
      have ha : a = 22 := ha
      subst ha
      subst hty
      refine va_newa (atype := .boolean) (ty := .boolean) (a0 := (n.toNatClampNeg, (.inl fun _ => 0))) hx hb (hwd _ hw) rfl hK.1 hP (am_D (fun q z => z)) hS hA (fun cA => rfl) h1 rfl (by show _ * 1 ≤ _; omega) (by omega) (by omega) hdec (fun q cA H1 q1 q2 q3 q4 => ?_)
      refine am_newq hsz hn0 rfl q2 q3 (fun hq => ?_)
      subst hq
      have hcA : cA = g_cy G 22 := by
        have e1 := (q1.2 7 (cA, .boolean) rfl).2
        have e2 := (hK.1.2 2 (g_cy G 22, .boolean) rfl).2
        exact Option.some.inj (e1.symm.trans e2)
      subst hcA
      have z := kk H1 locs ls ⟨by
        show va_P _ _ (am_ws _ _ _ _) _
        rw [am_ws_new, am_ce_ii (c := 22) (by simp [h_k, p_n, am_up]) (by omega) (by omega)]
        simp only [h_l, h_i, h_j, p_n, am_up, if_pos]
        exact q2, q4, hl, hLn, hlg, hhx⟩
      rw [show h_n (p_n h 22 n.toNatClampNeg) - n0 = h_n h - n0 + 1 by show h_n h + 1 - n0 = _; omega, show h_s (p_n h 22 n.toNatClampNeg) - s0 = h_s h - s0 + n.toNatClampNeg by show h_s h + _ - s0 = _; omega] at z
      exact z
    · obtain ⟨ha, hty, hw⟩ := hc
      have ha : a = 23 := ha
      subst ha
      subst hty
      refine va_newa (atype := .long) (ty := .long) (a0 := (n.toNatClampNeg, (.inr (.inl fun _ => 0)))) hx hb (hwd _ hw) rfl hK.1 hP (am_D (fun q z => z)) hS hA (fun cA => rfl) h1 rfl (by show _ * 8 ≤ _; omega) (by omega) (by omega) hdec (fun q cA H1 q1 q2 q3 q4 => ?_)
      refine am_newq hsz hn0 rfl q2 q3 (fun hq => ?_)
      subst hq
      have hcA : cA = g_cy G 23 := by
        have e1 := (q1.2 7 (cA, .long) rfl).2
        have e2 := (hK.1.2 3 (g_cy G 23, .long) rfl).2
        exact Option.some.inj (e1.symm.trans e2)
      subst hcA
      have z := kk H1 locs ls ⟨by
        show va_P _ _ (am_ws _ _ _ _) _
        rw [am_ws_new, am_ce_jj (by simp [h_k, p_n, am_up])]
        simp only [h_l, h_i, h_j, p_n, am_up, if_pos]
        exact q2, q4, hl, hLn, hlg, hhx⟩
      rw [show h_n (p_n h 23 n.toNatClampNeg) - n0 = h_n h - n0 + 1 by show h_n h + 1 - n0 = _; omega, show h_s (p_n h 23 n.toNatClampNeg) - s0 = h_s h - s0 + n.toNatClampNeg by show h_s h + _ - s0 = _; omega] at z
      exact z
  | anewarray i =>
    have hs : k_newa (pc + 3) L S h (30 + a) = some (ok, (pc', L', S', h')) := hs
    obtain ⟨n, r, rfl, rfl, hg⟩ := so_newa hs
    cases hg
    obtain ⟨h1, h2, -⟩ := hok
    have hA : ∀ q, s.heap.size ≤ q → am_A (g_B G) q := fun q z => by show g_B G ≤ q; omega
    rw [show h_n (p_n h (30 + a) n.toNatClampNeg) = h_n h + 1 from rfl, show h_s (p_n h (30 + a) n.toNatClampNeg) = h_s h + n.toNatClampNeg from rfl] at hR
    rcases hc with hc | hc | hc
    · obtain ⟨ha, hw⟩ := hc
      have ha : a = 1 := ha
      subst ha
      refine va_newq (C := "OrderMerge$Facts") hx hb hown (hwd _ hw) hK.2.2.2.1 hK.1 hP (am_D (fun q z => z)) hS hA h1 rfl (by omega) (by omega) (by omega) hdec (fun q cA H1 q1 q2 q3 q4 => ?_)
      refine am_newq hsz hn0 rfl q2 q3 (fun hq => ?_)
      subst hq
      have hcA : cA = g_cy G 31 := by
        obtain ⟨_, _, -, -, -, e1⟩ := (q1.2 7 (cA, .object "OrderMerge$Facts") rfl).2
        obtain ⟨_, _, -, -, -, e2⟩ := (hK.1.2 4 (g_cy G 31, .object "OrderMerge$Facts") rfl).2
        exact Option.some.inj (e1.symm.trans e2)
      subst hcA
      have z := kk H1 locs ls ⟨by
        show va_P _ _ (am_ws _ _ _ _) _
        rw [am_ws_new, am_ce_rr (c := 31) (by simp [h_k, p_n, am_up]) (by omega)]
        simp only [h_l, h_r, p_n, am_up, if_pos]
        exact q2, q4, hl, hLn, hlg, hhx⟩
      rw [show h_n (p_n h 31 n.toNatClampNeg) - n0 = h_n h - n0 + 1 by show h_n h + 1 - n0 = _; omega, show h_s (p_n h 31 n.toNatClampNeg) - s0 = h_s h - s0 + n.toNatClampNeg by show h_s h + _ - s0 = _; omega] at z
      exact z
    · obtain ⟨ha, hw⟩ := hc
      have ha : a = 2 := ha
      subst ha
      refine va_newq (C := "OrderMerge$House") hx hb hown (hwd _ hw) hK.2.2.2.2.1 hK.1 hP (am_D (fun q z => z)) hS hA h1 rfl (by omega) (by omega) (by omega) hdec (fun q cA H1 q1 q2 q3 q4 => ?_)
      refine am_newq hsz hn0 rfl q2 q3 (fun hq => ?_)
      subst hq
      have hcA : cA = g_cy G 32 := by
        obtain ⟨_, _, -, -, -, e1⟩ := (q1.2 7 (cA, .object "OrderMerge$House") rfl).2
        obtain ⟨_, _, -, -, -, e2⟩ := (hK.1.2 5 (g_cy G 32, .object "OrderMerge$House") rfl).2
        exact Option.some.inj (e1.symm.trans e2)
      subst hcA
      have z := kk H1 locs ls ⟨by
        show va_P _ _ (am_ws _ _ _ _) _
        rw [am_ws_new, am_ce_rr (c := 32) (by simp [h_k, p_n, am_up]) (by omega)]
        simp only [h_l, h_r, p_n, am_up, if_pos]
        exact q2, q4, hl, hLn, hlg, hhx⟩
      rw [show h_n (p_n h 32 n.toNatClampNeg) - n0 = h_n h - n0 + 1 by show h_n h + 1 - n0 = _; omega, show h_s (p_n h 32 n.toNatClampNeg) - s0 = h_s h - s0 + n.toNatClampNeg by show h_s h + _ - s0 = _; omega] at z
      exact z
    · obtain ⟨ha, hw⟩ := hc
      have ha : a = 9 := ha
      subst ha
      refine va_newq (C := "OrderMerge$Tray") hx hb hown (hwd _ hw) hK.2.2.2.2.2 hK.1 hP (am_D (fun q z => z)) hS hA h1 rfl (by omega) (by omega) (by omega) hdec (fun q cA H1 q1 q2 q3 q4 => ?_)
      refine am_newq hsz hn0 rfl q2 q3 (fun hq => ?_)
      subst hq
      have hcA : cA = g_cy G 39 := by
        obtain ⟨_, _, -, -, -, e1⟩ := (q1.2 7 (cA, .object "OrderMerge$Tray") rfl).2
        obtain ⟨_, _, -, -, -, e2⟩ := (hK.1.2 6 (g_cy G 39, .object "OrderMerge$Tray") rfl).2
        exact Option.some.inj (e1.symm.trans e2)
      subst hcA
      have z := kk H1 locs ls ⟨by
        show va_P _ _ (am_ws _ _ _ _) _
        rw [am_ws_new, am_ce_rr (c := 39) (by simp [h_k, p_n, am_up]) (by omega)]
        simp only [h_l, h_r, p_n, am_up, if_pos]
        exact q2, q4, hl, hLn, hlg, hhx⟩
      rw [show h_n (p_n h 39 n.toNatClampNeg) - n0 = h_n h - n0 + 1 by show h_n h + 1 - n0 = _; omega, show h_s (p_n h 39 n.toNatClampNeg) - s0 = h_s h - s0 + n.toNatClampNeg by show h_s h + _ - s0 = _; omega] at z
      exact z
  | new i =>
    have hs : k_new (pc + 3) L S h a b = some (ok, (pc', L', S', h')) := hs
    obtain ⟨-, -, hg⟩ := so_new hs
    cases hg
    obtain ⟨c1, c2, c3⟩ := hc
    dsimp only at c1 c2 c3
    obtain ⟨u1, u2, u3, u4, u5, u6, u7, u8⟩ := hcl a c1
    have hA : ∀ q, s.heap.size ≤ q → am_A (g_B G) q := fun q z => by show g_B G ≤ q; omega
    rw [show h_n (p_n h a b) = h_n h + 1 from rfl, show h_s (p_n h a b) = h_s h + b from rfl] at hR
    have hk : h_k (p_n h a b) (h_n h) = a := by simp [h_k, p_n, am_up]
    refine va_new (C := (am_T a).1) (T := (am_T a).2.1) (N := (am_T a).2.2) (ci := a) (fs := (List.range (am_fn a)).map (fun k => am_cv (g_B G) (g_xv G) (am_fv (p_n h a b) (h_n h) k (am_ft a k)))) hx hb hwd u1 (am_ty a) u2 hown (hwd _ c3) (hwd _ u4) (hwd _ u5) hK.1 hP (am_D (fun q z => z)) hS hA u6 (fun j hj => ?_) (by omega) (by omega) hdec (fun q H1 q2 q3 q4 => ?_)
    · have e1 : vp_V ((List.range (am_fn a)).map (fun k => am_cv (g_B G) (g_xv G) (am_fv (p_n h a b) (h_n h) k (am_ft a k)))) j = am_cv (g_B G) (g_xv G) (am_fv (p_n h a b) (h_n h) j (am_ft a j)) := by
        unfold vp_V
        rw [List.getD_eq_getElem?_getD, List.getElem?_map, List.getElem?_range (by rw [u7]; exact hj)]
        rfl
      rw [e1]
      rcases u8 j hj with ⟨h1, h2 | h2⟩ | ⟨h1, h2⟩ | ⟨h1, ⟨C', h2⟩ | ⟨t, h2⟩⟩
      · rw [h1, h2]
        simp [am_fv, am_cv, h_i, p_n, am_up, defaultValue]
      · rw [h1, h2]
        simp [am_fv, am_cv, h_i, p_n, am_up, defaultValue]
      · rw [h1, h2]
        simp [am_fv, am_cv, h_j, p_n, am_up, defaultValue]
      · rw [h1, h2]
        simp [am_fv, am_cv, h_r, p_n, am_up, defaultValue, va_rf]
      · rw [h1, h2]
        simp [am_fv, am_cv, h_r, p_n, am_up, defaultValue, va_rf]
    · refine am_newq hsz hn0 rfl q2 q3 (fun hq => ?_)
      subst hq
      have z := kk H1 locs ls ⟨by
        show va_P _ _ (am_ws _ _ _ _) _
        rw [am_ws_new, am_ce_ob hk (by omega)]
        exact q2, q4, hl, hLn, hlg, hhx⟩
      rw [show h_n (p_n h a b) - n0 = h_n h - n0 + 1 by show h_n h + 1 - n0 = _; omega, show h_s (p_n h a b) - s0 = h_s h - s0 + b by show h_s h + _ - s0 = _; omega, c2] at z
      exact z
  | invokespecial i =>
    have hs : (if d = 6 then k_obj (pc + 3) L S h else none) = some (ok, (pc', L', S', h')) := hs
    split at hs
    · rename_i hd
      obtain ⟨x, r, ⟨rfl, hw⟩, rfl, hg⟩ := so_obj hs
      cases hg
      obtain ⟨hx0, -⟩ := hok
      cases x with
      | none => exact absurd rfl hx0
      | some x =>
        refine W.objInit (a := g_B G + x) hx hb hown (hwd _ (hc hd)) (hwd _ hgl.1) (hwd _ hgl.2.1) rfl (by rw [hml]; exact hl.1) rfl hdec hfr.1 ?_ (kk H locs ls ⟨hP, hS, hl, hLn, hlg, hhx⟩)
        rw [am_w_cat hxo]
        show 2 * 0 + _ + 12 ≤ _
        omega
    · cases hs
  | invokestatic i =>
    have hs : (if d = 7 then k_cpy (pc + 3) L S h else if d = 8 then k_mx (pc + 3) L S h else if d = 9 then k_mn (pc + 3) L S h else none) = some (ok, (pc', L', S', h')) := hs
    split at hs
    · rename_i hd
      obtain ⟨n, dp, y, sp, x, r, ⟨rfl, hw⟩, rfl, hg⟩ := so_cpy hs
      cases hg
      obtain ⟨⟨o, q, rfl, ho, hko, rfl, hq, hkq, g1, g2, g3, g4, g5⟩, -⟩ := hok
      refine va_copyi hx hb (by rw [hml]; exact hl.1.symm) hown (hwd _ (hc.1 hd)) (hnat) (hwd _ hgl.2.2.2.1) (hwd _ hgl.2.2.2.2.1) hK.1 hP (am_D (fun q z => z)) hS o q 0 0 (am_g_ii ho hko (by omega) (by omega)) (am_g_ii hq hkq (by omega) (by omega)) rfl rfl rfl g1 g2 g3 g4 g5 (fun _ _ => rfl) hfr.1 ?_ hdec (fun H1 locs1 q1 q2 q3 => kk H1 locs1 ls ⟨?_, q3, hl, hLn, hlg, hhx⟩)
      · rw [am_w_cat hxo]
        show _ + (7 + 11) ≤ _
        omega
      · show va_P _ _ (am_W G (p_a h q (va_cpy (h_i h o) (h_i h q) sp.toNatClampNeg dp.toNatClampNeg n.toNatClampNeg))) _
        rw [show am_W G _ = _ from (am_ws_put (h := h) (h' := p_a h q (va_cpy (h_i h o) (h_i h q) sp.toNatClampNeg dp.toNatClampNeg n.toNatClampNeg)) (o := q) rfl hq (fun j hj => am_ce_pa hj)).symm, am_ce_ii (h := p_a h q (va_cpy (h_i h o) (h_i h q) sp.toNatClampNeg dp.toNatClampNeg n.toNatClampNeg)) (show h_k _ q = 20 from hkq) (by omega) (by omega)]
        rw [show h_i (p_a h q (va_cpy (h_i h o) (h_i h q) sp.toNatClampNeg dp.toNatClampNeg n.toNatClampNeg)) q = va_cpy (h_i h o) (h_i h q) sp.toNatClampNeg dp.toNatClampNeg n.toNatClampNeg from by simp [h_i, p_a, am_up]]
        exact q1
    · split at hs
      · rename_i hd
        obtain ⟨x, y, r, ⟨rfl, hw⟩, -, hg⟩ := so_mx hs
        cases hg
        exact va_mmax hx hb (by rw [hml]; exact hl.1.symm) hown (hwd _ (hc.2.1 hd)) (hwd _ hgl.2.2.2.2.2.1) (hwd _ hgl.2.2.2.2.2.2.2.1) (hwd _ hgl.2.2.2.2.2.2.2.2.1) hfr.1 (by rw [am_w_cat hxo]; omega) hR.1 hR.2 hdec (kk H locs ls ⟨hP, hS, hl, hLn, hlg, hhx⟩)
      · split at hs
        · rename_i hd
          obtain ⟨x, y, r, ⟨rfl, hw⟩, -, hg⟩ := so_mn hs
          cases hg
          exact va_mmin hx hb (by rw [hml]; exact hl.1.symm) hown (hwd _ (hc.2.2 hd)) (hwd _ hgl.2.2.2.2.2.2.1) (hwd _ hgl.2.2.2.2.2.2.2.1) (hwd _ hgl.2.2.2.2.2.2.2.2.2) hfr.1 (by rw [am_w_cat hxo]; omega) hR.1 hR.2 hdec (kk H locs ls ⟨hP, hS, hl, hLn, hlg, hhx⟩)
        · cases hs
  | aconst_null => cases hpl
  | iconst n => cases hpl
  | bipush n => cases hpl
  | sipush n => cases hpl
  | lconst n => cases hpl
  | ldc_w i => cases hpl
  | ldc2_w i => cases hpl
  | ldc i => cases hpl
  | iload_n i => cases hpl
  | iload i => cases hpl
  | lload_n i => cases hpl
  | lload i => cases hpl
  | aload_n i => cases hpl
  | aload i => cases hpl
  | istore_n i => cases hpl
  | istore i => cases hpl
  | lstore_n i => cases hpl
  | lstore i => cases hpl
  | astore_n i => cases hpl
  | astore i => cases hpl
  | iinc i n => cases hpl
  | iadd => cases hpl
  | isub => cases hpl
  | imul => cases hpl
  | iand => cases hpl
  | ior => cases hpl
  | ixor => cases hpl
  | ishl => cases hpl
  | ishr => cases hpl
  | iushr => cases hpl
  | idiv => cases hpl
  | irem => cases hpl
  | ladd => cases hpl
  | lsub => cases hpl
  | lmul => cases hpl
  | land => cases hpl
  | lor => cases hpl
  | ldiv => cases hpl
  | lrem => cases hpl
  | lshl => cases hpl
  | lshr => cases hpl
  | lcmp => cases hpl
  | ineg => cases hpl
  | i2b => cases hpl
  | i2s => cases hpl
  | i2c => cases hpl
  | i2l => cases hpl
  | l2i => cases hpl
  | dup => cases hpl
  | pop => cases hpl
  | dup2 => cases hpl
  | goto o => cases hpl
  | ifCond cnd o => cases hpl
  | if_icmp cnd o => cases hpl
  | ifnull o => cases hpl
  | ifnonnull o => cases hpl
  | tableswitch df lo hi os => cases hpl
  | lookupswitch df ps => cases hpl
  | _ => cases hs
