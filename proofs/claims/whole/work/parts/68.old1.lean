/-! ===== old orders ===== -/
def ad (acc : List Nat) (x : Nat) : List Nat := if x ∈ acc then acc else acc ++ [x]
def fad (acc l : List Nat) : List Nat := l.foldl ad acc
theorem fad_nil {acc : List Nat} : fad acc [] = acc := rfl
theorem fad_cons {acc l : List Nat} {x : Nat} : fad acc (x :: l) = fad (ad acc x) l := rfl
theorem fad_app {acc l l' : List Nat} : fad acc (l ++ l') = fad (fad acc l) l' := List.foldl_append
theorem fad_one {acc : List Nat} {x : Nat} : fad acc [x] = ad acc x := rfl
theorem ad_mem {acc : List Nat} {x y : Nat} : y ∈ ad acc x ↔ y ∈ acc ∨ y = x := by
  unfold ad
  split
  · rename_i h
    constructor
    · exact Or.inl
    · rintro (z | z)
      · exact z
      · exact z ▸ h
  · rw [List.mem_append, List.mem_singleton]
theorem ad_y {acc : List Nat} {x : Nat} (h : x ∈ acc) : ad acc x = acc := if_pos h
theorem ad_n {acc : List Nat} {x : Nat} (h : ¬ x ∈ acc) : ad acc x = acc ++ [x] := if_neg h
theorem fad_mem {y : Nat} : ∀ {l acc : List Nat}, y ∈ fad acc l ↔ y ∈ acc ∨ y ∈ l := by
  intro l
  induction l with
  | nil => intro acc; simp [fad_nil]
  | cons x l ih =>
    intro acc
    rw [fad_cons, ih, ad_mem, List.mem_cons, or_assoc]
theorem ad_nd {acc : List Nat} {x : Nat} (h : acc.Nodup) : (ad acc x).Nodup := by
  unfold ad
  split
  · exact h
  · rename_i z
    rw [List.nodup_append]
    refine ⟨h, (by simp : [x].Nodup), fun a ha b hb e => ?_⟩
    rw [List.mem_singleton.1 hb] at e
    exact z (e ▸ ha)
theorem fad_nd : ∀ {l acc : List Nat}, acc.Nodup → (fad acc l).Nodup := by
  intro l
  induction l with
  | nil => intro acc h; exact h
  | cons x l ih => intro acc h; exact ih (ad_nd h)
theorem fad_idem {acc : List Nat} : ∀ (n : Nat) (l : List Nat), l.length = n → fad acc (fad [] l) = fad acc l := by
  intro n
  induction n with
  | zero =>
    intro l h
    rw [List.length_eq_zero_iff.1 h]
    rfl
  | succ n ih =>
    intro l h
    obtain ⟨l', x, rfl⟩ : ∃ l' x, l = l' ++ [x] := by
      have hne : l ≠ [] := fun z => by rw [z] at h; cases h
      exact ⟨l.dropLast, l.getLast hne, (List.dropLast_concat_getLast hne).symm⟩
    have hl : l'.length = n := by rw [List.length_append, List.length_singleton] at h; omega
    rw [fad_app, fad_app, fad_one, fad_one]
    by_cases z : x ∈ fad [] l'
    · rw [ad_y z, ih l' hl, ad_y]
      rw [fad_mem] at z ⊢
      rcases z with z | z
      · cases z
      · exact Or.inr z
    · rw [ad_n z, fad_app, fad_one, ih l' hl]
theorem fad_c {c : Nat} : ∀ {l acc : List Nat}, ¬ c ∈ l → fad (c :: acc) l = c :: fad acc l := by
  intro l
  induction l with
  | nil => intro acc _; rfl
  | cons x l ih =>
    intro acc h
    rw [List.mem_cons] at h
    have e : ad (c :: acc) x = c :: ad acc x := by
      unfold ad
      by_cases z : x ∈ acc
      · rw [if_pos z, if_pos (List.mem_cons_of_mem _ z)]
      · rw [if_neg z, if_neg (fun y => by
          rcases List.mem_cons.1 y with w | w
          · exact h (Or.inl w.symm)
          · exact z w)]
        rfl
    rw [fad_cons, fad_cons, e, ih (fun z => h (Or.inr z))]
theorem fad_flat {g g' : Nat → List Nat} : ∀ {ps acc : List Nat}, (∀ p ∈ ps, ∀ acc, fad acc (g p) = fad acc (g' p)) → fad acc (ps.flatMap g) = fad acc (ps.flatMap g') := by
  intro ps
  induction ps with
  | nil => intro acc _; rfl
  | cons p ps ih =>
    intro acc h
    rw [List.flatMap_cons, List.flatMap_cons, fad_app, fad_app, h p List.mem_cons_self, ih (fun q hq => h q (List.mem_cons_of_mem _ hq))]
/-- going deep -/
def dff (p : Nat → List Nat) : Nat → Nat → List Nat
  | 0, c => [c]
  | n + 1, c => c :: (p c).flatMap (dff p n)
def df (p : Nat → List Nat) (c : Nat) : List Nat := dff p c c
theorem flat_cong {g g' : Nat → List Nat} : ∀ {ps : List Nat}, (∀ p ∈ ps, g p = g' p) → ps.flatMap g = ps.flatMap g' := by
  intro ps
  induction ps with
  | nil => intro _; rfl
  | cons p ps ih =>
    intro h
    rw [List.flatMap_cons, List.flatMap_cons, h p List.mem_cons_self, ih (fun q hq => h q (List.mem_cons_of_mem _ hq))]
theorem dff_st {p : Nat → List Nat} (hp : p_lt p) : ∀ m c n, c < m → c ≤ n → dff p n c = dff p c c := by
  intro m
  induction m with
  | zero => intro c n h; omega
  | succ m ih =>
    intro c n hc hn
    have key : ∀ k, c ≤ k + 1 → (p c).flatMap (dff p k) = (p c).flatMap (df p) := by
      intro k hk
      refine flat_cong (fun q hq => ?_)
      have := hp c q hq
      exact ih q k (by omega) (by omega)
    cases n with
    | zero =>
      obtain rfl : c = 0 := by omega
      rfl
    | succ n =>
      rw [dff, key n (by omega)]
      cases c with
      | zero =>
        have : p 0 = [] := by
          cases e : p 0 with
          | nil => rfl
          | cons q l =>
            have := hp 0 q (by rw [e]; exact List.mem_cons_self)
            omega
        rw [this]
        rfl
      | succ c => rw [dff, key c (by omega)]
theorem df_eq {p : Nat → List Nat} (hp : p_lt p) {c : Nat} : df p c = c :: (p c).flatMap (df p) := by
  have h1 : df p c = dff p (c + 1) c := (dff_st hp (c + 1) c (c + 1) (by omega) (by omega)).symm
  rw [h1, dff]
  congr 1
  refine flat_cong (fun q hq => ?_)
  have := hp c q hq
  exact dff_st hp (q + 1) q c (by omega) (by omega)
theorem df_mem {p : Nat → List Nat} (hp : p_lt p) {x : Nat} : ∀ m c, c < m → (x ∈ df p c ↔ up p c x = true) := by
  intro m
  induction m with
  | zero => intro c h; omega
  | succ m ih =>
    intro c hc
    rw [df_eq hp, List.mem_cons, List.mem_flatMap, up_iff hp]
    refine or_congr Iff.rfl ?_
    constructor
    · rintro ⟨q, hq, hx⟩
      have := hp c q hq
      exact ⟨q, hq, (ih q (by omega)).1 hx⟩
    · rintro ⟨q, hq, hx⟩
      have := hp c q hq
      exact ⟨q, hq, (ih q (by omega)).2 hx⟩
theorem flat_len {g : Nat → List Nat} : ∀ {ps : List Nat}, (ps.flatMap g).length = (ps.map (fun p => (g p).length)).foldr (· + ·) 0 := by
  intro ps
  induction ps with
  | nil => rfl
  | cons p ps ih => rw [List.flatMap_cons, List.length_append, ih]; rfl
theorem sum_er {w : Nat → Nat} {a : Nat} : ∀ {l : List Nat}, a ∈ l → (l.map w).foldr (· + ·) 0 = w a + ((l.erase a).map w).foldr (· + ·) 0 := by
  intro l
  induction l with
  | nil => intro h; cases h
  | cons x l ih =>
    intro h
    by_cases z : x = a
    · subst z
      rw [List.erase_cons_head]
      rfl
    · rw [List.erase_cons_tail (by simpa using z)]
      rcases List.mem_cons.1 h with y | y
      · exact absurd y.symm z
      · have := ih y
        show w x + _ = w a + (w x + _)
        omega
theorem sum_nd {w : Nat → Nat} : ∀ n {l : List Nat}, l.Nodup → (∀ x ∈ l, x < n) → (l.map w).foldr (· + ·) 0 ≤ sm w n := by
  intro n
  induction n with
  | zero =>
    intro l _ h
    cases l with
    | nil => exact Nat.le_refl _
    | cons x l =>
      have := h x List.mem_cons_self
      omega
  | succ n ih =>
    intro l nd h
    rw [sm]
    by_cases z : n ∈ l
    · rw [sum_er z]
      have := ih (l := l.erase n) (nd.erase n) (fun x hx => by
        have h1 := h x (List.mem_of_mem_erase hx)
        have h2 : x ≠ n := fun e => by
          rw [e] at hx
          exact (List.Nodup.not_mem_erase nd) hx
        omega)
      omega
    · have := ih nd (fun x hx => by
        have h1 := h x hx
        have h2 : x ≠ n := fun e => z (e ▸ hx)
        omega)
      omega
theorem sm_pow : ∀ n, sm (fun q => 2 ^ q) n + 1 = 2 ^ n := by
  intro n
  induction n with
  | zero => rfl
  | succ n ih =>
    rw [sm, Nat.pow_succ]
    omega
theorem map_le {w w' : Nat → Nat} : ∀ {l : List Nat}, (∀ x ∈ l, w x ≤ w' x) → (l.map w).foldr (· + ·) 0 ≤ (l.map w').foldr (· + ·) 0 := by
  intro l
  induction l with
  | nil => intro _; exact Nat.le_refl _
  | cons x l ih =>
    intro h
    have h1 := h x List.mem_cons_self
    have h2 := ih (fun y hy => h y (List.mem_cons_of_mem _ hy))
    show w x + _ ≤ w' x + _
    omega
theorem df_len {p : Nat → List Nat} (hp : p_ok p) : ∀ m c, c < m → (df p c).length ≤ 2 ^ c := by
  intro m
  induction m with
  | zero => intro c h; omega
  | succ m ih =>
    intro c hc
    rw [df_eq (p_okl hp), List.length_cons, flat_len]
    have h1 := map_le (l := p c) (w := fun q => (df p q).length) (w' := fun q => 2 ^ q) (fun q hq => by
      have := (hp c).2.1 q hq
      exact ih q (by omega))
    have h2 := sum_nd (w := fun q => 2 ^ q) c (hp c).2.2 (hp c).2.1
    have h3 := sm_pow c
    omega
def d1 (l : List Nat) : List Nat := fad [] l
def d2 (l : List Nat) : List Nat := (fad [] l.reverse).reverse
theorem df_c {p : Nat → List Nat} (hp : p_lt p) {c : Nat} : ¬ c ∈ (p c).flatMap (df p) := by
  intro h
  obtain ⟨q, hq, hx⟩ := List.mem_flatMap.1 h
  have h1 := (df_mem hp (q + 1) q (by omega)).1 hx
  have h2 := up_le hp (q + 1) q c (by omega) h1
  have h3 := hp c q hq
  omega
theorem d1_eq {p : Nat → List Nat} (hp : p_lt p) {c : Nat} : d1 (df p c) = c :: fad [] ((p c).flatMap (fun q => d1 (df p q))) := by
  rw [d1, df_eq hp, fad_cons]
  have e : ad [] c = [c] := by simp [ad]
  rw [e, fad_c (df_c hp)]
  congr 1
  exact (fad_flat (fun q _ acc => fad_idem _ _ rfl)).symm
theorem d2_eq {p : Nat → List Nat} (hp : p_lt p) {c : Nat} : d2 (df p c) = c :: (fad [] ((p c).flatMap (fun q => d2 (df p q))).reverse).reverse := by
  rw [d2, df_eq hp, List.reverse_cons, fad_app, fad_one, ad_n (by
    rw [fad_mem]
    rintro (z | z)
    · cases z
    · exact df_c hp (List.mem_reverse.1 z)), List.reverse_append]
  have e : fad [] ((p c).flatMap (df p)).reverse = fad [] ((p c).flatMap (fun q => d2 (df p q))).reverse := by
    rw [List.reverse_flatMap, List.reverse_flatMap]
    refine (fad_flat (fun q _ acc => ?_)).symm
    show fad acc (d2 (df p q)).reverse = fad acc (df p q).reverse
    rw [d2, List.reverse_reverse]
    exact fad_idem _ _ rfl
  rw [e]
  rfl
/-! by breadth -/
def bst (p : Nat → List Nat) (l : List Nat) (i : Nat) : List Nat := fad l (p (l.getD i 0))
def bf (p : Nat → List Nat) : Nat → List Nat → Nat → List Nat
  | 0, l, _ => l
  | m + 1, l, i => if i < l.length then bf p m (bst p l i) (i + 1) else l
theorem fad_pre : ∀ {l acc : List Nat}, ∃ r, fad acc l = acc ++ r := by
  intro l
  induction l with
  | nil => intro acc; exact ⟨[], by rw [fad_nil, List.append_nil]⟩
  | cons x l ih =>
    intro acc
    obtain ⟨r, hr⟩ := ih (acc := ad acc x)
    rw [fad_cons, hr]
    unfold ad
    split
    · exact ⟨r, rfl⟩
    · exact ⟨x :: r, by rw [List.append_assoc]; rfl⟩
/-- what holds of a row by breadth -/
def bok (p : Nat → List Nat) (c : Nat) (l : List Nat) (i : Nat) : Prop := l.Nodup ∧ (∀ x ∈ l, up p c x = true) ∧ c ∈ l ∧ ∀ j, j < i → j < l.length → ∀ q ∈ p (l.getD j 0), q ∈ l
theorem bok_s {p : Nat → List Nat} (hp : p_lt p) {c i : Nat} {l : List Nat} (h : bok p c l i) (hi : i < l.length) : bok p c (bst p l i) (i + 1) := by
  obtain ⟨h1, h2, h3, h4⟩ := h
  obtain ⟨r, hr⟩ := fad_pre (l := p (l.getD i 0)) (acc := l)
  have gd : ∀ j, j < l.length → (bst p l i).getD j 0 = l.getD j 0 := fun j hj => by
    rw [bst, hr, List.getD_eq_getElem?_getD, List.getElem?_append_left hj, List.getD_eq_getElem?_getD]
  refine ⟨fad_nd h1, ?_, fad_mem.2 (Or.inl h3), ?_⟩
  · intro x hx
    rcases fad_mem.1 hx with z | z
    · exact h2 x z
    · have h5 := h2 _ (gd_mem hi)
      exact up_tr hp (c + 1) c _ x (by omega) h5 ((up_iff hp).2 (Or.inr ⟨x, z, up_self hp⟩))
  · intro j hj hj2 q hq
    by_cases z : j = i
    · rw [z, gd i hi] at hq
      exact fad_mem.2 (Or.inr hq)
    · rw [gd j (by omega)] at hq
      exact fad_mem.2 (Or.inl (h4 j (by omega) (by omega) q hq))
theorem bf_ok {p : Nat → List Nat} (hp : p_lt p) {c : Nat} (hc : c < 10) : ∀ m l i, i + m = 10 → bok p c l i → bok p c (bf p m l i) (bf p m l i).length := by
  intro m
  induction m with
  | zero =>
    intro l i hi h
    have hl : l.length ≤ 10 := nd_len h.1 (fun x hx => by
      have := up_le hp (c + 1) c x (by omega) (h.2.1 x hx)
      omega)
    show bok p c l l.length
    exact ⟨h.1, h.2.1, h.2.2.1, fun j hj hj2 => h.2.2.2 j (by omega) hj2⟩
  | succ m ih =>
    intro l i hi h
    rw [bf]
    split
    · rename_i z
      exact ih _ _ (by omega) (bok_s hp h z)
    · rename_i z
      exact ⟨h.1, h.2.1, h.2.2.1, fun j hj hj2 => h.2.2.2 j (by omega) hj2⟩
theorem bok_0 {p : Nat → List Nat} (hp : p_lt p) {c : Nat} : bok p c [c] 0 := ⟨by simp, fun x hx => by rw [List.mem_singleton.1 hx]; exact up_self hp, List.mem_singleton.2 rfl, fun j hj => absurd hj (Nat.not_lt_zero _)⟩
theorem bf_mem {p : Nat → List Nat} (hp : p_lt p) {c x : Nat} (hc : c < 10) : x ∈ bf p 10 [c] 0 ↔ up p c x = true := by
  obtain ⟨h1, h2, h3, h4⟩ := bf_ok hp hc 10 [c] 0 rfl (bok_0 hp)
  refine ⟨h2 x, fun h => ?_⟩
  have := up_cl hp (B := fun y => (bf p 10 [c] 0).contains y) (fun y hy q hq => by
    obtain ⟨j, hj, e⟩ := gd_ex (List.contains_iff_mem.1 hy)
    rw [← e] at hq
    exact List.contains_iff_mem.2 (h4 j hj hj q hq)) (c + 1) c x (by omega) (List.contains_iff_mem.2 h3) h
  exact List.contains_iff_mem.1 this
theorem nd_rev {l : List Nat} (h : l.Nodup) : l.reverse.Nodup := by
  unfold List.Nodup at h ⊢
  rw [List.pairwise_reverse]
  exact h.imp (fun z => Ne.symm z)
/-- the old order of a class -/
def oS (p : Nat → List Nat) (kd c : Nat) : List Nat := if kd = 1 then d1 (df p c) else if kd = 2 then d2 (df p c) else bf p 10 [c] 0
theorem oS_nd {p : Nat → List Nat} (hp : p_lt p) {kd c : Nat} (hc : c < 10) : (oS p kd c).Nodup := by
  unfold oS
  split
  · exact fad_nd List.nodup_nil
  split
  · exact nd_rev (fad_nd List.nodup_nil)
  · exact (bf_ok hp hc 10 [c] 0 rfl (bok_0 hp)).1
theorem oS_mem {p : Nat → List Nat} (hp : p_lt p) {kd c x : Nat} (hc : c < 10) : x ∈ oS p kd c ↔ up p c x = true := by
  unfold oS
  split
  · rw [d1, fad_mem, df_mem hp (c + 1) c (by omega)]
    simp
  split
  · rw [d2, List.mem_reverse, fad_mem, List.mem_reverse, df_mem hp (c + 1) c (by omega)]
    simp
  · exact bf_mem hp hc
theorem oS_lt {p : Nat → List Nat} (hp : p_lt p) {kd c x : Nat} (hc : c < 10) (h : x ∈ oS p kd c) : x < 10 := by
  have := up_le hp (c + 1) c x (by omega) ((oS_mem hp hc).1 h)
  omega
theorem oS_len {p : Nat → List Nat} (hp : p_lt p) {kd c : Nat} (hc : c < 10) : (oS p kd c).length ≤ 10 := nd_len (oS_nd hp hc) (fun _ hx => oS_lt hp hc hx)
