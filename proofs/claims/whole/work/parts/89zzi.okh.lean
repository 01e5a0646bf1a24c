/-! ===== each new state is good: feed, house ===== -/
theorem ok_feed {S : St} (ok : St_ok S) {a b c d e : Int32} : St_ok (t_feed S a b c d e).2 := by
  unfold t_feed
  split
  · rename_i z
    obtain ⟨o1, o2, o3, o4, o5⟩ := ok
    refine ⟨o1, o2, o3, ?_, fun x hx => ?_⟩
    · show (s_b S ++ fd a b c d e).length ≤ 900
      rw [List.length_append, fd_len]
      exact z
    · have hx : x ∈ s_b S ++ fd a b c d e := hx
      rcases List.mem_append.1 hx with h | h
      · exact o5 x h
      · unfold fd by4 at h
        simp only [List.mem_append, List.mem_cons, List.not_mem_nil, or_false] at h
        rcases h with (((h | h) | h) | h) | h <;> rcases h with h | h | h | h <;> rw [h] <;> exact byN_lt
  · exact ok
def lnZ (r : lR_) : Prop := r.1 = 0 → r.2.2.2.2.2 ≤ r.2.1
theorem zI_l {ts : List (Nat × Nat)} {i : Nat} {H : ho_S} : (zI ts i H).2.2.2.2.2 = H.2.2.2 := by
  unfold zI
  split
  · unfold zC
    split
    · rfl
    · split <;> rfl
  · split
    · unfold zM
      split <;> rfl
    · split
      · unfold zL
        split
        · rfl
        · rfl
      · split
        · unfold zL
          split
          · rfl
          · rfl
        · rfl
theorem lnE {ts : List (Nat × Nat)} {i : Nat} {H : ho_S} (h : H.2.2.2 ≤ i) : lnZ (zE ts i H) := by
  unfold zE
  intro z
  by_cases y : tK ts i = 59
  · rw [pE_y y]
    show H.2.2.2 + 1 ≤ i + 1
    omega
  · rw [pE_n y] at z
    exact absurd z (pF_ne (by decide))
theorem lnB {ts : List (Nat × Nat)} {r : lR_} (h : lnZ r) : lnZ (zB r (zE ts)) := by
  unfold zB
  by_cases z : r.1 = 0
  · rw [if_pos z]
    exact lnE (h z)
  · rw [if_neg z]
    exact fun y => absurd y z
theorem lnP {ts : List (Nat × Nat)} (G : gT ts) : ∀ m r, gZ ts 0 r → lnZ r → lnZ (zP ts m r) := by
  intro m
  induction m with
  | zero => intro r _ h; exact h
  | succ m ih =>
    intro r gz h
    by_cases z : r.1 = 0
    · by_cases t : tK ts r.2.1 = 1
      · rw [zP_e (Or.inr t)]; exact h
      · rw [zP_p z t]
        obtain ⟨q1, q2, q3⟩ := gz.1 z
        have gi := g_zI (i := r.2.1) G q2 q3
        have gb := g_zB (g := zE ts) gi (fun z2 => g_zE G (gi.1 z2).2.1 (gi.1 z2).2.2)
        refine ih _ ⟨fun y => ⟨by have := (gb.1 y).1; omega, (gb.1 y).2⟩, gb.2⟩ (lnB (fun y => ?_))
        rw [zI_l]
        have := h z
        have := (gi.1 y).1
        omega
    · rw [zP_e (Or.inl z)]; exact h
theorem lnH {ts : List (Nat × Nat)} : lnZ (zH ts) := by
  unfold zH
  split
  · exact fun _ => Nat.zero_le _
  · exact fun _ => Nat.zero_le _
theorem lnA {ts : List (Nat × Nat)} (G : gT ts) : lnZ (zA ts) := lnP G _ _ (g_zB (g_zH G) (fun z => g_zE G ((g_zH G).1 z).2.1 ((g_zH G).1 z).2.2)) (lnB lnH)
theorem ok_house {S : St} (ok : St_ok S) {n : Int32} : St_ok (t_house S n).2 := by
  unfold t_house
  by_cases z : ¬ n < nI 0 ∧ n ≤ nI (s_b S).length
  · rw [if_pos z]
    obtain ⟨o1, o2, o3, o4, o5⟩ := ok
    have hb : ∀ x ∈ (s_b S).take n.toNatClampNeg, x < 256 := fun x hx => o5 x (List.mem_of_mem_take hx)
    have hl : ((s_b S).take n.toNatClampNeg).length ≤ 900 := by rw [List.length_take]; omega
    have G := tz_gT hb hl
    have gz := g_zA G
    have ln := lnA G
    have G3 := G.2.2.1
    by_cases y : (t_hR S n.toNatClampNeg).1 = 0
    · rw [if_pos y]
      unfold t_hR at y ⊢
      obtain ⟨q1, q2, q3⟩ := gz.1 y
      have l := ln y
      refine ⟨⟨q3, ?_⟩, ⟨Nat.zero_le _, fun g hg => (by cases hg)⟩, o3, Nat.zero_le _, fun x hx => (by cases hx)⟩
      show (zA (tz ((s_b S).take n.toNatClampNeg) 0)).2.2.2.2.2 ≤ 1000
      omega
    · rw [if_neg y]
      exact ⟨o1, o2, o3, Nat.zero_le _, fun x hx => (by cases hx)⟩
  · rw [if_neg z]
    exact ok
