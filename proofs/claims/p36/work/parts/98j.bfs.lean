/-! pure facts: distances, neighbours in order, fewest steps -/
theorem apC_sym {d : Nat} {x y : Nat → Int32} : ∀ k, apC d x y k = apC d y x k
  | 0 => rfl
  | k + 1 => by
    unfold apC
    rw [apC_sym k]
    congr 1
    have : (x k == y k) = (y k == x k) := by
      rw [Bool.eq_iff_iff, beq_iff_eq, beq_iff_eq]
      exact eq_comm
    rw [this]
theorem apC_self {d : Nat} {x : Nat → Int32} : ∀ k, apC d x x k = 0
  | 0 => rfl
  | k + 1 => by
    unfold apC
    rw [apC_self k]; simp
theorem apC_tri {d : Nat} {x y z : Nat → Int32} : ∀ k, apC d x z k ≤ apC d x y k + apC d y z k
  | 0 => Nat.le_refl _
  | k + 1 => by
    have ih := apC_tri (d := d) (x := x) (y := y) (z := z) k
    unfold apC
    by_cases hd : d.testBit k = true
    · rw [hd]
      simp only [Bool.true_and, Bool.not_eq_true', beq_eq_false_iff_ne]
      by_cases h1 : x k = y k
      · by_cases h2 : y k = z k
        · rw [if_neg (by simp [h1, h2]), if_neg (by simp [h1]), if_neg (by simp [h2])]; omega
        · by_cases h3 : x k = z k
          · exact absurd (h1.symm.trans h3) h2
          · rw [if_pos h3, if_neg (by simp [h1]), if_pos h2]; omega
      · rw [if_pos h1]
        split <;> split <;> omega
    · have hd : d.testBit k = false := by simpa using hd
      rw [hd]; simp; exact ih
theorem ds_sym {d : Nat} {a b : List (Nat × Nat)} : dsN d a b = dsN d b a := apC_sym 18
theorem ds_self {d : Nat} {a : List (Nat × Nat)} : dsN d a a = 0 := apC_self 18
theorem ds_tri {d : Nat} {a b c : List (Nat × Nat)} : dsN d a c ≤ dsN d a b + dsN d b c := apC_tri 18
theorem ds_le {d : Nat} {a b : List (Nat × Nat)} : dsN d a b ≤ 18 := apC_le 18
/-- the numbers of those that are wanted, in their order -/
def ixl (q : List (Nat × Nat) → Bool) : List (List (Nat × Nat)) → Nat → List Nat
  | [], _ => []
  | a :: R, k => if q a = true then k :: ixl q R (k + 1) else ixl q R (k + 1)
theorem ixl_len {q : List (Nat × Nat) → Bool} : ∀ (R : List (List (Nat × Nat))) (k : Nat), (ixl q R k).length = (R.filter q).length
  | [], _ => rfl
  | a :: R, k => by
    unfold ixl
    by_cases e : q a = true
    · rw [if_pos e, List.filter_cons_of_pos e, List.length_cons, List.length_cons, ixl_len R]
    · rw [if_neg e, List.filter_cons_of_neg e, ixl_len R]
theorem ixl_mem {q : List (Nat × Nat) → Bool} : ∀ (R : List (List (Nat × Nat))) (k j : Nat), j ∈ ixl q R k ↔ k ≤ j ∧ ∃ b, R[j - k]? = some b ∧ q b = true
  | [], k, j => by simp [ixl]
  | a :: R, k, j => by
    have ih := ixl_mem (q := q) R (k + 1) j
    have key : (k ≤ j ∧ ∃ b, (a :: R)[j - k]? = some b ∧ q b = true) ↔ (j = k ∧ q a = true) ∨ (k + 1 ≤ j ∧ ∃ b, R[j - (k + 1)]? = some b ∧ q b = true) := by
      constructor
      · rintro ⟨h1, b, h2, h3⟩
        by_cases e : j = k
        · subst e
          rw [Nat.sub_self] at h2
          have : a = b := by simpa using h2
          exact Or.inl ⟨rfl, this ▸ h3⟩
        · right
          rw [show j - k = (j - (k + 1)) + 1 by omega] at h2
          exact ⟨by omega, b, by simpa using h2, h3⟩
      · rintro (⟨rfl, h⟩ | ⟨h1, b, h2, h3⟩)
        · exact ⟨Nat.le_refl _, a, by rw [Nat.sub_self]; rfl, h⟩
        · refine ⟨by omega, b, ?_, h3⟩
          rw [show j - k = (j - (k + 1)) + 1 by omega]
          simpa using h2
    rw [key, ← ih]
    show j ∈ (if q a = true then k :: ixl q R (k + 1) else ixl q R (k + 1)) ↔ _
    by_cases e : q a = true
    · rw [if_pos e, List.mem_cons]
      simp [e]
    · rw [if_neg e]
      simp [e]
theorem ixl_sorted {q : List (Nat × Nat) → Bool} : ∀ (R : List (List (Nat × Nat))) (k : Nat), (ixl q R k).Pairwise (· < ·)
  | [], _ => List.Pairwise.nil
  | a :: R, k => by
    unfold ixl
    split
    · refine List.Pairwise.cons (fun j hj => ?_) (ixl_sorted R (k + 1))
      have := ((ixl_mem R (k + 1) j).mp hj).1
      omega
    · exact ixl_sorted R (k + 1)
theorem nbF_ix {q : List (Nat × Nat) → Bool} {i : Nat} (hi : i < 2 ^ 31) : ∀ (R : List (List (Nat × Nat))) (k c : Nat), c ≤ i → nbF q (nI i) R k c = match (ixl q R k)[i - c]? with | some j => nI j | none => -6
  | [], k, c, _ => by
    unfold nbF
    rw [if_neg (nI_n1 hi).1]; rfl
  | a :: R, k, c, hc => by
    unfold nbF ixl
    by_cases e : q a = true
    · rw [if_pos e, if_pos e]
      by_cases e2 : c = i
      · subst e2
        rw [if_pos rfl, Nat.sub_self]; rfl
      · rw [if_neg (nI_ne (by omega) hi e2), nbF_ix hi R (k + 1) (c + 1) (by omega), show i - c = (i - (c + 1)) + 1 by omega]
        rfl
    · rw [if_neg e, if_neg e, nbF_ix hi R (k + 1) c hc]
/-- a walk of n steps from i to j -/
def wkN (nb : Nat → Nat → Bool) (many : Nat) : Nat → Nat → Nat → Prop
  | 0, i, j => i = j
  | n + 1, i, j => ∃ m, wkN nb many n i m ∧ m < many ∧ j < many ∧ nb m j = true
theorem wk_pre {nb : Nat → Nat → Bool} {many i m : Nat} (hi : i < many) (hm : m < many) (hn : nb i m = true) : ∀ n j, wkN nb many n m j → wkN nb many (n + 1) i j
  | 0, j, h => by
    have e : m = j := h
    subst e
    exact ⟨i, rfl, hi, hm, hn⟩
  | n + 1, j, ⟨x, h1, h2, h3, h4⟩ => ⟨x, wk_pre hi hm hn n x h1, h2, h3, h4⟩
theorem wk_rev {nb : Nat → Nat → Bool} {many : Nat} (hs : ∀ i j, nb i j = true → nb j i = true) : ∀ n i j, wkN nb many n i j → wkN nb many n j i
  | 0, i, j, h => by
    have e : i = j := h
    exact e.symm
  | n + 1, i, j, ⟨m, h1, h2, h3, h4⟩ => wk_pre h3 h2 (hs m j h4) n i (wk_rev hs n i m h1)
theorem bfI_form {nb : Nat → Bool} {v : Nat} {s : BT} : ∀ j, (∀ x, (bfI nb v j s).1 x = (match s.1 x with | some w => some w | none => if x < j ∧ nb x = true then some v else none)) ∧ (bfI nb v j s).2 = s.2 ++ (List.range j).filter (fun x => decide (s.1 x = none) && nb x)
  | 0 => by
    refine ⟨fun x => ?_, by simp [bfI]⟩
    show s.1 x = _
    cases s.1 x <;> simp
  | j + 1 => by
    obtain ⟨h1, h2⟩ := bfI_form (nb := nb) (v := v) (s := s) j
    have hj : (bfI nb v j s).1 j = s.1 j := by
      rw [h1 j]
      cases s.1 j <;> simp
    have hr : (List.range (j + 1)).filter (fun x => decide (s.1 x = none) && nb x) = (List.range j).filter (fun x => decide (s.1 x = none) && nb x) ++ (if (decide (s.1 j = none) && nb j) = true then [j] else []) := by
      rw [List.range_succ, List.filter_append]
      congr 1
      by_cases e : (decide (s.1 j = none) && nb j) = true
      · rw [if_pos e, List.filter_cons_of_pos (p := fun x => decide (s.1 x = none) && nb x) e]; rfl
      · rw [if_neg e, List.filter_cons_of_neg (p := fun x => decide (s.1 x = none) && nb x) e]; rfl
    unfold bfI
    rw [hj]
    by_cases c : s.1 j = none ∧ nb j = true
    · rw [if_pos c]
      refine ⟨fun x => ?_, ?_⟩
      · show (if x = j then some v else (bfI nb v j s).1 x) = _
        by_cases e : x = j
        · subst e
          rw [if_pos rfl, c.1]
          show _ = if x < x + 1 ∧ nb x = true then some v else none
          rw [if_pos ⟨by omega, c.2⟩]
        · rw [if_neg e, h1 x]
          cases s.1 x with
          | some w => rfl
          | none =>
            show (if x < j ∧ nb x = true then some v else none) = if x < j + 1 ∧ nb x = true then some v else none
            by_cases z : x < j ∧ nb x = true
            · rw [if_pos z, if_pos ⟨by omega, z.2⟩]
            · rw [if_neg z, if_neg (fun y => z ⟨by omega, y.2⟩)]
      · show (bfI nb v j s).2 ++ [j] = _
        rw [hr, h2, if_pos (by rw [decide_eq_true c.1, c.2]; rfl), List.append_assoc]
    · rw [if_neg c]
      refine ⟨fun x => ?_, ?_⟩
      · rw [h1 x]
        cases hx : s.1 x with
        | some w => rfl
        | none =>
          show (if x < j ∧ nb x = true then some v else none) = if x < j + 1 ∧ nb x = true then some v else none
          by_cases z : x < j ∧ nb x = true
          · rw [if_pos z, if_pos ⟨by omega, z.2⟩]
          · rw [if_neg z, if_neg (fun y => by
              by_cases e : x = j
              · subst e; exact c ⟨hx, y.2⟩
              · exact z ⟨by omega, y.2⟩)]
      · rw [hr, h2, if_neg (fun e => c (by simpa using e)), List.append_nil]
def IB (nb : Nat → Nat → Bool) (many one k : Nat) (s : BT) : Prop :=
  s.1 one = some 0 ∧ (∀ x v, s.1 x = some v → wkN nb many v one x ∧ x ∈ s.2) ∧ (∀ x, x ∈ s.2 → x < many ∧ ∃ v, s.1 x = some v) ∧
  (∀ (p : Nat), p < k → ∀ (i vi : Nat), s.2[p]? = some i → s.1 i = some vi → ∀ j, j < many → nb i j = true → ∃ w, s.1 j = some w ∧ w ≤ vi + 1) ∧
  (∀ (p p' x y vx vy : Nat), p ≤ p' → s.2[p]? = some x → s.2[p']? = some y → s.1 x = some vx → s.1 y = some vy → vx ≤ vy) ∧
  (∀ (i vi : Nat), s.2[k]? = some i → s.1 i = some vi → ∀ x v, s.1 x = some v → v ≤ vi + 1)
theorem IB.step {nb : Nat → Nat → Bool} {many one k i : Nat} {s : BT} (h : IB nb many one k s) (hi : s.2[k]? = some i) : IB nb many one (k + 1) (bfI (nb i) ((s.1 i).getD 0 + 1) many s) := by
  obtain ⟨a, b, c, d, e, g⟩ := h
  obtain ⟨im, vi, hvi⟩ := c i (List.mem_of_getElem? hi)
  have hv : (s.1 i).getD 0 + 1 = vi + 1 := by rw [hvi]; rfl
  rw [hv]
  obtain ⟨f1, f2⟩ := bfI_form (nb := nb i) (v := vi + 1) (s := s) many
  generalize bfI (nb i) (vi + 1) many s = r at f1 f2
  have mono : ∀ x v, s.1 x = some v → r.1 x = some v := fun x v hx => by rw [f1 x, hx]
  have cas : ∀ x v, r.1 x = some v → s.1 x = some v ∨ (s.1 x = none ∧ x < many ∧ nb i x = true ∧ v = vi + 1) := fun x v hx => by
    rw [f1 x] at hx
    cases hs : s.1 x with
    | some w => rw [hs] at hx; exact Or.inl hx
    | none =>
      rw [hs] at hx
      have hx : (if x < many ∧ nb i x = true then some (vi + 1) else none) = some v := hx
      by_cases z : x < many ∧ nb i x = true
      · rw [if_pos z] at hx
        exact Or.inr ⟨rfl, z.1, z.2, (Option.some.inj hx).symm⟩
      · rw [if_neg z] at hx; cases hx
  have hlen : k < s.2.length := (List.getElem?_eq_some_iff.mp hi).1
  have old : ∀ (p x : Nat), p < s.2.length → (r.2[p]? = some x ↔ s.2[p]? = some x) := fun p x hp => by
    rw [f2, List.getElem?_append_left hp]
  have all : ∀ x v, r.1 x = some v → v ≤ vi + 1 := fun x v hx => by
    rcases cas x v hx with z | ⟨_, _, _, z⟩
    · exact g i vi hi hvi x v z
    · omega
  have new : ∀ (p x v : Nat), s.2.length ≤ p → r.2[p]? = some x → r.1 x = some v → v = vi + 1 := fun p x v hp hx hxv => by
    rw [f2, List.getElem?_append_right hp] at hx
    have hm := (List.mem_filter.mp (List.mem_of_getElem? hx)).2
    simp only [Bool.and_eq_true, decide_eq_true_eq] at hm
    rcases cas x v hxv with z | ⟨_, _, _, z⟩
    · rw [hm.1] at z; cases z
    · exact z
  have srt : ∀ (p p' x y vx vy : Nat), p ≤ p' → r.2[p]? = some x → r.2[p']? = some y → r.1 x = some vx → r.1 y = some vy → vx ≤ vy := fun p p' x y vx vy hp hx hy hvx hvy => by
    rcases Nat.lt_or_ge p' s.2.length with z | z
    · have hx1 := (old p x (by omega)).mp hx
      have hy1 := (old p' y z).mp hy
      obtain ⟨_, vx1, q1⟩ := c x (List.mem_of_getElem? hx1)
      obtain ⟨_, vy1, q2⟩ := c y (List.mem_of_getElem? hy1)
      rw [mono x vx1 q1] at hvx
      rw [mono y vy1 q2] at hvy
      have e1 := Option.some.inj hvx
      have e2 := Option.some.inj hvy
      have := e p p' x y vx1 vy1 hp hx1 hy1 q1 q2
      omega
    · have := new p' y vy z hy hvy
      have := all x vx hvx
      omega
  refine ⟨mono _ _ a, fun x v hx => ?_, fun x hx => ?_, fun p hp i' vi' hi' hv' j hj hn => ?_, srt, fun i' vi' hi' hv' x v hx => ?_⟩
  · rcases cas x v hx with z | ⟨z1, z2, z3, z4⟩
    · exact ⟨(b x v z).1, by rw [f2]; exact List.mem_append_left _ (b x v z).2⟩
    · subst z4
      refine ⟨⟨i, (b i vi hvi).1, im, z2, z3⟩, ?_⟩
      rw [f2]
      exact List.mem_append_right _ (List.mem_filter.mpr ⟨List.mem_range.mpr z2, by rw [decide_eq_true z1, z3]; rfl⟩)
  · rw [f2] at hx
    rcases List.mem_append.mp hx with z | z
    · obtain ⟨q1, v, q2⟩ := c x z
      exact ⟨q1, v, mono x v q2⟩
    · rw [List.mem_filter] at z
      have z2 := z.2
      simp only [Bool.and_eq_true, decide_eq_true_eq] at z2
      refine ⟨List.mem_range.mp z.1, vi + 1, ?_⟩
      rw [f1 x, z2.1]
      exact if_pos ⟨List.mem_range.mp z.1, z2.2⟩
  · have hi1 := (old p i' (by omega)).mp hi'
    obtain ⟨_, v1, q1⟩ := c i' (List.mem_of_getElem? hi1)
    rw [mono i' v1 q1] at hv'
    have e1 := Option.some.inj hv'
    by_cases ep : p = k
    · rw [ep, hi] at hi1
      have e3 := Option.some.inj hi1
      rw [← e3, hvi] at q1
      have e2 := Option.some.inj q1
      rw [← e3] at hn
      cases hs : s.1 j with
      | some w => exact ⟨w, mono j w hs, by have := g i vi hi hvi j w hs; omega⟩
      | none => exact ⟨vi + 1, by rw [f1 j, hs]; exact if_pos ⟨hj, hn⟩, by omega⟩
    · obtain ⟨w, u1, u2⟩ := d p (by omega) i' v1 hi1 q1 j hj hn
      exact ⟨w, mono j w u1, by omega⟩
  · have hk : r.2[k]? = some i := (old k i hlen).mpr hi
    have h1 := srt k (k + 1) i i' vi vi' (by omega) hk hi' (mono i vi hvi) hv'
    have h2 := all x v hx
    omega
/-- all neighbours of what is reached are reached, in a step more at most -/
def DN (nb : Nat → Nat → Bool) (many one : Nat) (s : BT) : Prop := s.1 one = some 0 ∧ (∀ x v, s.1 x = some v → wkN nb many v one x) ∧ ∀ x vx, s.1 x = some vx → ∀ j, j < many → nb x j = true → ∃ w, s.1 j = some w ∧ w ≤ vx + 1
theorem IB.dn {nb : Nat → Nat → Bool} {many one k : Nat} {s : BT} (h : IB nb many one k s) (hk : s.2.length ≤ k) : DN nb many one s := by
  obtain ⟨a, b, c, d, e, g⟩ := h
  refine ⟨a, fun x v hx => (b x v hx).1, fun x vx hx j hj hn => ?_⟩
  obtain ⟨p, hp⟩ := List.getElem?_of_mem (b x vx hx).2
  have := (List.getElem?_eq_some_iff.mp hp).1
  exact d p (by omega) x vx hp hx j hj hn
theorem bfO_dn {nb : Nat → Nat → Bool} {many one : Nat} : ∀ (m k K : Nat) (s : BT), BI many K s → IB nb many one k s → many < m + k → DN nb many one (bfO nb many m k s)
  | 0, k, K, s, hB, hI, hm => hI.dn (by have := hB.2.1; omega)
  | m + 1, k, K, s, hB, hI, hm => by
    unfold bfO
    cases hi : s.2[k]? with
    | none =>
      refine hI.dn ?_
      exact List.getElem?_eq_none_iff.mp hi
    | some i =>
      refine bfO_dn m (k + 1) (K + 1) _ ?_ (hI.step hi) (by omega)
      obtain ⟨_, vi, hvi⟩ := hI.2.2.1 i (List.mem_of_getElem? hi)
      refine bfI_bi hB ?_ many (Nat.le_refl _)
      have := hB.2.2 i vi hvi
      rw [hvi]
      show vi + 1 ≤ K + 1
      omega
theorem bf0_ib {nb : Nat → Nat → Bool} {many one : Nat} (h : one < many) : IB nb many one 0 (bf0 one) := by
  have v1 : ∀ x v, (bf0 one).1 x = some v → x = one ∧ v = 0 := fun x v hx => by
    have hx : (if x = one then some 0 else none) = some v := hx
    by_cases c : x = one
    · rw [if_pos c] at hx; cases hx; exact ⟨c, rfl⟩
    · rw [if_neg c] at hx; cases hx
  have v0 : (bf0 one).1 one = some 0 := if_pos rfl
  refine ⟨v0, fun x v hx => ?_, fun x hx => ?_, fun p hp => by omega, fun p p' x y vx vy _ _ _ hx hy => ?_, fun i vi _ _ x v hx => ?_⟩
  · obtain ⟨rfl, rfl⟩ := v1 x v hx
    exact ⟨rfl, List.mem_cons_self⟩
  · have : x = one := by simpa [bf0] using hx
    subst this
    exact ⟨h, 0, v0⟩
  · have := (v1 x vx hx).2; omega
  · have := (v1 x v hx).2; omega
theorem DN.comp {nb : Nat → Nat → Bool} {many one : Nat} {s : BT} (h : DN nb many one s) : ∀ n x, wkN nb many n one x → ∃ v, s.1 x = some v ∧ v ≤ n
  | 0, x, hw => by
    have e : one = x := hw
    subst e
    exact ⟨0, h.1, Nat.le_refl _⟩
  | n + 1, x, ⟨m, h1, h2, h3, h4⟩ => by
    obtain ⟨v, q1, q2⟩ := h.comp n m h1
    obtain ⟨w, u1, u2⟩ := h.2.2 m v q1 x h3 h4
    exact ⟨w, u1, by omega⟩
section STP
variable {A : List (List (Nat × Nat))} {d i j : Nat} {a b : List (Nat × Nat)}
theorem nbB_sym (h : nbB A d i j = true) : nbB A d j i = true := by
  unfold nbB at h ⊢
  cases hi : A[i]? with
  | none => rw [hi] at h; cases h
  | some a =>
    cases hj : A[j]? with
    | none => rw [hi, hj] at h; cases h
    | some b =>
      rw [hi, hj] at h
      have h : (dsN d a b == 3) = true := h
      show (dsN d b a == 3) = true
      rw [ds_sym]; exact h
theorem wk_dist : ∀ (n i j : Nat), wkN (nbB A d) (min 300 A.length) n i j → ∀ a b, A[i]? = some a → A[j]? = some b → dsN d a b ≤ 3 * n
  | 0, i, j, h, a, b, ha, hb => by
    have e : i = j := h
    subst e
    rw [ha] at hb
    cases hb
    rw [ds_self]; omega
  | n + 1, i, j, ⟨m, h1, h2, h3, h4⟩, a, b, ha, hb => by
    unfold nbB at h4
    cases hm : A[m]? with
    | none => rw [hm] at h4; cases h4
    | some c =>
      rw [hm, hb] at h4
      have h4 : (dsN d c b == 3) = true := h4
      have h5 : dsN d c b = 3 := by simpa using h4
      have := wk_dist n i m h1 a c ha hm
      have := ds_tri (d := d) (a := a) (b := c) (c := b)
      omega
/-- the fewest steps -/
def spO (A : List (List (Nat × Nat))) (d i j : Nat) : Option Nat := (bfO (nbB A d) (min 300 A.length) 301 0 (bf0 i)).1 j
theorem sp_dn (hi : i < min 300 A.length) : DN (nbB A d) (min 300 A.length) i (bfO (nbB A d) (min 300 A.length) 301 0 (bf0 i)) := bfO_dn 301 0 0 _ (bf0_bi hi) (bf0_ib hi) (by omega)
theorem spO_le {v : Nat} (hi : i < min 300 A.length) (h : spO A d i j = some v) : v ≤ 301 := by
  have := bfO_lt 301 0 0 _ (bf0_bi hi) j v h
  omega
theorem spO_wk {v : Nat} (hi : i < min 300 A.length) (h : spO A d i j = some v) : wkN (nbB A d) (min 300 A.length) v i j := (sp_dn hi).2.1 j v h
theorem spO_sym (hi : i < min 300 A.length) (hj : j < min 300 A.length) : spO A d i j = spO A d j i := by
  have key : ∀ i j, i < min 300 A.length → j < min 300 A.length → ∀ v, spO A d i j = some v → ∃ w, spO A d j i = some w ∧ w ≤ v := fun i j hi hj v h => by
    have := wk_rev (fun x y h => nbB_sym h) v i j (spO_wk hi h)
    exact (sp_dn hj).comp v i this
  cases h : spO A d i j with
  | some v =>
    obtain ⟨w, h1, h2⟩ := key i j hi hj v h
    obtain ⟨u, h3, h4⟩ := key j i hj hi w h1
    rw [h] at h3
    cases h3
    rw [h1]
    congr 1; omega
  | none =>
    cases h2 : spO A d j i with
    | none => rfl
    | some w =>
      obtain ⟨u, h3, _⟩ := key j i hj hi w h2
      rw [h] at h3; cases h3
theorem spO_0 (hi : i < min 300 A.length) : spO A d i j = some 0 ↔ i = j := by
  constructor
  · intro h; exact spO_wk hi h
  · intro e
    subst e
    exact (sp_dn hi).1
theorem spO_1 (hi : i < min 300 A.length) (hj : j < min 300 A.length) (hij : i ≠ j) (hn : nbB A d i j = true) : spO A d i j = some 1 := by
  obtain ⟨v, h1, h2⟩ := (sp_dn hi).comp 1 j ⟨i, rfl, hi, hj, hn⟩
  have h1 : spO A d i j = some v := h1
  by_cases c : v = 0
  · subst c
    exact absurd ((spO_0 hi).mp h1) hij
  · rw [h1]; congr 1; omega
theorem spO_w1 (hi : i < min 300 A.length) (h : spO A d i j = some 1) : nbB A d i j = true := by
  obtain ⟨m, h1, _, _, h4⟩ := spO_wk hi h
  have e : i = m := h1
  subst e
  exact h4
theorem nbB_of (ha : A[i]? = some a) (hb : A[j]? = some b) : nbB A d i j = (dsN d a b == 3) := by
  unfold nbB
  rw [ha, hb]
end STP
