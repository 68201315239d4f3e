abbrev BT : Type := (Nat → Option Nat) × List Nat
def bfI (nb : Nat → Bool) (v : Nat) : Nat → BT → BT
  | 0, s => s
  | j + 1, s => if (bfI nb v j s).1 j = none ∧ nb j = true then (fun q => if q = j then some v else (bfI nb v j s).1 q, (bfI nb v j s).2 ++ [j]) else bfI nb v j s
def bfO (nb : Nat → Nat → Bool) (many : Nat) : Nat → Nat → BT → BT
  | 0, _, s => s
  | m + 1, k, s => match s.2[k]? with
    | none => s
    | some i => bfO nb many m (k + 1) (bfI (nb i) ((s.1 i).getD 0 + 1) many s)
def cntN (S : Nat → Option Nat) : Nat → Nat
  | 0 => 0
  | k + 1 => cntN S k + (if S k = none then 1 else 0)
theorem cntN_out {S : Nat → Option Nat} {j v : Nat} : ∀ m, m ≤ j → cntN (fun q => if q = j then some v else S q) m = cntN S m
  | 0, _ => rfl
  | m + 1, h => by
    show cntN (fun q => if q = j then some v else S q) m + (if (if m = j then some v else S m) = none then 1 else 0) = cntN S m + _
    rw [cntN_out m (by omega), if_neg (show ¬ m = j by omega)]
theorem cntN_upd {S : Nat → Option Nat} {j v : Nat} (hn : S j = none) : ∀ m, j < m → cntN (fun q => if q = j then some v else S q) m + 1 = cntN S m
  | 0, h => by omega
  | m + 1, h => by
    show cntN (fun q => if q = j then some v else S q) m + (if (if m = j then some v else S m) = none then 1 else 0) + 1 = cntN S m + (if S m = none then 1 else 0)
    by_cases c : m = j
    · subst c
      rw [cntN_out m (Nat.le_refl _), if_pos (show m = m from rfl), if_neg (by simp), if_pos hn]
    · rw [if_neg c]
      have := cntN_upd (v := v) hn m (by omega)
      omega
def BI (many k : Nat) (s : BT) : Prop := (∀ v ∈ s.2, v < many ∧ (s.1 v).isSome = true) ∧ s.2.length + cntN s.1 many = many ∧ ∀ j x, s.1 j = some x → x ≤ k
theorem BI.room {many k j : Nat} {s : BT} (h : BI many k s) (hj : j < many) (hn : s.1 j = none) : s.2.length < many := by
  have h1 := cntN_upd (v := 0) hn many hj
  have := h.2.1
  omega
theorem BI.up {many k : Nat} {s : BT} (h : BI many k s) : BI many (k + 1) s := ⟨h.1, h.2.1, fun j x hx => by have := h.2.2 j x hx; omega⟩
theorem bfI_bi {nb : Nat → Bool} {many k v : Nat} {s : BT} (h : BI many k s) (hv : v ≤ k + 1) : ∀ j, j ≤ many → BI many (k + 1) (bfI nb v j s)
  | 0, _ => h.up
  | j + 1, hj => by
    have ih := bfI_bi (nb := nb) h hv j (by omega)
    unfold bfI
    split
    · next c =>
      refine ⟨fun w hw => ?_, ?_, fun q x hx => ?_⟩
      · rcases List.mem_append.mp hw with e | e
        · have := ih.1 w e
          refine ⟨this.1, ?_⟩
          show (if w = j then some v else _).isSome = true
          split
          · rfl
          · exact this.2
        · have : w = j := by simpa using e
          subst this
          refine ⟨by omega, ?_⟩
          show (if w = w then some v else _).isSome = true
          rw [if_pos rfl]; rfl
      · have h1 := cntN_upd (v := v) c.1 many (by omega)
        have := ih.2.1
        show ((bfI nb v j s).2 ++ [j]).length + cntN (fun q => if q = j then some v else (bfI nb v j s).1 q) many = many
        rw [List.length_append]
        have e1 : [j].length = 1 := rfl
        omega
      · have hx : (if q = j then some v else (bfI nb v j s).1 q) = some x := hx
        split at hx
        · cases hx; exact hv
        · exact ih.2.2 q x hx
    · exact ih
theorem bfI_mono {nb : Nat → Bool} {v : Nat} {s : BT} : ∀ j, (∀ q x, s.1 q = some x → (bfI nb v j s).1 q = some x) ∧ ∃ Z, (bfI nb v j s).2 = s.2 ++ Z
  | 0 => ⟨fun q x h => h, [], by simp [bfI]⟩
  | j + 1 => by
    obtain ⟨a, Z, b⟩ := bfI_mono (nb := nb) (v := v) (s := s) j
    unfold bfI
    split
    · next c =>
      refine ⟨fun q x h => ?_, Z ++ [j], ?_⟩
      · show (if q = j then some v else (bfI nb v j s).1 q) = some x
        split
        · next e =>
          have := a q x h
          rw [e, c.1] at this
          cases this
        · exact a q x h
      · show (bfI nb v j s).2 ++ [j] = s.2 ++ (Z ++ [j])
        rw [b, List.append_assoc]
    · exact ⟨a, Z, b⟩
theorem bfO_mono {nb : Nat → Nat → Bool} {many : Nat} : ∀ (m k : Nat) (s : BT) (q x : Nat), s.1 q = some x → (bfO nb many m k s).1 q = some x
  | 0, _, _, _, _, h => h
  | m + 1, k, s, q, x, h => by
    unfold bfO
    split
    · exact h
    · exact bfO_mono m _ _ q x ((bfI_mono many).1 q x h)
def bfC (nb : Nat → Nat → Bool) (many other : Nat) : Nat → Nat → BT → BT
  | 0, _, s => s
  | m + 1, k, s => match s.2[k]? with
    | none => s
    | some i => if i = other then s else bfC nb many other m (k + 1) (bfI (nb i) ((s.1 i).getD 0 + 1) many s)
theorem bfC_eq {nb : Nat → Nat → Bool} {many other : Nat} : ∀ (m k K : Nat) (s : BT), BI many K s → (bfC nb many other m k s).1 other = (bfO nb many m k s).1 other
  | 0, _, _, _, _ => rfl
  | m + 1, k, K, s, h => by
    unfold bfC bfO
    split
    · rfl
    · next i hi =>
      split
      · next e =>
        have hs := (h.1 i (List.mem_of_getElem? hi)).2
        rw [e] at hs
        obtain ⟨x, hx⟩ := Option.isSome_iff_exists.mp hs
        rw [hx, bfO_mono m _ _ other x ((bfI_mono many).1 other x hx)]
      · refine bfC_eq m (k + 1) (K + 1) _ (bfI_bi h ?_ many (Nat.le_refl _))
        have hs := (h.1 i (List.mem_of_getElem? hi)).2
        obtain ⟨x, hx⟩ := Option.isSome_iff_exists.mp hs
        rw [hx]
        have := h.2.2 i x hx
        show x + 1 ≤ K + 1
        omega
def bf0 (one : Nat) : BT := (fun q => if q = one then some 0 else none, [one])
theorem cntN_0 : ∀ m, cntN (fun _ => none) m = m
  | 0 => rfl
  | m + 1 => by
    show cntN (fun _ => none) m + (if (none : Option Nat) = none then 1 else 0) = m + 1
    rw [cntN_0 m, if_pos rfl]
theorem bf0_bi {one many : Nat} (h : one < many) : BI many 0 (bf0 one) := by
  refine ⟨fun v hv => ?_, ?_, fun j x hx => ?_⟩
  · have : v = one := by simpa [bf0] using hv
    subst this
    exact ⟨h, by simp [bf0]⟩
  · have := cntN_upd (S := fun _ => none) (j := one) (v := 0) rfl many h
    rw [cntN_0] at this
    show 1 + cntN (fun q => if q = one then some 0 else none) many = many
    omega
  · have hx : (if j = one then some 0 else none) = some x := hx
    split at hx
    · cases hx; exact Nat.le_refl _
    · cases hx

