theorem ens_has {ok : Nat → Nat → Bool} : ∀ (k O m : Nat), m < 2 ^ 18 → (bl m).length = k → ∀ a ∈ ens ok k O m, ∀ w, m.testBit w = true → ∃ p, (p, w) ∈ a
  | 0, O, m, hm, hk, a, ha, w, hw => by
    rw [bl_zero hm (List.eq_nil_of_length_eq_zero hk), Nat.zero_testBit] at hw
    cases hw
  | k + 1, O, m, hm, hk, a, ha, w, hw => by
    unfold ens at ha
    rw [List.mem_flatMap] at ha
    obtain ⟨e, he, h2⟩ := ha
    split at h2
    · next c =>
      rw [Bool.and_eq_true] at c
      rw [List.mem_map] at h2
      obtain ⟨b, hb, rfl⟩ := h2
      by_cases c0 : w = e
      · subst c0
        exact ⟨_, List.mem_cons_self⟩
      · have hl := bl_sub_len (List.mem_range.mp he) c.1
        obtain ⟨p, hp⟩ := ens_has k _ (m - 2 ^ e) (Nat.lt_of_le_of_lt (Nat.sub_le _ _) hm) (by omega) b hb w (by
          have hbit : w ∈ bl (m - 2 ^ e) := by
            rw [bl_sub c.1, (bl_nodup m).mem_erase_iff]
            refine ⟨c0, bl_mem.mpr ⟨?_, hw⟩⟩
            by_cases z : w < 18
            · exact z
            · rw [bt_hi hm (by omega)] at hw
              cases hw
          exact (bl_mem.mp hbit).2)
        exact ⟨p, List.mem_cons_of_mem _ hp⟩
    · cases h2
def bgN (a : List (Nat × Nat)) (w : Nat) : Nat := ((a.find? (fun e => e.2 == w)).map (·.1)).getD 0
theorem bgN_of {a : List (Nat × Nat)} {w : Nat} (h : ∃ p, (p, w) ∈ a) : (bgN a w, w) ∈ a := by
  obtain ⟨p, hp⟩ := h
  unfold bgN
  cases e : a.find? (fun e => e.2 == w) with
  | none =>
    have := List.find?_eq_none.mp e _ hp
    simp at this
  | some x =>
    have h1 := List.mem_of_find?_eq_some e
    have h2 := List.find?_some e
    obtain ⟨x1, x2⟩ := x
    simp only [beq_iff_eq] at h2
    subst h2
    exact h1
theorem bgN_mem {ipb : Bool} {l h d w : Nat} {f : Nat → Nat} {a : List (Nat × Nat)} (hd : d < 2 ^ 18) (ha : a ∈ arrs ipb l h d f) (hw : d.testBit w = true) : (bgN a w, w) ∈ a := by
  unfold arrs at ha
  split at ha
  · exact bgN_of (ens_has _ _ _ hd rfl a ha w hw)
  · cases ha
def stA (A : List (List (Nat × Nat))) (z : Int32) (w : Nat) : Int32 := match goA A z with
  | none => -6
  | some a => nI (bgN a w)
section LL
variable {X : Nat × (Nat → Int32)} {D : Nat} {P : Option Value → am_H → Prop} {pm vp : Int32} {ipb : Bool} {l h d : Nat} {f : Nat → Nat} {n ln O0 m0 : Nat}
end LL
