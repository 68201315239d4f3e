theorem ens_lt {ok : Nat → Nat → Bool} : ∀ (k O m : Nat), ∀ a ∈ ens ok k O m, ∀ p d, (p, d) ∈ a → d < 18
  | 0, O, m, a, ha, p, d, hp => by
    have : a = [] := by simpa [ens] using ha
    subst this
    cases hp
  | k + 1, O, m, a, ha, p, d, hp => by
    unfold ens at ha
    rw [List.mem_flatMap] at ha
    obtain ⟨e, he, h2⟩ := ha
    split at h2
    · rw [List.mem_map] at h2
      obtain ⟨b, hb, rfl⟩ := h2
      rcases List.mem_cons.mp hp with e1 | e1
      · cases e1
        exact List.mem_range.mp he
      · exact ens_lt k _ _ b hb p d e1
    · cases h2
theorem rwZ_lt {q : Nat} : ∀ {Z : List (Nat × Nat)}, (∀ p d, (p, d) ∈ Z → d < 18) → rwZ Z q < 18
  | [], _ => by show 0 < 18; omega
  | (p, d) :: Z, h => by
    show (if q = p ∨ q = p + d then d else rwZ Z q) < 18
    split
    · exact h p d List.mem_cons_self
    · exact rwZ_lt (fun p' d' hm => h p' d' (List.mem_cons_of_mem _ hm))
def rwN (a : List (Nat × Nat)) (q : Nat) : Nat := rwZ a.reverse q
theorem rwN_lt {ipb : Bool} {l h d q : Nat} {f : Nat → Nat} {a : List (Nat × Nat)} (ha : a ∈ arrs ipb l h d f) : rwN a q < 18 := by
  unfold arrs at ha
  split at ha
  · exact rwZ_lt (fun p d' hm => ens_lt _ _ _ a ha p d' (List.mem_reverse.mp hm))
  · cases ha
def atA (A : List (List (Nat × Nat))) (z : Int32) (q : Nat) : Int32 := match goA A z with
  | none => -6
  | some a => nI (rwN a q)
def fqA (A : List (List (Nat × Nat))) (q w : Nat) : Nat := (A.filter (fun a => rwN a q == w)).length
def opA (q : Nat) : List (List (Nat × Nat)) → Nat → Nat
  | [], c => c
  | a :: A, c => opA q A (c ||| (if rwN a q = 0 then 0 else 2 ^ rwN a q))
section LK
variable {X : Nat × (Nat → Int32)} {D : Nat} {P : Option Value → am_H → Prop} {pm vp : Int32} {ipb : Bool} {l h d : Nat} {f : Nat → Nat} {n ln O0 m0 : Nat}
end LK
