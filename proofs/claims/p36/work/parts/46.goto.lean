def RW (G : am_H) (a : List (Nat × Nat)) : Prop := ∃ r bg, am_ia G 30 0 = some (18, r) ∧ am_ia G 31 0 = some (18, bg) ∧ (∀ q, q < 18 → r q = nI (rwZ a.reverse q)) ∧ ∀ p d, (p, d) ∈ a → bg d = nI p
theorem RW.fr {G G' : am_H} {ks : List Nat} {a : List (Nat × Nat)} (h : RW G a) (hF : Fr ks G G') (h1 : ¬ 30 ∈ ks) (h2 : ¬ 31 ∈ ks) : RW G' a := by
  obtain ⟨r, bg, a1, a2, a3⟩ := h
  exact ⟨r, bg, by rw [hF.ia h1]; exact a1, by rw [hF.ia h2]; exact a2, a3⟩
theorem arrs_len {ipb : Bool} {l h d : Nat} {f : Nat → Nat} (hl : l ≤ 18) (hd : d < 2 ^ 18) (hd0 : d.testBit 0 = false) (hd8 : (bl d).length ≤ 8) : (arrs ipb l h d f).length ≤ 512 := by
  unfold arrs
  split
  · next c =>
    rw [Bool.and_eq_true] at c
    exact ens_512 (frN_lt hl) hd hd0 rfl hd8 (by simpa [filledB] using c.1)
  · exact Nat.zero_le _
section GT
variable {X : Nat × (Nat → Int32)} {D : Nat} {P : Option Value → am_H → Prop} {pm vp : Int32} {ipb : Bool} {l h d : Nat} {f : Nat → Nat} {n ln O0 m0 : Nat} {R : List (List (Nat × Nat))}
def goA (A : List (List (Nat × Nat))) (z : Int32) : Option (List (Nat × Nat)) := if z < 0 then none else A[z.toInt.toNat]?
end GT
