def AL (G : am_H) (A : List (List (Nat × Nat))) (n : Nat) : Prop := ∃ al, am_ia G 35 0 = some (5400, al) ∧ ∀ i, i < n → ∀ a, A[i]? = some a → ∀ p w, (p, w) ∈ a → al (18 * i + w) = nI p
theorem AL.fr {G G' : am_H} {ks : List Nat} {A : List (List (Nat × Nat))} {n : Nat} (h : AL G A n) (hF : Fr ks G G') (h1 : ¬ 35 ∈ ks) : AL G' A n := by
  obtain ⟨al, a, b⟩ := h
  exact ⟨al, by rw [hF.ia h1]; exact a, b⟩
section LF
variable {X : Nat × (Nat → Int32)} {D : Nat} {P : Option Value → am_H → Prop} {pm len T m ip due dep vp : Int32} {ipb : Bool} {l h d n O0 m0 : Nat} {f : Nat → Nat}
def nbB (A : List (List (Nat × Nat))) (d i j : Nat) : Bool := match A[i]?, A[j]? with
  | some a, some b => dsN d a b == 3
  | _, _ => false
end LF
