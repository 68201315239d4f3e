section MR
variable {X : Nat × (Nat → Int32)} {D : Nat} {P : Option Value → am_H → Prop} {n : Nat} {t : Nat → Int32}
def LK (G : am_H) (n : Nat) (g : Nat → Int32) : Prop := ∃ lf, am_ia G 33 0 = some (18, lf) ∧ ∀ i, i < n → lf i = g i
theorem LK.fr {G G' : am_H} {ks : List Nat} {g : Nat → Int32} (h : LK G n g) (hF : Fr ks G G') (h1 : ¬ 33 ∈ ks) : LK G' n g := by
  obtain ⟨lf, a, b⟩ := h
  exact ⟨lf, by rw [hF.ia h1]; exact a, b⟩
theorem MP.fr {G G' : am_H} {ks : List Nat} (h : MP G n t) (hF : Fr ks G G') (h1 : ¬ 27 ∈ ks) (h2 : ¬ 23 ∈ ks) : MP G' n t := by
  obtain ⟨⟨len, T, m, ip, due, dep, vp, a⟩, b, pf, c, e⟩ := h
  exact ⟨⟨len, T, m, ip, due, dep, vp, by rw [hF.ob h2]; exact a⟩, b, pf, by rw [hF.ia h1]; exact c, e⟩
end MR
section PIN
variable {X : Nat × (Nat → Int32)} {D : Nat} {G : am_H} {P : Option Value → am_H → Prop} {pm len T m ip due dep vp : Int32} {l h d : Nat} {f : Nat → Nat}
end PIN
