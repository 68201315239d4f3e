def eqR (x y : Nat → Nat) : Nat → Bool
  | 0 => true
  | k + 1 => eqR x y k && (x k == y k)
def nlF (q : List (Nat × Nat) → Bool) : List (List (Nat × Nat)) → Nat → Int32
  | [], _ => -6
  | a :: R, k => if q a = true then nI k else nlF q R (k + 1)
theorem EnA.fr {G G' : am_H} {ks : List Nat} {pm vp : Int32} (h : EnA G pm vp) (hF : Fr ks G G') (a0 : ¬ 23 ∈ ks) (a1 : ¬ 28 ∈ ks) (a2 : ¬ 29 ∈ ks) (a3 : ¬ 30 ∈ ks) (a4 : ¬ 31 ∈ ks) : EnA G' pm vp := by
  obtain ⟨⟨len, T, m, ip, due, dep, b⟩, c1, c2, c3, c4⟩ := h
  exact ⟨⟨len, T, m, ip, due, dep, by rw [hF.ob a0]; exact b⟩, by rw [hF.ia a1]; exact c1, by rw [hF.ia a2]; exact c2, by rw [hF.ia a3]; exact c3, by rw [hF.ia a4]; exact c4⟩
theorem EnX.fr {G G' : am_H} {ks : List Nat} {pm vp : Int32} {ln : Nat} (h : EnX G pm vp ln) (hF : Fr ks G G') (a0 : ¬ 23 ∈ ks) (a1 : ¬ 28 ∈ ks) (a2 : ¬ 29 ∈ ks) (a3 : ¬ 30 ∈ ks) (a4 : ¬ 31 ∈ ks) : EnX G' pm vp ln := by
  obtain ⟨⟨T, m, ip, dep, b⟩, c1, c2, c3, c4⟩ := h
  exact ⟨⟨T, m, ip, dep, by rw [hF.ob a0]; exact b⟩, by rw [hF.ia a1]; exact c1, by rw [hF.ia a2]; exact c2, by rw [hF.ia a3]; exact c3, by rw [hF.ia a4]; exact c4⟩
theorem EnG.fr {G G' : am_H} {ks : List Nat} {pm vp : Int32} {ipb : Bool} {f : Nat → Nat} {n ln O0 m0 : Nat} {Z : List (Nat × Nat)} {b : Nat} (h : EnG G pm vp ipb f n ln O0 m0 Z b) (hF : Fr ks G G') (a0 : ¬ 23 ∈ ks) (a1 : ¬ 28 ∈ ks) (a2 : ¬ 29 ∈ ks) (a3 : ¬ 30 ∈ ks) (a4 : ¬ 31 ∈ ks) : EnG G' pm vp ipb f n ln O0 m0 Z b := by
  obtain ⟨T, pl, ch, r, bg, a, q1, q2, c1, c2, c3, c4, q3⟩ := h
  exact ⟨T, pl, ch, r, bg, by rw [hF.ob a0]; exact a, q1, q2, by rw [hF.ia a1]; exact c1, by rw [hF.ia a2]; exact c2, by rw [hF.ia a3]; exact c3, by rw [hF.ia a4]; exact c4, q3⟩
theorem EnS.fr {G G' : am_H} {ks : List Nat} {pm vp : Int32} {ipb : Bool} {f : Nat → Nat} {n ln O0 m0 : Nat} {R : List (List (Nat × Nat))} (h : EnS G pm vp ipb f n ln O0 m0 R) (hF : Fr ks G G') (a0 : ¬ 23 ∈ ks) (a1 : ¬ 28 ∈ ks) (a2 : ¬ 29 ∈ ks) (a3 : ¬ 30 ∈ ks) (a4 : ¬ 31 ∈ ks) : EnS G' pm vp ipb f n ln O0 m0 R := by
  rcases h with ⟨e, h⟩ | ⟨hc, Z, b, h, q⟩
  · exact Or.inl ⟨e, h.fr hF a0 a1 a2 a3 a4⟩
  · exact Or.inr ⟨hc, Z, b, h.fr hF a0 a1 a2 a3 a4, q⟩
section NL
variable {X : Nat × (Nat → Int32)} {D : Nat} {P : Option Value → am_H → Prop} {pm vp T m ip due dep : Int32} {ipb : Bool} {l h d : Nat} {f : Nat → Nat} {n O0 m0 : Nat}
end NL
