def svI (o : Option Nat) : Int32 := match o with
  | none => -6
  | some v => nI v
def BH (G : am_H) (many : Nat) (s : BT) : Prop := ∃ st qu, am_ia G 36 0 = some (300, st) ∧ am_ia G 37 0 = some (300, qu) ∧ (∀ j, j < many → st j = svI (s.1 j)) ∧ ∀ i v, s.2[i]? = some v → qu i = nI v
theorem BH.fr {G G' : am_H} {ks : List Nat} {many : Nat} {s : BT} (h : BH G many s) (hF : Fr ks G G') (h1 : ¬ 36 ∈ ks) (h2 : ¬ 37 ∈ ks) : BH G' many s := by
  obtain ⟨st, qu, a, b, c⟩ := h
  exact ⟨st, qu, by rw [hF.ia h1]; exact a, by rw [hF.ia h2]; exact b, c⟩
def stI (A : List (List (Nat × Nat))) (d : Nat) (z1 z2 : Int32) : Int32 := match goA A z1, goA A z2 with
  | some _, some _ => if z1.toInt < 300 ∧ z2.toInt < 300 then svI ((bfO (nbB A d) (min 300 A.length) 301 0 (bf0 z1.toInt.toNat)).1 z2.toInt.toNat) else -2
  | _, _ => -1
section SS
variable {X : Nat × (Nat → Int32)} {D : Nat} {P : Option Value → am_H → Prop} {pm len T m ip due dep vp : Int32} {l h d n : Nat} {f : Nat → Nat} {A : List (List (Nat × Nat))}
end SS
