def tmN (g : Nat → Nat) (w : Nat) : Nat → Nat
  | 0 => 0
  | k + 1 => tmN g w k + (if g k = w then 1 else 0)
section TM
variable {X : Nat × (Nat → Int32)} {D : Nat} {G : am_H} {P : Option Value → am_H → Prop} {pm len T m ip due dep vp : Int32} {l h d : Nat} {f g : Nat → Nat}
end TM
