def apC (d : Nat) (x y : Nat → Int32) : Nat → Nat
  | 0 => 0
  | k + 1 => apC d x y k + (if (d.testBit k && !(x k == y k)) = true then 1 else 0)
section AP
variable {X : Nat × (Nat → Int32)} {D : Nat} {G : am_H} {P : Option Value → am_H → Prop} {pm len T m ip due dep vp : Int32} {l h d : Nat} {f : Nat → Nat} {x y : Nat → Int32}
end AP
