def sbN (l h w : Nat) (f : Nat → Nat) (s : Nat) : Bool := (frN l h).testBit s && ((frN l h).testBit (s + w) && (pnB true f s w && pnB true f (s + w) w))
section MS
variable {X : Nat × (Nat → Int32)} {D : Nat} {G : am_H} {P : Option Value → am_H → Prop} {pm len T m ip due dep vp : Int32} {l h d : Nat} {f : Nat → Nat}
end MS
