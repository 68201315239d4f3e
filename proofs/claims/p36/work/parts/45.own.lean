def badP (h d : Nat) (f : Nat → Nat) (n : Nat) : Bool := (List.range n).any (fun q => !(f q == 0) && (h.testBit q || !d.testBit (f q)))
def arrs (ipb : Bool) (l h d : Nat) (f : Nat → Nat) : List (List (Nat × Nat)) :=
  if (filledB l h d && !(ipb && badP h d f l)) = true then ens (okB ipb f) (bl d).length (frN l h) d else []
section OWN
variable {X : Nat × (Nat → Int32)} {D : Nat} {P : Option Value → am_H → Prop} {pm vp : Int32} {l h d : Nat} {f : Nat → Nat}
end OWN
