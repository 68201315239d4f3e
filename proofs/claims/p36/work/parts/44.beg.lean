def EnS (G : am_H) (pm vp : Int32) (ipb : Bool) (f : Nat → Nat) (n ln O0 m0 : Nat) (R : List (List (Nat × Nat))) : Prop :=
  (R = [] ∧ EnX G pm vp ln) ∨ (PC n ln O0 m0 ∧ ∃ Z b, EnG G pm vp ipb f n ln O0 m0 Z b ∧ ((Z.length = n ∧ R = upR (okB ipb f) n O0 m0 Z) ∨ (Z = [] ∧ b = 0 ∧ R = rsR (okB ipb f) n O0 m0 [] 0)))
section ADV
variable {X : Nat × (Nat → Int32)} {D : Nat} {P : Option Value → am_H → Prop} {pm vp : Int32} {ipb : Bool} {l h d : Nat} {f : Nat → Nat} {n ln O0 m0 : Nat} {R : List (List (Nat × Nat))}
end ADV
