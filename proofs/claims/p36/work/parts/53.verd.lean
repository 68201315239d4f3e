def vdQ (b : Nat → Bool) : Nat → Nat → Option Nat
  | 0, _ => none
  | k + 1, i => if b i = true then some i else vdQ b k (i + 1)
def vdR (B : Nat → Nat → Bool) (l : Nat) : Nat → Nat → Option (Nat × Nat)
  | 0, _ => none
  | k + 1, r => match vdQ (B r) l 0 with
    | some q => some (r, q)
    | none => vdR B l k (r + 1)
def vdI (B : Nat → Nat → Bool) (l : Nat) : Int32 := match vdR B l 5 1 with
  | some (r, _) => nI r
  | none => 0
def vdP (B : Nat → Nat → Bool) (l : Nat) : Int32 := match vdR B l 5 1 with
  | some (_, q) => nI q
  | none => -6
section VD
variable {X : Nat × (Nat → Int32)} {D : Nat} {G : am_H} {P : Option Value → am_H → Prop} {pm len T m ip due dep vp : Int32} {l h d : Nat} {f g : Nat → Nat}
end VD
