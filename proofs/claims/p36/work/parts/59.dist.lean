def dsN (d : Nat) (a b : List (Nat × Nat)) : Nat := apC d (fun w => nI (bgN a w)) (fun w => nI (bgN b w)) 18
def dsI (A : List (List (Nat × Nat))) (d : Nat) (z1 z2 : Int32) : Int32 := match goA A z1, goA A z2 with
  | some a, some b => nI (dsN d a b)
  | _, _ => -1
section DI
variable {X : Nat × (Nat → Int32)} {D : Nat} {G : am_H} {P : Option Value → am_H → Prop} {pm vp : Int32} {l h d : Nat} {f : Nat → Nat}
end DI
