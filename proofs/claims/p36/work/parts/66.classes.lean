def lxB (x y : Nat → Nat) : Nat → Nat → Bool
  | 0, _ => false
  | k + 1, i => if x i = y i then lxB x y k (i + 1) else decide (x i < y i)
def clB (l h d : Nat) (f : Nat → Nat) (a : List (Nat × Nat)) : Bool := !(lxB (rvN l a) (rwN a) l 0 && decide (vdI (bkN l h d f (rvN l a)) l = 0))
def clN (l h d : Nat) (f : Nat → Nat) : List (List (Nat × Nat)) → Nat → Nat
  | [], c => c
  | a :: R, c => clN l h d f R (c + (if clB l h d f a = true then 1 else 0))
section CL
variable {X : Nat × (Nat → Int32)} {D : Nat} {P : Option Value → am_H → Prop} {pm vp T m ip due dep : Int32} {ipb : Bool} {l h d n : Nat} {f : Nat → Nat} {nn O0 m0 : Nat}
end CL
