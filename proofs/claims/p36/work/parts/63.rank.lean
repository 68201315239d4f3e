section RK
variable {X : Nat × (Nat → Int32)} {D : Nat} {P : Option Value → am_H → Prop} {pm vp : Int32} {l h d n : Nat} {f : Nat → Nat} {t : Nat → Int32}
def rkI (l h d n : Nat) (f : Nat → Nat) (t : Nat → Int32) : Int32 := if rtB n l t = true then (if vdI (bkN l h d f (gnP t)) l = 0 then nlF (fun a => eqR (rwN a) (gnP t) l) (arrs true l h d f) 0 else -6) else -3
def rvN (l : Nat) (a : List (Nat × Nat)) (i : Nat) : Nat := rwN a (l - 1 - i)
def rvI (l h d : Nat) (f : Nat → Nat) (z : Int32) : Int32 := match goA (arrs true l h d f) z with
  | none => -1
  | some a => if vdI (bkN l h d f (rvN l a)) l = 0 then nlF (fun b => eqR (rwN b) (rvN l a) l) (arrs true l h d f) 0 else -6
end RK
