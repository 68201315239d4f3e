theorem apC_le {d : Nat} {x y : Nat → Int32} : ∀ k, apC d x y k ≤ k
  | 0 => Nat.le_refl _
  | k + 1 => by
    have := apC_le (d := d) (x := x) (y := y) k
    show apC d x y k + (if (d.testBit k && !(x k == y k)) = true then 1 else 0) ≤ k + 1
    split <;> omega
def nbF (q : List (Nat × Nat) → Bool) (ix : Int32) : List (List (Nat × Nat)) → Nat → Nat → Int32
  | [], _, c => if ix = -1 then nI c else -6
  | a :: R, k, c => if q a = true then (if nI c = ix then nI k else nbF q ix R (k + 1) (c + 1)) else nbF q ix R (k + 1) c
section NB
variable {X : Nat × (Nat → Int32)} {D : Nat} {P : Option Value → am_H → Prop} {pm vp : Int32} {ipb : Bool} {l h d : Nat} {f : Nat → Nat} {n ln O0 m0 : Nat}
def nbI (A : List (List (Nat × Nat))) (d : Nat) (z ix : Int32) : Int32 := match goA A z with
  | none => -1
  | some b => nbF (fun a => dsN d b a == 3) ix A 0 0
end NB
