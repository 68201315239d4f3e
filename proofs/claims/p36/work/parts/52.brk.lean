def bk1 (h : Nat) (g : Nat → Nat) (q : Nat) : Bool := (g q == 0) != h.testBit q
def bk2 (d : Nat) (g : Nat → Nat) (q : Nat) : Bool := !(g q == 0) && !d.testBit (g q)
def bk3 (g : Nat → Nat) (q : Nat) : Bool := !(g q == 0) && decide (2 < tmN g (g q) (q + 1))
def bk4 (l : Nat) (g : Nat → Nat) (q : Nat) : Bool := !(g q == 0) && (!(decide (g q ≤ q) && g (q - g q) == g q) && !(decide (q + g q < l) && g (q + g q) == g q))
def bk5 (f g : Nat → Nat) (q : Nat) : Bool := !(f q == 0) && !(f q == g q)
def bkN (l h d : Nat) (f g : Nat → Nat) (r q : Nat) : Bool := if r = 1 then bk1 h g q else if r = 2 then bk2 d g q else if r = 3 then bk3 g q else if r = 4 then bk4 l g q else bk5 f g q
theorem tmN_le {g : Nat → Nat} {w : Nat} : ∀ k, tmN g w k ≤ k
  | 0 => Nat.le_refl _
  | k + 1 => by
    have := tmN_le (g := g) (w := w) k
    show tmN g w k + (if g k = w then 1 else 0) ≤ k + 1
    split <;> omega
section BK
variable {X : Nat × (Nat → Int32)} {D : Nat} {G : am_H} {P : Option Value → am_H → Prop} {pm len T m ip due dep vp : Int32} {l h d : Nat} {f g : Nat → Nat}
end BK
