def MP (G : am_H) (n : Nat) (t : Nat → Int32) : Prop := (∃ len T m ip due dep vp, am_ob G 23 5 = some (moL (nI n) len T m ip due dep vp)) ∧ n ≤ 18 ∧ ∃ pf, am_ia G 27 0 = some (18, pf) ∧ ∀ i, i < n → pf i = t i
def mgI (c : Int32) : Int32 := if 49 ≤ c.toInt ∧ c.toInt ≤ 57 then c - 48 else if 97 ≤ c.toInt ∧ c.toInt ≤ 104 then 10 + c - 97 else if c = 46 then 0 else if c = 63 then 18 else -6
def sgI (x : Int32) : Int32 := if x = 0 then 46 else if x < 10 then 48 + x else 97 + x - 10
def ftI (t : Nat → Int32) : Nat → Nat → Int32
  | 0, _ => -6
  | k + 1, i => if mgI (t i) < 0 then nI i else ftI t k (i + 1)
section MPD
variable {X : Nat × (Nat → Int32)} {D : Nat} {G : am_H} {P : Option Value → am_H → Prop} {n : Nat} {t : Nat → Int32}
end MPD
