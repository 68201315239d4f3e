def okB (ipb : Bool) (f : Nat → Nat) (p d : Nat) : Bool := pnB ipb f p d && pnB ipb f (p + d) d
def EnG (G : am_H) (pm vp : Int32) (ipb : Bool) (f : Nat → Nat) (n ln O0 m0 : Nat) (Z : List (Nat × Nat)) (b : Nat) : Prop :=
  ∃ (T : Nat) (pl ch rw_ bg : Nat → Int32), am_ob G 23 5 = some (moL pm (nI ln) (nI T) (nI (ndM m0 Z)) (if ipb = true then 1 else 0) (nI n) (nI Z.length) vp) ∧ T < 2 ^ 18 ∧ (∀ q, (ndO O0 Z).testBit q = (decide (q < ln) && !T.testBit q)) ∧
    am_ia G 28 0 = some (9, pl) ∧ am_ia G 29 0 = some (9, ch) ∧ am_ia G 30 0 = some (18, rw_) ∧ am_ia G 31 0 = some (18, bg) ∧ stk pl ch Z ∧ (Z.length < n → ch Z.length = nI b) ∧ (∀ q, q < 18 → rw_ q = nI (rwZ Z q)) ∧ (∀ p d, (p, d) ∈ Z → bg d = nI p) ∧ vld (okB ipb f) O0 m0 Z
def EnA (G : am_H) (pm vp : Int32) : Prop := (∃ len T m ip due dep, am_ob G 23 5 = some (moL pm len T m ip due dep vp)) ∧ (∃ pl, am_ia G 28 0 = some (9, pl)) ∧ (∃ ch, am_ia G 29 0 = some (9, ch)) ∧ (∃ r, am_ia G 30 0 = some (18, r)) ∧ ∃ bg, am_ia G 31 0 = some (18, bg)
def EnX (G : am_H) (pm vp : Int32) (ln : Nat) : Prop := (∃ T m ip dep, am_ob G 23 5 = some (moL pm (nI ln) T m ip (-6) dep vp)) ∧ (∃ pl, am_ia G 28 0 = some (9, pl)) ∧ (∃ ch, am_ia G 29 0 = some (9, ch)) ∧ (∃ r, am_ia G 30 0 = some (18, r)) ∧ ∃ bg, am_ia G 31 0 = some (18, bg)
def PC (n ln O0 m0 : Nat) : Prop := O0 < 2 ^ 18 ∧ m0 < 2 ^ 18 ∧ m0.testBit 0 = false ∧ (bl m0).length = n ∧ (bl O0).length = 2 * n ∧ 1 ≤ n ∧ n ≤ 8 ∧ ln ≤ 18 ∧ ∀ q, O0.testBit q = true → q < ln
section ADV
variable {X : Nat × (Nat → Int32)} {D : Nat} {G0 : am_H} {P : Option Value → am_H → Prop} {pm vp : Int32} {ipb : Bool} {l h d : Nat} {f : Nat → Nat} {n ln O0 m0 : Nat} {R : List (List (Nat × Nat))}
end ADV
