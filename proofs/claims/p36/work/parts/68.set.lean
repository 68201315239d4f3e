abbrev PT : Type := Nat × Nat × Nat × (Nat → Nat)
def stOK (x y z : Int32) : Bool := decide (1 ≤ x.toInt ∧ x.toInt ≤ 18 ∧ 0 ≤ y.toInt ∧ y.toInt < ((2 ^ x.toInt.toNat : Nat) : Int) ∧ 0 ≤ z.toInt ∧ z.toInt < 262144) && !z.toInt.toNat.testBit 0 && decide (1 ≤ (bl z.toInt.toNat).length ∧ (bl z.toInt.toNat).length ≤ 8)
def stS (x y z : Int32) (s : PT) : PT := if stOK x y z = true then (x.toInt.toNat, y.toInt.toNat, z.toInt.toNat, fun _ => 0) else s
def stV (x y z : Int32) : Int32 := if stOK x y z = true then nI (bl z.toInt.toNat).length else -2
def tgS (d : Nat) (b : Bool) : PT := (2 * (bl d).length + (if b = true then 1 else 0), if b = true then 2 ^ (2 * (bl d).length + 1 - 2) else 0, d, fun _ => 0)
def lgD (x y : Int32) : Nat := (2 ^ y.toInt.toNat - 1) * 2 ^ x.toInt.toNat
def lgOK (x y : Int32) : Bool := decide (1 ≤ x.toInt ∧ x.toInt ≤ 10 ∧ 1 ≤ y.toInt ∧ y.toInt ≤ 8)
def lgS (x y : Int32) (b : Bool) (s : PT) : PT := if lgOK x y = true then tgS (lgD x y) b else s
def lgV (x y : Int32) (b : Bool) : Int32 := if lgOK x y = true then nI (tgS (lgD x y) b).1 else -2
def nrD (x y : Int32) : Nat := (2 ^ x.toInt.toNat - 1) * 2 &&& (2 ^ y.toInt.toNat ^^^ 4294967295)
def nrOK (x y : Int32) : Bool := decide (2 ≤ x.toInt ∧ x.toInt ≤ 9 ∧ 1 ≤ y.toInt ∧ y.toInt ≤ x.toInt)
def nrS (x y : Int32) (b : Bool) (s : PT) : PT := if nrOK x y = true then tgS (nrD x y) b else s
def nrV (x y : Int32) (b : Bool) : Int32 := if nrOK x y = true then nI (tgS (nrD x y) b).1 else -2
def lgC (m : Nat) : Bool := decide (m < 2 ^ 18) && !m.testBit 0 && decide (1 ≤ (bl m).length) && decide ((bl m).length ≤ 8)
theorem lgC_s {m : Nat} (h : lgC m = true) : m < 2 ^ 18 ∧ m.testBit 0 = false ∧ 1 ≤ (bl m).length ∧ (bl m).length ≤ 8 := by
  unfold lgC at h
  simp only [Bool.and_eq_true, decide_eq_true_eq, Bool.not_eq_true'] at h
  exact ⟨h.1.1.1, h.1.1.2, h.1.2, h.2⟩
theorem lgD_c : ∀ x, x < 10 → ∀ y, y < 8 → lgC ((2 ^ (y + 1) - 1) * 2 ^ (x + 1)) = true := by decide +kernel
theorem nrD_c : ∀ x, x < 8 → ∀ y, y < x + 2 → lgC ((2 ^ (x + 2) - 1) * 2 &&& (2 ^ (y + 1) ^^^ 4294967295)) = true := by decide +kernel
theorem lgD_ok (x : Nat) (hx : x ≤ 10) (y : Nat) (hy : y ≤ 8) (h1 : 1 ≤ x) (h2 : 1 ≤ y) : (2 ^ y - 1) * 2 ^ x < 2 ^ 18 ∧ ((2 ^ y - 1) * 2 ^ x).testBit 0 = false ∧ 1 ≤ (bl ((2 ^ y - 1) * 2 ^ x)).length ∧ (bl ((2 ^ y - 1) * 2 ^ x)).length ≤ 8 := by
  have := lgC_s (lgD_c (x - 1) (by omega) (y - 1) (by omega))
  rw [show y - 1 + 1 = y by omega, show x - 1 + 1 = x by omega] at this
  exact this
theorem nrD_ok (x : Nat) (hx : x ≤ 9) (y : Nat) (hy : y ≤ x) (h1 : 2 ≤ x) (h2 : 1 ≤ y) : ((2 ^ x - 1) * 2 &&& (2 ^ y ^^^ 4294967295)) < 2 ^ 18 ∧ ((2 ^ x - 1) * 2 &&& (2 ^ y ^^^ 4294967295)).testBit 0 = false ∧ 1 ≤ (bl ((2 ^ x - 1) * 2 &&& (2 ^ y ^^^ 4294967295))).length ∧ (bl ((2 ^ x - 1) * 2 &&& (2 ^ y ^^^ 4294967295))).length ≤ 8 := by
  have := lgC_s (nrD_c (x - 2) (by omega) (y - 1) (by omega))
  rw [show y - 1 + 1 = y by omega, show x - 2 + 2 = x by omega] at this
  exact this
section ST
variable {X : Nat × (Nat → Int32)} {D : Nat} {P : Option Value → am_H → Prop} {pm len T m ip due dep vp : Int32} {l h d : Nat} {f : Nat → Nat}
end ST
