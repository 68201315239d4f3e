def hkM (d : Nat) (f : Nat → Nat) : Nat := mkm (fun p => !(arrs false (2 * (bl d).length + 1) (2 ^ p) d f).isEmpty) (2 * (bl d).length + 1)
def omB (d : Nat) (f : Nat → Nat) (w : Nat) : Bool := d.testBit w && (!(d - 2 ^ w == 0) && !(arrs false (2 * (bl (d - 2 ^ w)).length) 0 (d - 2 ^ w) f).isEmpty)
section HK
variable {X : Nat × (Nat → Int32)} {D : Nat} {P : Option Value → am_H → Prop} {pm len T m ip due dep vp : Int32} {l h d : Nat} {f : Nat → Nat}
end HK
