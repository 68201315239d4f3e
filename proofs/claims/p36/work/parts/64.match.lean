def mtR (t : Nat → Int32) (x : Nat → Nat) : Nat → Bool
  | 0 => true
  | k + 1 => mtR t x k && (decide (mgI (t k) = 18) || decide (mgI (t k) = nI (x k)))
theorem mtR_le {t : Nat → Int32} {x : Nat → Nat} {i : Nat} : ∀ {m : Nat}, i ≤ m → mtR t x i = false → mtR t x m = false
  | 0, h, e => by rw [show i = 0 by omega] at e; exact e
  | m + 1, h, e => by
    by_cases q : i = m + 1
    · rw [← q]; exact e
    · show (mtR t x m && _) = false
      rw [mtR_le (show i ≤ m by omega) e]; rfl
def mtB (n l : Nat) (t : Nat → Int32) (a : List (Nat × Nat)) : Bool := decide (n = l) && mtR t (rwN a) l
section MT
variable {X : Nat × (Nat → Int32)} {D : Nat} {P : Option Value → am_H → Prop} {vp T m ip due dep : Int32} {ipb : Bool} {l h d n : Nat} {f : Nat → Nat} {t : Nat → Int32} {nn O0 m0 : Nat}
def mtI (A : List (List (Nat × Nat))) (n l : Nat) (t : Nat → Int32) (ix : Int32) : Int32 := if ftI t n 0 = -6 then nbF (mtB n l t) ix A 0 0 else -3
end MT
