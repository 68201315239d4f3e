def ndO (O0 : Nat) : List (Nat × Nat) → Nat
  | [] => O0
  | (p, d) :: Z => ndO O0 Z - (2 ^ p + 2 ^ (p + d))
def ndM (m0 : Nat) : List (Nat × Nat) → Nat
  | [] => m0
  | (_, d) :: Z => ndM m0 Z - 2 ^ d
def vld (ok : Nat → Nat → Bool) (O0 m0 : Nat) : List (Nat × Nat) → Prop
  | [] => True
  | (p, d) :: Z => vld ok O0 m0 Z ∧ p = lo (ndO O0 Z) ∧ (ndM m0 Z).testBit d = true ∧ (ndO O0 Z).testBit (p + d) = true ∧ ok p d = true
def itm (ok : Nat → Nat → Bool) (k O m d : Nat) : List (List (Nat × Nat)) := if (m.testBit d && (O.testBit (lo O + d) && ok (lo O) d)) = true then (ens ok k (O - (2 ^ lo O + 2 ^ (lo O + d))) (m - 2 ^ d)).map (fun a => (lo O, d) :: a) else []
def enF (ok : Nat → Nat → Bool) (k O m b : Nat) : List (List (Nat × Nat)) := (List.range' b (18 - b)).flatMap (itm ok k O m)
def upR (ok : Nat → Nat → Bool) (n O0 m0 : Nat) : List (Nat × Nat) → List (List (Nat × Nat))
  | [] => []
  | (_, d) :: Z => (enF ok (n - Z.length - 1) (ndO O0 Z) (ndM m0 Z) (d + 1)).map (fun a => Z.reverse ++ a) ++ upR ok n O0 m0 Z
def rsR (ok : Nat → Nat → Bool) (n O0 m0 : Nat) (Z : List (Nat × Nat)) (b : Nat) : List (List (Nat × Nat)) := (enF ok (n - Z.length - 1) (ndO O0 Z) (ndM m0 Z) (b + 1)).map (fun a => Z.reverse ++ a) ++ upR ok n O0 m0 Z
def rwZ : List (Nat × Nat) → Nat → Nat
  | [], _ => 0
  | (p, d) :: Z, q => if q = p ∨ q = p + d then d else rwZ Z q
def stk (pl ch : Nat → Int32) : List (Nat × Nat) → Prop
  | [] => True
  | (p, d) :: Z => pl Z.length = nI p ∧ ch Z.length = nI d ∧ stk pl ch Z
section VLD
variable {ok : Nat → Nat → Bool} {O0 m0 n : Nat} (hO : O0 < 2 ^ 18) (hm : m0 < 2 ^ 18) (hm0 : m0.testBit 0 = false) (hk : (bl m0).length = n) (hk2 : (bl O0).length = 2 * n)
end VLD
