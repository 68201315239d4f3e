def psm (m : Nat) : Nat → Nat
  | 0 => 0
  | k + 1 => psm m k + (if m.testBit k = true then k else 0)
theorem psm_bsm (m : Nat) : ∀ (n i : Nat), psm m (i + n) = psm m i + bsm m i n
  | 0, i => rfl
  | n + 1, i => by
    have h := psm_bsm m n (i + 1)
    rw [show i + (n + 1) = i + 1 + n by omega, h]
    show psm m i + _ + bsm m (i + 1) n = psm m i + (_ + bsm m (i + 1) n)
    rw [Nat.add_assoc]
theorem psm_hi {m k : Nat} (h : ∀ q, k ≤ q → m.testBit q = false) : ∀ n, psm m (k + n) = psm m k
  | 0 => rfl
  | n + 1 => by
    show psm m (k + n) + (if m.testBit (k + n) = true then k + n else 0) = psm m k
    rw [psm_hi h n, h (k + n) (by omega)]
    simp
theorem psm_eq {m k : Nat} (hk : k ≤ 31) (h : ∀ q, k ≤ q → m.testBit q = false) : psm m k = bsm m 0 31 := by
  have h1 := psm_bsm m 31 0
  have h2 := psm_hi h (31 - k)
  rw [show k + (31 - k) = 0 + 31 by omega] at h2
  rw [← h2, h1]
  show 0 + bsm m 0 31 = _
  rw [Nat.zero_add]
section CD
variable {X : Nat × (Nat → Int32)} {D : Nat} {G : am_H} {P : Option Value → am_H → Prop} {pm len T m ip due dep vp : Int32} {l h d : Nat} {f : Nat → Nat}
def ssI (l h d : Nat) : Int32 := if filledB l h d = true then (if (bsm (frN l h) 0 31 + bsm d 0 31) % 2 = 0 then (nI (bsm (frN l h) 0 31) - nI (bsm d 0 31)) / 2 else -6) else -6
def slI (l h d : Nat) : Int32 := if filledB l h d = true then iI (shN l h d) + 1000 else -6
def pbI (l h d : Nat) (f : Nat → Nat) (n : Nat) (x : Int32) : Int32 := if x = 0 then nI l else if x = 1 then nI h else if x = 2 then nI d else if x = 3 then nI (mkm (fun q => !(f q == 0)) l) else if x = 4 then nI (bl (frN l h)).length else if x = 5 then nI n else -2
def pnV (l : Nat) (f : Nat → Nat) (x y : Int32) : Int32 := if inN x l = true then (if 0 ≤ y.toInt ∧ y.toInt ≤ 17 then nI (f x.toInt.toNat) else -2) else -1
def pnF (l : Nat) (f : Nat → Nat) (x y : Int32) : Nat → Nat := if inN x l = true then (if 0 ≤ y.toInt ∧ y.toInt ≤ 17 then (fun q => if q = x.toInt.toNat then y.toInt.toNat else f q) else f) else f
end CD
