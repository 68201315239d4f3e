def okM (c : Int32) : Bool := decide (0 ≤ (mgI c).toInt ∧ (mgI c).toInt ≤ 17)
def rtA (t : Nat → Int32) : Nat → Bool
  | 0 => true
  | k + 1 => rtA t k && okM (t k)
theorem rtA_ok {t : Nat → Int32} : ∀ {k : Nat}, rtA t k = true → ∀ i, i < k → okM (t i) = true
  | 0, _, i, hi => by omega
  | k + 1, h, i, hi => by
    have h : (rtA t k && okM (t k)) = true := h
    rw [Bool.and_eq_true] at h
    by_cases c : i = k
    · rw [c]; exact h.2
    · exact rtA_ok h.1 i (by omega)
def rtB (n l : Nat) (t : Nat → Int32) : Bool := decide (n = l) && rtA t n
section JD
variable {X : Nat × (Nat → Int32)} {D : Nat} {G : am_H} {P : Option Value → am_H → Prop} {l h d n : Nat} {f : Nat → Nat} {t : Nat → Int32}
def gnP (t : Nat → Int32) (i : Nat) : Nat := (mgI (t i)).toInt.toNat
theorem gnP_le {n l : Nat} {t : Nat → Int32} (h : rtB n l t = true) {i : Nat} (hi : i < l) : gnP t i ≤ 17 ∧ mgI (t i) = nI (gnP t i) := by
  unfold rtB at h
  rw [Bool.and_eq_true, decide_eq_true_eq] at h
  have hk := rtA_ok h.2 i (by omega)
  unfold okM at hk
  rw [decide_eq_true_eq] at hk
  unfold gnP
  exact ⟨by omega, (bi_nat hk.1).1⟩
def jdI (l h d n : Nat) (f : Nat → Nat) (t : Nat → Int32) (x : Int32) : Int32 := if 0 ≤ x.toInt ∧ x.toInt ≤ 1 then (if rtB n l t = true then (if x = 0 then vdI (bkN l h d f (gnP t)) l else vdP (bkN l h d f (gnP t)) l) else -3) else -2
end JD
