abbrev moL (pm len T m ip due dep vp : Int32) : List Value := [.ref 24, .ref 25, .ref 26, .ref 27, .int pm, .int len, .int T, .int m, .int ip, .int due, .int dep, .ref 28, .ref 29, .ref 30, .ref 31, .ref 32, .ref 33, .int vp, .ref 34, .ref 35, .ref 36, .ref 37]
def MA (G : am_H) (l h d : Nat) (f : Nat → Nat) : Prop :=
  (∃ af, am_ia G 24 0 = some (21, af) ∧ af 0 = nI l ∧ af 1 = nI h ∧ af 2 = nI d ∧ ∀ q, q < 18 → af (3 + q) = nI (f q)) ∧ 1 ≤ l ∧ l ≤ 18 ∧ h < 2 ^ l ∧ d < 2 ^ 18 ∧ d.testBit 0 = false ∧ ∀ j, f j ≤ 17
theorem MA.fr {G G' : am_H} {ks : List Nat} {l h d : Nat} {f : Nat → Nat} (hm : MA G l h d f) (hF : Fr ks G G') (h1 : ¬ 24 ∈ ks) : MA G' l h d f := by
  obtain ⟨⟨af, a, b⟩, c⟩ := hm
  exact ⟨⟨af, by rw [hF.ia h1]; exact a, b⟩, c⟩
section ML
variable {X : Nat × (Nat → Int32)} {D : Nat} {G : am_H} {P : Option Value → am_H → Prop} {pm len T m ip due dep vp : Int32} {l h d : Nat} {f : Nat → Nat}
theorem vp_lit {n : Int32} {k N : Nat} (e : n = nI k) (h : k < N) (hN : N < 2 ^ 31) : vp_in n N := by rw [e]; exact vp_in_nI h hN
def ownB (d : Nat) (x : Int32) : Bool := decide (1 ≤ x.toInt ∧ x.toInt ≤ 17) && d.testBit x.toInt.toNat
theorem ownB_ctn {d : Nat} {x : Int32} (hd : d < 2 ^ 18) (hd0 : d.testBit 0 = false) : ownB d x = ctn d x := by
  unfold ownB ctn
  by_cases c : 1 ≤ x.toInt ∧ x.toInt ≤ 17
  · rw [decide_eq_true c, decide_eq_true (by omega)]
  · rw [decide_eq_false c, Bool.false_and]
    by_cases c2 : 0 ≤ x.toInt ∧ x.toInt ≤ 30
    · rcases Nat.eq_zero_or_pos x.toInt.toNat with z | z
      · rw [z, hd0, Bool.and_false]
      · rw [bt_hi hd (show 18 ≤ x.toInt.toNat by omega), Bool.and_false]
    · rw [decide_eq_false c2, Bool.false_and]
def pnB (ip : Bool) (f : Nat → Nat) (q w : Nat) : Bool := !ip || (f q == 0) || (f q == w)
end ML
