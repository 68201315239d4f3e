def atN (s : PT) : Nat → Nat
  | 0 => s.1
  | 1 => s.2.1
  | 2 => s.2.2.1
  | k + 3 => s.2.2.2 k
def SLm (G : am_H) (s : Nat → Option PT) : Prop := ∃ sl sv, am_ia G 25 0 = some (42, sl) ∧ am_ia G 26 1 = some (2, sv) ∧ (∀ i, i < 2 → s i = none → sv i = 0) ∧ ∀ i, i < 2 → ∀ q, s i = some q → sv i = 1 ∧ ∀ j, j < 21 → sl (21 * i + j) = nI (atN q j)
theorem SLm.fr {G G' : am_H} {ks : List Nat} {s : Nat → Option PT} (h : SLm G s) (hF : Fr ks G G') (h1 : ¬ 25 ∈ ks) (h2 : ¬ 26 ∈ ks) : SLm G' s := by
  obtain ⟨sl, sv, a, b, c⟩ := h
  exact ⟨sl, sv, by rw [hF.ia h1]; exact a, by rw [hF.ia h2]; exact b, c⟩
def svS (x : Int32) (σ : PT) (s : Nat → Option PT) : Nat → Option PT := if inN x 2 = true then (fun i => if i = x.toInt.toNat then some σ else s i) else s
def svV (x : Int32) (l : Nat) : Int32 := if inN x 2 = true then nI l else -2
def rsS (x : Int32) (σ : PT) (s : Nat → Option PT) : PT := if inN x 2 = true then (s x.toInt.toNat).getD σ else σ
def rsV (x : Int32) (s : Nat → Option PT) : Int32 := if inN x 2 = true then (match s x.toInt.toNat with | none => -5 | some q => nI q.1) else -2
section SV
variable {X : Nat × (Nat → Int32)} {D : Nat} {P : Option Value → am_H → Prop} {pm len T m ip due dep vp : Int32} {l h d : Nat} {f : Nat → Nat}
def WF (s : PT) : Prop := 1 ≤ s.1 ∧ s.1 ≤ 18 ∧ s.2.1 < 2 ^ s.1 ∧ s.2.2.1 < 2 ^ 18 ∧ s.2.2.1.testBit 0 = false ∧ (∀ j, s.2.2.2 j ≤ 17) ∧ 1 ≤ (bl s.2.2.1).length ∧ (bl s.2.2.1).length ≤ 8
end SV
