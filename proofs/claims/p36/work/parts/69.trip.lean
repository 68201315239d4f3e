theorem ens_wit {ok : Nat → Nat → Bool} : ∀ (k O m : Nat), O < 2 ^ 18 → m.testBit 0 = false → (bl O).length = 2 * k → ∀ a ∈ ens ok k O m, ∀ p w, (p, w) ∈ a → O.testBit p = true ∧ O.testBit (p + w) = true ∧ ok p w = true ∧ m.testBit w = true ∧ 0 < w
  | 0, O, m, hO, h0, hk, a, ha, p, w, hp => by
    have : a = [] := by simpa [ens] using ha
    subst this
    cases hp
  | k + 1, O, m, hO, h0, hk, a, ha, p, w, hp => by
    have hne : bl O ≠ [] := fun q => by rw [q] at hk; simp at hk
    obtain ⟨l1, l2, l3⟩ := lo_s hne
    unfold ens at ha
    rw [List.mem_flatMap] at ha
    obtain ⟨e, he, h2⟩ := ha
    split at h2
    · next c =>
      rw [Bool.and_eq_true, Bool.and_eq_true] at c
      rw [List.mem_map] at h2
      obtain ⟨b, hb, rfl⟩ := h2
      have e0 : 0 < e := by
        rcases Nat.eq_zero_or_pos e with z | z
        · rw [z, h0] at c; cases c.1
        · exact z
      rcases List.mem_cons.mp hp with q | q
      · cases q
        exact ⟨l1, c.2.1, c.2.2, c.1, e0⟩
      · have h18 : lo O + e < 18 := by
          rcases Nat.lt_or_ge (lo O + e) 18 with z | z
          · exact z
          · rw [bt_hi hO z] at c; cases c.2.1
        have hl2 := bl_sub2_len l2 h18 l1 c.2.1 (by omega)
        obtain ⟨r1, r2, r3, r4, r5⟩ := ens_wit k (O - (2 ^ lo O + 2 ^ (lo O + e))) (m - 2 ^ e) (Nat.lt_of_le_of_lt (Nat.sub_le _ _) hO) (by rw [bt_sub c.1, h0]; rfl) (by omega) b hb p w q
        have t := (bt_two_s l1 c.2.1 (by omega)).2
        rw [t] at r1 r2
        rw [bt_sub c.1] at r4
        simp only [Bool.and_eq_true] at r1 r2 r4
        exact ⟨r1.1.1, r2.1.1, r3, r4.1, r5⟩
    · cases h2
theorem arrs_wit {ipb : Bool} {l h d : Nat} {f : Nat → Nat} {a : List (Nat × Nat)} (hl : l ≤ 18) (hd0 : d.testBit 0 = false) (ha : a ∈ arrs ipb l h d f) {p w : Nat} (hp : (p, w) ∈ a) : (frN l h).testBit p = true ∧ (frN l h).testBit (p + w) = true ∧ okB ipb f p w = true ∧ d.testBit w = true ∧ 0 < w ∧ p + w < l := by
  unfold arrs at ha
  split at ha
  · next c =>
    rw [Bool.and_eq_true] at c
    obtain ⟨r1, r2, r3, r4, r5⟩ := ens_wit _ _ _ (frN_lt hl) hd0 (by simpa [filledB] using c.1) a ha p w hp
    refine ⟨r1, r2, r3, r4, r5, ?_⟩
    rw [frN_bit hl, Bool.and_eq_true, decide_eq_true_eq] at r2
    exact r2.1
  · cases ha
def trN (n : Nat) (a : List (Nat × Nat)) (w x : Nat) : Nat := if x = 0 then w else if x = 1 then bgN a w + 1 + n else bgN a w + 1 + n + w
def tpI (A : List (List (Nat × Nat))) (d : Nat) (z x y : Int32) : Int32 := if ownB d x = true then (match goA A z with
  | none => -1
  | some a => if 0 ≤ y.toInt ∧ y.toInt ≤ 2 then nI (trN (bl d).length a x.toInt.toNat y.toInt.toNat) else -2) else -1
def cvF : List Nat → Nat → Nat → Nat
  | [], _, g => g
  | v :: L, s, g => if s.testBit v = true then 0 else cvF L (s ||| 2 ^ v) (if g < v then v else g)
def cvT (n : Nat) (a : List (Nat × Nat)) (w j : Nat) : List Nat := (List.range' j (3 - j)).map (trN n a w)
def cvL (d : Nat) (a : List (Nat × Nat)) : Nat → Nat → List Nat
  | 0, _ => []
  | k + 1, i => (if d.testBit i = true then cvT (bl d).length a i 0 else []) ++ cvL d a k (i + 1)
def cvI (A : List (List (Nat × Nat))) (d : Nat) (z : Int32) : Int32 := match goA A z with
  | none => -1
  | some a => nI (cvF (cvL d a 17 1) 0 0)
section TR
variable {X : Nat × (Nat → Int32)} {D : Nat} {P : Option Value → am_H → Prop} {pm len T m ip due dep vp : Int32} {l h d : Nat} {f : Nat → Nat}
theorem cvT_s {n w j : Nat} {a : List (Nat × Nat)} (hj : j < 3) : cvT n a w j = trN n a w j :: cvT n a w (j + 1) := by
  unfold cvT
  rw [show 3 - j = (3 - (j + 1)) + 1 by omega, List.range'_succ, List.map_cons]
end TR
