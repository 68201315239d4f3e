def cvP (q p w : Nat) : Prop := q = p ∨ q = p + w
def Dis (a : List (Nat × Nat)) : Prop := ∀ p w p' w', (p, w) ∈ a → (p', w') ∈ a → ∀ q, cvP q p w → cvP q p' w' → p = p' ∧ w = w'
theorem rwZ_in {q p w : Nat} : ∀ {Z : List (Nat × Nat)}, (∀ p' w', (p', w') ∈ Z → cvP q p' w' → w' = w) → (p, w) ∈ Z → cvP q p w → rwZ Z q = w
  | (p1, w1) :: Z, h, hm, hc => by
    show (if q = p1 ∨ q = p1 + w1 then w1 else rwZ Z q) = w
    by_cases c : q = p1 ∨ q = p1 + w1
    · rw [if_pos c]; exact h p1 w1 List.mem_cons_self c
    · rw [if_neg c]
      rcases List.mem_cons.mp hm with e | e
      · cases e; exact absurd hc c
      · exact rwZ_in (fun p' w' h1 h2 => h p' w' (List.mem_cons_of_mem _ h1) h2) e hc
theorem rwZ_out {q : Nat} : ∀ {Z : List (Nat × Nat)}, (∀ p' w', (p', w') ∈ Z → ¬ cvP q p' w') → rwZ Z q = 0
  | [], _ => rfl
  | (p1, w1) :: Z, h => by
    show (if q = p1 ∨ q = p1 + w1 then w1 else rwZ Z q) = 0
    rw [if_neg (show ¬ (q = p1 ∨ q = p1 + w1) from h p1 w1 List.mem_cons_self)]
    exact rwZ_out (fun p' w' h1 => h p' w' (List.mem_cons_of_mem _ h1))
theorem rwN_in {q p w : Nat} {a : List (Nat × Nat)} (hd : Dis a) (hm : (p, w) ∈ a) (hc : cvP q p w) : rwN a q = w :=
  rwZ_in (fun p' w' h1 h2 => (hd p' w' p w (List.mem_reverse.mp h1) hm q h2 hc).2) (List.mem_reverse.mpr hm) hc
theorem rwN_out {q : Nat} {a : List (Nat × Nat)} (h : ∀ p w, (p, w) ∈ a → ¬ cvP q p w) : rwN a q = 0 := rwZ_out (fun p' w' h1 => h p' w' (List.mem_reverse.mp h1))
theorem rwN_ex {q : Nat} {a : List (Nat × Nat)} (hd : Dis a) (h : rwN a q ≠ 0) : ∃ p, (p, rwN a q) ∈ a ∧ cvP q p (rwN a q) := by
  apply Classical.byContradiction
  intro hn
  apply h
  apply rwN_out
  intro p w hm hc
  have := rwN_in hd hm hc
  exact hn ⟨p, by rw [this]; exact hm, by rw [this]; exact hc⟩
theorem Dis.tl {x : Nat × Nat} {a : List (Nat × Nat)} (h : Dis (x :: a)) : Dis a := fun p w p' w' h1 h2 => h p w p' w' (List.mem_cons_of_mem _ h1) (List.mem_cons_of_mem _ h2)
theorem rwN_cons {q p w : Nat} {a : List (Nat × Nat)} (hd : Dis ((p, w) :: a)) : rwN ((p, w) :: a) q = if q = p ∨ q = p + w then w else rwN a q := by
  by_cases c : q = p ∨ q = p + w
  · rw [if_pos c]; exact rwN_in hd List.mem_cons_self c
  · rw [if_neg c]
    by_cases h : ∃ p' w', (p', w') ∈ a ∧ cvP q p' w'
    · obtain ⟨p', w', h1, h2⟩ := h
      rw [rwN_in hd (List.mem_cons_of_mem _ h1) h2, rwN_in hd.tl h1 h2]
    · rw [rwN_out (fun p' w' h1 h2 => h ⟨p', w', h1, h2⟩), rwN_out (fun p' w' h1 h2 => by
        rcases List.mem_cons.mp h1 with e | e
        · cases e; exact c h2
        · exact h ⟨p', w', e, h2⟩)]
theorem ens_inv {ok : Nat → Nat → Bool} {k O m : Nat} (hO : O < 2 ^ 18) (h0 : m.testBit 0 = false) (hk2 : (bl O).length = 2 * (k + 1)) {a : List (Nat × Nat)} (ha : a ∈ ens ok (k + 1) O m) : ∃ e b, a = (lo O, e) :: b ∧ b ∈ ens ok k (O - (2 ^ lo O + 2 ^ (lo O + e))) (m - 2 ^ e) ∧ e < 18 ∧ 0 < e ∧ O.testBit (lo O) = true ∧ O.testBit (lo O + e) = true ∧ m.testBit e = true ∧ ok (lo O) e = true ∧ (∀ q, (O - (2 ^ lo O + 2 ^ (lo O + e))).testBit q = (O.testBit q && !decide (q = lo O) && !decide (q = lo O + e))) ∧ (bl (O - (2 ^ lo O + 2 ^ (lo O + e)))).length = 2 * k ∧ O - (2 ^ lo O + 2 ^ (lo O + e)) < 2 ^ 18 ∧ (m - 2 ^ e).testBit 0 = false ∧ lo O + e < 18 := by
  have hne : bl O ≠ [] := fun q => by rw [q] at hk2; simp at hk2
  obtain ⟨l1, l2, l3⟩ := lo_s hne
  unfold ens at ha
  rw [List.mem_flatMap] at ha
  obtain ⟨e, he, h2⟩ := ha
  split at h2
  · next c =>
    rw [Bool.and_eq_true, Bool.and_eq_true] at c
    rw [List.mem_map] at h2
    obtain ⟨b, hb, rfl⟩ := h2
    have e0 : 0 < e := by
      rcases Nat.eq_zero_or_pos e with z | z
      · rw [z, h0] at c; cases c.1
      · exact z
    have h18 : lo O + e < 18 := by
      rcases Nat.lt_or_ge (lo O + e) 18 with z | z
      · exact z
      · rw [bt_hi hO z] at c; cases c.2.1
    have hl2 := bl_sub2_len l2 h18 l1 c.2.1 (by omega)
    exact ⟨e, b, rfl, hb, List.mem_range.mp he, e0, l1, c.2.1, c.1, c.2.2, (bt_two_s l1 c.2.1 (by omega)).2, by omega, Nat.lt_of_le_of_lt (Nat.sub_le _ _) hO, by rw [bt_sub c.1, h0]; rfl, h18⟩
  · cases h2
theorem ens_dis {ok : Nat → Nat → Bool} : ∀ (k O m : Nat), O < 2 ^ 18 → m.testBit 0 = false → (bl O).length = 2 * k → ∀ a ∈ ens ok k O m, Dis a
  | 0, O, m, hO, h0, hk2, a, ha => by
    have : a = [] := by simpa [ens] using ha
    subst this
    exact fun p w p' w' h => (by cases h)
  | k + 1, O, m, hO, h0, hk2, a, ha => by
    obtain ⟨e, b, rfl, hb, _, _, _, _, _, _, t, hk3, hO3, h03, _⟩ := ens_inv hO h0 hk2 ha
    have ih := ens_dis k _ _ hO3 h03 hk3 b hb
    have far : ∀ p w, (p, w) ∈ b → ∀ q, cvP q p w → cvP q (lo O) e → False := by
      intro p w hp q h1 h2
      obtain ⟨r1, r2, _⟩ := ens_wit k _ _ hO3 h03 hk3 b hb p w hp
      rw [t] at r1 r2
      simp only [Bool.and_eq_true, Bool.not_eq_true', decide_eq_false_iff_not] at r1 r2
      rcases h1 with z | z <;> rcases h2 with y | y <;> omega
    intro p w p' w' h1 h2 q c1 c2
    rcases List.mem_cons.mp h1 with z | z
    · rcases List.mem_cons.mp h2 with y | y
      · cases z; cases y; exact ⟨rfl, rfl⟩
      · cases z; exact absurd (far p' w' y q c2 c1) id
    · rcases List.mem_cons.mp h2 with y | y
      · cases y; exact absurd (far p w z q c1 c2) id
      · exact ih p w p' w' z y q c1 c2
def LX (a b : List (Nat × Nat)) : Prop := ∃ q, q < 18 ∧ (∀ q', q' < q → rwN a q' = rwN b q') ∧ rwN a q < rwN b q
theorem ens_low {ok : Nat → Nat → Bool} {k O m : Nat} (hO : O < 2 ^ 18) (h0 : m.testBit 0 = false) (hk2 : (bl O).length = 2 * k) {a : List (Nat × Nat)} (ha : a ∈ ens ok k O m) {q : Nat} (hq : O.testBit q = false) : rwN a q = 0 := by
  apply rwN_out
  intro p w hp hc
  obtain ⟨r1, r2, _⟩ := ens_wit k O m hO h0 hk2 a ha p w hp
  rcases hc with e | e
  · rw [e, r1] at hq; cases hq
  · rw [e, r2] at hq; cases hq
theorem ens_sorted {ok : Nat → Nat → Bool} : ∀ (k O m : Nat), O < 2 ^ 18 → m.testBit 0 = false → (bl O).length = 2 * k → (ens ok k O m).Pairwise LX
  | 0, O, m, hO, h0, hk2 => by simp [ens]
  | k + 1, O, m, hO, h0, hk2 => by
    have hne : bl O ≠ [] := fun q => by rw [q] at hk2; simp at hk2
    obtain ⟨l1, l2, l3⟩ := lo_s hne
    have inv : ∀ e x, x ∈ (if (m.testBit e && (O.testBit (lo O + e) && ok (lo O) e)) = true then (ens ok k (O - (2 ^ lo O + 2 ^ (lo O + e))) (m - 2 ^ e)).map (fun a => (lo O, e) :: a) else []) → e < 18 → x ∈ ens ok (k + 1) O m := fun e x hx he => by
      unfold ens
      exact List.mem_flatMap.mpr ⟨e, List.mem_range.mpr he, hx⟩
    unfold ens
    rw [List.pairwise_flatMap]
    refine ⟨fun e he => ?_, ?_⟩
    · have inve := inv e
      split
      · next c =>
        rw [Bool.and_eq_true, Bool.and_eq_true] at c
        rw [if_pos (by rw [c.1, c.2.1, c.2.2]; rfl)] at inve
        have e0 : 0 < e := by
          rcases Nat.eq_zero_or_pos e with z | z
          · rw [z, h0] at c; cases c.1
          · exact z
        have h18 : lo O + e < 18 := by
          rcases Nat.lt_or_ge (lo O + e) 18 with z | z
          · exact z
          · rw [bt_hi hO z] at c; cases c.2.1
        have hl2 := bl_sub2_len l2 h18 l1 c.2.1 (by omega)
        have t := (bt_two_s l1 c.2.1 (by omega)).2
        have hO3 : O - (2 ^ lo O + 2 ^ (lo O + e)) < 2 ^ 18 := Nat.lt_of_le_of_lt (Nat.sub_le _ _) hO
        have h03 : (m - 2 ^ e).testBit 0 = false := by rw [bt_sub c.1, h0]; rfl
        have hk3 : (bl (O - (2 ^ lo O + 2 ^ (lo O + e)))).length = 2 * k := by omega
        have ih := ens_sorted (ok := ok) k _ _ hO3 h03 hk3
        rw [List.pairwise_map]
        refine List.Pairwise.imp_of_mem (fun {x y} hx hy hxy => ?_) ih
        obtain ⟨q, q1, q2, q3⟩ := hxy
        have dx := ens_dis (k + 1) O m hO h0 hk2 _ (inve _ (List.mem_map.mpr ⟨x, hx, rfl⟩) (List.mem_range.mp he))
        have dy := ens_dis (k + 1) O m hO h0 hk2 _ (inve _ (List.mem_map.mpr ⟨y, hy, rfl⟩) (List.mem_range.mp he))
        refine ⟨q, q1, fun q' h' => ?_, ?_⟩
        · rw [rwN_cons dx, rwN_cons dy, q2 q' h']
        · rw [rwN_cons dx, rwN_cons dy]
          by_cases z : q = lo O ∨ q = lo O + e
          · have : (O - (2 ^ lo O + 2 ^ (lo O + e))).testBit q = false := by
              rw [t]
              rcases z with z | z <;> simp [z]
            rw [ens_low hO3 h03 hk3 hx this, ens_low hO3 h03 hk3 hy this] at q3
            omega
          · rw [if_neg z, if_neg z]; exact q3
      · exact List.Pairwise.nil
    · refine List.Pairwise.imp_of_mem (fun {e1 e2} h1 h2 hlt x hx y hy => ?_) (List.pairwise_lt_range (n := 18))
      have mx := inv e1 x hx (List.mem_range.mp h1)
      have my := inv e2 y hy (List.mem_range.mp h2)
      have dx := ens_dis (k + 1) O m hO h0 hk2 x mx
      have dy := ens_dis (k + 1) O m hO h0 hk2 y my
      have key : ∀ e z, z ∈ (if (m.testBit e && (O.testBit (lo O + e) && ok (lo O) e)) = true then (ens ok k (O - (2 ^ lo O + 2 ^ (lo O + e))) (m - 2 ^ e)).map (fun a => (lo O, e) :: a) else []) → (lo O, e) ∈ z := by
        intro e z hz
        split at hz
        · obtain ⟨b, _, rfl⟩ := List.mem_map.mp hz
          exact List.mem_cons_self
        · cases hz
      refine ⟨lo O, l2, fun q' h' => ?_, ?_⟩
      · rw [ens_low hO h0 hk2 mx (l3 q' h'), ens_low hO h0 hk2 my (l3 q' h')]
      · rw [rwN_in dx (key e1 x hx) (Or.inl rfl), rwN_in dy (key e2 y hy) (Or.inl rfl)]
        exact hlt
theorem ens_all {ok : Nat → Nat → Bool} {s : Nat → Nat} : ∀ (k O m : Nat), O < 2 ^ 18 → m < 2 ^ 18 → m.testBit 0 = false → (bl m).length = k → (bl O).length = 2 * k → (∀ w, m.testBit w = true → O.testBit (s w) = true ∧ O.testBit (s w + w) = true ∧ ok (s w) w = true) → (∀ w v, m.testBit w = true → m.testBit v = true → ∀ q, cvP q (s w) w → cvP q (s v) v → w = v) → (∀ q, O.testBit q = true → ∃ w, m.testBit w = true ∧ cvP q (s w) w) → ∃ a, a ∈ ens ok k O m ∧ ∀ w, m.testBit w = true → (s w, w) ∈ a
  | 0, O, m, hO, hm, h0, hk, hk2, h1, h2, h3 => by
    have e1 : m = 0 := bl_zero hm (List.length_eq_zero_iff.mp hk)
    refine ⟨[], by simp [ens], fun w hw => ?_⟩
    rw [e1, Nat.zero_testBit] at hw
    cases hw
  | k + 1, O, m, hO, hm, h0, hk, hk2, h1, h2, h3 => by
    have hne : bl O ≠ [] := fun q => by rw [q] at hk2; simp at hk2
    obtain ⟨l1, l2, l3⟩ := lo_s hne
    obtain ⟨e, he, hc⟩ := h3 _ l1
    obtain ⟨g1, g2, g3⟩ := h1 e he
    have e0 : 0 < e := by
      rcases Nat.eq_zero_or_pos e with z | z
      · rw [z, h0] at he; cases he
      · exact z
    have he18 : e < 18 := by
      rcases Nat.lt_or_ge e 18 with z | z
      · exact z
      · rw [bt_hi hm z] at he; cases he
    have hs : s e = lo O := by
      rcases hc with z | z
      · exact z.symm
      · rw [l3 (s e) (by omega)] at g1; cases g1
    rw [hs] at g2 g3
    have h18 : lo O + e < 18 := by
      rcases Nat.lt_or_ge (lo O + e) 18 with z | z
      · exact z
      · rw [bt_hi hO z] at g2; cases g2
    have hl2 := bl_sub2_len l2 h18 l1 g2 (by omega)
    have hl1 := bl_sub_len he18 he
    have t := (bt_two_s l1 g2 (by omega)).2
    have hmb : ∀ w, (m - 2 ^ e).testBit w = true → m.testBit w = true ∧ w ≠ e := fun w hw => by
      rw [bt_sub he] at hw
      simpa using hw
    obtain ⟨b, b1, b2⟩ := ens_all (ok := ok) (s := s) k (O - (2 ^ lo O + 2 ^ (lo O + e))) (m - 2 ^ e) (Nat.lt_of_le_of_lt (Nat.sub_le _ _) hO) (Nat.lt_of_le_of_lt (Nat.sub_le _ _) hm) (by rw [bt_sub he, h0]; rfl) (by omega) (by omega) (fun w hw => by
      obtain ⟨w1, w2⟩ := hmb w hw
      obtain ⟨u1, u2, u3⟩ := h1 w w1
      have n1 : ∀ q, cvP q (s w) w → q ≠ lo O ∧ q ≠ lo O + e := fun q hq => ⟨fun z => w2 (h2 w e w1 he q hq (Or.inl (by rw [hs]; exact z))), fun z => w2 (h2 w e w1 he q hq (Or.inr (by rw [hs]; exact z)))⟩
      have n2 := n1 _ (Or.inl rfl)
      have n3 := n1 _ (Or.inr rfl)
      refine ⟨?_, ?_, u3⟩
      · rw [t, u1]; simp [n2]
      · rw [t, u2]; simp [n3]) (fun w v hw hv q c1 c2 => h2 w v (hmb w hw).1 (hmb v hv).1 q c1 c2) (fun q hq => by
      rw [t] at hq
      simp only [Bool.and_eq_true, Bool.not_eq_true', decide_eq_false_iff_not] at hq
      obtain ⟨w, w1, w2⟩ := h3 q hq.1.1
      refine ⟨w, ?_, w2⟩
      rw [bt_sub he, w1]
      have : w ≠ e := fun z => by
        subst z
        rcases w2 with z | z
        · exact hq.1.2 (by rw [← hs]; exact z)
        · exact hq.2 (by rw [← hs]; exact z)
      simp [this])
    refine ⟨(lo O, e) :: b, ?_, fun w hw => ?_⟩
    · unfold ens
      refine List.mem_flatMap.mpr ⟨e, List.mem_range.mpr he18, ?_⟩
      rw [if_pos (by rw [he, g2, g3]; rfl)]
      exact List.mem_map.mpr ⟨b, b1, rfl⟩
    · by_cases z : w = e
      · subst z
        rw [hs]; exact List.mem_cons_self
      · exact List.mem_cons_of_mem _ (b2 w (by rw [bt_sub he, hw]; simp [z]))

