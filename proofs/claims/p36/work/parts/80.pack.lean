def ixN (d w : Nat) : Nat := (blb d w).length
theorem ix_get {d w : Nat} (hw : w < 18) (h : d.testBit w = true) : (bl d)[ixN d w]? = some w := by
  obtain ⟨Z, hZ⟩ := blb_pre (d := d) (show w + 1 ≤ 18 by omega)
  rw [blb_18, blb_s, if_pos h] at hZ
  unfold ixN
  rw [hZ, List.append_assoc, List.getElem?_append_right (Nat.le_refl _)]
  simp
theorem dd_get {d i : Nat} (hi : i < (bl d).length) : (bl d)[i]? = some (ddN d i) := by simp [ddN, List.getD, hi]
theorem dd_mem {d i : Nat} (hi : i < (bl d).length) : ddN d i < 18 ∧ d.testBit (ddN d i) = true := bl_mem.mp (List.mem_of_getElem? (dd_get hi))
theorem dd_inj {d i j : Nat} (hi : i < (bl d).length) (hj : j < (bl d).length) (h : ddN d i = ddN d j) : i = j := by
  have hn := List.pairwise_iff_getElem.mp (bl_nodup d)
  have e1 : (bl d)[i] = ddN d i := by have := dd_get hi; rw [List.getElem?_eq_getElem hi] at this; exact Option.some.inj this
  have e2 : (bl d)[j] = ddN d j := by have := dd_get hj; rw [List.getElem?_eq_getElem hj] at this; exact Option.some.inj this
  rcases Nat.lt_trichotomy i j with q | q | q
  · exact absurd (by rw [e1, e2, h]) (hn i j hi hj q)
  · exact q
  · exact absurd (by rw [e1, e2, h]) (hn j i hj hi q)
theorem ix_lt {d w : Nat} (hw : w < 18) (h : d.testBit w = true) : ixN d w < (bl d).length := (List.getElem?_eq_some_iff.mp (ix_get hw h)).1
theorem dd_ix {d w : Nat} (hw : w < 18) (h : d.testBit w = true) : ddN d (ixN d w) = w := by
  have a := dd_get (ix_lt hw h)
  rw [ix_get hw h] at a
  exact (Option.some.inj a).symm
theorem ix_dd {d i : Nat} (hi : i < (bl d).length) : ixN d (ddN d i) = i := by
  obtain ⟨a, b⟩ := dd_mem hi
  exact dd_inj (ix_lt a b) hi (dd_ix a b)
def pkA (d : Nat) : List (Nat × Nat) → Nat
  | [] => 0
  | (p, w) :: a => p * 2 ^ (5 * ixN d w) ||| pkA d a
theorem bgN_nil (v : Nat) : bgN [] v = 0 := rfl
theorem bgN_cons {p w v : Nat} {a : List (Nat × Nat)} : bgN ((p, w) :: a) v = if w = v then p else bgN a v := by
  unfold bgN
  rw [List.find?_cons]
  by_cases c : w = v
  · subst c; simp
  · rw [if_neg c]
    have : (w == v) = false := by simpa using c
    rw [this]
theorem bgN_no {v : Nat} : ∀ {a : List (Nat × Nat)}, (∀ p w, (p, w) ∈ a → w ≠ v) → bgN a v = 0
  | [], _ => rfl
  | (p, w) :: a, h => by
    rw [bgN_cons, if_neg (h p w List.mem_cons_self)]
    exact bgN_no (fun p' w' h' => h p' w' (List.mem_cons_of_mem _ h'))
theorem bit_fld {p i j b : Nat} (hp : p < 32) (hb : b < 5) : (p * 2 ^ (5 * j)).testBit (5 * i + b) = (decide (i = j) && p.testBit b) := by
  rw [Nat.testBit_mul_two_pow]
  rcases Nat.lt_trichotomy i j with q | q | q
  · rw [decide_eq_false (show ¬ 5 * i + b ≥ 5 * j by omega), decide_eq_false (show ¬ i = j by omega)]; rfl
  · subst q
    rw [decide_eq_true (show 5 * i + b ≥ 5 * i by omega), decide_eq_true rfl, show 5 * i + b - 5 * i = b by omega]
  · rw [decide_eq_true (show 5 * i + b ≥ 5 * j by omega), decide_eq_false (show ¬ i = j by omega), bt_hi (show p < 2 ^ 5 by omega) (show 5 ≤ 5 * i + b - 5 * j by omega)]; rfl
def Arr (d : Nat) (a : List (Nat × Nat)) : Prop := (∀ p w, (p, w) ∈ a → p < 18 ∧ w < 18 ∧ d.testBit w = true) ∧ (a.map (·.2)).Nodup
theorem pk_fld {d : Nat} : ∀ {a : List (Nat × Nat)}, Arr d a → ∀ i b, i < (bl d).length → b < 5 → (pkA d a).testBit (5 * i + b) = (bgN a (ddN d i)).testBit b
  | [], _, i, b, hi, hb => by simp [pkA, bgN_nil]
  | (p, w) :: a, h, i, b, hi, hb => by
    obtain ⟨h1, h2⟩ := h
    rw [List.map_cons, List.nodup_cons] at h2
    obtain ⟨q1, q2, q3⟩ := h1 p w List.mem_cons_self
    have ih := pk_fld (a := a) ⟨fun p' w' h' => h1 p' w' (List.mem_cons_of_mem _ h'), h2.2⟩ i b hi hb
    show (p * 2 ^ (5 * ixN d w) ||| pkA d a).testBit (5 * i + b) = _
    rw [Nat.testBit_or, bit_fld (by omega) hb, ih, bgN_cons]
    by_cases c : w = ddN d i
    · rw [if_pos c]
      have e : i = ixN d w := by rw [c, ix_dd hi]
      rw [decide_eq_true e, Bool.true_and, bgN_no (fun p' w' h' e2 => h2.1 (by
        show w ∈ _
        rw [c, ← e2]
        exact List.mem_map.mpr ⟨_, h', rfl⟩))]
      simp
    · rw [if_neg c]
      rw [decide_eq_false (fun e => c (by rw [e, dd_ix q2 q3])), Bool.false_and, Bool.false_or]
theorem pk_hi {d : Nat} : ∀ {a : List (Nat × Nat)}, Arr d a → pkA d a < 2 ^ (5 * (bl d).length)
  | [], _ => Nat.two_pow_pos _
  | (p, w) :: a, h => by
    obtain ⟨h1, h2⟩ := h
    rw [List.map_cons, List.nodup_cons] at h2
    obtain ⟨q1, q2, q3⟩ := h1 p w List.mem_cons_self
    have hi := ix_lt q2 q3
    refine or_lt ?_ (pk_hi ⟨fun p' w' h' => h1 p' w' (List.mem_cons_of_mem _ h'), h2.2⟩)
    have : p * 2 ^ (5 * ixN d w) < 2 ^ 5 * 2 ^ (5 * ixN d w) := Nat.mul_lt_mul_of_pos_right (by omega) (Nat.two_pow_pos _)
    rw [← Nat.pow_add] at this
    exact Nat.lt_of_lt_of_le this (Nat.pow_le_pow_right (by omega) (by omega))
theorem bgN_lt {d v : Nat} {a : List (Nat × Nat)} (h : Arr d a) : bgN a v < 18 := by
  by_cases c : ∃ p, (p, v) ∈ a
  · exact (h.1 _ _ (bgN_of c)).1
  · rw [bgN_no (v := v) (fun p w hp e => c ⟨p, by rw [← e]; exact hp⟩)]; omega
theorem pk_start {d i : Nat} {a : List (Nat × Nat)} (h : Arr d a) (hi : i < (bl d).length) : pkA d a / 2 ^ (5 * i) % 32 = bgN a (ddN d i) := by
  apply Nat.eq_of_testBit_eq
  intro b
  rw [show (32 : Nat) = 2 ^ 5 by rfl, Nat.testBit_mod_two_pow, Nat.testBit_div_two_pow]
  by_cases c : b < 5
  · rw [decide_eq_true c, Bool.true_and, Nat.add_comm b, pk_fld h i b hi c]
  · have := bgN_lt (v := ddN d i) h
    rw [decide_eq_false c, Bool.false_and, bt_hi (show bgN a (ddN d i) < 2 ^ 5 by omega) (by omega)]
theorem pkA_eq {d : Nat} {x y : Nat} {n : Nat} (hx : x < 2 ^ (5 * n)) (hy : y < 2 ^ (5 * n)) (h : ∀ i, i < n → x / 2 ^ (5 * i) % 32 = y / 2 ^ (5 * i) % 32) : x = y := by
  apply Nat.eq_of_testBit_eq
  intro j
  by_cases c : j < 5 * n
  · have e := congrArg (fun t => t.testBit (j % 5)) (h (j / 5) (by omega))
    simp only [show (32 : Nat) = 2 ^ 5 by rfl, Nat.testBit_mod_two_pow, Nat.testBit_div_two_pow] at e
    rw [decide_eq_true (show j % 5 < 5 by omega), Bool.true_and, Bool.true_and, show j % 5 + 5 * (j / 5) = j by omega] at e
    exact e
  · rw [bt_hi hx (by omega), bt_hi hy (by omega)]
theorem ens_arr {ok : Nat → Nat → Bool} : ∀ (k O m : Nat), O < 2 ^ 18 → m < 2 ^ 18 → m.testBit 0 = false → (bl O).length = 2 * k → ∀ a ∈ ens ok k O m, Arr m a
  | 0, O, m, hO, hm, h0, hk, a, ha => by
    have : a = [] := by simpa [ens] using ha
    subst this
    exact ⟨fun p w h => (by cases h), List.nodup_nil⟩
  | k + 1, O, m, hO, hm, h0, hk, a, ha => by
    have hw := ens_wit (k + 1) O m hO h0 hk a ha
    have hne : bl O ≠ [] := fun q => by rw [q] at hk; simp at hk
    obtain ⟨l1, l2, l3⟩ := lo_s hne
    unfold ens at ha
    rw [List.mem_flatMap] at ha
    obtain ⟨e, he, h2⟩ := ha
    split at h2
    · next c =>
      rw [Bool.and_eq_true, Bool.and_eq_true] at c
      rw [List.mem_map] at h2
      obtain ⟨b, hb, rfl⟩ := h2
      have e0 : 0 < e := by
        rcases Nat.eq_zero_or_pos e with z | z
        · rw [z, h0] at c; cases c.1
        · exact z
      have h18 : lo O + e < 18 := by
        rcases Nat.lt_or_ge (lo O + e) 18 with z | z
        · exact z
        · rw [bt_hi hO z] at c; cases c.2.1
      have hl2 := bl_sub2_len l2 h18 l1 c.2.1 (by omega)
      have ih := ens_arr k (O - (2 ^ lo O + 2 ^ (lo O + e))) (m - 2 ^ e) (Nat.lt_of_le_of_lt (Nat.sub_le _ _) hO) (Nat.lt_of_le_of_lt (Nat.sub_le _ _) hm) (by rw [bt_sub c.1, h0]; rfl) (by omega) b hb
      refine ⟨fun p w hp => ?_, ?_⟩
      · obtain ⟨r1, r2, r3, r4, r5⟩ := hw p w hp
        refine ⟨?_, ?_, r4⟩
        · rcases Nat.lt_or_ge p 18 with z | z
          · exact z
          · rw [bt_hi hO z] at r1; cases r1
        · rcases Nat.lt_or_ge w 18 with z | z
          · exact z
          · rw [bt_hi hm z] at r4; cases r4
      · rw [List.map_cons, List.nodup_cons]
        refine ⟨fun hin => ?_, ih.2⟩
        obtain ⟨⟨p, w⟩, hp, hpe⟩ := List.mem_map.mp hin
        have := (ih.1 p w hp).2.2
        have hpe : w = e := hpe
        rw [hpe, bt_sub c.1] at this
        simp at this
    · cases h2
theorem arrs_arr {ipb : Bool} {l h d : Nat} {f : Nat → Nat} {a : List (Nat × Nat)} (hl : l ≤ 18) (hd : d < 2 ^ 18) (hd0 : d.testBit 0 = false) (ha : a ∈ arrs ipb l h d f) : Arr d a := by
  unfold arrs at ha
  split at ha
  · next c =>
    rw [Bool.and_eq_true] at c
    exact ens_arr _ _ _ (frN_lt hl) hd hd0 (by simpa [filledB] using c.1) a ha
  · cases ha

