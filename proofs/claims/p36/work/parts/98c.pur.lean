/-! pure facts for the law: sums of starts, sizes -/
def smB (m : Nat) (g : Nat → Nat) : Nat → Nat
  | 0 => 0
  | k + 1 => smB m g k + (if m.testBit k = true then g k else 0)
theorem smB_sub {m e : Nat} {g : Nat → Nat} (h : m.testBit e = true) : ∀ n, smB (m - 2 ^ e) g n + (if e < n then g e else 0) = smB m g n
  | 0 => by simp [smB]
  | n + 1 => by
    have ih := smB_sub (g := g) h n
    show smB (m - 2 ^ e) g n + (if (m - 2 ^ e).testBit n = true then g n else 0) + (if e < n + 1 then g e else 0) = smB m g n + (if m.testBit n = true then g n else 0)
    rw [bt_sub h]
    by_cases c : n = e
    · subst c
      simp [h] at ih ⊢
      omega
    · have e2 : (m.testBit n && !decide (n = e)) = m.testBit n := by simp [c]
      rw [e2]
      by_cases c2 : e < n
      · have e1 : (if e < n + 1 then g e else 0) = g e := if_pos (by omega)
        rw [if_pos c2] at ih
        omega
      · have e1 : (if e < n + 1 then g e else 0) = 0 := if_neg (by omega)
        rw [if_neg c2] at ih
        omega
theorem smB_congr {m : Nat} {g g' : Nat → Nat} (h : ∀ w, m.testBit w = true → g w = g' w) : ∀ n, smB m g n = smB m g' n
  | 0 => rfl
  | n + 1 => by
    unfold smB
    rw [smB_congr h n]
    by_cases c : m.testBit n = true
    · rw [if_pos c, if_pos c, h n c]
    · rw [if_neg c, if_neg c]
theorem smB_zero {g : Nat → Nat} : ∀ n, smB 0 g n = 0
  | 0 => rfl
  | n + 1 => by unfold smB; rw [smB_zero n]; simp
theorem psm_zero : ∀ n, psm 0 n = 0
  | 0 => rfl
  | n + 1 => by unfold psm; rw [psm_zero n]; simp
theorem smB_le {m : Nat} {g : Nat → Nat} (h : ∀ w, m.testBit w = true → g w ≤ 18) : ∀ n, smB m g n ≤ 18 * n
  | 0 => Nat.le_refl _
  | n + 1 => by
    have := smB_le h n
    unfold smB
    split
    · next c => have := h n c; omega
    · omega
theorem psm_le (m : Nat) : ∀ n, psm m n ≤ n * n
  | 0 => Nat.le_refl _
  | n + 1 => by
    have := psm_le m n
    have e : (n + 1) * (n + 1) = n * n + 2 * n + 1 := by rw [Nat.add_mul, Nat.mul_add]; omega
    unfold psm
    split <;> omega
theorem ens_sum {ok : Nat → Nat → Bool} : ∀ (k O m : Nat), O < 2 ^ 18 → m < 2 ^ 18 → m.testBit 0 = false → (bl m).length = k → (bl O).length = 2 * k → ∀ a ∈ ens ok k O m, psm O 18 = 2 * smB m (bgN a) 18 + psm m 18
  | 0, O, m, hO, hm, h0, hk, hk2, a, ha => by
    have e1 : O = 0 := bl_zero hO (List.length_eq_zero_iff.mp (by omega))
    have e2 : m = 0 := bl_zero hm (List.length_eq_zero_iff.mp hk)
    subst e1; subst e2
    rw [psm_zero, smB_zero]
  | k + 1, O, m, hO, hm, h0, hk, hk2, a, ha => by
    obtain ⟨e, b, rfl, hb, he, he0, b1, b2, b3, b4, b5, b6, b7, b8, b9⟩ := ens_inv hO h0 hk2 ha
    have hs2 : (O - 2 ^ lo O).testBit (lo O + e) = true := by rw [bt_sub b1, b2]; simp; omega
    have ih := ens_sum k _ _ b7 (Nat.lt_of_le_of_lt (Nat.sub_le _ _) hm) b8 (by have := bl_sub_len he b3; omega) b6 b hb
    have p1 := psm_sub b1 18
    have p2 := psm_sub hs2 18
    have p3 := psm_sub b3 18
    have s1 := smB_sub (g := bgN ((lo O, e) :: b)) b3 18
    rw [if_pos (by omega)] at p1
    rw [if_pos (by omega)] at p2
    rw [if_pos (by omega)] at p3
    rw [if_pos (by omega), bgN_cons, if_pos rfl] at s1
    rw [show O - 2 ^ lo O - 2 ^ (lo O + e) = O - (2 ^ lo O + 2 ^ (lo O + e)) by omega] at p2
    have s2 : smB (m - 2 ^ e) (bgN ((lo O, e) :: b)) 18 = smB (m - 2 ^ e) (bgN b) 18 := smB_congr (fun w hw => by
      rw [bgN_cons]
      by_cases c : e = w
      · subst c
        rw [bt_sub b3] at hw
        simp at hw
      · rw [if_neg c]) 18
    omega
theorem filled_of {ipb : Bool} {l h d : Nat} {f : Nat → Nat} {a : List (Nat × Nat)} (ha : a ∈ arrs ipb l h d f) : filledB l h d = true ∧ a ∈ ens (okB ipb f) (bl d).length (frN l h) d := by
  unfold arrs at ha
  split at ha
  · next c =>
    rw [Bool.and_eq_true] at c
    exact ⟨c.1, ha⟩
  · cases ha
theorem filled_len {l h d : Nat} (hf : filledB l h d = true) : (bl (frN l h)).length = 2 * (bl d).length := by simpa [filledB] using hf
section FF
variable {l h d : Nat} {f : Nat → Nat} {ipb : Bool} {a b : List (Nat × Nat)} {q w : Nat}
theorem bg_lt (hl : l ≤ 18) (hd : d < 2 ^ 18) (hd0 : d.testBit 0 = false) (ha : a ∈ arrs ipb l h d f) (hw : d.testBit w = true) : 0 < w ∧ bgN a w + w < l ∧ rwN a (bgN a w) = w ∧ rwN a (bgN a w + w) = w ∧ sbN l h w f (bgN a w) = (pnB true f (bgN a w) w && pnB true f (bgN a w + w) w) ∧ okB ipb f (bgN a w) w = true := by
  have hm := bgN_mem hd ha hw
  obtain ⟨r1, r2, r3, r4, r5, r6⟩ := arrs_wit hl hd0 ha hm
  have da := arrs_dis hl hd0 ha
  refine ⟨r5, r6, rwN_in da hm (Or.inl rfl), rwN_in da hm (Or.inr rfl), ?_, r3⟩
  unfold sbN
  rw [r1, r2, Bool.true_and, Bool.true_and]
theorem bits18 (hd : d < 2 ^ 18) (hw : d.testBit w = true) : w < 18 := by
  rcases Nat.lt_or_ge w 18 with z | z
  · exact z
  · rw [bt_hi hd z] at hw; cases hw
theorem ss_eq (hl : l ≤ 18) (hd : d < 2 ^ 18) (hd0 : d.testBit 0 = false) (ha : a ∈ arrs ipb l h d f) : ssI l h d = nI (smB d (bgN a) 18) := by
  obtain ⟨hf, he⟩ := filled_of ha
  have hfr := frN_lt (h := h) hl
  have hs := ens_sum _ _ _ hfr hd hd0 rfl (filled_len hf) a he
  have e1 : psm (frN l h) 18 = bsm (frN l h) 0 31 := psm_eq (by omega) (fun q hq => bt_hi hfr hq)
  have e2 : psm d 18 = bsm d 0 31 := psm_eq (by omega) (fun q hq => bt_hi hd hq)
  have hle := smB_le (m := d) (g := bgN a) (fun w hw => by have := (bg_lt hl hd hd0 ha hw).2.1; omega) 18
  have hp := psm_le d 18
  unfold ssI
  rw [if_pos hf, ← e1, ← e2, hs, if_pos (by omega), pk_sub (by omega), show 2 * smB d (bgN a) 18 + psm d 18 - psm d 18 = 2 * smB d (bgN a) 18 by omega, show (2 : Int32) = nI 2 by rfl, pk_div (by omega) (by omega) (by omega), Nat.mul_div_cancel_left _ (by omega)]
theorem sl_ge (hl : l ≤ 18) (hd : d < 2 ^ 18) (hd0 : d.testBit 0 = false) (ha : a ∈ arrs ipb l h d f) : ¬ slI l h d < 1000 := by
  obtain ⟨hf, he⟩ := filled_of ha
  obtain ⟨h1, _⟩ := short_ok hl hd hd0 rfl (filled_len hf) he
  have hb := (gS_lo (frN l h) ((bl (frN l h)).length / 2) l).2
  have hp := psm_le (frN l h) l
  have hl2 : l * l ≤ 18 * 18 := Nat.mul_le_mul hl hl
  unfold slI
  rw [if_pos hf]
  have h2 : shN l h d ≤ 400 := by unfold shN; omega
  rw [show (1000 : Int32) = iI 1000 by rfl, iI_add, bi_lt, iI_toInt (by omega) (by omega), iI_toInt (by omega) (by omega)]
  omega
theorem fr_cnt (hl : l ≤ 18) (hh : h < 2 ^ l) : (bl (frN l h)).length + (bl h).length = l := by
  have key : ∀ t, (blb (frN l h) t).length + (blb h t).length = min t l := by
    intro t
    induction t with
    | zero => simp [blb]
    | succ t ih =>
      rw [blb_len, blb_len, frN_bit hl]
      by_cases c : t < l
      · rw [decide_eq_true c, Bool.true_and]
        cases hb : h.testBit t <;> simp <;> omega
      · rw [decide_eq_false c, Bool.false_and, bt_hi hh (by omega)]
        simp; omega
  have := key 18
  have e : min 18 l = l := by omega
  rw [e] at this
  exact this
theorem row_hi (hl : l ≤ 18) (hd0 : d.testBit 0 = false) (ha : a ∈ arrs ipb l h d f) (hq : l ≤ q) : rwN a q = 0 := arrs_hole hl hd0 ha (by rw [frN_bit hl, decide_eq_false (by omega), Bool.false_and])
theorem lx_first (hl : l ≤ 18) (hd0 : d.testBit 0 = false) (hd : d < 2 ^ 18) (ha : a ∈ arrs ipb l h d f) (hb : b ∈ arrs ipb l h d f) (hx : LX a b) : ∃ q, q < l ∧ (∀ j, j < q → rwN a j = rwN b j) ∧ rwN a q < rwN b q := by
  obtain ⟨q, _, h1, h2⟩ := hx
  refine ⟨q, ?_, h1, h2⟩
  rcases Nat.lt_or_ge q l with z | z
  · exact z
  · rw [row_hi hl hd0 ha z, row_hi hl hd0 hb z] at h2; omega
theorem row_hole (hl : l ≤ 18) (hd0 : d.testBit 0 = false) (hh : h < 2 ^ l) (ha : a ∈ arrs ipb l h d f) : mkm (fun p => rwN a p == 0) l = h := by
  apply Nat.eq_of_testBit_eq
  intro q
  rw [mkm_bit]
  by_cases c : q < l
  · rw [decide_eq_true c, Bool.true_and]
    cases hb : h.testBit q with
    | true => rw [arrs_hole hl hd0 ha (by rw [frN_bit hl, hb]; simp)]; rfl
    | false => simpa using (arrs_free hl hd0 ha (q := q) (by rw [frN_bit hl, hb, decide_eq_true c]; rfl)).1
  · rw [decide_eq_false c, Bool.false_and, bt_hi hh (by omega)]
theorem row_in (hl : l ≤ 18) (hd0 : d.testBit 0 = false) (ha : a ∈ arrs ipb l h d f) (hz : rwN a q ≠ 0) : d.testBit (rwN a q) = true := by
  refine (arrs_free hl hd0 ha (q := q) ?_).2.1
  cases hb : (frN l h).testBit q with
  | true => rfl
  | false => exact absurd (arrs_hole hl hd0 ha hb) hz
end FF
theorem nI_ne {a b : Nat} (ha : a < 2 ^ 31) (hb : b < 2 ^ 31) (h : a ≠ b) : ¬ nI a = nI b := fun e => h ((nI_eq ha hb).mp e)
theorem nI_neg {a b : Nat} (ha : a < 2 ^ 30) (hb : b < 2 ^ 30) (h : a < b) : nI a - nI b < 0 := by
  rw [bi_lt, pk_sub_toInt ha hb]
  show (a : Int) - b < 0
  omega
theorem mkm_or (c : Nat → Bool) (i : Nat) : mkm c i ||| 2 ^ i = mkm c i + 2 ^ i := by
  have h := mkm_lt c i
  rw [Nat.or_comm, Nat.add_comm]
  have := Nat.two_pow_add_eq_or_of_lt h 1
  rw [Nat.mul_one] at this
  exact this.symm
