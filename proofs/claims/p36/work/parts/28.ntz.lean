theorem lo_mod {m t : Nat} (h : m.testBit t = true) (hl : ∀ q, q < t → m.testBit q = false) : m % 2 ^ (t + 1) = 2 ^ t := by
  apply Nat.eq_of_testBit_eq
  intro i
  rw [Nat.testBit_mod_two_pow, Nat.testBit_two_pow]
  by_cases e : t = i
  · subst e; simp [h]
  · by_cases e2 : i < t
    · simp [e, hl i e2]
    · simp [e, show ¬ i < t + 1 by omega]
theorem ntz_eq {m t : Nat} (hm : m < 2 ^ 18) (h : m.testBit t = true) (hl : ∀ q, q < t → m.testBit q = false) (ht : t < 18) : (nI m ^^^ (-1)) &&& (nI m - 1) = nI (2 ^ t - 1) := by
  have h1 : 1 ≤ m := by have := bt_ge h; have := Nat.two_pow_pos t; omega
  rw [show (-1 : Int32) = nI 4294967295 by rfl, show (1 : Int32) = nI 1 by rfl, bi_xor, pk_sub h1, bi_and]
  congr 1
  have hmod := lo_mod h hl
  have hd : m = 2 ^ (t + 1) * (m / 2 ^ (t + 1)) + 2 ^ t := by have := Nat.div_add_mod m (2 ^ (t + 1)); omega
  have hp := Nat.two_pow_pos t
  have hp2 : 2 ^ (t + 1) = 2 ^ t + 2 ^ t := by rw [Nat.pow_succ]; omega
  have e1 : m - 1 = 2 ^ (t + 1) * (m / 2 ^ (t + 1)) + (2 ^ t - 1) := by omega
  apply Nat.eq_of_testBit_eq
  intro i
  rw [Nat.testBit_and, Nat.testBit_xor, show (4294967295 : Nat) = 2 ^ 32 - 1 by rfl, Nat.testBit_two_pow_sub_one, Nat.testBit_two_pow_sub_one, e1, Nat.testBit_two_pow_mul_add _ (show 2 ^ t - 1 < 2 ^ (t + 1) by omega)]
  conv => lhs; arg 1; rw [hd]
  rw [Nat.testBit_two_pow_mul_add _ (show 2 ^ t < 2 ^ (t + 1) by omega), Nat.testBit_two_pow_sub_one, Nat.testBit_two_pow]
  by_cases c : i < t + 1
  · rw [if_pos c, if_pos c]
    by_cases e : t = i
    · subst e; simp
    · simp [e, show i < 32 by omega]
  · rw [if_neg c, if_neg c]
    by_cases c2 : i < 32
    · cases (m / 2 ^ (t + 1)).testBit (i - (t + 1)) <;> simp [c2, show ¬ i < t by omega]
    · have hz : (m / 2 ^ (t + 1)).testBit (i - (t + 1)) = false := by
        rw [Nat.testBit_div_two_pow]
        exact bt_hi hm (by omega)
      simp [hz, show ¬ i < t by omega]
theorem sp_ntz {X : Nat × (Nat → Int32)} {D m : Nat} {G : am_H} {P : Option Value → am_H → Prop} (hD : 1 ≤ D) (hm : m < 2 ^ 18) (hne : bl m ≠ []) (h : P (some (.int (nI (lo m)))) G) : am_CB X D 91 [.int (nI m)] G P := by
  obtain ⟨D, rfl⟩ : ∃ D0, D = D0 + 1 := ⟨D - 1, by omega⟩
  refine B91 60 [] ?_
  obtain ⟨a, b, c⟩ := lo_s hne
  simp only [J91_0, J91_1, J91_2, J91_3, J91_4, J91_5, J91_6, J91_7, J91_8, J91_9, J91_12, J91_13, J91_15, J91_16, J91_17, J91_18, J91_19, J91_20, J91_23, J91_26, J91_29, J91_30, J91_32, J91_33, J91_34, J91_35, J91_38, J91_41, J91_44, J91_45, J91_47, J91_48, J91_49, J91_50, J91_52, J91_55, J91_58, J91_59, J91_60, J91_61, J91_62, J91_63, J91_64, J91_67, J91_70, J91_71, J91_72, J91_73, J91_74, J91_75, J91_76, J91_77, J91_78, J91_79, am_gg_c, am_gf_c, am_pf_c, am_af_c, am_sf_c, am_bf_c, am_qf_c, am_ap_c, am_bp_c, am_qp_c, am_lf_c, am_kt_s, am_kt_n, am_wst, am_wstop, am_ns_0, am_ns_1, Bool.not_true, Bool.not_false, Bool.true_and, Bool.false_and, Nat.reduceBEq, ↓reduceIte, am_k2_n, am_k2_i, am_k2_r, am_k2_u, am_k2_f, am_k2_l, Nat.zero_le, true_and, and_true, true_or, or_true, am_cat_0, am_cat_i, am_cat_r, am_cat_l, am_cat_n, Nat.reduceLeDiff, Nat.reduceAdd, Option.isSome_some, List.getElem?_cons_zero, List.getElem?_cons_succ, am_fit_i, am_fit_r, am_fit_a]
  rw [ntz_eq hm a c b]
  generalize lo m = t at *
  clear a c
  rcases (show t = 0 ∨ t = 1 ∨ t = 2 ∨ t = 3 ∨ t = 4 ∨ t = 5 ∨ t = 6 ∨ t = 7 ∨ t = 8 ∨ t = 9 ∨ t = 10 ∨ t = 11 ∨ t = 12 ∨ t = 13 ∨ t = 14 ∨ t = 15 ∨ t = 16 ∨ t = 17 by omega) with rfl | rfl | rfl | rfl | rfl | rfl | rfl | rfl | rfl | rfl | rfl | rfl | rfl | rfl | rfl | rfl | rfl | rfl <;> exact h

