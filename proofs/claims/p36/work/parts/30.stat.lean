theorem sp_contains {X : Nat × (Nat → Int32)} {D m : Nat} {e : Int32} {G : am_H} {P : Option Value → am_H → Prop} (hD : 1 ≤ D) (hm : m < 2 ^ 31) (h : P (some (.int (if ctn m e = true then 1 else 0))) G) : am_CB X D 88 [.int (nI m), .int e] G P := by
  obtain ⟨D, rfl⟩ : ∃ D0, D = D0 + 1 := ⟨D - 1, by omega⟩
  refine B88 40 [] ?_
  simp only [J88_0, J88_1, J88_4, J88_5, J88_7, J88_10, J88_11, J88_12, J88_13, J88_14, J88_15, J88_18, J88_19, J88_22, J88_23, am_gg_c, am_gf_c, am_pf_c, am_af_c, am_sf_c, am_bf_c, am_qf_c, am_ap_c, am_bp_c, am_qp_c, am_lf_c, am_kt_s, am_kt_n, am_wst, am_wstop, am_ns_0, am_ns_1, Bool.not_true, Bool.not_false, Bool.true_and, Bool.false_and, Nat.reduceBEq, ↓reduceIte, am_k2_n, am_k2_i, am_k2_r, am_k2_u, am_k2_f, am_k2_l, Nat.zero_le, true_and, and_true, true_or, or_true, am_cat_0, am_cat_i, am_cat_r, am_cat_l, am_cat_n, Nat.reduceLeDiff, Nat.reduceAdd, Option.isSome_some, List.getElem?_cons_zero, List.getElem?_cons_succ, am_fit_i, am_fit_r, am_fit_a]
  have hn : ∀ {c : Prop}, ¬ (0 ≤ e.toInt ∧ e.toInt ≤ 30) → ctn m e = false := fun q => by unfold ctn; rw [decide_eq_false q, Bool.false_and]
  split
  · next c =>
    rw [bi_lt] at c
    rw [hn (c := True) (by have : (0 : Int32).toInt = 0 := rfl; omega)] at h
    exact h
  · next c =>
    rw [bi_lt] at c
    have c0 : 0 ≤ e.toInt := by have : (0 : Int32).toInt = 0 := rfl; omega
    split
    · next c2 =>
      rw [bi_lt] at c2
      rw [hn (c := True) (by have : (30 : Int32).toInt = 30 := rfl; omega)] at h
      exact h
    · next c2 =>
      rw [bi_lt] at c2
      have c3 : e.toInt ≤ 30 := by have : (30 : Int32).toInt = 30 := rfl; omega
      obtain ⟨e1, e2⟩ := bi_nat c0
      have hk : e.toInt.toNat ≤ 30 := by omega
      generalize e.toInt.toNat = k at e1 e2 hk
      subst e1
      rw [ctn_n hm e2] at h
      rw [bi_ushr (by omega) (by omega), bi_bit]
      cases hb : m.testBit k with
      | true => rw [hb] at h; simpa using h
      | false => rw [hb] at h; simpa using h
theorem bi_lit1 : (1 : Int32) = nI 1 := rfl
theorem sp_range {X : Nat × (Nat → Int32)} {D a b : Nat} {e : Int32} {G : am_H} {P : Option Value → am_H → Prop} (hD : 1 ≤ D) (hab : a ≤ b) (hb : b ≤ 30) (he : e + 1 = nI b) (h : P (some (.int (nI (2 ^ b - 2 ^ a)))) G) : am_CB X D 89 [.int (nI a), .int e] G P := by
  obtain ⟨D, rfl⟩ : ∃ D0, D = D0 + 1 := ⟨D - 1, by omega⟩
  refine B89 40 [] ?_
  simp only [J89_0, J89_1, J89_2, J89_3, J89_4, J89_5, J89_6, J89_7, J89_8, J89_9, am_gg_c, am_gf_c, am_pf_c, am_af_c, am_sf_c, am_bf_c, am_qf_c, am_ap_c, am_bp_c, am_qp_c, am_lf_c, am_kt_s, am_kt_n, am_wst, am_wstop, am_ns_0, am_ns_1, Bool.not_true, Bool.not_false, Bool.true_and, Bool.false_and, Nat.reduceBEq, ↓reduceIte, am_k2_n, am_k2_i, am_k2_r, am_k2_u, am_k2_f, am_k2_l, Nat.zero_le, true_and, and_true, true_or, or_true, am_cat_0, am_cat_i, am_cat_r, am_cat_l, am_cat_n, Nat.reduceLeDiff, Nat.reduceAdd, Option.isSome_some, List.getElem?_cons_zero, List.getElem?_cons_succ, am_fit_i, am_fit_r, am_fit_a]
  rw [he, bi_lit1, bi_shl (by omega), bi_shl (by omega), Nat.one_mul, Nat.one_mul, pk_sub (Nat.pow_le_pow_right (by omega) hab)]
  exact h
def bsm (m : Nat) : Nat → Nat → Nat
  | _, 0 => 0
  | i, k + 1 => (if m.testBit i = true then i else 0) + bsm m (i + 1) k
theorem lp_sumOf {X : Nat × (Nat → Int32)} {D m : Nat} {G : am_H} {P : Option Value → am_H → Prop} (hD : 1 ≤ D) (hm : m < 2 ^ 31) : ∀ (k i acc : Nat) (e a : Int32), i + k = 31 → e = nI i → a = nI acc → P (some (.int (nI (acc + bsm m i k)))) G → am_WP X D 90 4 [some (.int (nI m)), some (.int a), some (.int e)] [] G 0 0 P
  | 0, i, acc, e, a, hi, he, ha, h => by
    refine am_wps 40 [25] ?_
    simp only [J90_0, J90_1, J90_2, J90_3, J90_4, J90_5, J90_7, J90_10, J90_11, J90_12, J90_15, J90_18, J90_19, J90_20, J90_21, J90_22, J90_25, J90_28, J90_29, am_gg_c, am_gf_c, am_pf_c, am_af_c, am_sf_c, am_bf_c, am_qf_c, am_ap_c, am_bp_c, am_qp_c, am_lf_c, am_kt_s, am_kt_n, am_wst, am_wstop, am_ns_0, am_ns_1, Bool.not_true, Bool.not_false, Bool.true_and, Bool.false_and, Nat.reduceBEq, ↓reduceIte, am_k2_n, am_k2_i, am_k2_r, am_k2_u, am_k2_f, am_k2_l, Nat.zero_le, true_and, and_true, true_or, or_true, am_cat_0, am_cat_i, am_cat_r, am_cat_l, am_cat_n, Nat.reduceLeDiff, Nat.reduceAdd, Option.isSome_some, List.getElem?_cons_zero, List.getElem?_cons_succ, am_fit_i, am_fit_r, am_fit_a]
    rw [if_pos (by rw [he, show i = 31 by omega]; decide)]
    rw [ha]
    exact h
  | k + 1, i, acc, e, a, hi, he, ha, h => by
    refine am_wps 40 [25] ?_
    simp only [J90_0, J90_1, J90_2, J90_3, J90_4, J90_5, J90_7, J90_10, J90_11, J90_12, J90_15, J90_18, J90_19, J90_20, J90_21, J90_22, J90_25, J90_28, J90_29, am_gg_c, am_gf_c, am_pf_c, am_af_c, am_sf_c, am_bf_c, am_qf_c, am_ap_c, am_bp_c, am_qp_c, am_lf_c, am_kt_s, am_kt_n, am_wst, am_wstop, am_ns_0, am_ns_1, Bool.not_true, Bool.not_false, Bool.true_and, Bool.false_and, Nat.reduceBEq, ↓reduceIte, am_k2_n, am_k2_i, am_k2_r, am_k2_u, am_k2_f, am_k2_l, Nat.zero_le, true_and, and_true, true_or, or_true, am_cat_0, am_cat_i, am_cat_r, am_cat_l, am_cat_n, Nat.reduceLeDiff, Nat.reduceAdd, Option.isSome_some, List.getElem?_cons_zero, List.getElem?_cons_succ, am_fit_i, am_fit_r, am_fit_a]
    rw [if_neg (by rw [he, show (30 : Int32) = nI 30 by rfl, nI_ltI (by omega) (by omega)]; omega)]
    refine sp_contains hD hm ?_
    simp only [J90_0, J90_1, J90_2, J90_3, J90_4, J90_5, J90_7, J90_10, J90_11, J90_12, J90_15, J90_18, J90_19, J90_20, J90_21, J90_22, J90_25, J90_28, J90_29, am_gg_c, am_gf_c, am_pf_c, am_af_c, am_sf_c, am_bf_c, am_qf_c, am_ap_c, am_bp_c, am_qp_c, am_lf_c, am_kt_s, am_kt_n, am_wst, am_wstop, am_ns_0, am_ns_1, Bool.not_true, Bool.not_false, Bool.true_and, Bool.false_and, Nat.reduceBEq, ↓reduceIte, am_k2_n, am_k2_i, am_k2_r, am_k2_u, am_k2_f, am_k2_l, Nat.zero_le, true_and, and_true, true_or, or_true, am_cat_0, am_cat_i, am_cat_r, am_cat_l, am_cat_n, Nat.reduceLeDiff, Nat.reduceAdd, Option.isSome_some, List.getElem?_cons_zero, List.getElem?_cons_succ, am_fit_i, am_fit_r, am_fit_a]
    have hr : ctn m e = m.testBit i := by rw [he, ctn_n hm (by omega)]
    rw [hr]
    cases hb : m.testBit i with
    | true =>
      simp only [if_true, if_neg (show ¬ (1 : Int32) = 0 by decide)]
      refine am_goto I90_25 (lp_sumOf hD hm k (i + 1) (acc + i) _ _ (by omega) (by rw [he, nI_1]) (by rw [ha, he, nI_add]) ?_)
      simp only [bsm, hb, if_true] at h
      rw [Nat.add_assoc]
      exact h
    | false =>
      simp only [Bool.false_eq_true, if_false, if_true]
      refine am_goto I90_25 (lp_sumOf hD hm k (i + 1) acc _ _ (by omega) (by rw [he, nI_1]) ha ?_)
      simp only [bsm, hb, Bool.false_eq_true, if_false, Nat.zero_add] at h
      exact h
theorem sp_sumOf {X : Nat × (Nat → Int32)} {D m : Nat} {G : am_H} {P : Option Value → am_H → Prop} (hD : 2 ≤ D) (hm : m < 2 ^ 31) (h : P (some (.int (nI (bsm m 0 31)))) G) : am_CB X D 90 [.int (nI m)] G P := by
  obtain ⟨D, rfl⟩ : ∃ D0, D = D0 + 1 := ⟨D - 1, by omega⟩
  refine B90 40 [4] ?_
  simp only [J90_0, J90_1, J90_2, J90_3, J90_4, J90_5, J90_7, J90_10, J90_11, J90_12, J90_15, J90_18, J90_19, J90_20, J90_21, J90_22, J90_25, J90_28, J90_29, am_gg_c, am_gf_c, am_pf_c, am_af_c, am_sf_c, am_bf_c, am_qf_c, am_ap_c, am_bp_c, am_qp_c, am_lf_c, am_kt_s, am_kt_n, am_wst, am_wstop, am_ns_0, am_ns_1, Bool.not_true, Bool.not_false, Bool.true_and, Bool.false_and, Nat.reduceBEq, ↓reduceIte, am_k2_n, am_k2_i, am_k2_r, am_k2_u, am_k2_f, am_k2_l, Nat.zero_le, true_and, and_true, true_or, or_true, am_cat_0, am_cat_i, am_cat_r, am_cat_l, am_cat_n, Nat.reduceLeDiff, Nat.reduceAdd, Option.isSome_some, List.getElem?_cons_zero, List.getElem?_cons_succ, am_fit_i, am_fit_r, am_fit_a]
  exact lp_sumOf (by omega) hm 31 0 0 _ _ rfl nI_0.symm nI_0.symm (by rw [Nat.zero_add]; exact h)

