/-! the reference's pad: say, wipe, letter, fault, meaning, signOf -/
/-- the pad: n codes -/
def MP (G : am_H) (n : Nat) (t : Nat → Int32) : Prop := (∃ len T m ip due dep vp, am_ob G 23 5 = some (moL (nI n) len T m ip due dep vp)) ∧ n ≤ 18 ∧ ∃ pf, am_ia G 27 0 = some (18, pf) ∧ ∀ i, i < n → pf i = t i
/-- what a code means -/
def mgI (c : Int32) : Int32 := if 49 ≤ c.toInt ∧ c.toInt ≤ 57 then c - 48 else if 97 ≤ c.toInt ∧ c.toInt ≤ 104 then 10 + c - 97 else if c = 46 then 0 else if c = 63 then 18 else -6
def sgI (x : Int32) : Int32 := if x = 0 then 46 else if x < 10 then 48 + x else 97 + x - 10
/-- the first place of the pad that no row has -/
def ftI (t : Nat → Int32) : Nat → Nat → Int32
  | 0, _ => -6
  | k + 1, i => if mgI (t i) < 0 then nI i else ftI t k (i + 1)
section MPD
variable {X : Nat × (Nat → Int32)} {D : Nat} {G : am_H} {P : Option Value → am_H → Prop} {n : Nat} {t : Nat → Int32}
theorem sp_meaning {c : Int32} (hD : 2 ≤ D) (hP : P (some (.int (mgI c))) G) : am_CB X D 132 [.int c] G P := by
  obtain ⟨D, rfl⟩ : ∃ D0, D = D0 + 1 := ⟨D - 1, by omega⟩
  unfold mgI at hP
  refine B132 40 [] ?_
  simp only [J132_0, J132_1, J132_3, J132_5, J132_8, J132_11, J132_12, J132_14, J132_15, J132_16, J132_17, J132_19, J132_21, J132_24, J132_27, J132_29, J132_30, J132_31, J132_33, J132_34, J132_35, J132_36, J132_38, J132_41, J132_42, J132_45, J132_46, J132_48, J132_51, J132_53, J132_56, J132_58, am_gg_c, am_gf_c, am_pf_c, am_af_c, am_sf_c, am_bf_c, am_qf_c, am_ap_c, am_bp_c, am_qp_c, am_lf_c, am_kt_s, am_kt_n, am_wst, am_wstop, am_ns_0, am_ns_1, Bool.not_true, Bool.not_false, Bool.true_and, Bool.false_and, Nat.reduceBEq, ↓reduceIte, am_k2_n, am_k2_i, am_k2_r, am_k2_u, am_k2_f, am_k2_l, Nat.zero_le, true_and, and_true, true_or, or_true, am_cat_0, am_cat_i, am_cat_r, am_cat_l, am_cat_n, Nat.reduceLeDiff, Nat.reduceAdd, Option.isSome_some, List.getElem?_cons_zero, List.getElem?_cons_succ, am_fit_i, am_fit_r, am_fit_a]
  refine sp_in (by omega) ?_
  simp only [J132_0, J132_1, J132_3, J132_5, J132_8, J132_11, J132_12, J132_14, J132_15, J132_16, J132_17, J132_19, J132_21, J132_24, J132_27, J132_29, J132_30, J132_31, J132_33, J132_34, J132_35, J132_36, J132_38, J132_41, J132_42, J132_45, J132_46, J132_48, J132_51, J132_53, J132_56, J132_58, am_gg_c, am_gf_c, am_pf_c, am_af_c, am_sf_c, am_bf_c, am_qf_c, am_ap_c, am_bp_c, am_qp_c, am_lf_c, am_kt_s, am_kt_n, am_wst, am_wstop, am_ns_0, am_ns_1, Bool.not_true, Bool.not_false, Bool.true_and, Bool.false_and, Nat.reduceBEq, ↓reduceIte, am_k2_n, am_k2_i, am_k2_r, am_k2_u, am_k2_f, am_k2_l, Nat.zero_le, true_and, and_true, true_or, or_true, am_cat_0, am_cat_i, am_cat_r, am_cat_l, am_cat_n, Nat.reduceLeDiff, Nat.reduceAdd, Option.isSome_some, List.getElem?_cons_zero, List.getElem?_cons_succ, am_fit_i, am_fit_r, am_fit_a]
  rw [show (49 : Int32).toInt = 49 by rfl, show (57 : Int32).toInt = 57 by rfl]
  by_cases c1 : 49 ≤ c.toInt ∧ c.toInt ≤ 57
  · rw [if_pos c1] at hP ⊢
    rw [if_neg (by decide)]
    exact hP
  · rw [if_neg c1] at hP ⊢
    rw [if_pos rfl]
    refine sp_in (by omega) ?_
    simp only [J132_0, J132_1, J132_3, J132_5, J132_8, J132_11, J132_12, J132_14, J132_15, J132_16, J132_17, J132_19, J132_21, J132_24, J132_27, J132_29, J132_30, J132_31, J132_33, J132_34, J132_35, J132_36, J132_38, J132_41, J132_42, J132_45, J132_46, J132_48, J132_51, J132_53, J132_56, J132_58, am_gg_c, am_gf_c, am_pf_c, am_af_c, am_sf_c, am_bf_c, am_qf_c, am_ap_c, am_bp_c, am_qp_c, am_lf_c, am_kt_s, am_kt_n, am_wst, am_wstop, am_ns_0, am_ns_1, Bool.not_true, Bool.not_false, Bool.true_and, Bool.false_and, Nat.reduceBEq, ↓reduceIte, am_k2_n, am_k2_i, am_k2_r, am_k2_u, am_k2_f, am_k2_l, Nat.zero_le, true_and, and_true, true_or, or_true, am_cat_0, am_cat_i, am_cat_r, am_cat_l, am_cat_n, Nat.reduceLeDiff, Nat.reduceAdd, Option.isSome_some, List.getElem?_cons_zero, List.getElem?_cons_succ, am_fit_i, am_fit_r, am_fit_a]
    rw [show (97 : Int32).toInt = 97 by rfl, show (104 : Int32).toInt = 104 by rfl]
    by_cases c2 : 97 ≤ c.toInt ∧ c.toInt ≤ 104
    · rw [if_pos c2] at hP ⊢
      rw [if_neg (by decide)]
      exact hP
    · rw [if_neg c2] at hP ⊢
      rw [if_pos rfl]
      by_cases c3 : c = 46
      · rw [if_pos c3] at hP ⊢
        exact hP
      · rw [if_neg c3] at hP ⊢
        by_cases c4 : c = 63
        · rw [if_pos c4] at hP ⊢
          exact hP
        · rw [if_neg c4] at hP ⊢
          exact hP
theorem sp_signOf {x : Int32} (hD : 1 ≤ D) (hP : P (some (.int (sgI x))) G) : am_CB X D 145 [.int x] G P := by
  obtain ⟨D, rfl⟩ : ∃ D0, D = D0 + 1 := ⟨D - 1, by omega⟩
  unfold sgI at hP
  refine B145 40 [] ?_
  simp only [J145_0, J145_1, J145_4, J145_6, J145_9, J145_10, J145_12, J145_15, J145_17, J145_18, J145_19, J145_22, J145_24, J145_25, J145_26, J145_28, J145_29, am_gg_c, am_gf_c, am_pf_c, am_af_c, am_sf_c, am_bf_c, am_qf_c, am_ap_c, am_bp_c, am_qp_c, am_lf_c, am_kt_s, am_kt_n, am_wst, am_wstop, am_ns_0, am_ns_1, Bool.not_true, Bool.not_false, Bool.true_and, Bool.false_and, Nat.reduceBEq, ↓reduceIte, am_k2_n, am_k2_i, am_k2_r, am_k2_u, am_k2_f, am_k2_l, Nat.zero_le, true_and, and_true, true_or, or_true, am_cat_0, am_cat_i, am_cat_r, am_cat_l, am_cat_n, Nat.reduceLeDiff, Nat.reduceAdd, Option.isSome_some, List.getElem?_cons_zero, List.getElem?_cons_succ, am_fit_i, am_fit_r, am_fit_a]
  by_cases c1 : x = 0
  · rw [if_pos c1] at hP ⊢
    exact hP
  · rw [if_neg c1] at hP ⊢
    by_cases c2 : x < 10
    · rw [if_pos c2] at hP ⊢
      exact hP
    · rw [if_neg c2] at hP ⊢
      exact hP
theorem sp_msay {c : Int32} (hD : 2 ≤ D) (hm : MP G n t) (hP : ∀ v G' n' t', (v, n', t') = (if 33 ≤ c.toInt ∧ c.toInt ≤ 126 then (if n = 18 then (-5, n, t) else (nI (n + 1), n + 1, fun i => if i = n then c else t i)) else (-2, n, t)) → MP G' n' t' → Fr [23, 27] G G' → P (some (.int v)) G') : am_CB X D 130 [.ref 23, .int c] G P := by
  obtain ⟨D, rfl⟩ : ∃ D0, D = D0 + 1 := ⟨D - 1, by omega⟩
  obtain ⟨⟨len, T, m, ip, due, dep, vp, h1⟩, hn, pf, h2, h3⟩ := id hm
  have k23 := am_ob_lt h1
  have k27 := am_ia_lt h2
  refine B130 40 [] ?_
  simp only [J130_0, J130_1, J130_3, J130_5, J130_8, J130_11, J130_13, J130_14, J130_15, J130_18, J130_20, J130_23, J130_25, J130_26, J130_27, J130_30, J130_31, J130_34, J130_35, J130_36, J130_37, J130_38, J130_41, J130_42, J130_43, J130_46, J130_47, J130_50, am_gg_c, am_gf_c, am_pf_c, am_af_c, am_sf_c, am_bf_c, am_qf_c, am_ap_c, am_bp_c, am_qp_c, am_lf_c, am_kt_s, am_kt_n, am_wst, am_wstop, am_ns_0, am_ns_1, Bool.not_true, Bool.not_false, Bool.true_and, Bool.false_and, Nat.reduceBEq, ↓reduceIte, am_k2_n, am_k2_i, am_k2_r, am_k2_u, am_k2_f, am_k2_l, Nat.zero_le, true_and, and_true, true_or, or_true, am_cat_0, am_cat_i, am_cat_r, am_cat_l, am_cat_n, Nat.reduceLeDiff, Nat.reduceAdd, Option.isSome_some, List.getElem?_cons_zero, List.getElem?_cons_succ, am_fit_i, am_fit_r, am_fit_a, h1]
  refine sp_in (by omega) ?_
  simp only [J130_0, J130_1, J130_3, J130_5, J130_8, J130_11, J130_13, J130_14, J130_15, J130_18, J130_20, J130_23, J130_25, J130_26, J130_27, J130_30, J130_31, J130_34, J130_35, J130_36, J130_37, J130_38, J130_41, J130_42, J130_43, J130_46, J130_47, J130_50, am_gg_c, am_gf_c, am_pf_c, am_af_c, am_sf_c, am_bf_c, am_qf_c, am_ap_c, am_bp_c, am_qp_c, am_lf_c, am_kt_s, am_kt_n, am_wst, am_wstop, am_ns_0, am_ns_1, Bool.not_true, Bool.not_false, Bool.true_and, Bool.false_and, Nat.reduceBEq, ↓reduceIte, am_k2_n, am_k2_i, am_k2_r, am_k2_u, am_k2_f, am_k2_l, Nat.zero_le, true_and, and_true, true_or, or_true, am_cat_0, am_cat_i, am_cat_r, am_cat_l, am_cat_n, Nat.reduceLeDiff, Nat.reduceAdd, Option.isSome_some, List.getElem?_cons_zero, List.getElem?_cons_succ, am_fit_i, am_fit_r, am_fit_a, h1]
  rw [show (33 : Int32).toInt = 33 by rfl, show (126 : Int32).toInt = 126 by rfl]
  by_cases c1 : 33 ≤ c.toInt ∧ c.toInt ≤ 126
  · simp only [if_pos c1] at hP
    rw [if_pos c1, if_neg (by decide)]
    by_cases c2 : n = 18
    · simp only [if_pos c2] at hP
      rw [if_pos (by rw [c2]; rfl)]
      exact hP _ G _ _ rfl hm Fr.rf
    · simp only [if_neg c2] at hP
      rw [if_neg (fun e => c2 (bi_inj (by omega) (by omega) (e.trans (show (18 : Int32) = nI 18 by rfl))))]
      simp only [J130_0, J130_1, J130_3, J130_5, J130_8, J130_11, J130_13, J130_14, J130_15, J130_18, J130_20, J130_23, J130_25, J130_26, J130_27, J130_30, J130_31, J130_34, J130_35, J130_36, J130_37, J130_38, J130_41, J130_42, J130_43, J130_46, J130_47, J130_50, am_gg_c, am_gf_c, am_pf_c, am_af_c, am_sf_c, am_bf_c, am_qf_c, am_ap_c, am_bp_c, am_qp_c, am_lf_c, am_kt_s, am_kt_n, am_wst, am_wstop, am_ns_0, am_ns_1, Bool.not_true, Bool.not_false, Bool.true_and, Bool.false_and, Nat.reduceBEq, ↓reduceIte, am_k2_n, am_k2_i, am_k2_r, am_k2_u, am_k2_f, am_k2_l, Nat.zero_le, true_and, and_true, true_or, or_true, am_cat_0, am_cat_i, am_cat_r, am_cat_l, am_cat_n, Nat.reduceLeDiff, Nat.reduceAdd, Option.isSome_some, List.getElem?_cons_zero, List.getElem?_cons_succ, am_fit_i, am_fit_r, am_fit_a, h1, h2, am_ob_sn (show 27 ≠ 23 by decide), am_ob_ss, am_ia_ss, k23, k27, List.length_set, Value.category, List.length_cons, List.length_nil, Nat.reduceLT, List.set_cons_succ, List.set_cons_zero]
      refine ⟨vp_in_n (by omega) (by omega), ?_⟩
      rw [nI_clamp (by omega), nI_1]
      refine hP _ _ _ _ rfl ⟨⟨_, _, _, _, _, _, _, am_ob_ss (by rw [List.length_set]; exact k23)⟩, by omega, _, (by rw [am_ia_sn (show 23 ≠ 27 by decide)]; exact am_ia_ss k27), fun i hi => ?_⟩ ((Fr.set (by decide)).tr (Fr.set (by decide)))
      show upd pf n c i = if i = n then c else t i
      unfold upd
      by_cases c3 : i = n
      · rw [if_pos c3, if_pos c3]
      · rw [if_neg c3, if_neg c3]
        exact h3 i (by omega)
  · simp only [if_neg c1] at hP
    rw [if_neg c1, if_pos rfl]
    exact hP _ G _ _ rfl hm Fr.rf
theorem sp_mwipe (hD : 1 ≤ D) (hm : MP G n t) (hP : ∀ G', MP G' 0 t → Fr [23] G G' → P (some (.int (nI n))) G') : am_CB X D 131 [.ref 23] G P := by
  obtain ⟨D, rfl⟩ : ∃ D0, D = D0 + 1 := ⟨D - 1, by omega⟩
  obtain ⟨⟨len, T, m, ip, due, dep, vp, h1⟩, hn, pf, h2, h3⟩ := id hm
  have k23 := am_ob_lt h1
  refine B131 40 [] ?_
  simp only [J131_0, J131_1, J131_4, J131_5, J131_6, J131_7, J131_10, J131_11, am_gg_c, am_gf_c, am_pf_c, am_af_c, am_sf_c, am_bf_c, am_qf_c, am_ap_c, am_bp_c, am_qp_c, am_lf_c, am_kt_s, am_kt_n, am_wst, am_wstop, am_ns_0, am_ns_1, Bool.not_true, Bool.not_false, Bool.true_and, Bool.false_and, Nat.reduceBEq, ↓reduceIte, am_k2_n, am_k2_i, am_k2_r, am_k2_u, am_k2_f, am_k2_l, Nat.zero_le, true_and, and_true, true_or, or_true, am_cat_0, am_cat_i, am_cat_r, am_cat_l, am_cat_n, Nat.reduceLeDiff, Nat.reduceAdd, Option.isSome_some, List.getElem?_cons_zero, List.getElem?_cons_succ, am_fit_i, am_fit_r, am_fit_a, h1, Value.category, List.length_cons, List.length_nil, Nat.reduceLT, List.set_cons_succ, List.set_cons_zero]
  exact hP _ ⟨⟨_, _, _, _, _, _, _, am_ob_ss k23⟩, by omega, pf, (by rw [am_ia_sn (show 23 ≠ 27 by decide)]; exact h2), fun i hi => by omega⟩ (Fr.set (by decide))
theorem sp_mletter {x : Int32} (hD : 2 ≤ D) (hm : MP G n t) (hP : P (some (.int (if inN x n = true then t x.toInt.toNat else -6))) G) : am_CB X D 147 [.ref 23, .int x] G P := by
  obtain ⟨D, rfl⟩ : ∃ D0, D = D0 + 1 := ⟨D - 1, by omega⟩
  obtain ⟨⟨len, T, m, ip, due, dep, vp, h1⟩, hn, pf, h2, h3⟩ := id hm
  refine B147 40 [] ?_
  simp only [J147_0, J147_1, J147_2, J147_3, J147_6, J147_7, J147_8, J147_11, J147_14, J147_15, J147_18, J147_19, J147_20, J147_23, J147_25, am_gg_c, am_gf_c, am_pf_c, am_af_c, am_sf_c, am_bf_c, am_qf_c, am_ap_c, am_bp_c, am_qp_c, am_lf_c, am_kt_s, am_kt_n, am_wst, am_wstop, am_ns_0, am_ns_1, Bool.not_true, Bool.not_false, Bool.true_and, Bool.false_and, Nat.reduceBEq, ↓reduceIte, am_k2_n, am_k2_i, am_k2_r, am_k2_u, am_k2_f, am_k2_l, Nat.zero_le, true_and, and_true, true_or, or_true, am_cat_0, am_cat_i, am_cat_r, am_cat_l, am_cat_n, Nat.reduceLeDiff, Nat.reduceAdd, Option.isSome_some, List.getElem?_cons_zero, List.getElem?_cons_succ, am_fit_i, am_fit_r, am_fit_a, h1]
  refine sp_in (by omega) ?_
  simp only [J147_0, J147_1, J147_2, J147_3, J147_6, J147_7, J147_8, J147_11, J147_14, J147_15, J147_18, J147_19, J147_20, J147_23, J147_25, am_gg_c, am_gf_c, am_pf_c, am_af_c, am_sf_c, am_bf_c, am_qf_c, am_ap_c, am_bp_c, am_qp_c, am_lf_c, am_kt_s, am_kt_n, am_wst, am_wstop, am_ns_0, am_ns_1, Bool.not_true, Bool.not_false, Bool.true_and, Bool.false_and, Nat.reduceBEq, ↓reduceIte, am_k2_n, am_k2_i, am_k2_r, am_k2_u, am_k2_f, am_k2_l, Nat.zero_le, true_and, and_true, true_or, or_true, am_cat_0, am_cat_i, am_cat_r, am_cat_l, am_cat_n, Nat.reduceLeDiff, Nat.reduceAdd, Option.isSome_some, List.getElem?_cons_zero, List.getElem?_cons_succ, am_fit_i, am_fit_r, am_fit_a, h1, h2]
  have e1 : (nI n - 1).toInt = (n : Int) - 1 := by
    rw [iI_n, show (1 : Int32) = iI 1 by rfl, iI_sub, iI_toInt (by omega) (by omega)]
  rw [show (0 : Int32).toInt = 0 by rfl, e1]
  cases hb : inN x n with
  | true =>
    rw [hb] at hP
    obtain ⟨q, rfl, hq⟩ := inN_of hb (by omega)
    rw [nI_toInt (by omega), Int.toNat_natCast] at hP
    rw [nI_toInt (by omega), if_pos (show (0 : Int) ≤ (q : Int) ∧ (q : Int) ≤ (n : Int) - 1 by omega), if_neg (by decide)]
    refine ⟨vp_in_n (by omega) (by omega), ?_⟩
    rw [nI_clamp (by omega), h3 q hq]
    simpa using hP
  | false =>
    rw [hb] at hP
    unfold inN at hb
    rw [decide_eq_false_iff_not] at hb
    rw [if_neg (show ¬ ((0 : Int) ≤ x.toInt ∧ x.toInt ≤ (n : Int) - 1) by omega), if_pos rfl]
    simpa using hP
theorem lp_mfault (hD : 2 ≤ D) (hm : MP G n t) : ∀ (k i : Nat), i + k = n → P (some (.int (ftI t k i))) G → am_WP X D 133 2 [some (.ref 23), some (.int (nI i))] [] G 0 0 P := by
  obtain ⟨⟨len, T, m, ip, due, dep, vp, h1⟩, hn, pf, h2, h3⟩ := id hm
  intro k
  induction k with
  | zero =>
    intro i hi hP
    refine am_wps 40 [27] ?_
    simp only [J133_0, J133_1, J133_2, J133_3, J133_4, J133_7, J133_10, J133_11, J133_14, J133_15, J133_16, J133_19, J133_22, J133_23, J133_24, J133_27, J133_30, J133_32, am_gg_c, am_gf_c, am_pf_c, am_af_c, am_sf_c, am_bf_c, am_qf_c, am_ap_c, am_bp_c, am_qp_c, am_lf_c, am_kt_s, am_kt_n, am_wst, am_wstop, am_ns_0, am_ns_1, Bool.not_true, Bool.not_false, Bool.true_and, Bool.false_and, Nat.reduceBEq, ↓reduceIte, am_k2_n, am_k2_i, am_k2_r, am_k2_u, am_k2_f, am_k2_l, Nat.zero_le, true_and, and_true, true_or, or_true, am_cat_0, am_cat_i, am_cat_r, am_cat_l, am_cat_n, Nat.reduceLeDiff, Nat.reduceAdd, Option.isSome_some, List.getElem?_cons_zero, List.getElem?_cons_succ, am_fit_i, am_fit_r, am_fit_a, h1]
    rw [if_neg (by rw [nI_ltI (by omega) (by omega)]; omega)]
    exact hP
  | succ k ih =>
    intro i hi hP
    refine am_wps 40 [27] ?_
    simp only [J133_0, J133_1, J133_2, J133_3, J133_4, J133_7, J133_10, J133_11, J133_14, J133_15, J133_16, J133_19, J133_22, J133_23, J133_24, J133_27, J133_30, J133_32, am_gg_c, am_gf_c, am_pf_c, am_af_c, am_sf_c, am_bf_c, am_qf_c, am_ap_c, am_bp_c, am_qp_c, am_lf_c, am_kt_s, am_kt_n, am_wst, am_wstop, am_ns_0, am_ns_1, Bool.not_true, Bool.not_false, Bool.true_and, Bool.false_and, Nat.reduceBEq, ↓reduceIte, am_k2_n, am_k2_i, am_k2_r, am_k2_u, am_k2_f, am_k2_l, Nat.zero_le, true_and, and_true, true_or, or_true, am_cat_0, am_cat_i, am_cat_r, am_cat_l, am_cat_n, Nat.reduceLeDiff, Nat.reduceAdd, Option.isSome_some, List.getElem?_cons_zero, List.getElem?_cons_succ, am_fit_i, am_fit_r, am_fit_a, h1, h2]
    rw [if_pos (by rw [nI_ltI (by omega) (by omega)]; omega)]
    refine ⟨vp_in_n (by omega) (by omega), ?_⟩
    rw [nI_clamp (by omega), h3 i (by omega)]
    refine sp_meaning (by omega) ?_
    simp only [J133_0, J133_1, J133_2, J133_3, J133_4, J133_7, J133_10, J133_11, J133_14, J133_15, J133_16, J133_19, J133_22, J133_23, J133_24, J133_27, J133_30, J133_32, am_gg_c, am_gf_c, am_pf_c, am_af_c, am_sf_c, am_bf_c, am_qf_c, am_ap_c, am_bp_c, am_qp_c, am_lf_c, am_kt_s, am_kt_n, am_wst, am_wstop, am_ns_0, am_ns_1, Bool.not_true, Bool.not_false, Bool.true_and, Bool.false_and, Nat.reduceBEq, ↓reduceIte, am_k2_n, am_k2_i, am_k2_r, am_k2_u, am_k2_f, am_k2_l, Nat.zero_le, true_and, and_true, true_or, or_true, am_cat_0, am_cat_i, am_cat_r, am_cat_l, am_cat_n, Nat.reduceLeDiff, Nat.reduceAdd, Option.isSome_some, List.getElem?_cons_zero, List.getElem?_cons_succ, am_fit_i, am_fit_r, am_fit_a]
    unfold ftI at hP
    split
    · next q =>
      rw [if_pos q] at hP
      exact hP
    · next q =>
      rw [if_neg q] at hP
      refine am_goto I133_27 ?_
      rw [nI_1]
      exact ih (i + 1) (by omega) hP
theorem sp_mfault (hD : 3 ≤ D) (hm : MP G n t) (hP : P (some (.int (ftI t n 0))) G) : am_CB X D 133 [.ref 23] G P := by
  obtain ⟨D, rfl⟩ : ∃ D0, D = D0 + 1 := ⟨D - 1, by omega⟩
  refine B133 40 [2] ?_
  simp only [J133_0, J133_1, J133_2, J133_3, J133_4, J133_7, J133_10, J133_11, J133_14, J133_15, J133_16, J133_19, J133_22, J133_23, J133_24, J133_27, J133_30, J133_32, am_gg_c, am_gf_c, am_pf_c, am_af_c, am_sf_c, am_bf_c, am_qf_c, am_ap_c, am_bp_c, am_qp_c, am_lf_c, am_kt_s, am_kt_n, am_wst, am_wstop, am_ns_0, am_ns_1, Bool.not_true, Bool.not_false, Bool.true_and, Bool.false_and, Nat.reduceBEq, ↓reduceIte, am_k2_n, am_k2_i, am_k2_r, am_k2_u, am_k2_f, am_k2_l, Nat.zero_le, true_and, and_true, true_or, or_true, am_cat_0, am_cat_i, am_cat_r, am_cat_l, am_cat_n, Nat.reduceLeDiff, Nat.reduceAdd, Option.isSome_some, List.getElem?_cons_zero, List.getElem?_cons_succ, am_fit_i, am_fit_r, am_fit_a]
  exact lp_mfault (by omega) hm n 0 (by omega) hP
end MPD
