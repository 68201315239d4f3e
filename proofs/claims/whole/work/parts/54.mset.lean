/-! the reference: isFree, pinned, starts -/
def sbN (l h w : Nat) (f : Nat → Nat) (s : Nat) : Bool := (frN l h).testBit s && ((frN l h).testBit (s + w) && (pnB true f s w && pnB true f (s + w) w))
section MS
variable {X : Nat × (Nat → Int32)} {D : Nat} {G : am_H} {P : Option Value → am_H → Prop} {pm len T m ip due dep vp : Int32} {l h d : Nat} {f : Nat → Nat}
theorem sp_mFree {q : Nat} (hD : 3 ≤ D) (h1 : am_ob G 23 5 = some (moL pm len T m ip due dep vp)) (hm : MA G l h d f) (hq : q < 2 ^ 31) (hP : P (some (.int (if (frN l h).testBit q = true then 1 else 0))) G) : am_CB X D 99 [.ref 23, .int (nI q)] G P := by
  obtain ⟨D, rfl⟩ : ∃ D0, D = D0 + 1 := ⟨D - 1, by omega⟩
  obtain ⟨⟨af, a1, a2, a3, a4, a5⟩, hl1, hl, hh, hd, hd0, hf⟩ := id hm
  have hh18 : h < 2 ^ 18 := Nat.lt_of_lt_of_le hh (Nat.pow_le_pow_right (by omega) hl)
  have has1 : af (1 : Int32).toNatClampNeg = nI h := a3
  rw [frN_bit hl] at hP
  refine B99 40 [] ?_
  simp only [J99_0, J99_1, J99_2, J99_5, J99_8, J99_9, J99_12, J99_13, J99_14, J99_15, J99_18, J99_21, J99_22, J99_25, J99_26, am_gg_c, am_gf_c, am_pf_c, am_af_c, am_sf_c, am_bf_c, am_qf_c, am_ap_c, am_bp_c, am_qp_c, am_lf_c, am_kt_s, am_kt_n, am_wst, am_wstop, am_ns_0, am_ns_1, Bool.not_true, Bool.not_false, Bool.true_and, Bool.false_and, Nat.reduceBEq, ↓reduceIte, am_k2_n, am_k2_i, am_k2_r, am_k2_u, am_k2_f, am_k2_l, Nat.zero_le, true_and, and_true, true_or, or_true, am_cat_0, am_cat_i, am_cat_r, am_cat_l, am_cat_n, Nat.reduceLeDiff, Nat.reduceAdd, Option.isSome_some, List.getElem?_cons_zero, List.getElem?_cons_succ, am_fit_i, am_fit_r, am_fit_a, h1]
  refine sp_mPosition (by omega) h1 hm ?_
  simp only [J99_0, J99_1, J99_2, J99_5, J99_8, J99_9, J99_12, J99_13, J99_14, J99_15, J99_18, J99_21, J99_22, J99_25, J99_26, am_gg_c, am_gf_c, am_pf_c, am_af_c, am_sf_c, am_bf_c, am_qf_c, am_ap_c, am_bp_c, am_qp_c, am_lf_c, am_kt_s, am_kt_n, am_wst, am_wstop, am_ns_0, am_ns_1, Bool.not_true, Bool.not_false, Bool.true_and, Bool.false_and, Nat.reduceBEq, ↓reduceIte, am_k2_n, am_k2_i, am_k2_r, am_k2_u, am_k2_f, am_k2_l, Nat.zero_le, true_and, and_true, true_or, or_true, am_cat_0, am_cat_i, am_cat_r, am_cat_l, am_cat_n, Nat.reduceLeDiff, Nat.reduceAdd, Option.isSome_some, List.getElem?_cons_zero, List.getElem?_cons_succ, am_fit_i, am_fit_r, am_fit_a, h1, a1, has1]
  rw [inN_n hq]
  by_cases c : q < l
  · rw [decide_eq_true c, Bool.true_and] at hP
    rw [decide_eq_true c, if_pos rfl, if_neg (by decide)]
    refine ⟨vp_lit (k := 1) rfl (by omega) (by omega), sp_has (by omega) (by omega) (by omega) ?_⟩
    simp only [J99_0, J99_1, J99_2, J99_5, J99_8, J99_9, J99_12, J99_13, J99_14, J99_15, J99_18, J99_21, J99_22, J99_25, J99_26, am_gg_c, am_gf_c, am_pf_c, am_af_c, am_sf_c, am_bf_c, am_qf_c, am_ap_c, am_bp_c, am_qp_c, am_lf_c, am_kt_s, am_kt_n, am_wst, am_wstop, am_ns_0, am_ns_1, Bool.not_true, Bool.not_false, Bool.true_and, Bool.false_and, Nat.reduceBEq, ↓reduceIte, am_k2_n, am_k2_i, am_k2_r, am_k2_u, am_k2_f, am_k2_l, Nat.zero_le, true_and, and_true, true_or, or_true, am_cat_0, am_cat_i, am_cat_r, am_cat_l, am_cat_n, Nat.reduceLeDiff, Nat.reduceAdd, Option.isSome_some, List.getElem?_cons_zero, List.getElem?_cons_succ, am_fit_i, am_fit_r, am_fit_a]
    cases cb : h.testBit q <;> rw [cb] at hP <;> simpa using hP
  · rw [decide_eq_false c, Bool.false_and] at hP
    rw [decide_eq_false c]
    simp only [Bool.false_eq_true, if_false, if_true]
    simpa using hP
theorem lp_mpinned (h1 : am_ob G 23 5 = some (moL pm len T m ip due dep vp)) (hm : MA G l h d f) (hP : P (some (.int (nI (mkm (fun q => !(f q == 0)) l)))) G) : ∀ (n i : Nat), i + n = l → am_WP X D 105 4 [some (.ref 23), some (.int (nI (mkm (fun q => !(f q == 0)) i))), some (.int (nI i))] [] G 0 0 P := by
  obtain ⟨⟨af, a1, a2, a3, a4, a5⟩, hl1, hl, hh, hd, hd0, hf⟩ := id hm
  have h0 : af (0 : Int32).toNatClampNeg = nI l := a2
  intro n
  induction n with
  | zero =>
    intro i hi
    refine am_wps 40 [38] ?_
    simp only [J105_0, J105_1, J105_2, J105_3, J105_4, J105_5, J105_6, J105_9, J105_10, J105_11, J105_14, J105_15, J105_16, J105_19, J105_20, J105_21, J105_22, J105_23, J105_26, J105_27, J105_28, J105_29, J105_32, J105_33, J105_34, J105_35, J105_38, J105_41, J105_42, am_gg_c, am_gf_c, am_pf_c, am_af_c, am_sf_c, am_bf_c, am_qf_c, am_ap_c, am_bp_c, am_qp_c, am_lf_c, am_kt_s, am_kt_n, am_wst, am_wstop, am_ns_0, am_ns_1, Bool.not_true, Bool.not_false, Bool.true_and, Bool.false_and, Nat.reduceBEq, ↓reduceIte, am_k2_n, am_k2_i, am_k2_r, am_k2_u, am_k2_f, am_k2_l, Nat.zero_le, true_and, and_true, true_or, or_true, am_cat_0, am_cat_i, am_cat_r, am_cat_l, am_cat_n, Nat.reduceLeDiff, Nat.reduceAdd, Option.isSome_some, List.getElem?_cons_zero, List.getElem?_cons_succ, am_fit_i, am_fit_r, am_fit_a, h1, a1, h0]
    refine ⟨vp_lit (k := 0) rfl (by omega) (by omega), ?_⟩
    rw [if_neg (by rw [nI_ltI (by omega) (by omega)]; omega)]
    rw [show i = l by omega]
    exact hP
  | succ n ih =>
    intro i hi
    have hfi := hf i
    have haf : af (3 + nI i).toNatClampNeg = nI (f i) := by rw [show (3 : Int32) = nI 3 by rfl, nI_add, nI_clamp (by omega)]; exact a5 i (by omega)
    have hin : vp_in (3 + nI i) 21 := vp_lit (k := 3 + i) (by rw [show (3 : Int32) = nI 3 by rfl, nI_add]) (by omega) (by omega)
    have hlt := mkm_lt (fun q => !(f q == 0)) i
    have hs : mkm (fun q => !(f q == 0)) (i + 1) = mkm (fun q => !(f q == 0)) i + (if (!(f i == 0)) = true then 2 ^ i else 0) := rfl
    have hn := ih (i + 1) (by omega)
    rw [hs] at hn
    refine am_wps 60 [38] ?_
    simp only [J105_0, J105_1, J105_2, J105_3, J105_4, J105_5, J105_6, J105_9, J105_10, J105_11, J105_14, J105_15, J105_16, J105_19, J105_20, J105_21, J105_22, J105_23, J105_26, J105_27, J105_28, J105_29, J105_32, J105_33, J105_34, J105_35, J105_38, J105_41, J105_42, am_gg_c, am_gf_c, am_pf_c, am_af_c, am_sf_c, am_bf_c, am_qf_c, am_ap_c, am_bp_c, am_qp_c, am_lf_c, am_kt_s, am_kt_n, am_wst, am_wstop, am_ns_0, am_ns_1, Bool.not_true, Bool.not_false, Bool.true_and, Bool.false_and, Nat.reduceBEq, ↓reduceIte, am_k2_n, am_k2_i, am_k2_r, am_k2_u, am_k2_f, am_k2_l, Nat.zero_le, true_and, and_true, true_or, or_true, am_cat_0, am_cat_i, am_cat_r, am_cat_l, am_cat_n, Nat.reduceLeDiff, Nat.reduceAdd, Option.isSome_some, List.getElem?_cons_zero, List.getElem?_cons_succ, am_fit_i, am_fit_r, am_fit_a, h1, a1, h0, haf]
    refine ⟨vp_lit (k := 0) rfl (by omega) (by omega), ?_⟩
    rw [if_pos (by rw [nI_ltI (by omega) (by omega)]; omega)]
    refine ⟨hin, ?_⟩
    by_cases c : f i = 0
    · rw [if_neg (by rw [c]; decide)]
      refine am_goto I105_38 ?_
      rw [nI_1, show (0 : Int32) = nI 0 by rfl, bi_or, Nat.or_zero]
      simpa [c] using hn
    · rw [if_pos (by rw [bi_lt, nI_toInt (by omega)]; show (0 : Int) < _; omega)]
      refine am_goto I105_38 ?_
      rw [nI_1, bi_orbit_l hlt (by omega)]
      simpa [c] using hn
theorem sp_mpinned (hD : 1 ≤ D) (h1 : am_ob G 23 5 = some (moL pm len T m ip due dep vp)) (hm : MA G l h d f) (hP : P (some (.int (nI (mkm (fun q => !(f q == 0)) l)))) G) : am_CB X D 105 [.ref 23] G P := by
  obtain ⟨D, rfl⟩ : ∃ D0, D = D0 + 1 := ⟨D - 1, by omega⟩
  refine B105 40 [4] ?_
  simp only [J105_0, J105_1, J105_2, J105_3, J105_4, J105_5, J105_6, J105_9, J105_10, J105_11, J105_14, J105_15, J105_16, J105_19, J105_20, J105_21, J105_22, J105_23, J105_26, J105_27, J105_28, J105_29, J105_32, J105_33, J105_34, J105_35, J105_38, J105_41, J105_42, am_gg_c, am_gf_c, am_pf_c, am_af_c, am_sf_c, am_bf_c, am_qf_c, am_ap_c, am_bp_c, am_qp_c, am_lf_c, am_kt_s, am_kt_n, am_wst, am_wstop, am_ns_0, am_ns_1, Bool.not_true, Bool.not_false, Bool.true_and, Bool.false_and, Nat.reduceBEq, ↓reduceIte, am_k2_n, am_k2_i, am_k2_r, am_k2_u, am_k2_f, am_k2_l, Nat.zero_le, true_and, and_true, true_or, or_true, am_cat_0, am_cat_i, am_cat_r, am_cat_l, am_cat_n, Nat.reduceLeDiff, Nat.reduceAdd, Option.isSome_some, List.getElem?_cons_zero, List.getElem?_cons_succ, am_fit_i, am_fit_r, am_fit_a]
  exact lp_mpinned h1 hm hP l 0 (by omega)
theorem lp_mstarts {w : Nat} (hw : w ≤ 17) (hD : 3 ≤ D) (h1 : am_ob G 23 5 = some (moL pm len T m ip due dep vp)) (hm : MA G l h d f) (hP : P (some (.int (nI (mkm (sbN l h w f) l)))) G) : ∀ (n i : Nat), i + n = l → am_WP X D 114 14 [some (.ref 23), some (.int (nI w)), some (.int (nI (mkm (sbN l h w f) i))), some (.int (nI i))] [] G 0 0 P := by
  obtain ⟨⟨af, a1, a2, a3, a4, a5⟩, hl1, hl, hh, hd, hd0, hf⟩ := id hm
  have h0 : af (0 : Int32).toNatClampNeg = nI l := a2
  have n0 : ¬ (1 : Int32) = 0 := by decide
  intro n
  induction n with
  | zero =>
    intro i hi
    refine am_wps 40 [64] ?_
    simp only [J114_0, J114_1, J114_2, J114_5, J114_8, J114_9, J114_10, J114_11, J114_12, J114_13, J114_14, J114_15, J114_16, J114_19, J114_20, J114_21, J114_24, J114_25, J114_26, J114_27, J114_30, J114_33, J114_34, J114_35, J114_36, J114_37, J114_40, J114_43, J114_44, J114_45, J114_46, J114_49, J114_52, J114_53, J114_54, J114_55, J114_58, J114_59, J114_60, J114_61, J114_64, J114_67, J114_68, am_gg_c, am_gf_c, am_pf_c, am_af_c, am_sf_c, am_bf_c, am_qf_c, am_ap_c, am_bp_c, am_qp_c, am_lf_c, am_kt_s, am_kt_n, am_wst, am_wstop, am_ns_0, am_ns_1, Bool.not_true, Bool.not_false, Bool.true_and, Bool.false_and, Nat.reduceBEq, ↓reduceIte, am_k2_n, am_k2_i, am_k2_r, am_k2_u, am_k2_f, am_k2_l, Nat.zero_le, true_and, and_true, true_or, or_true, am_cat_0, am_cat_i, am_cat_r, am_cat_l, am_cat_n, Nat.reduceLeDiff, Nat.reduceAdd, Option.isSome_some, List.getElem?_cons_zero, List.getElem?_cons_succ, am_fit_i, am_fit_r, am_fit_a, h1, a1, h0]
    refine ⟨vp_lit (k := 0) rfl (by omega) (by omega), ?_⟩
    rw [if_neg (by rw [nI_ltI (by omega) (by omega)]; omega)]
    rw [show i = l by omega]
    exact hP
  | succ n ih =>
    intro i hi
    have hlt := mkm_lt (sbN l h w f) i
    have hs : mkm (sbN l h w f) (i + 1) = mkm (sbN l h w f) i + (if sbN l h w f i = true then 2 ^ i else 0) := rfl
    have hn := ih (i + 1) (by omega)
    rw [hs] at hn
    have e0 : sbN l h w f i = false → am_WP X D 114 64 [some (.ref 23), some (.int (nI w)), some (.int (nI (mkm (sbN l h w f) i) ||| 0)), some (.int (nI i + 1))] [] G 0 0 P := by
      intro c
      refine am_goto I114_64 ?_
      rw [nI_1, show (0 : Int32) = nI 0 by rfl, bi_or, Nat.or_zero]
      simpa [c] using hn
    refine am_wps 60 [64] ?_
    simp only [J114_0, J114_1, J114_2, J114_5, J114_8, J114_9, J114_10, J114_11, J114_12, J114_13, J114_14, J114_15, J114_16, J114_19, J114_20, J114_21, J114_24, J114_25, J114_26, J114_27, J114_30, J114_33, J114_34, J114_35, J114_36, J114_37, J114_40, J114_43, J114_44, J114_45, J114_46, J114_49, J114_52, J114_53, J114_54, J114_55, J114_58, J114_59, J114_60, J114_61, J114_64, J114_67, J114_68, am_gg_c, am_gf_c, am_pf_c, am_af_c, am_sf_c, am_bf_c, am_qf_c, am_ap_c, am_bp_c, am_qp_c, am_lf_c, am_kt_s, am_kt_n, am_wst, am_wstop, am_ns_0, am_ns_1, Bool.not_true, Bool.not_false, Bool.true_and, Bool.false_and, Nat.reduceBEq, ↓reduceIte, am_k2_n, am_k2_i, am_k2_r, am_k2_u, am_k2_f, am_k2_l, Nat.zero_le, true_and, and_true, true_or, or_true, am_cat_0, am_cat_i, am_cat_r, am_cat_l, am_cat_n, Nat.reduceLeDiff, Nat.reduceAdd, Option.isSome_some, List.getElem?_cons_zero, List.getElem?_cons_succ, am_fit_i, am_fit_r, am_fit_a, h1, a1, h0]
    refine ⟨vp_lit (k := 0) rfl (by omega) (by omega), ?_⟩
    rw [if_pos (by rw [nI_ltI (by omega) (by omega)]; omega)]
    refine sp_mFree hD h1 hm (by omega) ?_
    simp only [J114_0, J114_1, J114_2, J114_5, J114_8, J114_9, J114_10, J114_11, J114_12, J114_13, J114_14, J114_15, J114_16, J114_19, J114_20, J114_21, J114_24, J114_25, J114_26, J114_27, J114_30, J114_33, J114_34, J114_35, J114_36, J114_37, J114_40, J114_43, J114_44, J114_45, J114_46, J114_49, J114_52, J114_53, J114_54, J114_55, J114_58, J114_59, J114_60, J114_61, J114_64, J114_67, J114_68, am_gg_c, am_gf_c, am_pf_c, am_af_c, am_sf_c, am_bf_c, am_qf_c, am_ap_c, am_bp_c, am_qp_c, am_lf_c, am_kt_s, am_kt_n, am_wst, am_wstop, am_ns_0, am_ns_1, Bool.not_true, Bool.not_false, Bool.true_and, Bool.false_and, Nat.reduceBEq, ↓reduceIte, am_k2_n, am_k2_i, am_k2_r, am_k2_u, am_k2_f, am_k2_l, Nat.zero_le, true_and, and_true, true_or, or_true, am_cat_0, am_cat_i, am_cat_r, am_cat_l, am_cat_n, Nat.reduceLeDiff, Nat.reduceAdd, Option.isSome_some, List.getElem?_cons_zero, List.getElem?_cons_succ, am_fit_i, am_fit_r, am_fit_a, h1]
    cases b1 : (frN l h).testBit i with
    | false =>
      simp only [Bool.false_eq_true, if_false, if_true]
      exact e0 (by unfold sbN; rw [b1]; rfl)
    | true =>
      simp only [if_true, if_neg n0]
      rw [nI_add]
      refine sp_mFree hD h1 hm (by omega) ?_
      simp only [J114_0, J114_1, J114_2, J114_5, J114_8, J114_9, J114_10, J114_11, J114_12, J114_13, J114_14, J114_15, J114_16, J114_19, J114_20, J114_21, J114_24, J114_25, J114_26, J114_27, J114_30, J114_33, J114_34, J114_35, J114_36, J114_37, J114_40, J114_43, J114_44, J114_45, J114_46, J114_49, J114_52, J114_53, J114_54, J114_55, J114_58, J114_59, J114_60, J114_61, J114_64, J114_67, J114_68, am_gg_c, am_gf_c, am_pf_c, am_af_c, am_sf_c, am_bf_c, am_qf_c, am_ap_c, am_bp_c, am_qp_c, am_lf_c, am_kt_s, am_kt_n, am_wst, am_wstop, am_ns_0, am_ns_1, Bool.not_true, Bool.not_false, Bool.true_and, Bool.false_and, Nat.reduceBEq, ↓reduceIte, am_k2_n, am_k2_i, am_k2_r, am_k2_u, am_k2_f, am_k2_l, Nat.zero_le, true_and, and_true, true_or, or_true, am_cat_0, am_cat_i, am_cat_r, am_cat_l, am_cat_n, Nat.reduceLeDiff, Nat.reduceAdd, Option.isSome_some, List.getElem?_cons_zero, List.getElem?_cons_succ, am_fit_i, am_fit_r, am_fit_a, h1]
      cases b2 : (frN l h).testBit (i + w) with
      | false =>
        simp only [Bool.false_eq_true, if_false, if_true]
        exact e0 (by unfold sbN; rw [b2]; simp)
      | true =>
        simp only [if_true, if_neg n0]
        have hiw : i + w < l := by
          rw [frN_bit hl, Bool.and_eq_true, decide_eq_true_eq] at b2
          exact b2.1
        refine sp_fitsPins (by omega) h1 hm (by omega) ?_
        simp only [J114_0, J114_1, J114_2, J114_5, J114_8, J114_9, J114_10, J114_11, J114_12, J114_13, J114_14, J114_15, J114_16, J114_19, J114_20, J114_21, J114_24, J114_25, J114_26, J114_27, J114_30, J114_33, J114_34, J114_35, J114_36, J114_37, J114_40, J114_43, J114_44, J114_45, J114_46, J114_49, J114_52, J114_53, J114_54, J114_55, J114_58, J114_59, J114_60, J114_61, J114_64, J114_67, J114_68, am_gg_c, am_gf_c, am_pf_c, am_af_c, am_sf_c, am_bf_c, am_qf_c, am_ap_c, am_bp_c, am_qp_c, am_lf_c, am_kt_s, am_kt_n, am_wst, am_wstop, am_ns_0, am_ns_1, Bool.not_true, Bool.not_false, Bool.true_and, Bool.false_and, Nat.reduceBEq, ↓reduceIte, am_k2_n, am_k2_i, am_k2_r, am_k2_u, am_k2_f, am_k2_l, Nat.zero_le, true_and, and_true, true_or, or_true, am_cat_0, am_cat_i, am_cat_r, am_cat_l, am_cat_n, Nat.reduceLeDiff, Nat.reduceAdd, Option.isSome_some, List.getElem?_cons_zero, List.getElem?_cons_succ, am_fit_i, am_fit_r, am_fit_a, h1]
        cases b3 : (pnB true f i w && pnB true f (i + w) w) with
        | false =>
          simp only [Bool.false_eq_true, if_false, if_true]
          exact e0 (by unfold sbN; rw [b3]; simp)
        | true =>
          simp only [if_true, if_neg n0]
          have c : sbN l h w f i = true := by unfold sbN; rw [b1, b2, b3]; rfl
          refine am_goto I114_64 ?_
          rw [nI_1, bi_orbit_l hlt (by omega)]
          simpa [c] using hn
theorem sp_mstarts {x : Int32} (hD : 4 ≤ D) (h1 : am_ob G 23 5 = some (moL pm len T m ip due dep vp)) (hm : MA G l h d f) (hP : P (some (.int (if ownB d x = true then nI (mkm (sbN l h x.toInt.toNat f) l) else -1))) G) : am_CB X D 114 [.ref 23, .int x] G P := by
  obtain ⟨D, rfl⟩ : ∃ D0, D = D0 + 1 := ⟨D - 1, by omega⟩
  refine B114 40 [14] ?_
  simp only [J114_0, J114_1, J114_2, J114_5, J114_8, J114_9, J114_10, J114_11, J114_12, J114_13, J114_14, J114_15, J114_16, J114_19, J114_20, J114_21, J114_24, J114_25, J114_26, J114_27, J114_30, J114_33, J114_34, J114_35, J114_36, J114_37, J114_40, J114_43, J114_44, J114_45, J114_46, J114_49, J114_52, J114_53, J114_54, J114_55, J114_58, J114_59, J114_60, J114_61, J114_64, J114_67, J114_68, am_gg_c, am_gf_c, am_pf_c, am_af_c, am_sf_c, am_bf_c, am_qf_c, am_ap_c, am_bp_c, am_qp_c, am_lf_c, am_kt_s, am_kt_n, am_wst, am_wstop, am_ns_0, am_ns_1, Bool.not_true, Bool.not_false, Bool.true_and, Bool.false_and, Nat.reduceBEq, ↓reduceIte, am_k2_n, am_k2_i, am_k2_r, am_k2_u, am_k2_f, am_k2_l, Nat.zero_le, true_and, and_true, true_or, or_true, am_cat_0, am_cat_i, am_cat_r, am_cat_l, am_cat_n, Nat.reduceLeDiff, Nat.reduceAdd, Option.isSome_some, List.getElem?_cons_zero, List.getElem?_cons_succ, am_fit_i, am_fit_r, am_fit_a, h1]
  refine sp_isOwn (by omega) h1 hm ?_
  simp only [J114_0, J114_1, J114_2, J114_5, J114_8, J114_9, J114_10, J114_11, J114_12, J114_13, J114_14, J114_15, J114_16, J114_19, J114_20, J114_21, J114_24, J114_25, J114_26, J114_27, J114_30, J114_33, J114_34, J114_35, J114_36, J114_37, J114_40, J114_43, J114_44, J114_45, J114_46, J114_49, J114_52, J114_53, J114_54, J114_55, J114_58, J114_59, J114_60, J114_61, J114_64, J114_67, J114_68, am_gg_c, am_gf_c, am_pf_c, am_af_c, am_sf_c, am_bf_c, am_qf_c, am_ap_c, am_bp_c, am_qp_c, am_lf_c, am_kt_s, am_kt_n, am_wst, am_wstop, am_ns_0, am_ns_1, Bool.not_true, Bool.not_false, Bool.true_and, Bool.false_and, Nat.reduceBEq, ↓reduceIte, am_k2_n, am_k2_i, am_k2_r, am_k2_u, am_k2_f, am_k2_l, Nat.zero_le, true_and, and_true, true_or, or_true, am_cat_0, am_cat_i, am_cat_r, am_cat_l, am_cat_n, Nat.reduceLeDiff, Nat.reduceAdd, Option.isSome_some, List.getElem?_cons_zero, List.getElem?_cons_succ, am_fit_i, am_fit_r, am_fit_a, h1]
  cases hb : ownB d x with
  | false =>
    rw [hb] at hP
    simp only [Bool.false_eq_true, if_false, if_true]
    simpa using hP
  | true =>
    rw [hb] at hP
    unfold ownB at hb
    rw [Bool.and_eq_true, decide_eq_true_eq] at hb
    obtain ⟨e, e2⟩ := bi_nat (x := x) (by omega)
    have hk : x.toInt.toNat ≤ 17 := by omega
    generalize x.toInt.toNat = q at *
    subst e
    simp only [if_true, if_neg (show ¬ (1 : Int32) = 0 by decide)]
    exact lp_mstarts hk (by omega) h1 hm (by simpa using hP) l 0 (by omega)
end MS
