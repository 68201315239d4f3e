/-! lookReversed -/
section RV
variable {X : Nat × (Nat → Int32)} {D : Nat} {P : Option Value → am_H → Prop} {pm T m ip due dep vp : Int32} {l : Nat} {a : List (Nat × Nat)}
theorem lp_rev {G0 : am_H} (hl : l ≤ 18) (h1 : ∀ G, Fr [33] G0 G → am_ob G 23 5 = some (moL pm (nI l) T m ip due dep vp)) (hr : ∀ G, Fr [33] G0 G → RW G a) (hP : ∀ G', LK G' l (fun i => nI (rwN a (l - 1 - i))) → Fr [33] G0 G' → P none G') :
    ∀ (k i : Nat) (G : am_H), i + k = l → LK G i (fun i => nI (rwN a (l - 1 - i))) → Fr [33] G0 G → am_WP X D 148 2 [some (.ref 23), some (.int (nI i))] [] G 0 0 P := by
  intro k
  induction k with
  | zero =>
    intro i G hi hL hF
    have k1 := h1 G hF
    refine am_wps 40 [32] ?_
    simp only [J148_0, J148_1, J148_2, J148_3, J148_4, J148_7, J148_10, J148_11, J148_14, J148_15, J148_16, J148_19, J148_20, J148_23, J148_24, J148_25, J148_26, J148_27, J148_28, J148_29, J148_32, J148_35, am_gg_c, am_gf_c, am_pf_c, am_af_c, am_sf_c, am_bf_c, am_qf_c, am_ap_c, am_bp_c, am_qp_c, am_lf_c, am_kt_s, am_kt_n, am_wst, am_wstop, am_ns_0, am_ns_1, Bool.not_true, Bool.not_false, Bool.true_and, Bool.false_and, Nat.reduceBEq, ↓reduceIte, am_k2_n, am_k2_i, am_k2_r, am_k2_u, am_k2_f, am_k2_l, Nat.zero_le, true_and, and_true, true_or, or_true, am_cat_0, am_cat_i, am_cat_r, am_cat_l, am_cat_n, Nat.reduceLeDiff, Nat.reduceAdd, Option.isSome_some, List.getElem?_cons_zero, List.getElem?_cons_succ, am_fit_i, am_fit_r, am_fit_a, k1]
    rw [if_neg (by rw [nI_ltI (by omega) (by omega)]; omega)]
    rw [show i = l by omega] at hL
    exact hP G hL hF
  | succ k ih =>
    intro i G hi hL hF
    have k1 := h1 G hF
    obtain ⟨r, bg, r1, r2, r3, r4⟩ := hr G hF
    obtain ⟨lf, l1, l2⟩ := hL
    have k33 := am_ia_lt l1
    have e : nI l - 1 - nI i = nI (l - 1 - i) := by
      rw [iI_n, iI_n, iI_n, show (1 : Int32) = iI 1 by rfl, iI_sub, iI_sub]
      congr 1
      omega
    refine am_wps 60 [32] ?_
    simp only [J148_0, J148_1, J148_2, J148_3, J148_4, J148_7, J148_10, J148_11, J148_14, J148_15, J148_16, J148_19, J148_20, J148_23, J148_24, J148_25, J148_26, J148_27, J148_28, J148_29, J148_32, J148_35, am_gg_c, am_gf_c, am_pf_c, am_af_c, am_sf_c, am_bf_c, am_qf_c, am_ap_c, am_bp_c, am_qp_c, am_lf_c, am_kt_s, am_kt_n, am_wst, am_wstop, am_ns_0, am_ns_1, Bool.not_true, Bool.not_false, Bool.true_and, Bool.false_and, Nat.reduceBEq, ↓reduceIte, am_k2_n, am_k2_i, am_k2_r, am_k2_u, am_k2_f, am_k2_l, Nat.zero_le, true_and, and_true, true_or, or_true, am_cat_0, am_cat_i, am_cat_r, am_cat_l, am_cat_n, Nat.reduceLeDiff, Nat.reduceAdd, Option.isSome_some, List.getElem?_cons_zero, List.getElem?_cons_succ, am_fit_i, am_fit_r, am_fit_a, k1, r1, l1]
    rw [if_pos (by rw [nI_ltI (by omega) (by omega)]; omega), e]
    refine ⟨vp_in_n (by omega) (by omega), vp_in_n (by omega) (by omega), ?_⟩
    rw [nI_clamp (by omega), nI_clamp (by omega), r3 _ (by omega)]
    refine am_goto I148_32 ?_
    rw [nI_1]
    refine ih (i + 1) _ (by omega) ⟨_, am_ia_ss k33, fun j hj => ?_⟩ (hF.tr (Fr.set (by decide)))
    show upd lf i (nI (rwN a (l - 1 - i))) j = nI (rwN a (l - 1 - j))
    unfold upd
    by_cases c : j = i
    · rw [if_pos c, c]
    · rw [if_neg c]
      exact l2 j (by omega)
theorem sp_lookReversed {G : am_H} (hl : l ≤ 18) (hD : 1 ≤ D) (h1 : am_ob G 23 5 = some (moL pm (nI l) T m ip due dep vp)) (hr : RW G a) (hL : LK G 0 (fun _ => 0)) (hP : ∀ G', LK G' l (fun i => nI (rwN a (l - 1 - i))) → Fr [33] G G' → P none G') : am_CB X D 148 [.ref 23] G P := by
  obtain ⟨D, rfl⟩ : ∃ D0, D = D0 + 1 := ⟨D - 1, by omega⟩
  obtain ⟨lf, l1, l2⟩ := hL
  refine B148 40 [2] ?_
  simp only [J148_0, J148_1, J148_2, J148_3, J148_4, J148_7, J148_10, J148_11, J148_14, J148_15, J148_16, J148_19, J148_20, J148_23, J148_24, J148_25, J148_26, J148_27, J148_28, J148_29, J148_32, J148_35, am_gg_c, am_gf_c, am_pf_c, am_af_c, am_sf_c, am_bf_c, am_qf_c, am_ap_c, am_bp_c, am_qp_c, am_lf_c, am_kt_s, am_kt_n, am_wst, am_wstop, am_ns_0, am_ns_1, Bool.not_true, Bool.not_false, Bool.true_and, Bool.false_and, Nat.reduceBEq, ↓reduceIte, am_k2_n, am_k2_i, am_k2_r, am_k2_u, am_k2_f, am_k2_l, Nat.zero_le, true_and, and_true, true_or, or_true, am_cat_0, am_cat_i, am_cat_r, am_cat_l, am_cat_n, Nat.reduceLeDiff, Nat.reduceAdd, Option.isSome_some, List.getElem?_cons_zero, List.getElem?_cons_succ, am_fit_i, am_fit_r, am_fit_a]
  exact lp_rev (G0 := G) hl (fun G' hF => (by rw [hF.ob (by decide)]; exact h1)) (fun G' hF => hr.fr hF (by decide) (by decide)) hP l 0 G (by omega) ⟨lf, l1, fun i hi => by omega⟩ Fr.rf
end RV
