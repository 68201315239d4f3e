/-! keepBase: what the difference's begins were -/
section KP
variable {X : Nat × (Nat → Int32)} {D : Nat} {P : Option Value → am_H → Prop} {pm len T m ip due dep vp : Int32}
/-- the base: where differences began -/
def BS (G : am_H) (bg : Nat → Int32) : Prop := ∃ b, am_ia G 34 0 = some (18, b) ∧ ∀ w, w < 18 → b w = bg w
theorem lp_keepBase {G0 : am_H} {bg : Nat → Int32} (h1 : ∀ G, Fr [34] G0 G → am_ob G 23 5 = some (moL pm len T m ip due dep vp)) (h2 : ∀ G, Fr [34] G0 G → am_ia G 31 0 = some (18, bg)) (hP : ∀ G', BS G' bg → Fr [34] G0 G' → P none G') :
    ∀ (k i : Nat) (G : am_H), i + k = 18 → (∃ b, am_ia G 34 0 = some (18, b) ∧ ∀ w, w < i → b w = bg w) → Fr [34] G0 G → am_WP X D 151 2 [some (.ref 23), some (.int (nI i))] [] G 0 0 P := by
  intro k
  induction k with
  | zero =>
    intro i G hi hb hF
    refine am_wps 40 [23] ?_
    simp only [J151_0, J151_1, J151_2, J151_3, J151_5, J151_8, J151_9, J151_12, J151_13, J151_14, J151_17, J151_18, J151_19, J151_20, J151_23, J151_26, am_gg_c, am_gf_c, am_pf_c, am_af_c, am_sf_c, am_bf_c, am_qf_c, am_ap_c, am_bp_c, am_qp_c, am_lf_c, am_kt_s, am_kt_n, am_wst, am_wstop, am_ns_0, am_ns_1, Bool.not_true, Bool.not_false, Bool.true_and, Bool.false_and, Nat.reduceBEq, ↓reduceIte, am_k2_n, am_k2_i, am_k2_r, am_k2_u, am_k2_f, am_k2_l, Nat.zero_le, true_and, and_true, true_or, or_true, am_cat_0, am_cat_i, am_cat_r, am_cat_l, am_cat_n, Nat.reduceLeDiff, Nat.reduceAdd, Option.isSome_some, List.getElem?_cons_zero, List.getElem?_cons_succ, am_fit_i, am_fit_r, am_fit_a]
    rw [if_pos (by rw [bi_lt, nI_toInt (by omega)]; show (17 : Int) < _; omega)]
    rw [show i = 18 by omega] at hb
    exact hP G hb hF
  | succ k ih =>
    intro i G hi hb hF
    have k1 := h1 G hF
    have k2 := h2 G hF
    obtain ⟨b, b1, b2⟩ := hb
    have k34 := am_ia_lt b1
    have hin : vp_in (nI i) 18 := vp_in_n (by omega) (by omega)
    refine am_wps 60 [23] ?_
    simp only [J151_0, J151_1, J151_2, J151_3, J151_5, J151_8, J151_9, J151_12, J151_13, J151_14, J151_17, J151_18, J151_19, J151_20, J151_23, J151_26, am_gg_c, am_gf_c, am_pf_c, am_af_c, am_sf_c, am_bf_c, am_qf_c, am_ap_c, am_bp_c, am_qp_c, am_lf_c, am_kt_s, am_kt_n, am_wst, am_wstop, am_ns_0, am_ns_1, Bool.not_true, Bool.not_false, Bool.true_and, Bool.false_and, Nat.reduceBEq, ↓reduceIte, am_k2_n, am_k2_i, am_k2_r, am_k2_u, am_k2_f, am_k2_l, Nat.zero_le, true_and, and_true, true_or, or_true, am_cat_0, am_cat_i, am_cat_r, am_cat_l, am_cat_n, Nat.reduceLeDiff, Nat.reduceAdd, Option.isSome_some, List.getElem?_cons_zero, List.getElem?_cons_succ, am_fit_i, am_fit_r, am_fit_a, k1, k2, b1]
    rw [if_neg (by rw [bi_lt, nI_toInt (by omega)]; show ¬ (17 : Int) < _; omega)]
    refine ⟨hin, hin, ?_⟩
    rw [nI_clamp (by omega)]
    refine am_goto I151_23 ?_
    rw [nI_1]
    refine ih (i + 1) _ (by omega) ⟨_, am_ia_ss k34, fun j hj => ?_⟩ (hF.tr (Fr.set (by decide)))
    unfold upd
    by_cases c : j = i
    · rw [if_pos c, c]
    · rw [if_neg c]
      exact b2 j (by omega)
theorem sp_keepBase {G : am_H} {bg : Nat → Int32} (hD : 1 ≤ D) (h1 : am_ob G 23 5 = some (moL pm len T m ip due dep vp)) (h2 : am_ia G 31 0 = some (18, bg)) (hb : ∃ b, am_ia G 34 0 = some (18, b)) (hP : ∀ G', BS G' bg → Fr [34] G G' → P none G') : am_CB X D 151 [.ref 23] G P := by
  obtain ⟨D, rfl⟩ : ∃ D0, D = D0 + 1 := ⟨D - 1, by omega⟩
  obtain ⟨b, b1⟩ := hb
  refine B151 40 [2] ?_
  simp only [J151_0, J151_1, J151_2, J151_3, J151_5, J151_8, J151_9, J151_12, J151_13, J151_14, J151_17, J151_18, J151_19, J151_20, J151_23, J151_26, am_gg_c, am_gf_c, am_pf_c, am_af_c, am_sf_c, am_bf_c, am_qf_c, am_ap_c, am_bp_c, am_qp_c, am_lf_c, am_kt_s, am_kt_n, am_wst, am_wstop, am_ns_0, am_ns_1, Bool.not_true, Bool.not_false, Bool.true_and, Bool.false_and, Nat.reduceBEq, ↓reduceIte, am_k2_n, am_k2_i, am_k2_r, am_k2_u, am_k2_f, am_k2_l, Nat.zero_le, true_and, and_true, true_or, or_true, am_cat_0, am_cat_i, am_cat_r, am_cat_l, am_cat_n, Nat.reduceLeDiff, Nat.reduceAdd, Option.isSome_some, List.getElem?_cons_zero, List.getElem?_cons_succ, am_fit_i, am_fit_r, am_fit_a]
  exact lp_keepBase (G0 := G) (fun G' hF => (by rw [hF.ob (by decide)]; exact h1)) (fun G' hF => (by rw [hF.ia (by decide)]; exact h2)) hP 18 0 G (by omega) ⟨b, b1, fun w hw => by omega⟩ Fr.rf
end KP
