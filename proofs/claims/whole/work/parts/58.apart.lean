/-! apart -/
def apC (d : Nat) (x y : Nat → Int32) : Nat → Nat
  | 0 => 0
  | k + 1 => apC d x y k + (if (d.testBit k && !(x k == y k)) = true then 1 else 0)
section AP
variable {X : Nat × (Nat → Int32)} {D : Nat} {G : am_H} {P : Option Value → am_H → Prop} {pm len T m ip due dep vp : Int32} {l h d : Nat} {f : Nat → Nat} {x y : Nat → Int32}
theorem lp_apart (hD : 1 ≤ D) (h1 : am_ob G 23 5 = some (moL pm len T m ip due dep vp)) (hm : MA G l h d f) (hx : BS G x) (hy : am_ia G 31 0 = some (18, y)) (hP : P (some (.int (nI (apC d x y 18)))) G) :
    ∀ (k i : Nat), i + k = 18 → am_WP X D 152 4 [some (.ref 23), some (.int (nI (apC d x y i))), some (.int (nI i))] [] G 0 0 P := by
  obtain ⟨⟨af, a1, a2, a3, a4, a5⟩, hl1, hl, hh, hd, hd0, hf⟩ := id hm
  have h2 : af (2 : Int32).toNatClampNeg = nI d := a4
  obtain ⟨b, b1, b2⟩ := hx
  intro k
  induction k with
  | zero =>
    intro i hi
    refine am_wps 40 [49] ?_
    simp only [J152_0, J152_1, J152_2, J152_3, J152_4, J152_5, J152_7, J152_10, J152_11, J152_12, J152_15, J152_16, J152_17, J152_18, J152_21, J152_24, J152_25, J152_28, J152_29, J152_30, J152_31, J152_34, J152_35, J152_36, J152_39, J152_40, J152_43, J152_44, J152_45, J152_46, J152_49, J152_52, J152_53, am_gg_c, am_gf_c, am_pf_c, am_af_c, am_sf_c, am_bf_c, am_qf_c, am_ap_c, am_bp_c, am_qp_c, am_lf_c, am_kt_s, am_kt_n, am_wst, am_wstop, am_ns_0, am_ns_1, Bool.not_true, Bool.not_false, Bool.true_and, Bool.false_and, Nat.reduceBEq, ↓reduceIte, am_k2_n, am_k2_i, am_k2_r, am_k2_u, am_k2_f, am_k2_l, Nat.zero_le, true_and, and_true, true_or, or_true, am_cat_0, am_cat_i, am_cat_r, am_cat_l, am_cat_n, Nat.reduceLeDiff, Nat.reduceAdd, Option.isSome_some, List.getElem?_cons_zero, List.getElem?_cons_succ, am_fit_i, am_fit_r, am_fit_a]
    rw [if_pos (by rw [bi_lt, nI_toInt (by omega)]; show (17 : Int) < _; omega)]
    rw [show i = 18 by omega]
    exact hP
  | succ k ih =>
    intro i hi
    have hin : vp_in (nI i) 18 := vp_in_n (by omega) (by omega)
    have hs : apC d x y (i + 1) = apC d x y i + (if (d.testBit i && !(x i == y i)) = true then 1 else 0) := rfl
    have hn := ih (i + 1) (by omega)
    rw [hs] at hn
    have e0 : (d.testBit i && !(x i == y i)) = false → am_WP X D 152 49 [some (.ref 23), some (.int (nI (apC d x y i) + 0)), some (.int (nI i + 1))] [] G 0 0 P := by
      intro c
      refine am_goto I152_49 ?_
      rw [nI_1, show (0 : Int32) = nI 0 by rfl, nI_add, Nat.add_zero]
      simpa only [c, Bool.false_eq_true, if_false, Nat.add_zero] using hn
    refine am_wps 60 [49] ?_
    simp only [J152_0, J152_1, J152_2, J152_3, J152_4, J152_5, J152_7, J152_10, J152_11, J152_12, J152_15, J152_16, J152_17, J152_18, J152_21, J152_24, J152_25, J152_28, J152_29, J152_30, J152_31, J152_34, J152_35, J152_36, J152_39, J152_40, J152_43, J152_44, J152_45, J152_46, J152_49, J152_52, J152_53, am_gg_c, am_gf_c, am_pf_c, am_af_c, am_sf_c, am_bf_c, am_qf_c, am_ap_c, am_bp_c, am_qp_c, am_lf_c, am_kt_s, am_kt_n, am_wst, am_wstop, am_ns_0, am_ns_1, Bool.not_true, Bool.not_false, Bool.true_and, Bool.false_and, Nat.reduceBEq, ↓reduceIte, am_k2_n, am_k2_i, am_k2_r, am_k2_u, am_k2_f, am_k2_l, Nat.zero_le, true_and, and_true, true_or, or_true, am_cat_0, am_cat_i, am_cat_r, am_cat_l, am_cat_n, Nat.reduceLeDiff, Nat.reduceAdd, Option.isSome_some, List.getElem?_cons_zero, List.getElem?_cons_succ, am_fit_i, am_fit_r, am_fit_a, h1, a1, h2]
    rw [if_neg (by rw [bi_lt, nI_toInt (by omega)]; show ¬ (17 : Int) < _; omega)]
    refine ⟨vp_lit (k := 2) rfl (by omega) (by omega), sp_has (by omega) (by omega) (by omega) ?_⟩
    simp only [J152_0, J152_1, J152_2, J152_3, J152_4, J152_5, J152_7, J152_10, J152_11, J152_12, J152_15, J152_16, J152_17, J152_18, J152_21, J152_24, J152_25, J152_28, J152_29, J152_30, J152_31, J152_34, J152_35, J152_36, J152_39, J152_40, J152_43, J152_44, J152_45, J152_46, J152_49, J152_52, J152_53, am_gg_c, am_gf_c, am_pf_c, am_af_c, am_sf_c, am_bf_c, am_qf_c, am_ap_c, am_bp_c, am_qp_c, am_lf_c, am_kt_s, am_kt_n, am_wst, am_wstop, am_ns_0, am_ns_1, Bool.not_true, Bool.not_false, Bool.true_and, Bool.false_and, Nat.reduceBEq, ↓reduceIte, am_k2_n, am_k2_i, am_k2_r, am_k2_u, am_k2_f, am_k2_l, Nat.zero_le, true_and, and_true, true_or, or_true, am_cat_0, am_cat_i, am_cat_r, am_cat_l, am_cat_n, Nat.reduceLeDiff, Nat.reduceAdd, Option.isSome_some, List.getElem?_cons_zero, List.getElem?_cons_succ, am_fit_i, am_fit_r, am_fit_a, h1, b1, hy]
    cases c1 : d.testBit i with
    | false =>
      simp only [Bool.false_eq_true, if_false, if_true]
      exact e0 (by rw [c1]; rfl)
    | true =>
      simp only [if_true, if_neg (show ¬ (1 : Int32) = 0 by decide)]
      refine ⟨hin, hin, ?_⟩
      rw [nI_clamp (by omega), b2 i (by omega)]
      by_cases c2 : x i = y i
      · rw [if_pos c2]
        exact e0 (by rw [c1, c2]; simp)
      · rw [if_neg c2]
        have c : (d.testBit i && !(x i == y i)) = true := by rw [c1]; simpa using c2
        refine am_goto I152_49 ?_
        rw [nI_1, nI_1]
        simpa only [c, if_true] using hn
theorem sp_apart (hD : 2 ≤ D) (h1 : am_ob G 23 5 = some (moL pm len T m ip due dep vp)) (hm : MA G l h d f) (hx : BS G x) (hy : am_ia G 31 0 = some (18, y)) (hP : P (some (.int (nI (apC d x y 18)))) G) : am_CB X D 152 [.ref 23] G P := by
  obtain ⟨D, rfl⟩ : ∃ D0, D = D0 + 1 := ⟨D - 1, by omega⟩
  have hd0 := hm.2.2.2.2.2.1
  refine B152 40 [4] ?_
  simp only [J152_0, J152_1, J152_2, J152_3, J152_4, J152_5, J152_7, J152_10, J152_11, J152_12, J152_15, J152_16, J152_17, J152_18, J152_21, J152_24, J152_25, J152_28, J152_29, J152_30, J152_31, J152_34, J152_35, J152_36, J152_39, J152_40, J152_43, J152_44, J152_45, J152_46, J152_49, J152_52, J152_53, am_gg_c, am_gf_c, am_pf_c, am_af_c, am_sf_c, am_bf_c, am_qf_c, am_ap_c, am_bp_c, am_qp_c, am_lf_c, am_kt_s, am_kt_n, am_wst, am_wstop, am_ns_0, am_ns_1, Bool.not_true, Bool.not_false, Bool.true_and, Bool.false_and, Nat.reduceBEq, ↓reduceIte, am_k2_n, am_k2_i, am_k2_r, am_k2_u, am_k2_f, am_k2_l, Nat.zero_le, true_and, and_true, true_or, or_true, am_cat_0, am_cat_i, am_cat_r, am_cat_l, am_cat_n, Nat.reduceLeDiff, Nat.reduceAdd, Option.isSome_some, List.getElem?_cons_zero, List.getElem?_cons_succ, am_fit_i, am_fit_r, am_fit_a]
  have e : apC d x y 1 = 0 := by
    show 0 + (if (d.testBit 0 && !(x 0 == y 0)) = true then 1 else 0) = 0
    rw [hd0]; rfl
  have hgo := lp_apart (D := D) (X := X) (by omega) h1 hm hx hy hP 17 1 (by omega)
  rw [e] at hgo
  exact hgo
end AP
