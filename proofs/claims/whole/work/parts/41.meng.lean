/-! the reference's search: a stack of choices -/
section ME
variable {X : Nat × (Nat → Int32)} {D : Nat} {G : am_H} {P : Option Value → am_H → Prop} {pm len T m ip due dep vp : Int32} {l h d : Nat} {f : Nat → Nat}
/-- the lowest place that isn't taken -/
theorem lp_lowest {Tn : Nat} (hD : 1 ≤ D) (h1 : am_ob G 23 5 = some (moL pm len (nI Tn) m ip due dep vp)) (hT : Tn < 2 ^ 31) {t : Nat} (ht : t < 31) (hb : Tn.testBit t = false) (hl : ∀ q, q < t → Tn.testBit q = true) (hP : P (some (.int (nI t))) G) : ∀ (n i : Nat) (e : Int32), i + n = t → e = nI i → am_WP X D 119 2 [some (.ref 23), some (.int e)] [] G 0 0 P
  | 0, i, e, hi, he => by
    subst he
    refine am_wps 40 [16] ?_
    simp only [J119_0, J119_1, J119_2, J119_3, J119_6, J119_7, J119_10, J119_13, J119_16, J119_19, J119_20, am_gg_c, am_gf_c, am_pf_c, am_af_c, am_sf_c, am_bf_c, am_qf_c, am_ap_c, am_bp_c, am_qp_c, am_lf_c, am_kt_s, am_kt_n, am_wst, am_wstop, am_ns_0, am_ns_1, Bool.not_true, Bool.not_false, Bool.true_and, Bool.false_and, Nat.reduceBEq, ↓reduceIte, am_k2_n, am_k2_i, am_k2_r, am_k2_u, am_k2_f, am_k2_l, Nat.zero_le, true_and, and_true, true_or, or_true, am_cat_0, am_cat_i, am_cat_r, am_cat_l, am_cat_n, Nat.reduceLeDiff, Nat.reduceAdd, Option.isSome_some, List.getElem?_cons_zero, List.getElem?_cons_succ, am_fit_i, am_fit_r, am_fit_a, h1]
    refine sp_has hD hT (by omega) ?_
    simp only [J119_0, J119_1, J119_2, J119_3, J119_6, J119_7, J119_10, J119_13, J119_16, J119_19, J119_20, am_gg_c, am_gf_c, am_pf_c, am_af_c, am_sf_c, am_bf_c, am_qf_c, am_ap_c, am_bp_c, am_qp_c, am_lf_c, am_kt_s, am_kt_n, am_wst, am_wstop, am_ns_0, am_ns_1, Bool.not_true, Bool.not_false, Bool.true_and, Bool.false_and, Nat.reduceBEq, ↓reduceIte, am_k2_n, am_k2_i, am_k2_r, am_k2_u, am_k2_f, am_k2_l, Nat.zero_le, true_and, and_true, true_or, or_true, am_cat_0, am_cat_i, am_cat_r, am_cat_l, am_cat_n, Nat.reduceLeDiff, Nat.reduceAdd, Option.isSome_some, List.getElem?_cons_zero, List.getElem?_cons_succ, am_fit_i, am_fit_r, am_fit_a]
    rw [show i = t by omega, hb]
    simpa using hP
  | n + 1, i, e, hi, he => by
    subst he
    refine am_wps 40 [16] ?_
    simp only [J119_0, J119_1, J119_2, J119_3, J119_6, J119_7, J119_10, J119_13, J119_16, J119_19, J119_20, am_gg_c, am_gf_c, am_pf_c, am_af_c, am_sf_c, am_bf_c, am_qf_c, am_ap_c, am_bp_c, am_qp_c, am_lf_c, am_kt_s, am_kt_n, am_wst, am_wstop, am_ns_0, am_ns_1, Bool.not_true, Bool.not_false, Bool.true_and, Bool.false_and, Nat.reduceBEq, ↓reduceIte, am_k2_n, am_k2_i, am_k2_r, am_k2_u, am_k2_f, am_k2_l, Nat.zero_le, true_and, and_true, true_or, or_true, am_cat_0, am_cat_i, am_cat_r, am_cat_l, am_cat_n, Nat.reduceLeDiff, Nat.reduceAdd, Option.isSome_some, List.getElem?_cons_zero, List.getElem?_cons_succ, am_fit_i, am_fit_r, am_fit_a, h1]
    refine sp_has hD hT (by omega) ?_
    simp only [J119_0, J119_1, J119_2, J119_3, J119_6, J119_7, J119_10, J119_13, J119_16, J119_19, J119_20, am_gg_c, am_gf_c, am_pf_c, am_af_c, am_sf_c, am_bf_c, am_qf_c, am_ap_c, am_bp_c, am_qp_c, am_lf_c, am_kt_s, am_kt_n, am_wst, am_wstop, am_ns_0, am_ns_1, Bool.not_true, Bool.not_false, Bool.true_and, Bool.false_and, Nat.reduceBEq, ↓reduceIte, am_k2_n, am_k2_i, am_k2_r, am_k2_u, am_k2_f, am_k2_l, Nat.zero_le, true_and, and_true, true_or, or_true, am_cat_0, am_cat_i, am_cat_r, am_cat_l, am_cat_n, Nat.reduceLeDiff, Nat.reduceAdd, Option.isSome_some, List.getElem?_cons_zero, List.getElem?_cons_succ, am_fit_i, am_fit_r, am_fit_a]
    rw [hl i (by omega)]
    simp only [if_true, if_neg (show ¬ (1 : Int32) = 0 by decide)]
    exact am_goto I119_16 (lp_lowest hD h1 hT ht hb hl hP n (i + 1) _ (by omega) (by rw [nI_1]))
theorem sp_lowest {Tn t : Nat} (hD : 2 ≤ D) (h1 : am_ob G 23 5 = some (moL pm len (nI Tn) m ip due dep vp)) (hT : Tn < 2 ^ 31) (ht : t < 31) (hb : Tn.testBit t = false) (hl : ∀ q, q < t → Tn.testBit q = true) (hP : P (some (.int (nI t))) G) : am_CB X D 119 [.ref 23] G P := by
  obtain ⟨D, rfl⟩ : ∃ D0, D = D0 + 1 := ⟨D - 1, by omega⟩
  refine B119 40 [2] ?_
  simp only [J119_0, J119_1, J119_2, J119_3, J119_6, J119_7, J119_10, J119_13, J119_16, J119_19, J119_20, am_gg_c, am_gf_c, am_pf_c, am_af_c, am_sf_c, am_bf_c, am_qf_c, am_ap_c, am_bp_c, am_qp_c, am_lf_c, am_kt_s, am_kt_n, am_wst, am_wstop, am_ns_0, am_ns_1, Bool.not_true, Bool.not_false, Bool.true_and, Bool.false_and, Nat.reduceBEq, ↓reduceIte, am_k2_n, am_k2_i, am_k2_r, am_k2_u, am_k2_f, am_k2_l, Nat.zero_le, true_and, and_true, true_or, or_true, am_cat_0, am_cat_i, am_cat_r, am_cat_l, am_cat_n, Nat.reduceLeDiff, Nat.reduceAdd, Option.isSome_some, List.getElem?_cons_zero, List.getElem?_cons_succ, am_fit_i, am_fit_r, am_fit_a]
  exact lp_lowest (by omega) h1 hT ht hb hl hP t 0 _ (by omega) nI_0.symm
/-- whether a difference can begin at a place -/
def ncB (ipb : Bool) (f : Nat → Nat) (ln Tn mn p w : Nat) : Bool := mn.testBit w && decide (p + w < ln) && (decide (p < ln) && !Tn.testBit p && pnB ipb f p w) && (decide (p + w < ln) && !Tn.testBit (p + w) && pnB ipb f (p + w) w)
theorem lp_next {ln Tn mn p : Nat} {ipb : Bool} (hD : 2 ≤ D) (h1 : am_ob G 23 5 = some (moL pm (nI ln) (nI Tn) (nI mn) (if ipb = true then 1 else 0) due dep vp)) (hm : MA G l h d f) (hln : ln ≤ 18) (hT : Tn < 2 ^ 18) (hmn : mn < 2 ^ 18) (hp : p < 18) {B : Int32}
    (hS : ∀ w, w < 18 → ncB ipb f ln Tn mn p w = true → (∀ v : Nat, v < w → B.toInt < v → ncB ipb f ln Tn mn p v = false) → B.toInt < w → P (some (.int (nI w))) G) (hN : (∀ v : Nat, v < 18 → B.toInt < v → ncB ipb f ln Tn mn p v = false) → P (some (.int (-6))) G) :
    ∀ (n i : Nat) (e : Int32), i + n = 18 → e = nI i → B.toInt < i → (∀ v : Nat, v < i → B.toInt < v → ncB ipb f ln Tn mn p v = false) → am_WP X D 120 4 [some (.ref 23), some (.int (nI p)), some (.int B), some (.int e)] [] G 0 0 P
  | 0, i, e, hi, he, hb, hn => by
    subst he
    refine am_wps 60 [56] ?_
    simp only [J120_0, J120_1, J120_2, J120_3, J120_4, J120_5, J120_7, J120_10, J120_11, J120_14, J120_15, J120_18, J120_21, J120_22, J120_23, J120_24, J120_25, J120_28, J120_31, J120_32, J120_33, J120_34, J120_37, J120_40, J120_41, J120_42, J120_43, J120_44, J120_45, J120_48, J120_51, J120_52, J120_53, J120_56, J120_59, J120_61, am_gg_c, am_gf_c, am_pf_c, am_af_c, am_sf_c, am_bf_c, am_qf_c, am_ap_c, am_bp_c, am_qp_c, am_lf_c, am_kt_s, am_kt_n, am_wst, am_wstop, am_ns_0, am_ns_1, Bool.not_true, Bool.not_false, Bool.true_and, Bool.false_and, Nat.reduceBEq, ↓reduceIte, am_k2_n, am_k2_i, am_k2_r, am_k2_u, am_k2_f, am_k2_l, Nat.zero_le, true_and, and_true, true_or, or_true, am_cat_0, am_cat_i, am_cat_r, am_cat_l, am_cat_n, Nat.reduceLeDiff, Nat.reduceAdd, Option.isSome_some, List.getElem?_cons_zero, List.getElem?_cons_succ, am_fit_i, am_fit_r, am_fit_a]
    rw [show i = 18 by omega] at hn ⊢
    rw [if_pos (by decide)]
    exact hN hn
  | n + 1, i, e, hi, he, hb, hn => by
    subst he
    refine am_wps 60 [56] ?_
    simp only [J120_0, J120_1, J120_2, J120_3, J120_4, J120_5, J120_7, J120_10, J120_11, J120_14, J120_15, J120_18, J120_21, J120_22, J120_23, J120_24, J120_25, J120_28, J120_31, J120_32, J120_33, J120_34, J120_37, J120_40, J120_41, J120_42, J120_43, J120_44, J120_45, J120_48, J120_51, J120_52, J120_53, J120_56, J120_59, J120_61, am_gg_c, am_gf_c, am_pf_c, am_af_c, am_sf_c, am_bf_c, am_qf_c, am_ap_c, am_bp_c, am_qp_c, am_lf_c, am_kt_s, am_kt_n, am_wst, am_wstop, am_ns_0, am_ns_1, Bool.not_true, Bool.not_false, Bool.true_and, Bool.false_and, Nat.reduceBEq, ↓reduceIte, am_k2_n, am_k2_i, am_k2_r, am_k2_u, am_k2_f, am_k2_l, Nat.zero_le, true_and, and_true, true_or, or_true, am_cat_0, am_cat_i, am_cat_r, am_cat_l, am_cat_n, Nat.reduceLeDiff, Nat.reduceAdd, Option.isSome_some, List.getElem?_cons_zero, List.getElem?_cons_succ, am_fit_i, am_fit_r, am_fit_a, h1]
    rw [if_neg (by rw [show (17 : Int32) = nI 17 by rfl, nI_ltI (by omega) (by omega)]; omega)]
    have skip : ncB ipb f ln Tn mn p i = false → am_WP X D 120 56 [some (.ref 23), some (.int (nI p)), some (.int B), some (.int (nI i + 1))] [] G 0 0 P := fun hs =>
      am_goto I120_56 (lp_next hD h1 hm hln hT hmn hp hS hN n (i + 1) _ (by omega) (by rw [nI_1]) (by omega) (fun v hv hv2 => by
        by_cases e : v = i
        · rw [e]; exact hs
        · exact hn v (by omega) hv2))
    refine sp_has (by omega) (by omega) (by omega) ?_
    simp only [J120_0, J120_1, J120_2, J120_3, J120_4, J120_5, J120_7, J120_10, J120_11, J120_14, J120_15, J120_18, J120_21, J120_22, J120_23, J120_24, J120_25, J120_28, J120_31, J120_32, J120_33, J120_34, J120_37, J120_40, J120_41, J120_42, J120_43, J120_44, J120_45, J120_48, J120_51, J120_52, J120_53, J120_56, J120_59, J120_61, am_gg_c, am_gf_c, am_pf_c, am_af_c, am_sf_c, am_bf_c, am_qf_c, am_ap_c, am_bp_c, am_qp_c, am_lf_c, am_kt_s, am_kt_n, am_wst, am_wstop, am_ns_0, am_ns_1, Bool.not_true, Bool.not_false, Bool.true_and, Bool.false_and, Nat.reduceBEq, ↓reduceIte, am_k2_n, am_k2_i, am_k2_r, am_k2_u, am_k2_f, am_k2_l, Nat.zero_le, true_and, and_true, true_or, or_true, am_cat_0, am_cat_i, am_cat_r, am_cat_l, am_cat_n, Nat.reduceLeDiff, Nat.reduceAdd, Option.isSome_some, List.getElem?_cons_zero, List.getElem?_cons_succ, am_fit_i, am_fit_r, am_fit_a, h1]
    cases c1 : mn.testBit i with
    | false =>
      simp only [Bool.false_eq_true, if_false, if_true]
      exact skip (by unfold ncB; rw [c1]; rfl)
    | true =>
      simp only [if_true, if_neg (show ¬ (1 : Int32) = 0 by decide)]
      rw [nI_add]
      by_cases c2 : p + i < ln
      · rw [if_pos (by rw [nI_ltI (by omega) (by omega)]; exact c2)]
        refine sp_mayStand hD h1 hm hln hT hp (by omega) ?_
        simp only [J120_0, J120_1, J120_2, J120_3, J120_4, J120_5, J120_7, J120_10, J120_11, J120_14, J120_15, J120_18, J120_21, J120_22, J120_23, J120_24, J120_25, J120_28, J120_31, J120_32, J120_33, J120_34, J120_37, J120_40, J120_41, J120_42, J120_43, J120_44, J120_45, J120_48, J120_51, J120_52, J120_53, J120_56, J120_59, J120_61, am_gg_c, am_gf_c, am_pf_c, am_af_c, am_sf_c, am_bf_c, am_qf_c, am_ap_c, am_bp_c, am_qp_c, am_lf_c, am_kt_s, am_kt_n, am_wst, am_wstop, am_ns_0, am_ns_1, Bool.not_true, Bool.not_false, Bool.true_and, Bool.false_and, Nat.reduceBEq, ↓reduceIte, am_k2_n, am_k2_i, am_k2_r, am_k2_u, am_k2_f, am_k2_l, Nat.zero_le, true_and, and_true, true_or, or_true, am_cat_0, am_cat_i, am_cat_r, am_cat_l, am_cat_n, Nat.reduceLeDiff, Nat.reduceAdd, Option.isSome_some, List.getElem?_cons_zero, List.getElem?_cons_succ, am_fit_i, am_fit_r, am_fit_a, h1]
        cases c3 : (decide (p < ln) && !Tn.testBit p && pnB ipb f p i) with
        | false =>
          simp only [Bool.false_eq_true, if_false, if_true]
          exact skip (by unfold ncB; rw [c3]; simp)
        | true =>
          simp only [if_true, if_neg (show ¬ (1 : Int32) = 0 by decide)]
          rw [nI_add]
          refine sp_mayStand hD h1 hm hln hT (by omega) (by omega) ?_
          simp only [J120_0, J120_1, J120_2, J120_3, J120_4, J120_5, J120_7, J120_10, J120_11, J120_14, J120_15, J120_18, J120_21, J120_22, J120_23, J120_24, J120_25, J120_28, J120_31, J120_32, J120_33, J120_34, J120_37, J120_40, J120_41, J120_42, J120_43, J120_44, J120_45, J120_48, J120_51, J120_52, J120_53, J120_56, J120_59, J120_61, am_gg_c, am_gf_c, am_pf_c, am_af_c, am_sf_c, am_bf_c, am_qf_c, am_ap_c, am_bp_c, am_qp_c, am_lf_c, am_kt_s, am_kt_n, am_wst, am_wstop, am_ns_0, am_ns_1, Bool.not_true, Bool.not_false, Bool.true_and, Bool.false_and, Nat.reduceBEq, ↓reduceIte, am_k2_n, am_k2_i, am_k2_r, am_k2_u, am_k2_f, am_k2_l, Nat.zero_le, true_and, and_true, true_or, or_true, am_cat_0, am_cat_i, am_cat_r, am_cat_l, am_cat_n, Nat.reduceLeDiff, Nat.reduceAdd, Option.isSome_some, List.getElem?_cons_zero, List.getElem?_cons_succ, am_fit_i, am_fit_r, am_fit_a, h1]
          cases c4 : (decide (p + i < ln) && !Tn.testBit (p + i) && pnB ipb f (p + i) i) with
          | false =>
            simp only [Bool.false_eq_true, if_false, if_true]
            exact skip (by unfold ncB; rw [c4]; simp)
          | true =>
            simp only [if_true, if_neg (show ¬ (1 : Int32) = 0 by decide)]
            exact hS i (by omega) (by unfold ncB; rw [c1, c3, c4, decide_eq_true c2]; rfl) hn hb
      · rw [if_neg (by rw [nI_ltI (by omega) (by omega)]; exact c2)]
        exact skip (by unfold ncB; rw [decide_eq_false c2]; simp)
theorem sp_next {ln Tn mn p b : Nat} {ipb : Bool} (hD : 3 ≤ D) (h1 : am_ob G 23 5 = some (moL pm (nI ln) (nI Tn) (nI mn) (if ipb = true then 1 else 0) due dep vp)) (hm : MA G l h d f) (hln : ln ≤ 18) (hT : Tn < 2 ^ 18) (hmn : mn < 2 ^ 18) (hp : p < 18) (hb : b < 18)
    (hS : ∀ w, w < 18 → ncB ipb f ln Tn mn p w = true → (∀ v, v < w → b < v → ncB ipb f ln Tn mn p v = false) → b < w → P (some (.int (nI w))) G) (hN : (∀ v, v < 18 → b < v → ncB ipb f ln Tn mn p v = false) → P (some (.int (-6))) G) :
    am_CB X D 120 [.ref 23, .int (nI p), .int (nI b)] G P := by
  obtain ⟨D, rfl⟩ : ∃ D0, D = D0 + 1 := ⟨D - 1, by omega⟩
  have hbt := nI_toInt (n := b) (by omega)
  refine B120 40 [4] ?_
  simp only [J120_0, J120_1, J120_2, J120_3, J120_4, J120_5, J120_7, J120_10, J120_11, J120_14, J120_15, J120_18, J120_21, J120_22, J120_23, J120_24, J120_25, J120_28, J120_31, J120_32, J120_33, J120_34, J120_37, J120_40, J120_41, J120_42, J120_43, J120_44, J120_45, J120_48, J120_51, J120_52, J120_53, J120_56, J120_59, J120_61, am_gg_c, am_gf_c, am_pf_c, am_af_c, am_sf_c, am_bf_c, am_qf_c, am_ap_c, am_bp_c, am_qp_c, am_lf_c, am_kt_s, am_kt_n, am_wst, am_wstop, am_ns_0, am_ns_1, Bool.not_true, Bool.not_false, Bool.true_and, Bool.false_and, Nat.reduceBEq, ↓reduceIte, am_k2_n, am_k2_i, am_k2_r, am_k2_u, am_k2_f, am_k2_l, Nat.zero_le, true_and, and_true, true_or, or_true, am_cat_0, am_cat_i, am_cat_r, am_cat_l, am_cat_n, Nat.reduceLeDiff, Nat.reduceAdd, Option.isSome_some, List.getElem?_cons_zero, List.getElem?_cons_succ, am_fit_i, am_fit_r, am_fit_a]
  refine lp_next (B := nI b) (by omega) h1 hm hln hT hmn hp (fun w a1 a2 a3 a4 => hS w a1 a2 (fun v b1 b2 => a3 v b1 (by omega)) (by omega)) (fun a => hN (fun v b1 b2 => a v b1 (by omega))) (18 - (b + 1)) (b + 1) _ (by omega) (by rw [nI_1]) (by omega) (fun v hv hv2 => by omega)
/-- take: a pair put on, or taken off -/
theorem sp_takeOn {Tn mn p w : Nat} {rw_ bg : Nat → Int32} (hD : 1 ≤ D) (h1 : am_ob G 23 5 = some (moL pm len (nI Tn) (nI mn) ip due dep vp)) (h2 : am_ia G 30 0 = some (18, rw_)) (h3 : am_ia G 31 0 = some (18, bg)) (hp : p + w < 18) (hw : w < 18) (hmb : mn.testBit w = true) (hmn : mn < 2 ^ 18)
    (hP : ∀ G', am_ob G' 23 5 = some (moL pm len (nI (Tn ||| (2 ^ p ||| 2 ^ (p + w)))) (nI (mn - 2 ^ w)) ip due dep vp) → am_ia G' 30 0 = some (18, upd (upd rw_ p (nI w)) (p + w) (nI w)) → am_ia G' 31 0 = some (18, upd bg w (nI p)) → Fr [23, 30, 31] G G' → P none G') : am_CB X D 118 [.ref 23, .int (nI p), .int (nI w), .int 1] G P := by
  obtain ⟨D, rfl⟩ : ∃ D0, D = D0 + 1 := ⟨D - 1, by omega⟩
  have hk := am_ob_lt h1
  have hh : ∀ c : am_C, 23 < (G.set 23 c).length := fun c => by rw [List.length_set]; exact hk
  have k30 := am_ia_lt h2
  have k31 := am_ia_lt h3
  refine B118 80 [] ?_
  have e1 : (1 : Int32) <<< (nI p &&& 31) ||| 1 <<< (nI (p + w) &&& 31) = nI (2 ^ p ||| 2 ^ (p + w)) := by
    rw [show (1 : Int32) = nI 1 by rfl, bi_shl (by omega), bi_shl (by omega), Nat.one_mul, Nat.one_mul, bi_or]
  have e2 : nI mn &&& ((1 : Int32) <<< (nI w &&& 31) ^^^ (-1)) = nI (mn - 2 ^ w) := by
    rw [show (1 : Int32) = nI 1 by rfl, bi_shl (by omega), Nat.one_mul, show (-nI 1 : Int32) = -1 by rfl, bi_not, bi_not_bit (by omega) hmb]
  simp only [J118_0, J118_1, J118_2, J118_3, J118_4, J118_5, J118_6, J118_7, J118_8, J118_9, J118_11, J118_12, J118_13, J118_16, J118_17, J118_20, J118_22, J118_23, J118_26, J118_27, J118_30, J118_32, J118_33, J118_34, J118_35, J118_38, J118_39, J118_40, J118_43, J118_44, J118_47, J118_48, J118_49, J118_50, J118_51, J118_52, J118_53, J118_56, J118_57, J118_60, J118_61, J118_62, J118_63, J118_64, J118_67, J118_68, J118_71, J118_72, J118_73, J118_76, J118_77, J118_80, J118_81, J118_82, J118_83, J118_86, J118_87, J118_88, J118_89, J118_90, J118_93, J118_94, J118_95, J118_96, J118_97, J118_100, J118_101, J118_102, J118_103, am_gg_c, am_gf_c, am_pf_c, am_af_c, am_sf_c, am_bf_c, am_qf_c, am_ap_c, am_bp_c, am_qp_c, am_lf_c, am_kt_s, am_kt_n, am_wst, am_wstop, am_ns_0, am_ns_1, Bool.not_true, Bool.not_false, Bool.true_and, Bool.false_and, Nat.reduceBEq, ↓reduceIte, am_k2_n, am_k2_i, am_k2_r, am_k2_u, am_k2_f, am_k2_l, Nat.zero_le, true_and, and_true, true_or, or_true, am_cat_0, am_cat_i, am_cat_r, am_cat_l, am_cat_n, Nat.reduceLeDiff, Nat.reduceAdd, Option.isSome_some, List.getElem?_cons_zero, List.getElem?_cons_succ, am_fit_i, am_fit_r, am_fit_a, h1, if_neg (show ¬ (1 : Int32) = 0 by decide), am_ob_ss, hk, List.length_set, List.length_cons, List.length_nil, Nat.reduceLT, List.set_cons_succ, List.set_cons_zero, e1, e2, bi_or, am_ob_sn (show 30 ≠ 23 by decide), am_ob_sn (show 31 ≠ 23 by decide), am_ia_sn (show 23 ≠ 30 by decide), am_ia_sn (show 23 ≠ 31 by decide), am_ia_sn (show 30 ≠ 31 by decide), am_ia_ss, k30, h2, h3, nI_add]
  refine ⟨vp_in_n (by omega) (by omega), vp_in_n (by omega) (by omega), vp_in_n (by omega) (by omega), vp_in_n (by omega) (by omega), hP _ ?_ ?_ ?_ ?_⟩
  · rw [am_ob_sn (show 31 ≠ 23 by decide), am_ob_sn (show 30 ≠ 23 by decide), am_ob_sn (show 30 ≠ 23 by decide)]
    exact am_ob_ss (hh _)
  · rw [am_ia_sn (show 31 ≠ 30 by decide), am_ia_ss (by simp only [List.length_set]; exact k30)]
    rw [nI_clamp (by omega), nI_clamp (by omega), upd_at, if_pos rfl]
  · rw [am_ia_ss (by simp only [List.length_set]; exact k31), nI_clamp (by omega)]
  · exact ((Fr.set (by simp)).tr (Fr.set (by simp))).tr (((Fr.set (by simp)).tr (Fr.set (by simp))).tr (Fr.set (by simp)))
theorem sp_takeOff {Tn mn p w : Nat} {rw_ bg : Nat → Int32} (hD : 1 ≤ D) (h1 : am_ob G 23 5 = some (moL pm len (nI Tn) (nI mn) ip due dep vp)) (h2 : am_ia G 30 0 = some (18, rw_)) (h3 : am_ia G 31 0 = some (18, bg)) (hp : p + w < 18) (hw : w < 18) (hw0 : 0 < w) (hTp : Tn.testBit p = true) (hTq : Tn.testBit (p + w) = true) (hT : Tn < 2 ^ 18)
    (hP : ∀ G', am_ob G' 23 5 = some (moL pm len (nI (Tn - (2 ^ p + 2 ^ (p + w)))) (nI (mn ||| 2 ^ w)) ip due dep vp) → am_ia G' 30 0 = some (18, upd (upd rw_ p 0) (p + w) 0) → am_ia G' 31 0 = some (18, upd bg w (nI p)) → Fr [23, 30, 31] G G' → P none G') : am_CB X D 118 [.ref 23, .int (nI p), .int (nI w), .int 0] G P := by
  obtain ⟨D, rfl⟩ : ∃ D0, D = D0 + 1 := ⟨D - 1, by omega⟩
  have hk := am_ob_lt h1
  have hh : ∀ c : am_C, 23 < (G.set 23 c).length := fun c => by rw [List.length_set]; exact hk
  have k30 := am_ia_lt h2
  have k31 := am_ia_lt h3
  refine B118 80 [] ?_
  have e1 : (1 : Int32) <<< (nI p &&& 31) ||| 1 <<< (nI (p + w) &&& 31) = nI (2 ^ p ||| 2 ^ (p + w)) := by
    rw [show (1 : Int32) = nI 1 by rfl, bi_shl (by omega), bi_shl (by omega), Nat.one_mul, Nat.one_mul, bi_or]
  have e2 : nI mn ||| (1 : Int32) <<< (nI w &&& 31) = nI (mn ||| 2 ^ w) := by
    rw [show (1 : Int32) = nI 1 by rfl, bi_shl (by omega), Nat.one_mul, bi_or]
  have e3 : nI Tn &&& (nI (2 ^ p ||| 2 ^ (p + w)) ^^^ (-1)) = nI (Tn - (2 ^ p + 2 ^ (p + w))) := by
    rw [bi_not, bi_not_two (by omega) hTp hTq (by omega)]
  simp only [J118_0, J118_1, J118_2, J118_3, J118_4, J118_5, J118_6, J118_7, J118_8, J118_9, J118_11, J118_12, J118_13, J118_16, J118_17, J118_20, J118_22, J118_23, J118_26, J118_27, J118_30, J118_32, J118_33, J118_34, J118_35, J118_38, J118_39, J118_40, J118_43, J118_44, J118_47, J118_48, J118_49, J118_50, J118_51, J118_52, J118_53, J118_56, J118_57, J118_60, J118_61, J118_62, J118_63, J118_64, J118_67, J118_68, J118_71, J118_72, J118_73, J118_76, J118_77, J118_80, J118_81, J118_82, J118_83, J118_86, J118_87, J118_88, J118_89, J118_90, J118_93, J118_94, J118_95, J118_96, J118_97, J118_100, J118_101, J118_102, J118_103, am_gg_c, am_gf_c, am_pf_c, am_af_c, am_sf_c, am_bf_c, am_qf_c, am_ap_c, am_bp_c, am_qp_c, am_lf_c, am_kt_s, am_kt_n, am_wst, am_wstop, am_ns_0, am_ns_1, Bool.not_true, Bool.not_false, Bool.true_and, Bool.false_and, Nat.reduceBEq, ↓reduceIte, am_k2_n, am_k2_i, am_k2_r, am_k2_u, am_k2_f, am_k2_l, Nat.zero_le, true_and, and_true, true_or, or_true, am_cat_0, am_cat_i, am_cat_r, am_cat_l, am_cat_n, Nat.reduceLeDiff, Nat.reduceAdd, Option.isSome_some, List.getElem?_cons_zero, List.getElem?_cons_succ, am_fit_i, am_fit_r, am_fit_a, h1, if_true, am_ob_ss, hk, List.length_set, List.length_cons, List.length_nil, Nat.reduceLT, List.set_cons_succ, List.set_cons_zero, e1, e2, e3, am_ob_sn (show 30 ≠ 23 by decide), am_ob_sn (show 31 ≠ 23 by decide), am_ia_sn (show 23 ≠ 30 by decide), am_ia_sn (show 23 ≠ 31 by decide), am_ia_sn (show 30 ≠ 31 by decide), am_ia_ss, k30, h2, h3, nI_add]
  refine ⟨vp_in_n (by omega) (by omega), vp_in_n (by omega) (by omega), vp_in_n (by omega) (by omega), vp_in_n (by omega) (by omega), hP _ ?_ ?_ ?_ ?_⟩
  · rw [am_ob_sn (show 31 ≠ 23 by decide), am_ob_sn (show 30 ≠ 23 by decide), am_ob_sn (show 30 ≠ 23 by decide)]
    exact am_ob_ss (hh _)
  · rw [am_ia_sn (show 31 ≠ 30 by decide), am_ia_ss (by simp only [List.length_set]; exact k30)]
    rw [nI_clamp (by omega), nI_clamp (by omega), upd_at, if_pos rfl]
  · rw [am_ia_ss (by simp only [List.length_set]; exact k31), nI_clamp (by omega)]
  · exact ((Fr.set (by simp)).tr (Fr.set (by simp))).tr (((Fr.set (by simp)).tr (Fr.set (by simp))).tr (Fr.set (by simp)))
end ME
