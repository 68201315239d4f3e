/-! isRowText, judge -/
def okM (c : Int32) : Bool := decide (0 ≤ (mgI c).toInt ∧ (mgI c).toInt ≤ 17)
def rtA (t : Nat → Int32) : Nat → Bool
  | 0 => true
  | k + 1 => rtA t k && okM (t k)
theorem rtA_ok {t : Nat → Int32} : ∀ {k : Nat}, rtA t k = true → ∀ i, i < k → okM (t i) = true
  | 0, _, i, hi => by omega
  | k + 1, h, i, hi => by
    have h : (rtA t k && okM (t k)) = true := h
    rw [Bool.and_eq_true] at h
    by_cases c : i = k
    · rw [c]; exact h.2
    · exact rtA_ok h.1 i (by omega)
def rtB (n l : Nat) (t : Nat → Int32) : Bool := decide (n = l) && rtA t n
theorem LK.z {G : am_H} {n : Nat} {g : Nat → Int32} (h : LK G n g) : LK G 0 (fun _ => 0) := by
  obtain ⟨lf, a, b⟩ := h
  exact ⟨lf, a, fun i hi => by omega⟩
section JD
variable {X : Nat × (Nat → Int32)} {D : Nat} {G : am_H} {P : Option Value → am_H → Prop} {l h d n : Nat} {f : Nat → Nat} {t : Nat → Int32}
theorem lp_isRow (hD : 2 ≤ D) (hm : MP G n t) (hP : P (some (.int (if rtB n l t = true then 1 else 0))) G) : ∀ (k i : Nat), i + k = n → am_WP X D 134 21 [some (.ref 23), some (.int (if (decide (n = l) && rtA t i) = true then 1 else 0)), some (.int (nI i))] [] G 0 0 P := by
  obtain ⟨⟨len, T, m, ip, due, dep, vp, h1⟩, hn, pf, h2, h3⟩ := id hm
  intro k
  induction k with
  | zero =>
    intro i hi
    refine am_wps 40 [60] ?_
    simp only [J134_0, J134_1, J134_4, J134_5, J134_8, J134_9, J134_10, J134_13, J134_14, J134_17, J134_18, J134_19, J134_20, J134_21, J134_22, J134_23, J134_26, J134_29, J134_30, J134_33, J134_34, J134_37, J134_38, J134_39, J134_42, J134_43, J134_45, J134_48, J134_51, J134_52, J134_55, J134_56, J134_57, J134_60, J134_63, J134_64, am_gg_c, am_gf_c, am_pf_c, am_af_c, am_sf_c, am_bf_c, am_qf_c, am_ap_c, am_bp_c, am_qp_c, am_lf_c, am_kt_s, am_kt_n, am_wst, am_wstop, am_ns_0, am_ns_1, Bool.not_true, Bool.not_false, Bool.true_and, Bool.false_and, Nat.reduceBEq, ↓reduceIte, am_k2_n, am_k2_i, am_k2_r, am_k2_u, am_k2_f, am_k2_l, Nat.zero_le, true_and, and_true, true_or, or_true, am_cat_0, am_cat_i, am_cat_r, am_cat_l, am_cat_n, Nat.reduceLeDiff, Nat.reduceAdd, Option.isSome_some, List.getElem?_cons_zero, List.getElem?_cons_succ, am_fit_i, am_fit_r, am_fit_a, h1]
    rw [if_neg (by rw [nI_ltI (by omega) (by omega)]; omega)]
    rw [show i = n by omega]
    exact ⟨by split <;> simp, hP⟩
  | succ k ih =>
    intro i hi
    have hs : rtA t (i + 1) = (rtA t i && okM (t i)) := rfl
    have hn2 := ih (i + 1) (by omega)
    rw [hs] at hn2
    refine am_wps 60 [60] ?_
    simp only [J134_0, J134_1, J134_4, J134_5, J134_8, J134_9, J134_10, J134_13, J134_14, J134_17, J134_18, J134_19, J134_20, J134_21, J134_22, J134_23, J134_26, J134_29, J134_30, J134_33, J134_34, J134_37, J134_38, J134_39, J134_42, J134_43, J134_45, J134_48, J134_51, J134_52, J134_55, J134_56, J134_57, J134_60, J134_63, J134_64, am_gg_c, am_gf_c, am_pf_c, am_af_c, am_sf_c, am_bf_c, am_qf_c, am_ap_c, am_bp_c, am_qp_c, am_lf_c, am_kt_s, am_kt_n, am_wst, am_wstop, am_ns_0, am_ns_1, Bool.not_true, Bool.not_false, Bool.true_and, Bool.false_and, Nat.reduceBEq, ↓reduceIte, am_k2_n, am_k2_i, am_k2_r, am_k2_u, am_k2_f, am_k2_l, Nat.zero_le, true_and, and_true, true_or, or_true, am_cat_0, am_cat_i, am_cat_r, am_cat_l, am_cat_n, Nat.reduceLeDiff, Nat.reduceAdd, Option.isSome_some, List.getElem?_cons_zero, List.getElem?_cons_succ, am_fit_i, am_fit_r, am_fit_a, h1, h2]
    rw [if_pos (by rw [nI_ltI (by omega) (by omega)]; omega)]
    cases b : (decide (n = l) && rtA t i) with
    | false =>
      simp only [Bool.false_eq_true, if_false, if_true]
      refine am_goto I134_60 ?_
      rw [nI_1]
      rw [← Bool.and_assoc, b] at hn2
      simpa using hn2
    | true =>
      simp only [if_true, if_neg (show ¬ (1 : Int32) = 0 by decide)]
      refine ⟨vp_in_n (by omega) (by omega), ?_⟩
      rw [nI_clamp (by omega), h3 i (by omega)]
      refine sp_meaning (by omega) ?_
      simp only [J134_0, J134_1, J134_4, J134_5, J134_8, J134_9, J134_10, J134_13, J134_14, J134_17, J134_18, J134_19, J134_20, J134_21, J134_22, J134_23, J134_26, J134_29, J134_30, J134_33, J134_34, J134_37, J134_38, J134_39, J134_42, J134_43, J134_45, J134_48, J134_51, J134_52, J134_55, J134_56, J134_57, J134_60, J134_63, J134_64, am_gg_c, am_gf_c, am_pf_c, am_af_c, am_sf_c, am_bf_c, am_qf_c, am_ap_c, am_bp_c, am_qp_c, am_lf_c, am_kt_s, am_kt_n, am_wst, am_wstop, am_ns_0, am_ns_1, Bool.not_true, Bool.not_false, Bool.true_and, Bool.false_and, Nat.reduceBEq, ↓reduceIte, am_k2_n, am_k2_i, am_k2_r, am_k2_u, am_k2_f, am_k2_l, Nat.zero_le, true_and, and_true, true_or, or_true, am_cat_0, am_cat_i, am_cat_r, am_cat_l, am_cat_n, Nat.reduceLeDiff, Nat.reduceAdd, Option.isSome_some, List.getElem?_cons_zero, List.getElem?_cons_succ, am_fit_i, am_fit_r, am_fit_a]
      refine sp_in (by omega) ?_
      simp only [J134_0, J134_1, J134_4, J134_5, J134_8, J134_9, J134_10, J134_13, J134_14, J134_17, J134_18, J134_19, J134_20, J134_21, J134_22, J134_23, J134_26, J134_29, J134_30, J134_33, J134_34, J134_37, J134_38, J134_39, J134_42, J134_43, J134_45, J134_48, J134_51, J134_52, J134_55, J134_56, J134_57, J134_60, J134_63, J134_64, am_gg_c, am_gf_c, am_pf_c, am_af_c, am_sf_c, am_bf_c, am_qf_c, am_ap_c, am_bp_c, am_qp_c, am_lf_c, am_kt_s, am_kt_n, am_wst, am_wstop, am_ns_0, am_ns_1, Bool.not_true, Bool.not_false, Bool.true_and, Bool.false_and, Nat.reduceBEq, ↓reduceIte, am_k2_n, am_k2_i, am_k2_r, am_k2_u, am_k2_f, am_k2_l, Nat.zero_le, true_and, and_true, true_or, or_true, am_cat_0, am_cat_i, am_cat_r, am_cat_l, am_cat_n, Nat.reduceLeDiff, Nat.reduceAdd, Option.isSome_some, List.getElem?_cons_zero, List.getElem?_cons_succ, am_fit_i, am_fit_r, am_fit_a]
      rw [show (0 : Int32).toInt = 0 by rfl, show (17 : Int32).toInt = 17 by rfl]
      rw [← Bool.and_assoc, b, Bool.true_and] at hn2
      unfold okM at hn2
      by_cases c : 0 ≤ (mgI (t i)).toInt ∧ (mgI (t i)).toInt ≤ 17
      · rw [if_pos c, if_neg (by decide)]
        rw [decide_eq_true c] at hn2
        refine am_goto I134_60 ?_
        rw [nI_1]
        simpa using hn2
      · rw [if_neg c, if_pos rfl]
        rw [decide_eq_false c] at hn2
        refine am_goto I134_60 ?_
        rw [nI_1]
        simpa using hn2
theorem sp_isRow (hD : 3 ≤ D) (hm : MP G n t) (ha : MA G l h d f) (hP : P (some (.int (if rtB n l t = true then 1 else 0))) G) : am_CB X D 134 [.ref 23] G P := by
  obtain ⟨D, rfl⟩ : ∃ D0, D = D0 + 1 := ⟨D - 1, by omega⟩
  obtain ⟨⟨len, T, m, ip, due, dep, vp, h1⟩, hn, pf, h2, h3⟩ := id hm
  obtain ⟨⟨af, a1, a2, a3, a4, a5⟩, hl1, hl, hh, hd, hd0, hf⟩ := id ha
  have h0 : af (0 : Int32).toNatClampNeg = nI l := a2
  refine B134 60 [21] ?_
  simp only [J134_0, J134_1, J134_4, J134_5, J134_8, J134_9, J134_10, J134_13, J134_14, J134_17, J134_18, J134_19, J134_20, J134_21, J134_22, J134_23, J134_26, J134_29, J134_30, J134_33, J134_34, J134_37, J134_38, J134_39, J134_42, J134_43, J134_45, J134_48, J134_51, J134_52, J134_55, J134_56, J134_57, J134_60, J134_63, J134_64, am_gg_c, am_gf_c, am_pf_c, am_af_c, am_sf_c, am_bf_c, am_qf_c, am_ap_c, am_bp_c, am_qp_c, am_lf_c, am_kt_s, am_kt_n, am_wst, am_wstop, am_ns_0, am_ns_1, Bool.not_true, Bool.not_false, Bool.true_and, Bool.false_and, Nat.reduceBEq, ↓reduceIte, am_k2_n, am_k2_i, am_k2_r, am_k2_u, am_k2_f, am_k2_l, Nat.zero_le, true_and, and_true, true_or, or_true, am_cat_0, am_cat_i, am_cat_r, am_cat_l, am_cat_n, Nat.reduceLeDiff, Nat.reduceAdd, Option.isSome_some, List.getElem?_cons_zero, List.getElem?_cons_succ, am_fit_i, am_fit_r, am_fit_a, h1, a1, h0]
  refine ⟨vp_lit (k := 0) rfl (by omega) (by omega), ?_⟩
  have hgo := lp_isRow (l := l) (D := D) (X := X) (by omega) hm hP n 0 (by omega)
  have e : rtA t 0 = true := rfl
  rw [e, Bool.and_true] at hgo
  by_cases c : n = l
  · rw [if_pos (by rw [c])]
    rw [decide_eq_true c] at hgo
    exact hgo
  · rw [if_neg (fun e => c (bi_inj (by omega) (by omega) e))]
    rw [decide_eq_false c] at hgo
    exact hgo
/-- the row of a pad that is a row -/
def gnP (t : Nat → Int32) (i : Nat) : Nat := (mgI (t i)).toInt.toNat
theorem gnP_le {n l : Nat} {t : Nat → Int32} (h : rtB n l t = true) {i : Nat} (hi : i < l) : gnP t i ≤ 17 ∧ mgI (t i) = nI (gnP t i) := by
  unfold rtB at h
  rw [Bool.and_eq_true, decide_eq_true_eq] at h
  have hk := rtA_ok h.2 i (by omega)
  unfold okM at hk
  rw [decide_eq_true_eq] at hk
  unfold gnP
  exact ⟨by omega, (bi_nat hk.1).1⟩
def jdI (l h d n : Nat) (f : Nat → Nat) (t : Nat → Int32) (x : Int32) : Int32 := if 0 ≤ x.toInt ∧ x.toInt ≤ 1 then (if rtB n l t = true then (if x = 0 then vdI (bkN l h d f (gnP t)) l else vdP (bkN l h d f (gnP t)) l) else -3) else -2
theorem sp_judge {x len T m ip due dep vp : Int32} (hD : 6 ≤ D) (h1 : am_ob G 23 5 = some (moL (nI n) len T m ip due dep vp)) (hm : MP G n t) (ha : MA G l h d f) (hL : LK G 0 (fun _ => 0)) (hP : ∀ vp' G', am_ob G' 23 5 = some (moL (nI n) len T m ip due dep vp') → LK G' 0 (fun _ => 0) → Fr [23, 33] G G' → P (some (.int (jdI l h d n f t x))) G') : am_CB X D 140 [.ref 23, .int x] G P := by
  obtain ⟨D, rfl⟩ : ∃ D0, D = D0 + 1 := ⟨D - 1, by omega⟩
  unfold jdI at hP
  refine B140 60 [] ?_
  simp only [J140_0, J140_1, J140_2, J140_3, J140_6, J140_9, J140_11, J140_12, J140_13, J140_16, J140_19, J140_21, J140_22, J140_23, J140_26, J140_27, J140_30, J140_31, J140_32, J140_35, J140_36, J140_39, J140_40, J140_43, am_gg_c, am_gf_c, am_pf_c, am_af_c, am_sf_c, am_bf_c, am_qf_c, am_ap_c, am_bp_c, am_qp_c, am_lf_c, am_kt_s, am_kt_n, am_wst, am_wstop, am_ns_0, am_ns_1, Bool.not_true, Bool.not_false, Bool.true_and, Bool.false_and, Nat.reduceBEq, ↓reduceIte, am_k2_n, am_k2_i, am_k2_r, am_k2_u, am_k2_f, am_k2_l, Nat.zero_le, true_and, and_true, true_or, or_true, am_cat_0, am_cat_i, am_cat_r, am_cat_l, am_cat_n, Nat.reduceLeDiff, Nat.reduceAdd, Option.isSome_some, List.getElem?_cons_zero, List.getElem?_cons_succ, am_fit_i, am_fit_r, am_fit_a, h1]
  refine sp_in (by omega) ?_
  simp only [J140_0, J140_1, J140_2, J140_3, J140_6, J140_9, J140_11, J140_12, J140_13, J140_16, J140_19, J140_21, J140_22, J140_23, J140_26, J140_27, J140_30, J140_31, J140_32, J140_35, J140_36, J140_39, J140_40, J140_43, am_gg_c, am_gf_c, am_pf_c, am_af_c, am_sf_c, am_bf_c, am_qf_c, am_ap_c, am_bp_c, am_qp_c, am_lf_c, am_kt_s, am_kt_n, am_wst, am_wstop, am_ns_0, am_ns_1, Bool.not_true, Bool.not_false, Bool.true_and, Bool.false_and, Nat.reduceBEq, ↓reduceIte, am_k2_n, am_k2_i, am_k2_r, am_k2_u, am_k2_f, am_k2_l, Nat.zero_le, true_and, and_true, true_or, or_true, am_cat_0, am_cat_i, am_cat_r, am_cat_l, am_cat_n, Nat.reduceLeDiff, Nat.reduceAdd, Option.isSome_some, List.getElem?_cons_zero, List.getElem?_cons_succ, am_fit_i, am_fit_r, am_fit_a, h1]
  rw [show (0 : Int32).toInt = 0 by rfl, show (1 : Int32).toInt = 1 by rfl]
  by_cases c : 0 ≤ x.toInt ∧ x.toInt ≤ 1
  · simp only [if_pos c] at hP
    rw [if_pos c, if_neg (by decide)]
    refine sp_isRow (by omega) hm ha ?_
    simp only [J140_0, J140_1, J140_2, J140_3, J140_6, J140_9, J140_11, J140_12, J140_13, J140_16, J140_19, J140_21, J140_22, J140_23, J140_26, J140_27, J140_30, J140_31, J140_32, J140_35, J140_36, J140_39, J140_40, J140_43, am_gg_c, am_gf_c, am_pf_c, am_af_c, am_sf_c, am_bf_c, am_qf_c, am_ap_c, am_bp_c, am_qp_c, am_lf_c, am_kt_s, am_kt_n, am_wst, am_wstop, am_ns_0, am_ns_1, Bool.not_true, Bool.not_false, Bool.true_and, Bool.false_and, Nat.reduceBEq, ↓reduceIte, am_k2_n, am_k2_i, am_k2_r, am_k2_u, am_k2_f, am_k2_l, Nat.zero_le, true_and, and_true, true_or, or_true, am_cat_0, am_cat_i, am_cat_r, am_cat_l, am_cat_n, Nat.reduceLeDiff, Nat.reduceAdd, Option.isSome_some, List.getElem?_cons_zero, List.getElem?_cons_succ, am_fit_i, am_fit_r, am_fit_a, h1]
    cases b : rtB n l t with
    | false =>
      simp only [Bool.false_eq_true, if_false, if_true]
      rw [b] at hP
      simpa using hP vp G h1 hL Fr.rf
    | true =>
      simp only [if_true, if_neg (show ¬ (1 : Int32) = 0 by decide)]
      have hnl : n = l := by
        unfold rtB at b
        rw [Bool.and_eq_true, decide_eq_true_eq] at b
        exact b.1
      refine sp_lookAtPad (by omega) hm hL (fun G1 l1 f1 => ?_)
      have k1 : am_ob G1 23 5 = some (moL (nI n) len T m ip due dep vp) := by rw [f1.ob (by decide)]; exact h1
      simp only [J140_0, J140_1, J140_2, J140_3, J140_6, J140_9, J140_11, J140_12, J140_13, J140_16, J140_19, J140_21, J140_22, J140_23, J140_26, J140_27, J140_30, J140_31, J140_32, J140_35, J140_36, J140_39, J140_40, J140_43, am_gg_c, am_gf_c, am_pf_c, am_af_c, am_sf_c, am_bf_c, am_qf_c, am_ap_c, am_bp_c, am_qp_c, am_lf_c, am_kt_s, am_kt_n, am_wst, am_wstop, am_ns_0, am_ns_1, Bool.not_true, Bool.not_false, Bool.true_and, Bool.false_and, Nat.reduceBEq, ↓reduceIte, am_k2_n, am_k2_i, am_k2_r, am_k2_u, am_k2_f, am_k2_l, Nat.zero_le, true_and, and_true, true_or, or_true, am_cat_0, am_cat_i, am_cat_r, am_cat_l, am_cat_n, Nat.reduceLeDiff, Nat.reduceAdd, Option.isSome_some, List.getElem?_cons_zero, List.getElem?_cons_succ, am_fit_i, am_fit_r, am_fit_a, k1]
      have l2 : LK G1 l (fun i => nI (gnP t i)) := by
        obtain ⟨lf, q1, q2⟩ := l1
        exact ⟨lf, q1, fun i hi => (q2 i (by omega)).trans (gnP_le b hi).2⟩
      refine sp_verdict (by omega) k1 (ha.fr f1 (by decide)) l2 (fun i hi => (gnP_le b hi).1) (fun G2 k2 f2 => ?_)
      simp only [J140_0, J140_1, J140_2, J140_3, J140_6, J140_9, J140_11, J140_12, J140_13, J140_16, J140_19, J140_21, J140_22, J140_23, J140_26, J140_27, J140_30, J140_31, J140_32, J140_35, J140_36, J140_39, J140_40, J140_43, am_gg_c, am_gf_c, am_pf_c, am_af_c, am_sf_c, am_bf_c, am_qf_c, am_ap_c, am_bp_c, am_qp_c, am_lf_c, am_kt_s, am_kt_n, am_wst, am_wstop, am_ns_0, am_ns_1, Bool.not_true, Bool.not_false, Bool.true_and, Bool.false_and, Nat.reduceBEq, ↓reduceIte, am_k2_n, am_k2_i, am_k2_r, am_k2_u, am_k2_f, am_k2_l, Nat.zero_le, true_and, and_true, true_or, or_true, am_cat_0, am_cat_i, am_cat_r, am_cat_l, am_cat_n, Nat.reduceLeDiff, Nat.reduceAdd, Option.isSome_some, List.getElem?_cons_zero, List.getElem?_cons_succ, am_fit_i, am_fit_r, am_fit_a, k2]
      rw [b] at hP
      have hh := hP _ G2 k2 ((l2.fr f2 (by decide)).z) ((f1.up (by decide)).tr (f2.up (by decide)))
      simp only [if_true] at hh
      split
      · next q => rw [if_pos q] at hh; exact hh
      · next q => rw [if_neg q] at hh; exact hh
  · simp only [if_neg c] at hP
    rw [if_neg c, if_pos rfl]
    exact hP vp G h1 hL Fr.rf
end JD
