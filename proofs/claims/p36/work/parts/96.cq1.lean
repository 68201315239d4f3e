theorem go_some {A : List (List (Nat × Nat))} {z : Int32} (hA : A.length ≤ 512) (h : inN z A.length = true) : ∃ q a, z = nI q ∧ q < A.length ∧ A[q]? = some a ∧ goA A z = some a := by
  obtain ⟨q, rfl, hq⟩ := inN_of h (by omega)
  refine ⟨q, A[q], rfl, hq, List.getElem?_eq_getElem hq, ?_⟩
  unfold goA
  rw [if_neg (nI_pos (by omega)), nI_toInt (by omega), Int.toNat_natCast]
  exact List.getElem?_eq_getElem hq
theorem go_none {A : List (List (Nat × Nat))} {z : Int32} (h : inN z A.length = false) : goA A z = none := by
  unfold goA
  unfold inN at h
  rw [decide_eq_false_iff_not] at h
  by_cases c : z < 0
  · rw [if_pos c]
  · rw [if_neg c]
    rw [bi_lt, show (0 : Int32).toInt = 0 by rfl] at c
    exact List.getElem?_eq_none (by omega)
section CQ
variable {X : Nat × (Nat → Int32)} {D : Nat} {G : am_H} {P : Option Value → am_H → Prop} {l h d : Nat} {f : Nat → Nat} {n : Nat} {t : Nat → Int32} {s : Nat → Option PT} {old : Bool}
theorem fo_ob (hf : FO G l h d f) : ∃ pr, am_ob G 3 0 = some [.ref 4, .int (nI l), .int pr, .ref 5, .ref 6, .int (nI (arrs true l h d f).length)] := by
  obtain ⟨pr, df, sf, ha, _⟩ := hf
  have := ha.1
  rw [List.length_map] at this
  exact ⟨pr, this⟩
theorem sp_ccount (hw : WF (l, h, d, f)) (hD : 16 ≤ D) (hC : CSs G l h d f n t s old) (hP : ∀ o' G', CSs G' l h d f n t s o' → Fr kC G G' → P (some (.int (nI (arrs true l h d f).length))) G') : am_CB X D 55 [.ref 0] G P := by
  obtain ⟨D, rfl⟩ : ∃ D0, D = D0 + 1 := ⟨D - 1, by omega⟩
  have o1 := hC.1
  unfold CO at o1
  refine B55 40 [] ?_
  simp only [J55_0, J55_1, J55_4, J55_7, am_gg_c, am_gf_c, am_pf_c, am_af_c, am_sf_c, am_bf_c, am_qf_c, am_ap_c, am_bp_c, am_qp_c, am_lf_c, am_kt_s, am_kt_n, am_wst, am_wstop, am_ns_0, am_ns_1, Bool.not_true, Bool.not_false, Bool.true_and, Bool.false_and, Nat.reduceBEq, ↓reduceIte, am_k2_n, am_k2_i, am_k2_r, am_k2_u, am_k2_f, am_k2_l, Nat.zero_le, true_and, and_true, true_or, or_true, am_cat_0, am_cat_i, am_cat_r, am_cat_l, am_cat_n, Nat.reduceLeDiff, Nat.reduceAdd, Option.isSome_some, List.getElem?_cons_zero, List.getElem?_cons_succ, am_fit_i, am_fit_r, am_fit_a, o1]
  refine sp_searched hw (by omega) hC (fun G1 c1 c2 c3 => ?_)
  obtain ⟨pr, p1⟩ := fo_ob c2
  simp only [J55_0, J55_1, J55_4, J55_7, am_gg_c, am_gf_c, am_pf_c, am_af_c, am_sf_c, am_bf_c, am_qf_c, am_ap_c, am_bp_c, am_qp_c, am_lf_c, am_kt_s, am_kt_n, am_wst, am_wstop, am_ns_0, am_ns_1, Bool.not_true, Bool.not_false, Bool.true_and, Bool.false_and, Nat.reduceBEq, ↓reduceIte, am_k2_n, am_k2_i, am_k2_r, am_k2_u, am_k2_f, am_k2_l, Nat.zero_le, true_and, and_true, true_or, or_true, am_cat_0, am_cat_i, am_cat_r, am_cat_l, am_cat_n, Nat.reduceLeDiff, Nat.reduceAdd, Option.isSome_some, List.getElem?_cons_zero, List.getElem?_cons_succ, am_fit_i, am_fit_r, am_fit_a, p1]
  exact hP _ G1 c1 (c3.up (by decide))
theorem sp_cat {z x : Int32} (hw : WF (l, h, d, f)) (hD : 16 ≤ D) (hC : CSs G l h d f n t s old) (hP : ∀ o' G', CSs G' l h d f n t s o' → Fr kC G G' → P (some (.int (if inN x l = true then atA (arrs true l h d f) z x.toInt.toNat else -1))) G') : am_CB X D 56 [.ref 0, .int z, .int x] G P := by
  obtain ⟨D, rfl⟩ : ∃ D0, D = D0 + 1 := ⟨D - 1, by omega⟩
  have o1 := hC.1
  unfold CO at o1
  have c2 := hC.2.1
  have p2 := c2.1
  obtain ⟨w1, w2, w3, w4, w5, w6, w7, w8⟩ := hw.o
  have w2 : l ≤ 18 := w2
  refine B56 40 [] ?_
  simp only [J56_0, J56_1, J56_4, J56_5, J56_8, J56_11, J56_12, J56_13, J56_14, J56_17, J56_18, J56_21, J56_24, J56_26, J56_27, J56_28, J56_31, J56_32, J56_33, J56_36, am_gg_c, am_gf_c, am_pf_c, am_af_c, am_sf_c, am_bf_c, am_qf_c, am_ap_c, am_bp_c, am_qp_c, am_lf_c, am_kt_s, am_kt_n, am_wst, am_wstop, am_ns_0, am_ns_1, Bool.not_true, Bool.not_false, Bool.true_and, Bool.false_and, Nat.reduceBEq, ↓reduceIte, am_k2_n, am_k2_i, am_k2_r, am_k2_u, am_k2_f, am_k2_l, Nat.zero_le, true_and, and_true, true_or, or_true, am_cat_0, am_cat_i, am_cat_r, am_cat_l, am_cat_n, Nat.reduceLeDiff, Nat.reduceAdd, Option.isSome_some, List.getElem?_cons_zero, List.getElem?_cons_succ, am_fit_i, am_fit_r, am_fit_a, o1, p2]
  refine sp_hasPosition (by omega) c2 ?_
  simp only [J56_0, J56_1, J56_4, J56_5, J56_8, J56_11, J56_12, J56_13, J56_14, J56_17, J56_18, J56_21, J56_24, J56_26, J56_27, J56_28, J56_31, J56_32, J56_33, J56_36, am_gg_c, am_gf_c, am_pf_c, am_af_c, am_sf_c, am_bf_c, am_qf_c, am_ap_c, am_bp_c, am_qp_c, am_lf_c, am_kt_s, am_kt_n, am_wst, am_wstop, am_ns_0, am_ns_1, Bool.not_true, Bool.not_false, Bool.true_and, Bool.false_and, Nat.reduceBEq, ↓reduceIte, am_k2_n, am_k2_i, am_k2_r, am_k2_u, am_k2_f, am_k2_l, Nat.zero_le, true_and, and_true, true_or, or_true, am_cat_0, am_cat_i, am_cat_r, am_cat_l, am_cat_n, Nat.reduceLeDiff, Nat.reduceAdd, Option.isSome_some, List.getElem?_cons_zero, List.getElem?_cons_succ, am_fit_i, am_fit_r, am_fit_a, o1]
  cases hb : inN x l with
  | false =>
    rw [hb] at hP
    simp only [Bool.false_eq_true, if_false, if_true]
    simpa using hP _ G hC Fr.rf
  | true =>
    rw [hb] at hP
    obtain ⟨q, rfl, hq⟩ := inN_of hb (by omega)
    rw [nI_toInt (by omega), Int.toNat_natCast] at hP
    simp only [if_true, if_neg (show ¬ (1 : Int32) = 0 by decide)]
    refine sp_searched hw (by omega) hC (fun G1 c1 c2 c3 => ?_)
    obtain ⟨pr, p1⟩ := fo_ob c2
    have o2 := c1.1
    unfold CO at o2
    simp only [J56_0, J56_1, J56_4, J56_5, J56_8, J56_11, J56_12, J56_13, J56_14, J56_17, J56_18, J56_21, J56_24, J56_26, J56_27, J56_28, J56_31, J56_32, J56_33, J56_36, am_gg_c, am_gf_c, am_pf_c, am_af_c, am_sf_c, am_bf_c, am_qf_c, am_ap_c, am_bp_c, am_qp_c, am_lf_c, am_kt_s, am_kt_n, am_wst, am_wstop, am_ns_0, am_ns_1, Bool.not_true, Bool.not_false, Bool.true_and, Bool.false_and, Nat.reduceBEq, ↓reduceIte, am_k2_n, am_k2_i, am_k2_r, am_k2_u, am_k2_f, am_k2_l, Nat.zero_le, true_and, and_true, true_or, or_true, am_cat_0, am_cat_i, am_cat_r, am_cat_l, am_cat_n, Nat.reduceLeDiff, Nat.reduceAdd, Option.isSome_some, List.getElem?_cons_zero, List.getElem?_cons_succ, am_fit_i, am_fit_r, am_fit_a, p1]
    refine sp_fhas (by omega) c2 ?_
    simp only [J56_0, J56_1, J56_4, J56_5, J56_8, J56_11, J56_12, J56_13, J56_14, J56_17, J56_18, J56_21, J56_24, J56_26, J56_27, J56_28, J56_31, J56_32, J56_33, J56_36, am_gg_c, am_gf_c, am_pf_c, am_af_c, am_sf_c, am_bf_c, am_qf_c, am_ap_c, am_bp_c, am_qp_c, am_lf_c, am_kt_s, am_kt_n, am_wst, am_wstop, am_ns_0, am_ns_1, Bool.not_true, Bool.not_false, Bool.true_and, Bool.false_and, Nat.reduceBEq, ↓reduceIte, am_k2_n, am_k2_i, am_k2_r, am_k2_u, am_k2_f, am_k2_l, Nat.zero_le, true_and, and_true, true_or, or_true, am_cat_0, am_cat_i, am_cat_r, am_cat_l, am_cat_n, Nat.reduceLeDiff, Nat.reduceAdd, Option.isSome_some, List.getElem?_cons_zero, List.getElem?_cons_succ, am_fit_i, am_fit_r, am_fit_a, o2, p1]
    have hh := hP _ G1 c1 (c3.up (by decide))
    unfold atA at hh
    cases hz : inN z (arrs true l h d f).length with
    | false =>
      rw [go_none hz] at hh
      simp only [Bool.false_eq_true, if_false, if_true]
      simpa using hh
    | true =>
      obtain ⟨k, a, rfl, hk, ha, hg⟩ := go_some (arrs_len w2 w4 w5 w8) hz
      rw [hg] at hh
      simp only [if_true, if_neg (show ¬ (1 : Int32) = 0 by decide)]
      refine sp_valueAt w2 w4 w5 w8 (by omega) (by omega) c2 ha ?_
      simp only [J56_0, J56_1, J56_4, J56_5, J56_8, J56_11, J56_12, J56_13, J56_14, J56_17, J56_18, J56_21, J56_24, J56_26, J56_27, J56_28, J56_31, J56_32, J56_33, J56_36, am_gg_c, am_gf_c, am_pf_c, am_af_c, am_sf_c, am_bf_c, am_qf_c, am_ap_c, am_bp_c, am_qp_c, am_lf_c, am_kt_s, am_kt_n, am_wst, am_wstop, am_ns_0, am_ns_1, Bool.not_true, Bool.not_false, Bool.true_and, Bool.false_and, Nat.reduceBEq, ↓reduceIte, am_k2_n, am_k2_i, am_k2_r, am_k2_u, am_k2_f, am_k2_l, Nat.zero_le, true_and, and_true, true_or, or_true, am_cat_0, am_cat_i, am_cat_r, am_cat_l, am_cat_n, Nat.reduceLeDiff, Nat.reduceAdd, Option.isSome_some, List.getElem?_cons_zero, List.getElem?_cons_succ, am_fit_i, am_fit_r, am_fit_a]
      simpa using hh
theorem own_nat {x : Int32} (h : ownB d x = true) : ∃ w, x = nI w ∧ w ≤ 17 ∧ 1 ≤ w ∧ d.testBit w = true ∧ x.toInt.toNat = w := by
  unfold ownB at h
  rw [Bool.and_eq_true, decide_eq_true_eq] at h
  obtain ⟨e, e2⟩ := bi_nat (x := x) (by omega)
  exact ⟨x.toInt.toNat, e, by omega, by omega, h.2, rfl⟩
theorem sp_cstart {z x : Int32} (hw : WF (l, h, d, f)) (hD : 16 ≤ D) (hC : CSs G l h d f n t s old) (hP : ∀ o' G', CSs G' l h d f n t s o' → Fr kC G G' → P (some (.int (if ownB d x = true then stA (arrs true l h d f) z x.toInt.toNat else -1))) G') : am_CB X D 57 [.ref 0, .int z, .int x] G P := by
  obtain ⟨D, rfl⟩ : ∃ D0, D = D0 + 1 := ⟨D - 1, by omega⟩
  have o1 := hC.1
  unfold CO at o1
  have c2 := hC.2.1
  have p2 := c2.1
  obtain ⟨w1, w2, w3, w4, w5, w6, w7, w8⟩ := hw.o
  have w2 : l ≤ 18 := w2
  refine B57 40 [] ?_
  simp only [J57_0, J57_1, J57_4, J57_5, J57_8, J57_11, J57_12, J57_13, J57_14, J57_17, J57_18, J57_21, J57_24, J57_26, J57_27, J57_28, J57_31, J57_32, J57_33, J57_36, am_gg_c, am_gf_c, am_pf_c, am_af_c, am_sf_c, am_bf_c, am_qf_c, am_ap_c, am_bp_c, am_qp_c, am_lf_c, am_kt_s, am_kt_n, am_wst, am_wstop, am_ns_0, am_ns_1, Bool.not_true, Bool.not_false, Bool.true_and, Bool.false_and, Nat.reduceBEq, ↓reduceIte, am_k2_n, am_k2_i, am_k2_r, am_k2_u, am_k2_f, am_k2_l, Nat.zero_le, true_and, and_true, true_or, or_true, am_cat_0, am_cat_i, am_cat_r, am_cat_l, am_cat_n, Nat.reduceLeDiff, Nat.reduceAdd, Option.isSome_some, List.getElem?_cons_zero, List.getElem?_cons_succ, am_fit_i, am_fit_r, am_fit_a, o1, p2]
  refine sp_hasDifference (by omega) c2 ?_
  rw [← ownB_ctn w4 w5]
  simp only [J57_0, J57_1, J57_4, J57_5, J57_8, J57_11, J57_12, J57_13, J57_14, J57_17, J57_18, J57_21, J57_24, J57_26, J57_27, J57_28, J57_31, J57_32, J57_33, J57_36, am_gg_c, am_gf_c, am_pf_c, am_af_c, am_sf_c, am_bf_c, am_qf_c, am_ap_c, am_bp_c, am_qp_c, am_lf_c, am_kt_s, am_kt_n, am_wst, am_wstop, am_ns_0, am_ns_1, Bool.not_true, Bool.not_false, Bool.true_and, Bool.false_and, Nat.reduceBEq, ↓reduceIte, am_k2_n, am_k2_i, am_k2_r, am_k2_u, am_k2_f, am_k2_l, Nat.zero_le, true_and, and_true, true_or, or_true, am_cat_0, am_cat_i, am_cat_r, am_cat_l, am_cat_n, Nat.reduceLeDiff, Nat.reduceAdd, Option.isSome_some, List.getElem?_cons_zero, List.getElem?_cons_succ, am_fit_i, am_fit_r, am_fit_a, o1]
  cases hb : ownB d x with
  | false =>
    rw [hb] at hP
    simp only [Bool.false_eq_true, if_false, if_true]
    simpa using hP _ G hC Fr.rf
  | true =>
    rw [hb] at hP
    obtain ⟨w, rfl, hw17, hw1, hdw, e⟩ := own_nat hb
    rw [e] at hP
    simp only [if_true, if_neg (show ¬ (1 : Int32) = 0 by decide)]
    refine sp_searched hw (by omega) hC (fun G1 c1 c2 c3 => ?_)
    obtain ⟨pr, p1⟩ := fo_ob c2
    have o2 := c1.1
    unfold CO at o2
    simp only [J57_0, J57_1, J57_4, J57_5, J57_8, J57_11, J57_12, J57_13, J57_14, J57_17, J57_18, J57_21, J57_24, J57_26, J57_27, J57_28, J57_31, J57_32, J57_33, J57_36, am_gg_c, am_gf_c, am_pf_c, am_af_c, am_sf_c, am_bf_c, am_qf_c, am_ap_c, am_bp_c, am_qp_c, am_lf_c, am_kt_s, am_kt_n, am_wst, am_wstop, am_ns_0, am_ns_1, Bool.not_true, Bool.not_false, Bool.true_and, Bool.false_and, Nat.reduceBEq, ↓reduceIte, am_k2_n, am_k2_i, am_k2_r, am_k2_u, am_k2_f, am_k2_l, Nat.zero_le, true_and, and_true, true_or, or_true, am_cat_0, am_cat_i, am_cat_r, am_cat_l, am_cat_n, Nat.reduceLeDiff, Nat.reduceAdd, Option.isSome_some, List.getElem?_cons_zero, List.getElem?_cons_succ, am_fit_i, am_fit_r, am_fit_a, p1]
    refine sp_fhas (by omega) c2 ?_
    simp only [J57_0, J57_1, J57_4, J57_5, J57_8, J57_11, J57_12, J57_13, J57_14, J57_17, J57_18, J57_21, J57_24, J57_26, J57_27, J57_28, J57_31, J57_32, J57_33, J57_36, am_gg_c, am_gf_c, am_pf_c, am_af_c, am_sf_c, am_bf_c, am_qf_c, am_ap_c, am_bp_c, am_qp_c, am_lf_c, am_kt_s, am_kt_n, am_wst, am_wstop, am_ns_0, am_ns_1, Bool.not_true, Bool.not_false, Bool.true_and, Bool.false_and, Nat.reduceBEq, ↓reduceIte, am_k2_n, am_k2_i, am_k2_r, am_k2_u, am_k2_f, am_k2_l, Nat.zero_le, true_and, and_true, true_or, or_true, am_cat_0, am_cat_i, am_cat_r, am_cat_l, am_cat_n, Nat.reduceLeDiff, Nat.reduceAdd, Option.isSome_some, List.getElem?_cons_zero, List.getElem?_cons_succ, am_fit_i, am_fit_r, am_fit_a, o2, p1]
    have hh := hP _ G1 c1 (c3.up (by decide))
    unfold stA at hh
    cases hz : inN z (arrs true l h d f).length with
    | false =>
      rw [go_none hz] at hh
      simp only [Bool.false_eq_true, if_false, if_true]
      simpa using hh
    | true =>
      obtain ⟨k, a, rfl, hk, ha, hg⟩ := go_some (arrs_len w2 w4 w5 w8) hz
      rw [hg] at hh
      simp only [if_true, if_neg (show ¬ (1 : Int32) = 0 by decide)]
      refine sp_startOf w2 w4 w5 w8 (by omega) c2 ha hdw ?_
      simp only [J57_0, J57_1, J57_4, J57_5, J57_8, J57_11, J57_12, J57_13, J57_14, J57_17, J57_18, J57_21, J57_24, J57_26, J57_27, J57_28, J57_31, J57_32, J57_33, J57_36, am_gg_c, am_gf_c, am_pf_c, am_af_c, am_sf_c, am_bf_c, am_qf_c, am_ap_c, am_bp_c, am_qp_c, am_lf_c, am_kt_s, am_kt_n, am_wst, am_wstop, am_ns_0, am_ns_1, Bool.not_true, Bool.not_false, Bool.true_and, Bool.false_and, Nat.reduceBEq, ↓reduceIte, am_k2_n, am_k2_i, am_k2_r, am_k2_u, am_k2_f, am_k2_l, Nat.zero_le, true_and, and_true, true_or, or_true, am_cat_0, am_cat_i, am_cat_r, am_cat_l, am_cat_n, Nat.reduceLeDiff, Nat.reduceAdd, Option.isSome_some, List.getElem?_cons_zero, List.getElem?_cons_succ, am_fit_i, am_fit_r, am_fit_a]
      simpa using hh
theorem lp_cfreq {q w : Nat} (hw : WF (l, h, d, f)) (hq : q < 18) (hw17 : w ≤ 17) (hD : 4 ≤ D) (hC : CSs G l h d f n t s old) (hf : FO G l h d f) {V : Nat} (hP : P (some (.int (nI V))) G) : ∀ (R : List (List (Nat × Nat))) (k c : Nat), (arrs true l h d f).drop k = R → k ≤ (arrs true l h d f).length → V = c + fqA R q w → am_WP X D 58 40 [some (.ref 0), some (.int (nI q)), some (.int (nI w)), some (.int (nI (arrs true l h d f).length)), some (.int (nI c)), some (.int (nI k))] [] G 0 0 P := by
  obtain ⟨w1, w2, w3, w4, w5, w6, w7, w8⟩ := hw.o
  have o1 := hC.1
  unfold CO at o1
  obtain ⟨pr, p1⟩ := fo_ob hf
  have hlen := arrs_len (ipb := true) (h := h) (f := f) w2 w4 w5 w8
  intro R
  induction R with
  | nil =>
    intro k c hk hkl hV
    have : (arrs true l h d f).length = k := by
      have := congrArg List.length hk
      simp only [List.length_drop, List.length_nil] at this
      omega
    refine am_wps 40 [66] ?_
    simp only [J58_0, J58_1, J58_4, J58_5, J58_8, J58_11, J58_12, J58_13, J58_14, J58_17, J58_18, J58_20, J58_23, J58_25, J58_26, J58_27, J58_30, J58_33, J58_34, J58_35, J58_37, J58_38, J58_40, J58_42, J58_43, J58_46, J58_47, J58_50, J58_52, J58_53, J58_56, J58_57, J58_60, J58_63, J58_66, J58_69, J58_71, am_gg_c, am_gf_c, am_pf_c, am_af_c, am_sf_c, am_bf_c, am_qf_c, am_ap_c, am_bp_c, am_qp_c, am_lf_c, am_kt_s, am_kt_n, am_wst, am_wstop, am_ns_0, am_ns_1, Bool.not_true, Bool.not_false, Bool.true_and, Bool.false_and, Nat.reduceBEq, ↓reduceIte, am_k2_n, am_k2_i, am_k2_r, am_k2_u, am_k2_f, am_k2_l, Nat.zero_le, true_and, and_true, true_or, or_true, am_cat_0, am_cat_i, am_cat_r, am_cat_l, am_cat_n, Nat.reduceLeDiff, Nat.reduceAdd, Option.isSome_some, List.getElem?_cons_zero, List.getElem?_cons_succ, am_fit_i, am_fit_r, am_fit_a]
    rw [if_neg (by rw [nI_ltI (by omega) (by omega)]; omega)]
    rw [hV] at hP
    exact hP
  | cons a R ih =>
    intro k c hk hkl hV
    have hkA : k < (arrs true l h d f).length := by
      have := congrArg List.length hk
      simp only [List.length_drop, List.length_cons] at this
      omega
    have hka : (arrs true l h d f)[k]? = some a := by
      have := congrArg (fun t => t[0]?) hk
      simpa using this
    have hlt := rwN_lt (q := q) (List.mem_of_getElem? hka)
    have hc : fqA (a :: R) q w = (if rwN a q = w then 1 else 0) + fqA R q w := by
      unfold fqA
      rw [List.filter_cons]
      by_cases c0 : rwN a q = w
      · rw [if_pos (by simpa using c0), if_pos c0, List.length_cons]; omega
      · rw [if_neg (by simpa using c0), if_neg c0]; omega
    rw [hc] at hV
    refine am_wps 40 [66] ?_
    simp only [J58_0, J58_1, J58_4, J58_5, J58_8, J58_11, J58_12, J58_13, J58_14, J58_17, J58_18, J58_20, J58_23, J58_25, J58_26, J58_27, J58_30, J58_33, J58_34, J58_35, J58_37, J58_38, J58_40, J58_42, J58_43, J58_46, J58_47, J58_50, J58_52, J58_53, J58_56, J58_57, J58_60, J58_63, J58_66, J58_69, J58_71, am_gg_c, am_gf_c, am_pf_c, am_af_c, am_sf_c, am_bf_c, am_qf_c, am_ap_c, am_bp_c, am_qp_c, am_lf_c, am_kt_s, am_kt_n, am_wst, am_wstop, am_ns_0, am_ns_1, Bool.not_true, Bool.not_false, Bool.true_and, Bool.false_and, Nat.reduceBEq, ↓reduceIte, am_k2_n, am_k2_i, am_k2_r, am_k2_u, am_k2_f, am_k2_l, Nat.zero_le, true_and, and_true, true_or, or_true, am_cat_0, am_cat_i, am_cat_r, am_cat_l, am_cat_n, Nat.reduceLeDiff, Nat.reduceAdd, Option.isSome_some, List.getElem?_cons_zero, List.getElem?_cons_succ, am_fit_i, am_fit_r, am_fit_a, o1, p1]
    rw [if_pos (by rw [nI_ltI (by omega) (by omega)]; exact hkA)]
    refine sp_valueAt w2 w4 w5 w8 hq hD hf hka ?_
    simp only [J58_0, J58_1, J58_4, J58_5, J58_8, J58_11, J58_12, J58_13, J58_14, J58_17, J58_18, J58_20, J58_23, J58_25, J58_26, J58_27, J58_30, J58_33, J58_34, J58_35, J58_37, J58_38, J58_40, J58_42, J58_43, J58_46, J58_47, J58_50, J58_52, J58_53, J58_56, J58_57, J58_60, J58_63, J58_66, J58_69, J58_71, am_gg_c, am_gf_c, am_pf_c, am_af_c, am_sf_c, am_bf_c, am_qf_c, am_ap_c, am_bp_c, am_qp_c, am_lf_c, am_kt_s, am_kt_n, am_wst, am_wstop, am_ns_0, am_ns_1, Bool.not_true, Bool.not_false, Bool.true_and, Bool.false_and, Nat.reduceBEq, ↓reduceIte, am_k2_n, am_k2_i, am_k2_r, am_k2_u, am_k2_f, am_k2_l, Nat.zero_le, true_and, and_true, true_or, or_true, am_cat_0, am_cat_i, am_cat_r, am_cat_l, am_cat_n, Nat.reduceLeDiff, Nat.reduceAdd, Option.isSome_some, List.getElem?_cons_zero, List.getElem?_cons_succ, am_fit_i, am_fit_r, am_fit_a]
    have hk2 : (arrs true l h d f).drop (k + 1) = R := by rw [← List.drop_drop, hk]; rfl
    by_cases c0 : rwN a q = w
    · rw [if_pos c0] at hV
      rw [if_pos (by rw [c0])]
      refine am_goto I58_66 ?_
      rw [nI_1, nI_1]
      exact ih (k + 1) (c + 1) hk2 (by omega) (by omega)
    · rw [if_neg c0] at hV
      rw [if_neg (fun e => c0 (bi_inj (by omega) (by omega) e))]
      refine am_goto I58_66 ?_
      rw [nI_1]
      exact ih (k + 1) c hk2 (by omega) (by omega)
theorem sp_cfreq {x y : Int32} (hw : WF (l, h, d, f)) (hD : 16 ≤ D) (hC : CSs G l h d f n t s old) (hP : ∀ o' G', CSs G' l h d f n t s o' → Fr kC G G' → P (some (.int (if inN x l = true then (if 0 ≤ y.toInt ∧ y.toInt ≤ 17 then nI (fqA (arrs true l h d f) x.toInt.toNat y.toInt.toNat) else -2) else -1))) G') : am_CB X D 58 [.ref 0, .int x, .int y] G P := by
  obtain ⟨D, rfl⟩ : ∃ D0, D = D0 + 1 := ⟨D - 1, by omega⟩
  have o1 := hC.1
  unfold CO at o1
  have c2 := hC.2.1
  have p2 := c2.1
  obtain ⟨w1, w2, w3, w4, w5, w6, w7, w8⟩ := hw.o
  have w2 : l ≤ 18 := w2
  have z0 : (0 : Int32).toInt = 0 := rfl
  have z17 : (17 : Int32).toInt = 17 := rfl
  refine B58 60 [40] ?_
  simp only [J58_0, J58_1, J58_4, J58_5, J58_8, J58_11, J58_12, J58_13, J58_14, J58_17, J58_18, J58_20, J58_23, J58_25, J58_26, J58_27, J58_30, J58_33, J58_34, J58_35, J58_37, J58_38, J58_40, J58_42, J58_43, J58_46, J58_47, J58_50, J58_52, J58_53, J58_56, J58_57, J58_60, J58_63, J58_66, J58_69, J58_71, am_gg_c, am_gf_c, am_pf_c, am_af_c, am_sf_c, am_bf_c, am_qf_c, am_ap_c, am_bp_c, am_qp_c, am_lf_c, am_kt_s, am_kt_n, am_wst, am_wstop, am_ns_0, am_ns_1, Bool.not_true, Bool.not_false, Bool.true_and, Bool.false_and, Nat.reduceBEq, ↓reduceIte, am_k2_n, am_k2_i, am_k2_r, am_k2_u, am_k2_f, am_k2_l, Nat.zero_le, true_and, and_true, true_or, or_true, am_cat_0, am_cat_i, am_cat_r, am_cat_l, am_cat_n, Nat.reduceLeDiff, Nat.reduceAdd, Option.isSome_some, List.getElem?_cons_zero, List.getElem?_cons_succ, am_fit_i, am_fit_r, am_fit_a, o1, p2]
  refine sp_hasPosition (by omega) c2 ?_
  simp only [J58_0, J58_1, J58_4, J58_5, J58_8, J58_11, J58_12, J58_13, J58_14, J58_17, J58_18, J58_20, J58_23, J58_25, J58_26, J58_27, J58_30, J58_33, J58_34, J58_35, J58_37, J58_38, J58_40, J58_42, J58_43, J58_46, J58_47, J58_50, J58_52, J58_53, J58_56, J58_57, J58_60, J58_63, J58_66, J58_69, J58_71, am_gg_c, am_gf_c, am_pf_c, am_af_c, am_sf_c, am_bf_c, am_qf_c, am_ap_c, am_bp_c, am_qp_c, am_lf_c, am_kt_s, am_kt_n, am_wst, am_wstop, am_ns_0, am_ns_1, Bool.not_true, Bool.not_false, Bool.true_and, Bool.false_and, Nat.reduceBEq, ↓reduceIte, am_k2_n, am_k2_i, am_k2_r, am_k2_u, am_k2_f, am_k2_l, Nat.zero_le, true_and, and_true, true_or, or_true, am_cat_0, am_cat_i, am_cat_r, am_cat_l, am_cat_n, Nat.reduceLeDiff, Nat.reduceAdd, Option.isSome_some, List.getElem?_cons_zero, List.getElem?_cons_succ, am_fit_i, am_fit_r, am_fit_a, o1]
  cases hb : inN x l with
  | false =>
    rw [hb] at hP
    simp only [Bool.false_eq_true, if_false, if_true]
    simpa using hP _ G hC Fr.rf
  | true =>
    rw [hb] at hP
    obtain ⟨q, rfl, hq⟩ := inN_of hb (by omega)
    rw [nI_toInt (by omega), Int.toNat_natCast] at hP
    simp only [if_true, if_neg (show ¬ (1 : Int32) = 0 by decide)] at hP ⊢
    by_cases c : 0 ≤ y.toInt ∧ y.toInt ≤ 17
    · rw [if_neg (by rw [bi_lt]; omega), if_neg (by rw [bi_lt]; omega)]
      simp only [if_pos c] at hP
      obtain ⟨e, e2⟩ := bi_nat c.1
      have hk : y.toInt.toNat ≤ 17 := by omega
      generalize y.toInt.toNat = w at *
      subst e
      refine sp_searched hw (by omega) hC (fun G1 c1 c2 c3 => ?_)
      obtain ⟨pr, p1⟩ := fo_ob c2
      simp only [J58_0, J58_1, J58_4, J58_5, J58_8, J58_11, J58_12, J58_13, J58_14, J58_17, J58_18, J58_20, J58_23, J58_25, J58_26, J58_27, J58_30, J58_33, J58_34, J58_35, J58_37, J58_38, J58_40, J58_42, J58_43, J58_46, J58_47, J58_50, J58_52, J58_53, J58_56, J58_57, J58_60, J58_63, J58_66, J58_69, J58_71, am_gg_c, am_gf_c, am_pf_c, am_af_c, am_sf_c, am_bf_c, am_qf_c, am_ap_c, am_bp_c, am_qp_c, am_lf_c, am_kt_s, am_kt_n, am_wst, am_wstop, am_ns_0, am_ns_1, Bool.not_true, Bool.not_false, Bool.true_and, Bool.false_and, Nat.reduceBEq, ↓reduceIte, am_k2_n, am_k2_i, am_k2_r, am_k2_u, am_k2_f, am_k2_l, Nat.zero_le, true_and, and_true, true_or, or_true, am_cat_0, am_cat_i, am_cat_r, am_cat_l, am_cat_n, Nat.reduceLeDiff, Nat.reduceAdd, Option.isSome_some, List.getElem?_cons_zero, List.getElem?_cons_succ, am_fit_i, am_fit_r, am_fit_a, p1]
      exact lp_cfreq hw (by omega) hk (by omega) c1 c2 (hP _ G1 c1 (c3.up (by decide))) (arrs true l h d f) 0 0 (by rw [List.drop_zero]) (by omega) (by omega)
    · simp only [if_neg c] at hP
      by_cases c3 : y.toInt < 0
      · rw [if_pos (by rw [bi_lt]; omega)]
        exact hP _ G hC Fr.rf
      · rw [if_neg (by rw [bi_lt]; omega), if_pos (by rw [bi_lt]; omega)]
        exact hP _ G hC Fr.rf
theorem and_m2 : ∀ r, r < 18 → 2 ^ r &&& 4294967294 = if r = 0 then 0 else 2 ^ r := by decide +kernel
theorem daN_op {x : Nat} : ∀ (A : List (List (Nat × Nat))) (c : Nat), (∀ a ∈ A, rwN a x < 18) → daN x A c &&& 4294967294 = opA x A (c &&& 4294967294)
  | [], c, _ => rfl
  | a :: A, c, h => by
    unfold daN opA
    rw [daN_op A _ (fun b hb => h b (List.mem_cons_of_mem _ hb)), ← and_m2 _ (h a List.mem_cons_self)]
    congr 1
    apply Nat.eq_of_testBit_eq
    intro i
    simp only [Nat.testBit_and, Nat.testBit_or]
    cases c.testBit i <;> cases (2 ^ rwN a x).testBit i <;> simp
theorem sp_diffOp {x : Nat} (hw : WF (l, h, d, f)) (hx : x < 18) (hD : 5 ≤ D) (hf : FO G l h d f) (hP : P (some (.int (nI (opA x (arrs true l h d f) 0)))) G) : am_CB X D 12 [.ref 3, .int (nI x)] G P := by
  obtain ⟨w1, w2, w3, w4, w5, w6, w7, w8⟩ := hw.o
  refine sp_diffAt w2 w4 w5 w8 hx hD hf ?_
  rw [show (-2 : Int32) = nI 4294967294 by rfl, bi_and, daN_op _ 0 (fun a ha => rwN_lt ha)]
  exact hP
theorem sp_coptions {x : Int32} (hw : WF (l, h, d, f)) (hD : 16 ≤ D) (hC : CSs G l h d f n t s old) (hP : ∀ o' G', CSs G' l h d f n t s o' → Fr kC G G' → P (some (.int (if inN x l = true then nI (opA x.toInt.toNat (arrs true l h d f) 0) else -1))) G') : am_CB X D 59 [.ref 0, .int x] G P := by
  obtain ⟨D, rfl⟩ : ∃ D0, D = D0 + 1 := ⟨D - 1, by omega⟩
  have o1 := hC.1
  unfold CO at o1
  have c2 := hC.2.1
  have p2 := c2.1
  have w2 : l ≤ 18 := hw.2.1
  refine B59 60 [] ?_
  simp only [J59_0, J59_1, J59_4, J59_5, J59_8, J59_11, J59_12, J59_13, J59_14, J59_17, J59_18, J59_21, am_gg_c, am_gf_c, am_pf_c, am_af_c, am_sf_c, am_bf_c, am_qf_c, am_ap_c, am_bp_c, am_qp_c, am_lf_c, am_kt_s, am_kt_n, am_wst, am_wstop, am_ns_0, am_ns_1, Bool.not_true, Bool.not_false, Bool.true_and, Bool.false_and, Nat.reduceBEq, ↓reduceIte, am_k2_n, am_k2_i, am_k2_r, am_k2_u, am_k2_f, am_k2_l, Nat.zero_le, true_and, and_true, true_or, or_true, am_cat_0, am_cat_i, am_cat_r, am_cat_l, am_cat_n, Nat.reduceLeDiff, Nat.reduceAdd, Option.isSome_some, List.getElem?_cons_zero, List.getElem?_cons_succ, am_fit_i, am_fit_r, am_fit_a, o1, p2]
  refine sp_hasPosition (by omega) c2 ?_
  simp only [J59_0, J59_1, J59_4, J59_5, J59_8, J59_11, J59_12, J59_13, J59_14, J59_17, J59_18, J59_21, am_gg_c, am_gf_c, am_pf_c, am_af_c, am_sf_c, am_bf_c, am_qf_c, am_ap_c, am_bp_c, am_qp_c, am_lf_c, am_kt_s, am_kt_n, am_wst, am_wstop, am_ns_0, am_ns_1, Bool.not_true, Bool.not_false, Bool.true_and, Bool.false_and, Nat.reduceBEq, ↓reduceIte, am_k2_n, am_k2_i, am_k2_r, am_k2_u, am_k2_f, am_k2_l, Nat.zero_le, true_and, and_true, true_or, or_true, am_cat_0, am_cat_i, am_cat_r, am_cat_l, am_cat_n, Nat.reduceLeDiff, Nat.reduceAdd, Option.isSome_some, List.getElem?_cons_zero, List.getElem?_cons_succ, am_fit_i, am_fit_r, am_fit_a, o1]
  cases hb : inN x l with
  | false =>
    rw [hb] at hP
    simp only [Bool.false_eq_true, if_false, if_true]
    simpa using hP _ G hC Fr.rf
  | true =>
    rw [hb] at hP
    obtain ⟨q, rfl, hq⟩ := inN_of hb (by omega)
    rw [nI_toInt (by omega), Int.toNat_natCast] at hP
    simp only [if_true, if_neg (show ¬ (1 : Int32) = 0 by decide)]
    refine sp_searched hw (by omega) hC (fun G1 c1 c2 c3 => ?_)
    obtain ⟨pr, p1⟩ := fo_ob c2
    simp only [J59_0, J59_1, J59_4, J59_5, J59_8, J59_11, J59_12, J59_13, J59_14, J59_17, J59_18, J59_21, am_gg_c, am_gf_c, am_pf_c, am_af_c, am_sf_c, am_bf_c, am_qf_c, am_ap_c, am_bp_c, am_qp_c, am_lf_c, am_kt_s, am_kt_n, am_wst, am_wstop, am_ns_0, am_ns_1, Bool.not_true, Bool.not_false, Bool.true_and, Bool.false_and, Nat.reduceBEq, ↓reduceIte, am_k2_n, am_k2_i, am_k2_r, am_k2_u, am_k2_f, am_k2_l, Nat.zero_le, true_and, and_true, true_or, or_true, am_cat_0, am_cat_i, am_cat_r, am_cat_l, am_cat_n, Nat.reduceLeDiff, Nat.reduceAdd, Option.isSome_some, List.getElem?_cons_zero, List.getElem?_cons_succ, am_fit_i, am_fit_r, am_fit_a, p1]
    refine sp_diffOp hw (by omega) (by omega) c2 ?_
    simp only [J59_0, J59_1, J59_4, J59_5, J59_8, J59_11, J59_12, J59_13, J59_14, J59_17, J59_18, J59_21, am_gg_c, am_gf_c, am_pf_c, am_af_c, am_sf_c, am_bf_c, am_qf_c, am_ap_c, am_bp_c, am_qp_c, am_lf_c, am_kt_s, am_kt_n, am_wst, am_wstop, am_ns_0, am_ns_1, Bool.not_true, Bool.not_false, Bool.true_and, Bool.false_and, Nat.reduceBEq, ↓reduceIte, am_k2_n, am_k2_i, am_k2_r, am_k2_u, am_k2_f, am_k2_l, Nat.zero_le, true_and, and_true, true_or, or_true, am_cat_0, am_cat_i, am_cat_r, am_cat_l, am_cat_n, Nat.reduceLeDiff, Nat.reduceAdd, Option.isSome_some, List.getElem?_cons_zero, List.getElem?_cons_succ, am_fit_i, am_fit_r, am_fit_a]
    simpa using hP _ G1 c1 (c3.up (by decide))
theorem opA_lt {x : Nat} : ∀ (A : List (List (Nat × Nat))) (c : Nat), (∀ a ∈ A, rwN a x < 18) → c < 2 ^ 18 → opA x A c < 2 ^ 18
  | [], c, _, h => h
  | a :: A, c, h, hc => by
    unfold opA
    refine opA_lt A _ (fun b hb => h b (List.mem_cons_of_mem _ hb)) (or_lt hc ?_)
    split
    · omega
    · exact Nat.pow_lt_pow_right (by omega) (h a List.mem_cons_self)
def fcB (A : List (List (Nat × Nat))) (p : Nat) : Bool := decide ((bl (opA p A 0)).length = 1)
theorem lp_cforced (hw : WF (l, h, d, f)) (hD : 5 ≤ D) (hC : CSs G l h d f n t s old) (hf : FO G l h d f) (hP : P (some (.int (nI (mkm (fcB (arrs true l h d f)) l)))) G) : ∀ (k i : Nat), i + k = l → am_WP X D 60 9 [some (.ref 0), some (.ref 3), some (.int (nI (mkm (fcB (arrs true l h d f)) i))), some (.int (nI i))] [] G 0 0 P := by
  obtain ⟨w1, w2, w3, w4, w5, w6, w7, w8⟩ := hw.o
  have w2 : l ≤ 18 := w2
  have o1 := hC.1
  unfold CO at o1
  have p2 := hC.2.1.1
  obtain ⟨pr, p1⟩ := fo_ob hf
  intro k
  induction k with
  | zero =>
    intro i hi
    refine am_wps 60 [41] ?_
    simp only [J60_0, J60_1, J60_4, J60_5, J60_6, J60_7, J60_8, J60_9, J60_10, J60_11, J60_14, J60_17, J60_20, J60_21, J60_22, J60_25, J60_28, J60_29, J60_32, J60_33, J60_34, J60_35, J60_36, J60_37, J60_38, J60_41, J60_44, J60_45, am_gg_c, am_gf_c, am_pf_c, am_af_c, am_sf_c, am_bf_c, am_qf_c, am_ap_c, am_bp_c, am_qp_c, am_lf_c, am_kt_s, am_kt_n, am_wst, am_wstop, am_ns_0, am_ns_1, Bool.not_true, Bool.not_false, Bool.true_and, Bool.false_and, Nat.reduceBEq, ↓reduceIte, am_k2_n, am_k2_i, am_k2_r, am_k2_u, am_k2_f, am_k2_l, Nat.zero_le, true_and, and_true, true_or, or_true, am_cat_0, am_cat_i, am_cat_r, am_cat_l, am_cat_n, Nat.reduceLeDiff, Nat.reduceAdd, Option.isSome_some, List.getElem?_cons_zero, List.getElem?_cons_succ, am_fit_i, am_fit_r, am_fit_a, o1, p2]
    rw [if_neg (by rw [nI_ltI (by omega) (by omega)]; omega), show i = l by omega]
    exact hP
  | succ k ih =>
    intro i hi
    have hlt := mkm_lt (fcB (arrs true l h d f)) i
    have hs : mkm (fcB (arrs true l h d f)) (i + 1) = mkm (fcB (arrs true l h d f)) i + (if fcB (arrs true l h d f) i = true then 2 ^ i else 0) := rfl
    have hn := ih (i + 1) (by omega)
    rw [hs] at hn
    have hop := opA_lt (x := i) (arrs true l h d f) 0 (fun a ha => rwN_lt ha) (by omega)
    have hbl := bl_le (opA i (arrs true l h d f) 0)
    have hfi : fcB (arrs true l h d f) i = decide ((bl (opA i (arrs true l h d f) 0)).length = 1) := rfl
    rw [hfi] at hn
    refine am_wps 60 [41] ?_
    simp only [J60_0, J60_1, J60_4, J60_5, J60_6, J60_7, J60_8, J60_9, J60_10, J60_11, J60_14, J60_17, J60_20, J60_21, J60_22, J60_25, J60_28, J60_29, J60_32, J60_33, J60_34, J60_35, J60_36, J60_37, J60_38, J60_41, J60_44, J60_45, am_gg_c, am_gf_c, am_pf_c, am_af_c, am_sf_c, am_bf_c, am_qf_c, am_ap_c, am_bp_c, am_qp_c, am_lf_c, am_kt_s, am_kt_n, am_wst, am_wstop, am_ns_0, am_ns_1, Bool.not_true, Bool.not_false, Bool.true_and, Bool.false_and, Nat.reduceBEq, ↓reduceIte, am_k2_n, am_k2_i, am_k2_r, am_k2_u, am_k2_f, am_k2_l, Nat.zero_le, true_and, and_true, true_or, or_true, am_cat_0, am_cat_i, am_cat_r, am_cat_l, am_cat_n, Nat.reduceLeDiff, Nat.reduceAdd, Option.isSome_some, List.getElem?_cons_zero, List.getElem?_cons_succ, am_fit_i, am_fit_r, am_fit_a, o1, p2, p1]
    rw [if_pos (by rw [nI_ltI (by omega) (by omega)]; omega)]
    refine sp_diffOp hw (by omega) hD hf ?_
    simp only [J60_0, J60_1, J60_4, J60_5, J60_6, J60_7, J60_8, J60_9, J60_10, J60_11, J60_14, J60_17, J60_20, J60_21, J60_22, J60_25, J60_28, J60_29, J60_32, J60_33, J60_34, J60_35, J60_36, J60_37, J60_38, J60_41, J60_44, J60_45, am_gg_c, am_gf_c, am_pf_c, am_af_c, am_sf_c, am_bf_c, am_qf_c, am_ap_c, am_bp_c, am_qp_c, am_lf_c, am_kt_s, am_kt_n, am_wst, am_wstop, am_ns_0, am_ns_1, Bool.not_true, Bool.not_false, Bool.true_and, Bool.false_and, Nat.reduceBEq, ↓reduceIte, am_k2_n, am_k2_i, am_k2_r, am_k2_u, am_k2_f, am_k2_l, Nat.zero_le, true_and, and_true, true_or, or_true, am_cat_0, am_cat_i, am_cat_r, am_cat_l, am_cat_n, Nat.reduceLeDiff, Nat.reduceAdd, Option.isSome_some, List.getElem?_cons_zero, List.getElem?_cons_succ, am_fit_i, am_fit_r, am_fit_a]
    refine sp_bitCount (by omega) hop ?_
    simp only [J60_0, J60_1, J60_4, J60_5, J60_6, J60_7, J60_8, J60_9, J60_10, J60_11, J60_14, J60_17, J60_20, J60_21, J60_22, J60_25, J60_28, J60_29, J60_32, J60_33, J60_34, J60_35, J60_36, J60_37, J60_38, J60_41, J60_44, J60_45, am_gg_c, am_gf_c, am_pf_c, am_af_c, am_sf_c, am_bf_c, am_qf_c, am_ap_c, am_bp_c, am_qp_c, am_lf_c, am_kt_s, am_kt_n, am_wst, am_wstop, am_ns_0, am_ns_1, Bool.not_true, Bool.not_false, Bool.true_and, Bool.false_and, Nat.reduceBEq, ↓reduceIte, am_k2_n, am_k2_i, am_k2_r, am_k2_u, am_k2_f, am_k2_l, Nat.zero_le, true_and, and_true, true_or, or_true, am_cat_0, am_cat_i, am_cat_r, am_cat_l, am_cat_n, Nat.reduceLeDiff, Nat.reduceAdd, Option.isSome_some, List.getElem?_cons_zero, List.getElem?_cons_succ, am_fit_i, am_fit_r, am_fit_a]
    by_cases c : (bl (opA i (arrs true l h d f) 0)).length = 1
    · rw [if_pos (by rw [c]; rfl)]
      refine am_goto I60_41 ?_
      rw [nI_1, bi_orbit_l hlt (by omega)]
      simpa [c] using hn
    · rw [if_neg (fun e => c (bi_inj (by omega) (by omega) (e.trans (show (1 : Int32) = nI 1 by rfl))))]
      refine am_goto I60_41 ?_
      rw [nI_1]
      simpa [c] using hn
theorem sp_cforced (hw : WF (l, h, d, f)) (hD : 16 ≤ D) (hC : CSs G l h d f n t s old) (hP : ∀ o' G', CSs G' l h d f n t s o' → Fr kC G G' → P (some (.int (nI (mkm (fcB (arrs true l h d f)) l)))) G') : am_CB X D 60 [.ref 0] G P := by
  obtain ⟨D, rfl⟩ : ∃ D0, D = D0 + 1 := ⟨D - 1, by omega⟩
  have o1 := hC.1
  unfold CO at o1
  refine B60 60 [9] ?_
  simp only [J60_0, J60_1, J60_4, J60_5, J60_6, J60_7, J60_8, J60_9, J60_10, J60_11, J60_14, J60_17, J60_20, J60_21, J60_22, J60_25, J60_28, J60_29, J60_32, J60_33, J60_34, J60_35, J60_36, J60_37, J60_38, J60_41, J60_44, J60_45, am_gg_c, am_gf_c, am_pf_c, am_af_c, am_sf_c, am_bf_c, am_qf_c, am_ap_c, am_bp_c, am_qp_c, am_lf_c, am_kt_s, am_kt_n, am_wst, am_wstop, am_ns_0, am_ns_1, Bool.not_true, Bool.not_false, Bool.true_and, Bool.false_and, Nat.reduceBEq, ↓reduceIte, am_k2_n, am_k2_i, am_k2_r, am_k2_u, am_k2_f, am_k2_l, Nat.zero_le, true_and, and_true, true_or, or_true, am_cat_0, am_cat_i, am_cat_r, am_cat_l, am_cat_n, Nat.reduceLeDiff, Nat.reduceAdd, Option.isSome_some, List.getElem?_cons_zero, List.getElem?_cons_succ, am_fit_i, am_fit_r, am_fit_a, o1]
  refine sp_searched hw (by omega) hC (fun G1 c1 c2 c3 => ?_)
  simp only [J60_0, J60_1, J60_4, J60_5, J60_6, J60_7, J60_8, J60_9, J60_10, J60_11, J60_14, J60_17, J60_20, J60_21, J60_22, J60_25, J60_28, J60_29, J60_32, J60_33, J60_34, J60_35, J60_36, J60_37, J60_38, J60_41, J60_44, J60_45, am_gg_c, am_gf_c, am_pf_c, am_af_c, am_sf_c, am_bf_c, am_qf_c, am_ap_c, am_bp_c, am_qp_c, am_lf_c, am_kt_s, am_kt_n, am_wst, am_wstop, am_ns_0, am_ns_1, Bool.not_true, Bool.not_false, Bool.true_and, Bool.false_and, Nat.reduceBEq, ↓reduceIte, am_k2_n, am_k2_i, am_k2_r, am_k2_u, am_k2_f, am_k2_l, Nat.zero_le, true_and, and_true, true_or, or_true, am_cat_0, am_cat_i, am_cat_r, am_cat_l, am_cat_n, Nat.reduceLeDiff, Nat.reduceAdd, Option.isSome_some, List.getElem?_cons_zero, List.getElem?_cons_succ, am_fit_i, am_fit_r, am_fit_a]
  exact am_WP.fg (lp_cforced hw (by omega) c1 c2 (hP _ G1 c1 (c3.up (by decide))) l 0 (by omega)) (by simp [am_le, nI_0, mkm])
theorem sp_cstartSum (hD : 5 ≤ D) (hC : CSs G l h d f n t s old) (hP : P (some (.int (ssI l h d))) G) : am_CB X D 52 [.ref 0] G P := by
  obtain ⟨D, rfl⟩ : ∃ D0, D = D0 + 1 := ⟨D - 1, by omega⟩
  have o1 := hC.1
  unfold CO at o1
  have c2 := hC.2.1
  have p2 := c2.1
  have hq2 := bsm_le d 31 0 (by omega)
  unfold ssI at hP
  refine B52 60 [] ?_
  simp only [J52_0, J52_1, J52_4, J52_7, J52_10, J52_12, J52_13, J52_14, J52_17, J52_20, J52_21, J52_22, J52_23, J52_24, J52_27, J52_29, J52_30, J52_31, J52_32, J52_33, am_gg_c, am_gf_c, am_pf_c, am_af_c, am_sf_c, am_bf_c, am_qf_c, am_ap_c, am_bp_c, am_qp_c, am_lf_c, am_kt_s, am_kt_n, am_wst, am_wstop, am_ns_0, am_ns_1, Bool.not_true, Bool.not_false, Bool.true_and, Bool.false_and, Nat.reduceBEq, ↓reduceIte, am_k2_n, am_k2_i, am_k2_r, am_k2_u, am_k2_f, am_k2_l, Nat.zero_le, true_and, and_true, true_or, or_true, am_cat_0, am_cat_i, am_cat_r, am_cat_l, am_cat_n, Nat.reduceLeDiff, Nat.reduceAdd, Option.isSome_some, List.getElem?_cons_zero, List.getElem?_cons_succ, am_fit_i, am_fit_r, am_fit_a, o1, p2]
  refine sp_isFilled (by omega) c2 ?_
  simp only [J52_0, J52_1, J52_4, J52_7, J52_10, J52_12, J52_13, J52_14, J52_17, J52_20, J52_21, J52_22, J52_23, J52_24, J52_27, J52_29, J52_30, J52_31, J52_32, J52_33, am_gg_c, am_gf_c, am_pf_c, am_af_c, am_sf_c, am_bf_c, am_qf_c, am_ap_c, am_bp_c, am_qp_c, am_lf_c, am_kt_s, am_kt_n, am_wst, am_wstop, am_ns_0, am_ns_1, Bool.not_true, Bool.not_false, Bool.true_and, Bool.false_and, Nat.reduceBEq, ↓reduceIte, am_k2_n, am_k2_i, am_k2_r, am_k2_u, am_k2_f, am_k2_l, Nat.zero_le, true_and, and_true, true_or, or_true, am_cat_0, am_cat_i, am_cat_r, am_cat_l, am_cat_n, Nat.reduceLeDiff, Nat.reduceAdd, Option.isSome_some, List.getElem?_cons_zero, List.getElem?_cons_succ, am_fit_i, am_fit_r, am_fit_a, o1, p2]
  cases c : filledB l h d with
  | false =>
    rw [c] at hP
    simp only [Bool.false_eq_true, if_false, if_true]
    simpa using hP
  | true =>
    rw [c] at hP
    simp only [if_true, if_neg (show ¬ (1 : Int32) = 0 by decide)]
    simp only [if_true] at hP
    refine sp_twice (by omega) c2 ?_
    simp only [J52_0, J52_1, J52_4, J52_7, J52_10, J52_12, J52_13, J52_14, J52_17, J52_20, J52_21, J52_22, J52_23, J52_24, J52_27, J52_29, J52_30, J52_31, J52_32, J52_33, am_gg_c, am_gf_c, am_pf_c, am_af_c, am_sf_c, am_bf_c, am_qf_c, am_ap_c, am_bp_c, am_qp_c, am_lf_c, am_kt_s, am_kt_n, am_wst, am_wstop, am_ns_0, am_ns_1, Bool.not_true, Bool.not_false, Bool.true_and, Bool.false_and, Nat.reduceBEq, ↓reduceIte, am_k2_n, am_k2_i, am_k2_r, am_k2_u, am_k2_f, am_k2_l, Nat.zero_le, true_and, and_true, true_or, or_true, am_cat_0, am_cat_i, am_cat_r, am_cat_l, am_cat_n, Nat.reduceLeDiff, Nat.reduceAdd, Option.isSome_some, List.getElem?_cons_zero, List.getElem?_cons_succ, am_fit_i, am_fit_r, am_fit_a]
    generalize bsm (frN l h) 0 31 = A at *
    generalize bsm d 0 31 = B at *
    rw [bi_sub_par (by omega)]
    by_cases c3 : (A + B) % 2 = 0
    · rw [if_pos c3] at hP
      rw [if_pos (by rw [c3]; rfl)]
      exact ⟨by decide, hP⟩
    · rw [if_neg c3] at hP
      rw [if_neg (by rw [bi_eq0 (by omega)]; exact c3)]
      exact hP
theorem sp_cslack (hD : 5 ≤ D) (hC : CSs G l h d f n t s old) (hP : P (some (.int (slI l h d))) G) : am_CB X D 53 [.ref 0] G P := by
  obtain ⟨D, rfl⟩ : ∃ D0, D = D0 + 1 := ⟨D - 1, by omega⟩
  have o1 := hC.1
  unfold CO at o1
  have c2 := hC.2.1
  have p2 := c2.1
  unfold slI at hP
  refine B53 60 [] ?_
  simp only [J53_0, J53_1, J53_4, J53_7, J53_10, J53_12, J53_13, J53_14, J53_17, J53_20, J53_23, J53_24, am_gg_c, am_gf_c, am_pf_c, am_af_c, am_sf_c, am_bf_c, am_qf_c, am_ap_c, am_bp_c, am_qp_c, am_lf_c, am_kt_s, am_kt_n, am_wst, am_wstop, am_ns_0, am_ns_1, Bool.not_true, Bool.not_false, Bool.true_and, Bool.false_and, Nat.reduceBEq, ↓reduceIte, am_k2_n, am_k2_i, am_k2_r, am_k2_u, am_k2_f, am_k2_l, Nat.zero_le, true_and, and_true, true_or, or_true, am_cat_0, am_cat_i, am_cat_r, am_cat_l, am_cat_n, Nat.reduceLeDiff, Nat.reduceAdd, Option.isSome_some, List.getElem?_cons_zero, List.getElem?_cons_succ, am_fit_i, am_fit_r, am_fit_a, o1, p2]
  refine sp_isFilled (by omega) c2 ?_
  simp only [J53_0, J53_1, J53_4, J53_7, J53_10, J53_12, J53_13, J53_14, J53_17, J53_20, J53_23, J53_24, am_gg_c, am_gf_c, am_pf_c, am_af_c, am_sf_c, am_bf_c, am_qf_c, am_ap_c, am_bp_c, am_qp_c, am_lf_c, am_kt_s, am_kt_n, am_wst, am_wstop, am_ns_0, am_ns_1, Bool.not_true, Bool.not_false, Bool.true_and, Bool.false_and, Nat.reduceBEq, ↓reduceIte, am_k2_n, am_k2_i, am_k2_r, am_k2_u, am_k2_f, am_k2_l, Nat.zero_le, true_and, and_true, true_or, or_true, am_cat_0, am_cat_i, am_cat_r, am_cat_l, am_cat_n, Nat.reduceLeDiff, Nat.reduceAdd, Option.isSome_some, List.getElem?_cons_zero, List.getElem?_cons_succ, am_fit_i, am_fit_r, am_fit_a, o1, p2]
  cases c : filledB l h d with
  | false =>
    rw [c] at hP
    simp only [Bool.false_eq_true, if_false, if_true]
    simpa using hP
  | true =>
    rw [c] at hP
    simp only [if_true, if_neg (show ¬ (1 : Int32) = 0 by decide)]
    refine sp_shortfall (by omega) c2 ?_
    simp only [J53_0, J53_1, J53_4, J53_7, J53_10, J53_12, J53_13, J53_14, J53_17, J53_20, J53_23, J53_24, am_gg_c, am_gf_c, am_pf_c, am_af_c, am_sf_c, am_bf_c, am_qf_c, am_ap_c, am_bp_c, am_qp_c, am_lf_c, am_kt_s, am_kt_n, am_wst, am_wstop, am_ns_0, am_ns_1, Bool.not_true, Bool.not_false, Bool.true_and, Bool.false_and, Nat.reduceBEq, ↓reduceIte, am_k2_n, am_k2_i, am_k2_r, am_k2_u, am_k2_f, am_k2_l, Nat.zero_le, true_and, and_true, true_or, or_true, am_cat_0, am_cat_i, am_cat_r, am_cat_l, am_cat_n, Nat.reduceLeDiff, Nat.reduceAdd, Option.isSome_some, List.getElem?_cons_zero, List.getElem?_cons_succ, am_fit_i, am_fit_r, am_fit_a]
    simpa using hP
theorem sp_cstarts {x : Int32} (hw : WF (l, h, d, f)) (hD : 6 ≤ D) (hC : CSs G l h d f n t s old) (hP : P (some (.int (if ownB d x = true then nI (mkm (sbN l h x.toInt.toNat f) l) else -1))) G) : am_CB X D 54 [.ref 0, .int x] G P := by
  obtain ⟨D, rfl⟩ : ∃ D0, D = D0 + 1 := ⟨D - 1, by omega⟩
  have o1 := hC.1
  unfold CO at o1
  have c2 := hC.2.1
  have p2 := c2.1
  obtain ⟨w1, w2, w3, w4, w5, w6, w7, w8⟩ := hw.o
  refine B54 60 [] ?_
  simp only [J54_0, J54_1, J54_4, J54_5, J54_8, J54_11, J54_12, J54_13, J54_14, J54_17, J54_18, J54_21, am_gg_c, am_gf_c, am_pf_c, am_af_c, am_sf_c, am_bf_c, am_qf_c, am_ap_c, am_bp_c, am_qp_c, am_lf_c, am_kt_s, am_kt_n, am_wst, am_wstop, am_ns_0, am_ns_1, Bool.not_true, Bool.not_false, Bool.true_and, Bool.false_and, Nat.reduceBEq, ↓reduceIte, am_k2_n, am_k2_i, am_k2_r, am_k2_u, am_k2_f, am_k2_l, Nat.zero_le, true_and, and_true, true_or, or_true, am_cat_0, am_cat_i, am_cat_r, am_cat_l, am_cat_n, Nat.reduceLeDiff, Nat.reduceAdd, Option.isSome_some, List.getElem?_cons_zero, List.getElem?_cons_succ, am_fit_i, am_fit_r, am_fit_a, o1, p2]
  refine sp_hasDifference (by omega) c2 ?_
  rw [← ownB_ctn w4 w5]
  simp only [J54_0, J54_1, J54_4, J54_5, J54_8, J54_11, J54_12, J54_13, J54_14, J54_17, J54_18, J54_21, am_gg_c, am_gf_c, am_pf_c, am_af_c, am_sf_c, am_bf_c, am_qf_c, am_ap_c, am_bp_c, am_qp_c, am_lf_c, am_kt_s, am_kt_n, am_wst, am_wstop, am_ns_0, am_ns_1, Bool.not_true, Bool.not_false, Bool.true_and, Bool.false_and, Nat.reduceBEq, ↓reduceIte, am_k2_n, am_k2_i, am_k2_r, am_k2_u, am_k2_f, am_k2_l, Nat.zero_le, true_and, and_true, true_or, or_true, am_cat_0, am_cat_i, am_cat_r, am_cat_l, am_cat_n, Nat.reduceLeDiff, Nat.reduceAdd, Option.isSome_some, List.getElem?_cons_zero, List.getElem?_cons_succ, am_fit_i, am_fit_r, am_fit_a, o1, p2]
  cases hb : ownB d x with
  | false =>
    rw [hb] at hP
    simp only [Bool.false_eq_true, if_false, if_true]
    simpa using hP
  | true =>
    rw [hb] at hP
    obtain ⟨w, rfl, hw17, hw1, hdw, e⟩ := own_nat hb
    rw [e] at hP
    simp only [if_true, if_neg (show ¬ (1 : Int32) = 0 by decide)]
    refine sp_startsOf (by omega) (by omega) c2 ?_
    simp only [J54_0, J54_1, J54_4, J54_5, J54_8, J54_11, J54_12, J54_13, J54_14, J54_17, J54_18, J54_21, am_gg_c, am_gf_c, am_pf_c, am_af_c, am_sf_c, am_bf_c, am_qf_c, am_ap_c, am_bp_c, am_qp_c, am_lf_c, am_kt_s, am_kt_n, am_wst, am_wstop, am_ns_0, am_ns_1, Bool.not_true, Bool.not_false, Bool.true_and, Bool.false_and, Nat.reduceBEq, ↓reduceIte, am_k2_n, am_k2_i, am_k2_r, am_k2_u, am_k2_f, am_k2_l, Nat.zero_le, true_and, and_true, true_or, or_true, am_cat_0, am_cat_i, am_cat_r, am_cat_l, am_cat_n, Nat.reduceLeDiff, Nat.reduceAdd, Option.isSome_some, List.getElem?_cons_zero, List.getElem?_cons_succ, am_fit_i, am_fit_r, am_fit_a]
    rw [stN_mk w2]
    simpa using hP
theorem sp_cproblem {x : Int32} (hw : WF (l, h, d, f)) (hD : 5 ≤ D) (hC : CSs G l h d f n t s old) (hP : P (some (.int (pbI l h d f n x))) G) : am_CB X D 49 [.ref 0, .int x] G P := by
  obtain ⟨D, rfl⟩ : ∃ D0, D = D0 + 1 := ⟨D - 1, by omega⟩
  have o1 := hC.1
  unfold CO at o1
  have c2 := hC.2.1
  have p2 := c2.1
  have p5 := hC.2.2.2.2.1.1
  have w2 : l ≤ 18 := hw.2.1
  unfold pbI at hP
  refine B49 60 [40, 48, 56, 64, 72, 83, 91] ?_
  simp only [J49_0, J49_1, J49_40, J49_41, J49_44, J49_47, J49_48, J49_49, J49_52, J49_55, J49_56, J49_57, J49_60, J49_63, J49_64, J49_65, J49_68, J49_71, J49_72, J49_73, J49_76, J49_79, J49_82, J49_83, J49_84, J49_87, J49_90, J49_91, J49_93, am_gg_c, am_gf_c, am_pf_c, am_af_c, am_sf_c, am_bf_c, am_qf_c, am_ap_c, am_bp_c, am_qp_c, am_lf_c, am_kt_s, am_kt_n, am_wst, am_wstop, am_ns_0, am_ns_1, Bool.not_true, Bool.not_false, Bool.true_and, Bool.false_and, Nat.reduceBEq, ↓reduceIte, am_k2_n, am_k2_i, am_k2_r, am_k2_u, am_k2_f, am_k2_l, Nat.zero_le, true_and, and_true, true_or, or_true, am_cat_0, am_cat_i, am_cat_r, am_cat_l, am_cat_n, Nat.reduceLeDiff, Nat.reduceAdd, Option.isSome_some, List.getElem?_cons_zero, List.getElem?_cons_succ, am_fit_i, am_fit_r, am_fit_a, o1]
  by_cases c0 : x = 0
  · rw [if_pos c0] at hP ⊢
    refine am_wps 60 [] ?_
    simp only [J49_0, J49_1, J49_40, J49_41, J49_44, J49_47, J49_48, J49_49, J49_52, J49_55, J49_56, J49_57, J49_60, J49_63, J49_64, J49_65, J49_68, J49_71, J49_72, J49_73, J49_76, J49_79, J49_82, J49_83, J49_84, J49_87, J49_90, J49_91, J49_93, am_gg_c, am_gf_c, am_pf_c, am_af_c, am_sf_c, am_bf_c, am_qf_c, am_ap_c, am_bp_c, am_qp_c, am_lf_c, am_kt_s, am_kt_n, am_wst, am_wstop, am_ns_0, am_ns_1, Bool.not_true, Bool.not_false, Bool.true_and, Bool.false_and, Nat.reduceBEq, ↓reduceIte, am_k2_n, am_k2_i, am_k2_r, am_k2_u, am_k2_f, am_k2_l, Nat.zero_le, true_and, and_true, true_or, or_true, am_cat_0, am_cat_i, am_cat_r, am_cat_l, am_cat_n, Nat.reduceLeDiff, Nat.reduceAdd, Option.isSome_some, List.getElem?_cons_zero, List.getElem?_cons_succ, am_fit_i, am_fit_r, am_fit_a, o1, p2]
    exact hP
  rw [if_neg c0] at hP ⊢
  by_cases c1 : x = 1
  · rw [if_pos c1] at hP ⊢
    refine am_wps 60 [] ?_
    simp only [J49_0, J49_1, J49_40, J49_41, J49_44, J49_47, J49_48, J49_49, J49_52, J49_55, J49_56, J49_57, J49_60, J49_63, J49_64, J49_65, J49_68, J49_71, J49_72, J49_73, J49_76, J49_79, J49_82, J49_83, J49_84, J49_87, J49_90, J49_91, J49_93, am_gg_c, am_gf_c, am_pf_c, am_af_c, am_sf_c, am_bf_c, am_qf_c, am_ap_c, am_bp_c, am_qp_c, am_lf_c, am_kt_s, am_kt_n, am_wst, am_wstop, am_ns_0, am_ns_1, Bool.not_true, Bool.not_false, Bool.true_and, Bool.false_and, Nat.reduceBEq, ↓reduceIte, am_k2_n, am_k2_i, am_k2_r, am_k2_u, am_k2_f, am_k2_l, Nat.zero_le, true_and, and_true, true_or, or_true, am_cat_0, am_cat_i, am_cat_r, am_cat_l, am_cat_n, Nat.reduceLeDiff, Nat.reduceAdd, Option.isSome_some, List.getElem?_cons_zero, List.getElem?_cons_succ, am_fit_i, am_fit_r, am_fit_a, o1, p2]
    exact hP
  rw [if_neg c1] at hP ⊢
  by_cases c3 : x = 2
  · rw [if_pos c3] at hP ⊢
    refine am_wps 60 [] ?_
    simp only [J49_0, J49_1, J49_40, J49_41, J49_44, J49_47, J49_48, J49_49, J49_52, J49_55, J49_56, J49_57, J49_60, J49_63, J49_64, J49_65, J49_68, J49_71, J49_72, J49_73, J49_76, J49_79, J49_82, J49_83, J49_84, J49_87, J49_90, J49_91, J49_93, am_gg_c, am_gf_c, am_pf_c, am_af_c, am_sf_c, am_bf_c, am_qf_c, am_ap_c, am_bp_c, am_qp_c, am_lf_c, am_kt_s, am_kt_n, am_wst, am_wstop, am_ns_0, am_ns_1, Bool.not_true, Bool.not_false, Bool.true_and, Bool.false_and, Nat.reduceBEq, ↓reduceIte, am_k2_n, am_k2_i, am_k2_r, am_k2_u, am_k2_f, am_k2_l, Nat.zero_le, true_and, and_true, true_or, or_true, am_cat_0, am_cat_i, am_cat_r, am_cat_l, am_cat_n, Nat.reduceLeDiff, Nat.reduceAdd, Option.isSome_some, List.getElem?_cons_zero, List.getElem?_cons_succ, am_fit_i, am_fit_r, am_fit_a, o1, p2]
    exact hP
  rw [if_neg c3] at hP ⊢
  by_cases c4 : x = 3
  · rw [if_pos c4] at hP ⊢
    refine am_wps 60 [] ?_
    simp only [J49_0, J49_1, J49_40, J49_41, J49_44, J49_47, J49_48, J49_49, J49_52, J49_55, J49_56, J49_57, J49_60, J49_63, J49_64, J49_65, J49_68, J49_71, J49_72, J49_73, J49_76, J49_79, J49_82, J49_83, J49_84, J49_87, J49_90, J49_91, J49_93, am_gg_c, am_gf_c, am_pf_c, am_af_c, am_sf_c, am_bf_c, am_qf_c, am_ap_c, am_bp_c, am_qp_c, am_lf_c, am_kt_s, am_kt_n, am_wst, am_wstop, am_ns_0, am_ns_1, Bool.not_true, Bool.not_false, Bool.true_and, Bool.false_and, Nat.reduceBEq, ↓reduceIte, am_k2_n, am_k2_i, am_k2_r, am_k2_u, am_k2_f, am_k2_l, Nat.zero_le, true_and, and_true, true_or, or_true, am_cat_0, am_cat_i, am_cat_r, am_cat_l, am_cat_n, Nat.reduceLeDiff, Nat.reduceAdd, Option.isSome_some, List.getElem?_cons_zero, List.getElem?_cons_succ, am_fit_i, am_fit_r, am_fit_a, o1, p2]
    refine sp_pinned (by omega) c2 ?_
    simp only [J49_0, J49_1, J49_40, J49_41, J49_44, J49_47, J49_48, J49_49, J49_52, J49_55, J49_56, J49_57, J49_60, J49_63, J49_64, J49_65, J49_68, J49_71, J49_72, J49_73, J49_76, J49_79, J49_82, J49_83, J49_84, J49_87, J49_90, J49_91, J49_93, am_gg_c, am_gf_c, am_pf_c, am_af_c, am_sf_c, am_bf_c, am_qf_c, am_ap_c, am_bp_c, am_qp_c, am_lf_c, am_kt_s, am_kt_n, am_wst, am_wstop, am_ns_0, am_ns_1, Bool.not_true, Bool.not_false, Bool.true_and, Bool.false_and, Nat.reduceBEq, ↓reduceIte, am_k2_n, am_k2_i, am_k2_r, am_k2_u, am_k2_f, am_k2_l, Nat.zero_le, true_and, and_true, true_or, or_true, am_cat_0, am_cat_i, am_cat_r, am_cat_l, am_cat_n, Nat.reduceLeDiff, Nat.reduceAdd, Option.isSome_some, List.getElem?_cons_zero, List.getElem?_cons_succ, am_fit_i, am_fit_r, am_fit_a]
    exact hP
  rw [if_neg c4] at hP ⊢
  by_cases c5 : x = 4
  · rw [if_pos c5] at hP ⊢
    refine am_wps 60 [] ?_
    simp only [J49_0, J49_1, J49_40, J49_41, J49_44, J49_47, J49_48, J49_49, J49_52, J49_55, J49_56, J49_57, J49_60, J49_63, J49_64, J49_65, J49_68, J49_71, J49_72, J49_73, J49_76, J49_79, J49_82, J49_83, J49_84, J49_87, J49_90, J49_91, J49_93, am_gg_c, am_gf_c, am_pf_c, am_af_c, am_sf_c, am_bf_c, am_qf_c, am_ap_c, am_bp_c, am_qp_c, am_lf_c, am_kt_s, am_kt_n, am_wst, am_wstop, am_ns_0, am_ns_1, Bool.not_true, Bool.not_false, Bool.true_and, Bool.false_and, Nat.reduceBEq, ↓reduceIte, am_k2_n, am_k2_i, am_k2_r, am_k2_u, am_k2_f, am_k2_l, Nat.zero_le, true_and, and_true, true_or, or_true, am_cat_0, am_cat_i, am_cat_r, am_cat_l, am_cat_n, Nat.reduceLeDiff, Nat.reduceAdd, Option.isSome_some, List.getElem?_cons_zero, List.getElem?_cons_succ, am_fit_i, am_fit_r, am_fit_a, o1, p2]
    refine sp_free (by omega) c2 ?_
    simp only [J49_0, J49_1, J49_40, J49_41, J49_44, J49_47, J49_48, J49_49, J49_52, J49_55, J49_56, J49_57, J49_60, J49_63, J49_64, J49_65, J49_68, J49_71, J49_72, J49_73, J49_76, J49_79, J49_82, J49_83, J49_84, J49_87, J49_90, J49_91, J49_93, am_gg_c, am_gf_c, am_pf_c, am_af_c, am_sf_c, am_bf_c, am_qf_c, am_ap_c, am_bp_c, am_qp_c, am_lf_c, am_kt_s, am_kt_n, am_wst, am_wstop, am_ns_0, am_ns_1, Bool.not_true, Bool.not_false, Bool.true_and, Bool.false_and, Nat.reduceBEq, ↓reduceIte, am_k2_n, am_k2_i, am_k2_r, am_k2_u, am_k2_f, am_k2_l, Nat.zero_le, true_and, and_true, true_or, or_true, am_cat_0, am_cat_i, am_cat_r, am_cat_l, am_cat_n, Nat.reduceLeDiff, Nat.reduceAdd, Option.isSome_some, List.getElem?_cons_zero, List.getElem?_cons_succ, am_fit_i, am_fit_r, am_fit_a]
    refine sp_bitCount (by omega) (frN_lt w2) ?_
    simp only [J49_0, J49_1, J49_40, J49_41, J49_44, J49_47, J49_48, J49_49, J49_52, J49_55, J49_56, J49_57, J49_60, J49_63, J49_64, J49_65, J49_68, J49_71, J49_72, J49_73, J49_76, J49_79, J49_82, J49_83, J49_84, J49_87, J49_90, J49_91, J49_93, am_gg_c, am_gf_c, am_pf_c, am_af_c, am_sf_c, am_bf_c, am_qf_c, am_ap_c, am_bp_c, am_qp_c, am_lf_c, am_kt_s, am_kt_n, am_wst, am_wstop, am_ns_0, am_ns_1, Bool.not_true, Bool.not_false, Bool.true_and, Bool.false_and, Nat.reduceBEq, ↓reduceIte, am_k2_n, am_k2_i, am_k2_r, am_k2_u, am_k2_f, am_k2_l, Nat.zero_le, true_and, and_true, true_or, or_true, am_cat_0, am_cat_i, am_cat_r, am_cat_l, am_cat_n, Nat.reduceLeDiff, Nat.reduceAdd, Option.isSome_some, List.getElem?_cons_zero, List.getElem?_cons_succ, am_fit_i, am_fit_r, am_fit_a]
    exact hP
  rw [if_neg c5] at hP ⊢
  by_cases c6 : x = 5
  · rw [if_pos c6] at hP ⊢
    refine am_wps 60 [] ?_
    simp only [J49_0, J49_1, J49_40, J49_41, J49_44, J49_47, J49_48, J49_49, J49_52, J49_55, J49_56, J49_57, J49_60, J49_63, J49_64, J49_65, J49_68, J49_71, J49_72, J49_73, J49_76, J49_79, J49_82, J49_83, J49_84, J49_87, J49_90, J49_91, J49_93, am_gg_c, am_gf_c, am_pf_c, am_af_c, am_sf_c, am_bf_c, am_qf_c, am_ap_c, am_bp_c, am_qp_c, am_lf_c, am_kt_s, am_kt_n, am_wst, am_wstop, am_ns_0, am_ns_1, Bool.not_true, Bool.not_false, Bool.true_and, Bool.false_and, Nat.reduceBEq, ↓reduceIte, am_k2_n, am_k2_i, am_k2_r, am_k2_u, am_k2_f, am_k2_l, Nat.zero_le, true_and, and_true, true_or, or_true, am_cat_0, am_cat_i, am_cat_r, am_cat_l, am_cat_n, Nat.reduceLeDiff, Nat.reduceAdd, Option.isSome_some, List.getElem?_cons_zero, List.getElem?_cons_succ, am_fit_i, am_fit_r, am_fit_a, o1, p5]
    exact hP
  rw [if_neg c6] at hP ⊢
  refine am_wps 60 [] ?_
  simp only [J49_0, J49_1, J49_40, J49_41, J49_44, J49_47, J49_48, J49_49, J49_52, J49_55, J49_56, J49_57, J49_60, J49_63, J49_64, J49_65, J49_68, J49_71, J49_72, J49_73, J49_76, J49_79, J49_82, J49_83, J49_84, J49_87, J49_90, J49_91, J49_93, am_gg_c, am_gf_c, am_pf_c, am_af_c, am_sf_c, am_bf_c, am_qf_c, am_ap_c, am_bp_c, am_qp_c, am_lf_c, am_kt_s, am_kt_n, am_wst, am_wstop, am_ns_0, am_ns_1, Bool.not_true, Bool.not_false, Bool.true_and, Bool.false_and, Nat.reduceBEq, ↓reduceIte, am_k2_n, am_k2_i, am_k2_r, am_k2_u, am_k2_f, am_k2_l, Nat.zero_le, true_and, and_true, true_or, or_true, am_cat_0, am_cat_i, am_cat_r, am_cat_l, am_cat_n, Nat.reduceLeDiff, Nat.reduceAdd, Option.isSome_some, List.getElem?_cons_zero, List.getElem?_cons_succ, am_fit_i, am_fit_r, am_fit_a]
  exact hP
end CQ
