theorem JN_X4_save {stops : List Nat} {X : Nat × (Nat → Int32)} {D n : Nat} {G : am_H} {c s : Nat} {P : Option Value → am_H → Prop} {o0 : Option Value} {o1 : Option Value} {t : List (Option Value)} {r : List Value} {z : Option Value} (h : am_ns stops 5 = true) : am_WPs stops X D 85 P (n + 1) 5 (o0 :: o1 :: z :: t) (.null :: r) G c s = am_WPs stops X D 85 P n 6 (o0 :: am_k2 o1 :: some (.null) :: t) r G c s := am_wgo I85_5 h
theorem JN_X4_restore {stops : List Nat} {X : Nat × (Nat → Int32)} {D n : Nat} {G : am_H} {c s : Nat} {P : Option Value → am_H → Prop} {o0 : Option Value} {o1 : Option Value} {t : List (Option Value)} {r : List Value} {z : Option Value} (h : am_ns stops 5 = true) : am_WPs stops X D 86 P (n + 1) 5 (o0 :: o1 :: z :: t) (.null :: r) G c s = am_WPs stops X D 86 P n 6 (o0 :: am_k2 o1 :: some (.null) :: t) r G c s := am_wgo I86_5 h
theorem arrs_nopin {l h d : Nat} {f : Nat → Nat} : arrs true l h d (fun _ => 0) = arrs false l h d f := by
  have hb : badP h d (fun _ => 0) l = false := by
    unfold badP
    rw [List.any_eq_false]
    intro x _
    simp
  have ho : okB true (fun _ => 0) = okB false f := by
    funext p w
    unfold okB pnB
    simp
  unfold arrs
  rw [hb, ho]
  simp
section CT
variable {X : Nat × (Nat → Int32)} {D : Nat} {G : am_H} {P : Option Value → am_H → Prop} {l h d : Nat} {f : Nat → Nat} {n : Nat} {t : Nat → Int32} {s : Nat → Option PT} {old : Bool}
theorem sp_tripleNumber {a : List (Nat × Nat)} {k0 w x : Nat} (hD : 5 ≤ D) (hw : WF (l, h, d, f)) (hC : CSs G l h d f n t s old) (hf : FO G l h d f) (hk0 : (arrs true l h d f)[k0]? = some a) (hdw : d.testBit w = true) (hx : x ≤ 2) (hP : P (some (.int (nI (trN (bl d).length a w x)))) G) : am_CB X D 83 [.ref 0, .int (nI k0), .int (nI w), .int (nI x)] G P := by
  obtain ⟨D, rfl⟩ : ∃ D0, D = D0 + 1 := ⟨D - 1, by omega⟩
  obtain ⟨w1, w2, w3, w4, w5, w6, w7, w8⟩ := hw.o
  have o1 := hC.1
  unfold CO at o1
  have q1 := hC.2.1.1
  obtain ⟨pr, f1⟩ := fo_ob hf
  unfold trN at hP
  refine B83 60 [] ?_
  simp only [J83_0, J83_1, J83_4, J83_5, J83_6, J83_7, J83_10, J83_11, J83_12, J83_15, J83_16, J83_17, J83_18, J83_21, J83_24, J83_25, J83_27, J83_28, J83_29, J83_32, J83_34, J83_37, J83_39, J83_40, J83_41, am_gg_c, am_gf_c, am_pf_c, am_af_c, am_sf_c, am_bf_c, am_qf_c, am_ap_c, am_bp_c, am_qp_c, am_lf_c, am_kt_s, am_kt_n, am_wst, am_wstop, am_ns_0, am_ns_1, Bool.not_true, Bool.not_false, Bool.true_and, Bool.false_and, Nat.reduceBEq, ↓reduceIte, am_k2_n, am_k2_i, am_k2_r, am_k2_u, am_k2_f, am_k2_l, Nat.zero_le, true_and, and_true, true_or, or_true, am_cat_0, am_cat_i, am_cat_r, am_cat_l, am_cat_n, Nat.reduceLeDiff, Nat.reduceAdd, Option.isSome_some, List.getElem?_cons_zero, List.getElem?_cons_succ, am_fit_i, am_fit_r, am_fit_a, o1, q1, f1]
  by_cases c0 : x = 0
  · rw [if_pos c0] at hP
    rw [if_pos (by rw [c0]; rfl)]
    exact hP
  · rw [if_neg c0] at hP
    rw [if_neg (by rw [bi_eq0 (by omega)]; exact c0)]
    refine sp_startOf w2 w4 w5 w8 (by omega) hf hk0 hdw ?_
    simp only [J83_0, J83_1, J83_4, J83_5, J83_6, J83_7, J83_10, J83_11, J83_12, J83_15, J83_16, J83_17, J83_18, J83_21, J83_24, J83_25, J83_27, J83_28, J83_29, J83_32, J83_34, J83_37, J83_39, J83_40, J83_41, am_gg_c, am_gf_c, am_pf_c, am_af_c, am_sf_c, am_bf_c, am_qf_c, am_ap_c, am_bp_c, am_qp_c, am_lf_c, am_kt_s, am_kt_n, am_wst, am_wstop, am_ns_0, am_ns_1, Bool.not_true, Bool.not_false, Bool.true_and, Bool.false_and, Nat.reduceBEq, ↓reduceIte, am_k2_n, am_k2_i, am_k2_r, am_k2_u, am_k2_f, am_k2_l, Nat.zero_le, true_and, and_true, true_or, or_true, am_cat_0, am_cat_i, am_cat_r, am_cat_l, am_cat_n, Nat.reduceLeDiff, Nat.reduceAdd, Option.isSome_some, List.getElem?_cons_zero, List.getElem?_cons_succ, am_fit_i, am_fit_r, am_fit_a, o1, q1]
    refine sp_pairs (by omega) hC.2.1 ?_
    simp only [J83_0, J83_1, J83_4, J83_5, J83_6, J83_7, J83_10, J83_11, J83_12, J83_15, J83_16, J83_17, J83_18, J83_21, J83_24, J83_25, J83_27, J83_28, J83_29, J83_32, J83_34, J83_37, J83_39, J83_40, J83_41, am_gg_c, am_gf_c, am_pf_c, am_af_c, am_sf_c, am_bf_c, am_qf_c, am_ap_c, am_bp_c, am_qp_c, am_lf_c, am_kt_s, am_kt_n, am_wst, am_wstop, am_ns_0, am_ns_1, Bool.not_true, Bool.not_false, Bool.true_and, Bool.false_and, Nat.reduceBEq, ↓reduceIte, am_k2_n, am_k2_i, am_k2_r, am_k2_u, am_k2_f, am_k2_l, Nat.zero_le, true_and, and_true, true_or, or_true, am_cat_0, am_cat_i, am_cat_r, am_cat_l, am_cat_n, Nat.reduceLeDiff, Nat.reduceAdd, Option.isSome_some, List.getElem?_cons_zero, List.getElem?_cons_succ, am_fit_i, am_fit_r, am_fit_a]
    rw [nI_1, nI_add]
    by_cases c1 : x = 1
    · rw [if_pos c1] at hP
      rw [if_pos (by rw [c1]; rfl)]
      exact hP
    · rw [if_neg c1] at hP
      rw [if_neg (fun e => c1 (bi_inj (by omega) (by omega) (e.trans (show (1 : Int32) = nI 1 by rfl)))), nI_add]
      exact hP
theorem sp_ctriple {z x y : Int32} (hD : 16 ≤ D) (hw : WF (l, h, d, f)) (hC : CSs G l h d f n t s old) (hP : ∀ o' G', CSs G' l h d f n t s o' → Fr kC G G' → P (some (.int (tpI (arrs true l h d f) d z x y))) G') : am_CB X D 79 [.ref 0, .int z, .int x, .int y] G P := by
  obtain ⟨D, rfl⟩ : ∃ D0, D = D0 + 1 := ⟨D - 1, by omega⟩
  obtain ⟨w1, w2, w3, w4, w5, w6, w7, w8⟩ := hw.o
  have o1 := hC.1
  unfold CO at o1
  have c2 := hC.2.1
  have p2 := c2.1
  have hlen := arrs_len (ipb := true) (h := h) (f := f) w2 w4 w5 w8
  have z2 : (2 : Int32).toInt = 2 := rfl
  have z0 : (0 : Int32).toInt = 0 := rfl
  unfold tpI at hP
  refine B79 60 [] ?_
  simp only [J79_0, J79_1, J79_4, J79_5, J79_8, J79_11, J79_12, J79_15, J79_16, J79_19, J79_22, J79_23, J79_24, J79_25, J79_28, J79_29, J79_30, J79_33, J79_35, J79_36, J79_37, J79_38, J79_39, J79_40, J79_43, am_gg_c, am_gf_c, am_pf_c, am_af_c, am_sf_c, am_bf_c, am_qf_c, am_ap_c, am_bp_c, am_qp_c, am_lf_c, am_kt_s, am_kt_n, am_wst, am_wstop, am_ns_0, am_ns_1, Bool.not_true, Bool.not_false, Bool.true_and, Bool.false_and, Nat.reduceBEq, ↓reduceIte, am_k2_n, am_k2_i, am_k2_r, am_k2_u, am_k2_f, am_k2_l, Nat.zero_le, true_and, and_true, true_or, or_true, am_cat_0, am_cat_i, am_cat_r, am_cat_l, am_cat_n, Nat.reduceLeDiff, Nat.reduceAdd, Option.isSome_some, List.getElem?_cons_zero, List.getElem?_cons_succ, am_fit_i, am_fit_r, am_fit_a, o1, p2]
  refine sp_hasDifference (by omega) c2 ?_
  rw [← ownB_ctn w4 w5]
  simp only [J79_0, J79_1, J79_4, J79_5, J79_8, J79_11, J79_12, J79_15, J79_16, J79_19, J79_22, J79_23, J79_24, J79_25, J79_28, J79_29, J79_30, J79_33, J79_35, J79_36, J79_37, J79_38, J79_39, J79_40, J79_43, am_gg_c, am_gf_c, am_pf_c, am_af_c, am_sf_c, am_bf_c, am_qf_c, am_ap_c, am_bp_c, am_qp_c, am_lf_c, am_kt_s, am_kt_n, am_wst, am_wstop, am_ns_0, am_ns_1, Bool.not_true, Bool.not_false, Bool.true_and, Bool.false_and, Nat.reduceBEq, ↓reduceIte, am_k2_n, am_k2_i, am_k2_r, am_k2_u, am_k2_f, am_k2_l, Nat.zero_le, true_and, and_true, true_or, or_true, am_cat_0, am_cat_i, am_cat_r, am_cat_l, am_cat_n, Nat.reduceLeDiff, Nat.reduceAdd, Option.isSome_some, List.getElem?_cons_zero, List.getElem?_cons_succ, am_fit_i, am_fit_r, am_fit_a, o1]
  cases hb : ownB d x with
  | false =>
    rw [hb] at hP
    simp only [Bool.false_eq_true, if_false, if_true] at hP ⊢
    exact hP _ G hC Fr.rf
  | true =>
    rw [hb] at hP
    obtain ⟨w, rfl, hw17, hw1, hdw, e⟩ := own_nat hb
    rw [e] at hP
    simp only [if_true, if_neg (show ¬ (1 : Int32) = 0 by decide)] at hP ⊢
    refine sp_searched hw (by omega) hC (fun G1 c1 c2 c3 => ?_)
    obtain ⟨pr, p1⟩ := fo_ob c2
    have o2 := c1.1
    unfold CO at o2
    have hh := hP _ G1 c1 (c3.up (by decide))
    simp only [J79_0, J79_1, J79_4, J79_5, J79_8, J79_11, J79_12, J79_15, J79_16, J79_19, J79_22, J79_23, J79_24, J79_25, J79_28, J79_29, J79_30, J79_33, J79_35, J79_36, J79_37, J79_38, J79_39, J79_40, J79_43, am_gg_c, am_gf_c, am_pf_c, am_af_c, am_sf_c, am_bf_c, am_qf_c, am_ap_c, am_bp_c, am_qp_c, am_lf_c, am_kt_s, am_kt_n, am_wst, am_wstop, am_ns_0, am_ns_1, Bool.not_true, Bool.not_false, Bool.true_and, Bool.false_and, Nat.reduceBEq, ↓reduceIte, am_k2_n, am_k2_i, am_k2_r, am_k2_u, am_k2_f, am_k2_l, Nat.zero_le, true_and, and_true, true_or, or_true, am_cat_0, am_cat_i, am_cat_r, am_cat_l, am_cat_n, Nat.reduceLeDiff, Nat.reduceAdd, Option.isSome_some, List.getElem?_cons_zero, List.getElem?_cons_succ, am_fit_i, am_fit_r, am_fit_a, p1]
    refine sp_fhas (by omega) c2 ?_
    simp only [J79_0, J79_1, J79_4, J79_5, J79_8, J79_11, J79_12, J79_15, J79_16, J79_19, J79_22, J79_23, J79_24, J79_25, J79_28, J79_29, J79_30, J79_33, J79_35, J79_36, J79_37, J79_38, J79_39, J79_40, J79_43, am_gg_c, am_gf_c, am_pf_c, am_af_c, am_sf_c, am_bf_c, am_qf_c, am_ap_c, am_bp_c, am_qp_c, am_lf_c, am_kt_s, am_kt_n, am_wst, am_wstop, am_ns_0, am_ns_1, Bool.not_true, Bool.not_false, Bool.true_and, Bool.false_and, Nat.reduceBEq, ↓reduceIte, am_k2_n, am_k2_i, am_k2_r, am_k2_u, am_k2_f, am_k2_l, Nat.zero_le, true_and, and_true, true_or, or_true, am_cat_0, am_cat_i, am_cat_r, am_cat_l, am_cat_n, Nat.reduceLeDiff, Nat.reduceAdd, Option.isSome_some, List.getElem?_cons_zero, List.getElem?_cons_succ, am_fit_i, am_fit_r, am_fit_a, o2]
    cases hz : inN z (arrs true l h d f).length with
    | false =>
      rw [go_none hz] at hh
      simp only [Bool.false_eq_true, if_false, if_true]
      exact hh
    | true =>
      obtain ⟨k, a, rfl, hk, ha, hg⟩ := go_some hlen hz
      rw [hg] at hh
      simp only [if_true, if_neg (show ¬ (1 : Int32) = 0 by decide)] at hh ⊢
      by_cases c : 0 ≤ y.toInt ∧ y.toInt ≤ 2
      · rw [if_pos c] at hh
        rw [if_neg (by rw [bi_lt]; omega), if_neg (by rw [bi_lt]; omega)]
        obtain ⟨ey, _⟩ := bi_nat c.1
        have hk2 : y.toInt.toNat ≤ 2 := by omega
        generalize y.toInt.toNat = yn at *
        subst ey
        refine sp_tripleNumber (by omega) hw c1 c2 ha hdw hk2 ?_
        simp only [J79_0, J79_1, J79_4, J79_5, J79_8, J79_11, J79_12, J79_15, J79_16, J79_19, J79_22, J79_23, J79_24, J79_25, J79_28, J79_29, J79_30, J79_33, J79_35, J79_36, J79_37, J79_38, J79_39, J79_40, J79_43, am_gg_c, am_gf_c, am_pf_c, am_af_c, am_sf_c, am_bf_c, am_qf_c, am_ap_c, am_bp_c, am_qp_c, am_lf_c, am_kt_s, am_kt_n, am_wst, am_wstop, am_ns_0, am_ns_1, Bool.not_true, Bool.not_false, Bool.true_and, Bool.false_and, Nat.reduceBEq, ↓reduceIte, am_k2_n, am_k2_i, am_k2_r, am_k2_u, am_k2_f, am_k2_l, Nat.zero_le, true_and, and_true, true_or, or_true, am_cat_0, am_cat_i, am_cat_r, am_cat_l, am_cat_n, Nat.reduceLeDiff, Nat.reduceAdd, Option.isSome_some, List.getElem?_cons_zero, List.getElem?_cons_succ, am_fit_i, am_fit_r, am_fit_a]
        exact hh
      · rw [if_neg c] at hh
        by_cases c4 : y.toInt < 0
        · rw [if_pos (by rw [bi_lt]; omega)]
          exact hh
        · rw [if_neg (by rw [bi_lt]; omega), if_pos (by rw [bi_lt]; omega)]
          exact hh
theorem lp_ccvIn {a : List (Nat × Nat)} {k0 w : Nat} {R : List Nat} {V : Nat} (hD : 5 ≤ D) (hw : WF (l, h, d, f)) (hC : CSs G l h d f n t s old) (hf : FO G l h d f) (hk0 : (arrs true l h d f)[k0]? = some a) (hdw : d.testBit w = true) (hlt : ∀ x, trN (bl d).length a w x < 31) (hP : P (some (.int (nI V))) G)
    (hK : ∀ sn g, sn < 2 ^ 31 → g < 31 → V = cvF R sn g → am_WP X D 80 93 [some (.ref 0), some (.int (nI k0)), some (.int (nI sn)), some (.int (nI g)), some (.int (nI w)), none, none] [] G 0 0 P) :
    ∀ (k j : Nat) (sn g : Nat), j + k = 3 → sn < 2 ^ 31 → g < 31 → V = cvF (cvT (bl d).length a w j ++ R) sn g → am_WP X D 80 45 [some (.ref 0), some (.int (nI k0)), some (.int (nI sn)), some (.int (nI g)), some (.int (nI w)), some (.int (nI j)), none] [] G 0 0 P := by
  have o1 := hC.1
  unfold CO at o1
  intro k
  induction k with
  | zero =>
    intro j sn g hj hs hg hV
    refine am_wps 60 [90, 93] ?_
    simp only [J80_0, J80_1, J80_4, J80_5, J80_8, J80_11, J80_12, J80_13, J80_14, J80_15, J80_16, J80_17, J80_18, J80_20, J80_22, J80_24, J80_27, J80_28, J80_31, J80_33, J80_36, J80_39, J80_42, J80_43, J80_45, J80_47, J80_48, J80_51, J80_52, J80_53, J80_55, J80_57, J80_60, J80_62, J80_63, J80_65, J80_68, J80_71, J80_72, J80_73, J80_74, J80_75, J80_77, J80_78, J80_79, J80_80, J80_81, J80_83, J80_86, J80_87, J80_90, J80_93, J80_96, J80_99, J80_100, am_gg_c, am_gf_c, am_pf_c, am_af_c, am_sf_c, am_bf_c, am_qf_c, am_ap_c, am_bp_c, am_qp_c, am_lf_c, am_kt_s, am_kt_n, am_wst, am_wstop, am_ns_0, am_ns_1, Bool.not_true, Bool.not_false, Bool.true_and, Bool.false_and, Nat.reduceBEq, ↓reduceIte, am_k2_n, am_k2_i, am_k2_r, am_k2_u, am_k2_f, am_k2_l, Nat.zero_le, true_and, and_true, true_or, or_true, am_cat_0, am_cat_i, am_cat_r, am_cat_l, am_cat_n, Nat.reduceLeDiff, Nat.reduceAdd, Option.isSome_some, List.getElem?_cons_zero, List.getElem?_cons_succ, am_fit_i, am_fit_r, am_fit_a]
    rw [if_pos (by rw [show j = 3 by omega]; decide)]
    refine am_WP.fg (hK sn g hs hg ?_) (by simp [am_le])
    rw [show j = 3 by omega] at hV
    exact hV
  | succ k ih =>
    intro j sn g hj hs hg hV
    have hv := hlt j
    rw [cvT_s (by omega), List.cons_append] at hV
    have hs2 : cvF (trN (bl d).length a w j :: (cvT (bl d).length a w (j + 1) ++ R)) sn g = if sn.testBit (trN (bl d).length a w j) = true then 0 else cvF (cvT (bl d).length a w (j + 1) ++ R) (sn ||| 2 ^ trN (bl d).length a w j) (if g < trN (bl d).length a w j then trN (bl d).length a w j else g) := rfl
    rw [hs2] at hV
    refine am_wps 60 [90, 93] ?_
    simp only [J80_0, J80_1, J80_4, J80_5, J80_8, J80_11, J80_12, J80_13, J80_14, J80_15, J80_16, J80_17, J80_18, J80_20, J80_22, J80_24, J80_27, J80_28, J80_31, J80_33, J80_36, J80_39, J80_42, J80_43, J80_45, J80_47, J80_48, J80_51, J80_52, J80_53, J80_55, J80_57, J80_60, J80_62, J80_63, J80_65, J80_68, J80_71, J80_72, J80_73, J80_74, J80_75, J80_77, J80_78, J80_79, J80_80, J80_81, J80_83, J80_86, J80_87, J80_90, J80_93, J80_96, J80_99, J80_100, am_gg_c, am_gf_c, am_pf_c, am_af_c, am_sf_c, am_bf_c, am_qf_c, am_ap_c, am_bp_c, am_qp_c, am_lf_c, am_kt_s, am_kt_n, am_wst, am_wstop, am_ns_0, am_ns_1, Bool.not_true, Bool.not_false, Bool.true_and, Bool.false_and, Nat.reduceBEq, ↓reduceIte, am_k2_n, am_k2_i, am_k2_r, am_k2_u, am_k2_f, am_k2_l, Nat.zero_le, true_and, and_true, true_or, or_true, am_cat_0, am_cat_i, am_cat_r, am_cat_l, am_cat_n, Nat.reduceLeDiff, Nat.reduceAdd, Option.isSome_some, List.getElem?_cons_zero, List.getElem?_cons_succ, am_fit_i, am_fit_r, am_fit_a, o1]
    rw [if_neg (by rw [show (2 : Int32) = nI 2 by rfl, nI_ltI (by omega) (by omega)]; omega)]
    refine sp_tripleNumber hD hw hC hf hk0 hdw (by omega) ?_
    simp only [J80_0, J80_1, J80_4, J80_5, J80_8, J80_11, J80_12, J80_13, J80_14, J80_15, J80_16, J80_17, J80_18, J80_20, J80_22, J80_24, J80_27, J80_28, J80_31, J80_33, J80_36, J80_39, J80_42, J80_43, J80_45, J80_47, J80_48, J80_51, J80_52, J80_53, J80_55, J80_57, J80_60, J80_62, J80_63, J80_65, J80_68, J80_71, J80_72, J80_73, J80_74, J80_75, J80_77, J80_78, J80_79, J80_80, J80_81, J80_83, J80_86, J80_87, J80_90, J80_93, J80_96, J80_99, J80_100, am_gg_c, am_gf_c, am_pf_c, am_af_c, am_sf_c, am_bf_c, am_qf_c, am_ap_c, am_bp_c, am_qp_c, am_lf_c, am_kt_s, am_kt_n, am_wst, am_wstop, am_ns_0, am_ns_1, Bool.not_true, Bool.not_false, Bool.true_and, Bool.false_and, Nat.reduceBEq, ↓reduceIte, am_k2_n, am_k2_i, am_k2_r, am_k2_u, am_k2_f, am_k2_l, Nat.zero_le, true_and, and_true, true_or, or_true, am_cat_0, am_cat_i, am_cat_r, am_cat_l, am_cat_n, Nat.reduceLeDiff, Nat.reduceAdd, Option.isSome_some, List.getElem?_cons_zero, List.getElem?_cons_succ, am_fit_i, am_fit_r, am_fit_a]
    generalize trN (bl d).length a w j = v at *
    refine sp_contains (by omega) hs ?_
    rw [show ctn sn (nI v) = sn.testBit v from ctn_n hs (by omega)]
    simp only [J80_0, J80_1, J80_4, J80_5, J80_8, J80_11, J80_12, J80_13, J80_14, J80_15, J80_16, J80_17, J80_18, J80_20, J80_22, J80_24, J80_27, J80_28, J80_31, J80_33, J80_36, J80_39, J80_42, J80_43, J80_45, J80_47, J80_48, J80_51, J80_52, J80_53, J80_55, J80_57, J80_60, J80_62, J80_63, J80_65, J80_68, J80_71, J80_72, J80_73, J80_74, J80_75, J80_77, J80_78, J80_79, J80_80, J80_81, J80_83, J80_86, J80_87, J80_90, J80_93, J80_96, J80_99, J80_100, am_gg_c, am_gf_c, am_pf_c, am_af_c, am_sf_c, am_bf_c, am_qf_c, am_ap_c, am_bp_c, am_qp_c, am_lf_c, am_kt_s, am_kt_n, am_wst, am_wstop, am_ns_0, am_ns_1, Bool.not_true, Bool.not_false, Bool.true_and, Bool.false_and, Nat.reduceBEq, ↓reduceIte, am_k2_n, am_k2_i, am_k2_r, am_k2_u, am_k2_f, am_k2_l, Nat.zero_le, true_and, and_true, true_or, or_true, am_cat_0, am_cat_i, am_cat_r, am_cat_l, am_cat_n, Nat.reduceLeDiff, Nat.reduceAdd, Option.isSome_some, List.getElem?_cons_zero, List.getElem?_cons_succ, am_fit_i, am_fit_r, am_fit_a]
    cases c : sn.testBit v with
    | true =>
      rw [c, if_pos rfl] at hV
      simp only [if_true, if_neg (show ¬ (1 : Int32) = 0 by decide)]
      rw [hV] at hP
      exact hP
    | false =>
      rw [c, if_neg (by decide)] at hV
      simp only [Bool.false_eq_true, if_false, if_true]
      have hs3 : sn ||| 2 ^ v < 2 ^ 31 := or_lt hs (Nat.pow_lt_pow_right (by omega) (by omega))
      have e1 : nI sn ||| (1 : Int32) <<< (nI v &&& 31) = nI (sn ||| 2 ^ v) := by
        rw [show (1 : Int32) = nI 1 by rfl, bi_shl (by omega), Nat.one_mul, bi_or]
      have e2 : (if nI g < nI v then nI v else nI g) = nI (if g < v then v else g) := by
        by_cases c2 : g < v
        · rw [if_pos c2, if_pos (by rw [nI_ltI (by omega) (by omega)]; exact c2)]
        · rw [if_neg c2, if_neg (by rw [nI_ltI (by omega) (by omega)]; exact c2)]
      rw [e1, e2]
      refine ⟨by omega, am_goto I80_90 ?_⟩
      rw [nI_1]
      exact am_WP.fg (ih (j + 1) _ _ (by omega) hs3 (by split <;> omega) hV) (by simp [am_le])
theorem lp_ccover {a : List (Nat × Nat)} {k0 : Nat} {V : Nat} (hD : 5 ≤ D) (hw : WF (l, h, d, f)) (hC : CSs G l h d f n t s old) (hf : FO G l h d f) (hk0 : (arrs true l h d f)[k0]? = some a) (hlt : ∀ w, d.testBit w = true → ∀ x, trN (bl d).length a w x < 31) (hP : P (some (.int (nI V))) G) :
    ∀ (k i : Nat) (sn g : Nat), i + k = 18 → sn < 2 ^ 31 → g < 31 → V = cvF (cvL d a k i) sn g → am_WP X D 80 20 [some (.ref 0), some (.int (nI k0)), some (.int (nI sn)), some (.int (nI g)), some (.int (nI i)), none, none] [] G 0 0 P := by
  have o1 := hC.1
  unfold CO at o1
  have c2 := hC.2.1
  have p2 := c2.1
  have w4 := hw.o.2.2.2.1
  intro k
  induction k with
  | zero =>
    intro i sn g hi hs hg hV
    refine am_wps 60 [39, 45, 93, 96] ?_
    simp only [J80_0, J80_1, J80_4, J80_5, J80_8, J80_11, J80_12, J80_13, J80_14, J80_15, J80_16, J80_17, J80_18, J80_20, J80_22, J80_24, J80_27, J80_28, J80_31, J80_33, J80_36, J80_39, J80_42, J80_43, J80_45, J80_47, J80_48, J80_51, J80_52, J80_53, J80_55, J80_57, J80_60, J80_62, J80_63, J80_65, J80_68, J80_71, J80_72, J80_73, J80_74, J80_75, J80_77, J80_78, J80_79, J80_80, J80_81, J80_83, J80_86, J80_87, J80_90, J80_93, J80_96, J80_99, J80_100, am_gg_c, am_gf_c, am_pf_c, am_af_c, am_sf_c, am_bf_c, am_qf_c, am_ap_c, am_bp_c, am_qp_c, am_lf_c, am_kt_s, am_kt_n, am_wst, am_wstop, am_ns_0, am_ns_1, Bool.not_true, Bool.not_false, Bool.true_and, Bool.false_and, Nat.reduceBEq, ↓reduceIte, am_k2_n, am_k2_i, am_k2_r, am_k2_u, am_k2_f, am_k2_l, Nat.zero_le, true_and, and_true, true_or, or_true, am_cat_0, am_cat_i, am_cat_r, am_cat_l, am_cat_n, Nat.reduceLeDiff, Nat.reduceAdd, Option.isSome_some, List.getElem?_cons_zero, List.getElem?_cons_succ, am_fit_i, am_fit_r, am_fit_a]
    rw [if_pos (by rw [show i = 18 by omega]; decide)]
    rw [hV] at hP
    exact hP
  | succ k ih =>
    intro i sn g hi hs hg hV
    have hs2 : cvL d a (k + 1) i = (if d.testBit i = true then cvT (bl d).length a i 0 else []) ++ cvL d a k (i + 1) := rfl
    rw [hs2] at hV
    have tail : ∀ sn g, sn < 2 ^ 31 → g < 31 → V = cvF (cvL d a k (i + 1)) sn g → am_WP X D 80 93 [some (.ref 0), some (.int (nI k0)), some (.int (nI sn)), some (.int (nI g)), some (.int (nI i)), none, none] [] G 0 0 P := by
      intro sn g hs hg hV
      refine am_wps 60 [96] ?_
      simp only [J80_0, J80_1, J80_4, J80_5, J80_8, J80_11, J80_12, J80_13, J80_14, J80_15, J80_16, J80_17, J80_18, J80_20, J80_22, J80_24, J80_27, J80_28, J80_31, J80_33, J80_36, J80_39, J80_42, J80_43, J80_45, J80_47, J80_48, J80_51, J80_52, J80_53, J80_55, J80_57, J80_60, J80_62, J80_63, J80_65, J80_68, J80_71, J80_72, J80_73, J80_74, J80_75, J80_77, J80_78, J80_79, J80_80, J80_81, J80_83, J80_86, J80_87, J80_90, J80_93, J80_96, J80_99, J80_100, am_gg_c, am_gf_c, am_pf_c, am_af_c, am_sf_c, am_bf_c, am_qf_c, am_ap_c, am_bp_c, am_qp_c, am_lf_c, am_kt_s, am_kt_n, am_wst, am_wstop, am_ns_0, am_ns_1, Bool.not_true, Bool.not_false, Bool.true_and, Bool.false_and, Nat.reduceBEq, ↓reduceIte, am_k2_n, am_k2_i, am_k2_r, am_k2_u, am_k2_f, am_k2_l, Nat.zero_le, true_and, and_true, true_or, or_true, am_cat_0, am_cat_i, am_cat_r, am_cat_l, am_cat_n, Nat.reduceLeDiff, Nat.reduceAdd, Option.isSome_some, List.getElem?_cons_zero, List.getElem?_cons_succ, am_fit_i, am_fit_r, am_fit_a]
      refine am_goto I80_96 ?_
      rw [nI_1]
      exact ih (i + 1) sn g (by omega) hs hg hV
    refine am_wps 60 [39, 45, 93, 96] ?_
    simp only [J80_0, J80_1, J80_4, J80_5, J80_8, J80_11, J80_12, J80_13, J80_14, J80_15, J80_16, J80_17, J80_18, J80_20, J80_22, J80_24, J80_27, J80_28, J80_31, J80_33, J80_36, J80_39, J80_42, J80_43, J80_45, J80_47, J80_48, J80_51, J80_52, J80_53, J80_55, J80_57, J80_60, J80_62, J80_63, J80_65, J80_68, J80_71, J80_72, J80_73, J80_74, J80_75, J80_77, J80_78, J80_79, J80_80, J80_81, J80_83, J80_86, J80_87, J80_90, J80_93, J80_96, J80_99, J80_100, am_gg_c, am_gf_c, am_pf_c, am_af_c, am_sf_c, am_bf_c, am_qf_c, am_ap_c, am_bp_c, am_qp_c, am_lf_c, am_kt_s, am_kt_n, am_wst, am_wstop, am_ns_0, am_ns_1, Bool.not_true, Bool.not_false, Bool.true_and, Bool.false_and, Nat.reduceBEq, ↓reduceIte, am_k2_n, am_k2_i, am_k2_r, am_k2_u, am_k2_f, am_k2_l, Nat.zero_le, true_and, and_true, true_or, or_true, am_cat_0, am_cat_i, am_cat_r, am_cat_l, am_cat_n, Nat.reduceLeDiff, Nat.reduceAdd, Option.isSome_some, List.getElem?_cons_zero, List.getElem?_cons_succ, am_fit_i, am_fit_r, am_fit_a, o1, p2]
    rw [if_neg (by rw [show (17 : Int32) = nI 17 by rfl, nI_ltI (by omega) (by omega)]; omega)]
    refine sp_hasDifference (by omega) c2 ?_
    rw [show ctn d (nI i) = d.testBit i from ctn_n (by omega) (by omega)]
    simp only [J80_0, J80_1, J80_4, J80_5, J80_8, J80_11, J80_12, J80_13, J80_14, J80_15, J80_16, J80_17, J80_18, J80_20, J80_22, J80_24, J80_27, J80_28, J80_31, J80_33, J80_36, J80_39, J80_42, J80_43, J80_45, J80_47, J80_48, J80_51, J80_52, J80_53, J80_55, J80_57, J80_60, J80_62, J80_63, J80_65, J80_68, J80_71, J80_72, J80_73, J80_74, J80_75, J80_77, J80_78, J80_79, J80_80, J80_81, J80_83, J80_86, J80_87, J80_90, J80_93, J80_96, J80_99, J80_100, am_gg_c, am_gf_c, am_pf_c, am_af_c, am_sf_c, am_bf_c, am_qf_c, am_ap_c, am_bp_c, am_qp_c, am_lf_c, am_kt_s, am_kt_n, am_wst, am_wstop, am_ns_0, am_ns_1, Bool.not_true, Bool.not_false, Bool.true_and, Bool.false_and, Nat.reduceBEq, ↓reduceIte, am_k2_n, am_k2_i, am_k2_r, am_k2_u, am_k2_f, am_k2_l, Nat.zero_le, true_and, and_true, true_or, or_true, am_cat_0, am_cat_i, am_cat_r, am_cat_l, am_cat_n, Nat.reduceLeDiff, Nat.reduceAdd, Option.isSome_some, List.getElem?_cons_zero, List.getElem?_cons_succ, am_fit_i, am_fit_r, am_fit_a]
    cases cb : d.testBit i with
    | true =>
      rw [cb, if_pos rfl] at hV
      simp only [if_true, if_neg (show ¬ (1 : Int32) = 0 by decide)]
      exact am_WP.fg (lp_ccvIn hD hw hC hf hk0 cb (hlt i cb) hP tail 3 0 sn g rfl hs hg hV) (by simp [am_le, nI_0])
    | false =>
      rw [cb, if_neg (by decide), List.nil_append] at hV
      simp only [Bool.false_eq_true, if_false, if_true]
      exact am_goto I80_39 (am_WP.fg (tail sn g hs hg hV) (by simp [am_le]))
theorem sp_ccover {z : Int32} (hD : 16 ≤ D) (hw : WF (l, h, d, f)) (hC : CSs G l h d f n t s old) (hP : ∀ o' G', CSs G' l h d f n t s o' → Fr kC G G' → P (some (.int (cvI (arrs true l h d f) d z))) G') : am_CB X D 80 [.ref 0, .int z] G P := by
  obtain ⟨D, rfl⟩ : ∃ D0, D = D0 + 1 := ⟨D - 1, by omega⟩
  obtain ⟨w1, w2, w3, w4, w5, w6, w7, w8⟩ := hw.o
  have o1 := hC.1
  unfold CO at o1
  have hlen := arrs_len (ipb := true) (h := h) (f := f) w2 w4 w5 w8
  unfold cvI at hP
  refine B80 60 [20] ?_
  simp only [J80_0, J80_1, J80_4, J80_5, J80_8, J80_11, J80_12, J80_13, J80_14, J80_15, J80_16, J80_17, J80_18, J80_20, J80_22, J80_24, J80_27, J80_28, J80_31, J80_33, J80_36, J80_39, J80_42, J80_43, J80_45, J80_47, J80_48, J80_51, J80_52, J80_53, J80_55, J80_57, J80_60, J80_62, J80_63, J80_65, J80_68, J80_71, J80_72, J80_73, J80_74, J80_75, J80_77, J80_78, J80_79, J80_80, J80_81, J80_83, J80_86, J80_87, J80_90, J80_93, J80_96, J80_99, J80_100, am_gg_c, am_gf_c, am_pf_c, am_af_c, am_sf_c, am_bf_c, am_qf_c, am_ap_c, am_bp_c, am_qp_c, am_lf_c, am_kt_s, am_kt_n, am_wst, am_wstop, am_ns_0, am_ns_1, Bool.not_true, Bool.not_false, Bool.true_and, Bool.false_and, Nat.reduceBEq, ↓reduceIte, am_k2_n, am_k2_i, am_k2_r, am_k2_u, am_k2_f, am_k2_l, Nat.zero_le, true_and, and_true, true_or, or_true, am_cat_0, am_cat_i, am_cat_r, am_cat_l, am_cat_n, Nat.reduceLeDiff, Nat.reduceAdd, Option.isSome_some, List.getElem?_cons_zero, List.getElem?_cons_succ, am_fit_i, am_fit_r, am_fit_a, o1]
  refine sp_searched hw (by omega) hC (fun G1 c1 c2 c3 => ?_)
  obtain ⟨pr, p1⟩ := fo_ob c2
  have hh := hP _ G1 c1 (c3.up (by decide))
  simp only [J80_0, J80_1, J80_4, J80_5, J80_8, J80_11, J80_12, J80_13, J80_14, J80_15, J80_16, J80_17, J80_18, J80_20, J80_22, J80_24, J80_27, J80_28, J80_31, J80_33, J80_36, J80_39, J80_42, J80_43, J80_45, J80_47, J80_48, J80_51, J80_52, J80_53, J80_55, J80_57, J80_60, J80_62, J80_63, J80_65, J80_68, J80_71, J80_72, J80_73, J80_74, J80_75, J80_77, J80_78, J80_79, J80_80, J80_81, J80_83, J80_86, J80_87, J80_90, J80_93, J80_96, J80_99, J80_100, am_gg_c, am_gf_c, am_pf_c, am_af_c, am_sf_c, am_bf_c, am_qf_c, am_ap_c, am_bp_c, am_qp_c, am_lf_c, am_kt_s, am_kt_n, am_wst, am_wstop, am_ns_0, am_ns_1, Bool.not_true, Bool.not_false, Bool.true_and, Bool.false_and, Nat.reduceBEq, ↓reduceIte, am_k2_n, am_k2_i, am_k2_r, am_k2_u, am_k2_f, am_k2_l, Nat.zero_le, true_and, and_true, true_or, or_true, am_cat_0, am_cat_i, am_cat_r, am_cat_l, am_cat_n, Nat.reduceLeDiff, Nat.reduceAdd, Option.isSome_some, List.getElem?_cons_zero, List.getElem?_cons_succ, am_fit_i, am_fit_r, am_fit_a, p1]
  refine sp_fhas (by omega) c2 ?_
  simp only [J80_0, J80_1, J80_4, J80_5, J80_8, J80_11, J80_12, J80_13, J80_14, J80_15, J80_16, J80_17, J80_18, J80_20, J80_22, J80_24, J80_27, J80_28, J80_31, J80_33, J80_36, J80_39, J80_42, J80_43, J80_45, J80_47, J80_48, J80_51, J80_52, J80_53, J80_55, J80_57, J80_60, J80_62, J80_63, J80_65, J80_68, J80_71, J80_72, J80_73, J80_74, J80_75, J80_77, J80_78, J80_79, J80_80, J80_81, J80_83, J80_86, J80_87, J80_90, J80_93, J80_96, J80_99, J80_100, am_gg_c, am_gf_c, am_pf_c, am_af_c, am_sf_c, am_bf_c, am_qf_c, am_ap_c, am_bp_c, am_qp_c, am_lf_c, am_kt_s, am_kt_n, am_wst, am_wstop, am_ns_0, am_ns_1, Bool.not_true, Bool.not_false, Bool.true_and, Bool.false_and, Nat.reduceBEq, ↓reduceIte, am_k2_n, am_k2_i, am_k2_r, am_k2_u, am_k2_f, am_k2_l, Nat.zero_le, true_and, and_true, true_or, or_true, am_cat_0, am_cat_i, am_cat_r, am_cat_l, am_cat_n, Nat.reduceLeDiff, Nat.reduceAdd, Option.isSome_some, List.getElem?_cons_zero, List.getElem?_cons_succ, am_fit_i, am_fit_r, am_fit_a]
  cases hz : inN z (arrs true l h d f).length with
  | false =>
    rw [go_none hz] at hh
    simp only [Bool.false_eq_true, if_false, if_true]
    exact hh
  | true =>
    obtain ⟨k, a, rfl, hk, ha, hg⟩ := go_some hlen hz
    rw [hg] at hh
    simp only [if_true, if_neg (show ¬ (1 : Int32) = 0 by decide)] at hh ⊢
    have hlt : ∀ w, d.testBit w = true → ∀ x, trN (bl d).length a w x < 31 := fun w hw x => by
      obtain ⟨_, _, _, _, _, q⟩ := arrs_wit w2 w5 (List.mem_of_getElem? ha) (bgN_mem w4 (List.mem_of_getElem? ha) hw)
      unfold trN
      split
      · omega
      · split <;> omega
    exact am_WP.fg (lp_ccover (by omega) hw c1 c2 ha hlt hh 17 1 0 0 rfl (by omega) (by omega) rfl) (by simp [am_le, nI_0]; rfl)
theorem cs_solv {G' : am_H} (hC : CSs G l h d f n t s old) (hF : Fr [12, 13, 14, 15, 16, 17] G G') (h1 : TB G') (h2 : SB G') : CSs G' l h d f n t s old := by
  obtain ⟨c1, c2, c3, c4, c5, c6, c7, c8⟩ := hC
  exact ⟨c1.fr hF (by decide), c2.fr hF (by decide) (by decide), c3.fr hF (by decide) (by decide) (by decide) (by decide), c4.fr hF (by decide) (by decide) (by decide), c5.fr hF (by decide) (by decide), h1, h2, c8.fr hF (by decide) (by decide) (by decide) (by decide) (by decide)⟩
theorem sp_solv {l' h' d' : Nat} (hD : 16 ≤ D) (hC : CSs G l h d f n t s old) (hl : l' ≤ 18) (hh : h' < 2 ^ 18) (hd : d' < 2 ^ 18) (hd0 : d'.testBit 0 = false) (hd8 : (bl d').length ≤ 8) (hP : ∀ G', CSs G' l h d f n t s old → Fr [12, 13, 14, 15, 16, 17] G G' → P (some (.int (if (!(arrs false l' h' d' f).isEmpty) = true then 1 else 0))) G') : am_CB X D 84 [.ref 0, .int (nI l'), .int (nI h'), .int (nI d')] G P := by
  obtain ⟨D, rfl⟩ : ∃ D0, D = D0 + 1 := ⟨D - 1, by omega⟩
  have o1 := hC.1
  unfold CO at o1
  obtain ⟨l0, h0, d0, f0, tb⟩ := hC.2.2.2.2.2.1
  obtain ⟨t1, ⟨tp, t2, t3⟩, _⟩ := id tb
  obtain ⟨ln, pr, df, sf, Ls, sb, sb2, sb3⟩ := hC.2.2.2.2.2.2.1
  refine B84 60 [] ?_
  simp only [J84_0, J84_1, J84_4, J84_5, J84_6, J84_7, J84_10, J84_11, J84_14, J84_15, J84_18, J84_21, J84_22, J84_25, J84_28, J84_31, J84_32, J84_35, J84_36, am_gg_c, am_gf_c, am_pf_c, am_af_c, am_sf_c, am_bf_c, am_qf_c, am_ap_c, am_bp_c, am_qp_c, am_lf_c, am_kt_s, am_kt_n, am_wst, am_wstop, am_ns_0, am_ns_1, Bool.not_true, Bool.not_false, Bool.true_and, Bool.false_and, Nat.reduceBEq, ↓reduceIte, am_k2_n, am_k2_i, am_k2_r, am_k2_u, am_k2_f, am_k2_l, Nat.zero_le, true_and, and_true, true_or, or_true, am_cat_0, am_cat_i, am_cat_r, am_cat_l, am_cat_n, Nat.reduceLeDiff, Nat.reduceAdd, Option.isSome_some, List.getElem?_cons_zero, List.getElem?_cons_succ, am_fit_i, am_fit_r, am_fit_a, o1, t1]
  refine sp_become (by omega) t1 t2 hl hh hd (fun G1 b1 b2 => ?_)
  have o2 : am_ob G1 0 4 = some [.ref 1, .ref 3, .ref 7, .ref 10, .ref 12, .ref 14, .ref 18, .int (if old = true then 1 else 0)] := by rw [b2.ob (by decide)]; exact o1
  have sb' := sb.fr b2 (by decide) (by decide) (by decide) (by decide)
  obtain ⟨a1, ⟨q0, a2, a3⟩, a4, a5, a6, a7⟩ := id sb'
  simp only [J84_0, J84_1, J84_4, J84_5, J84_6, J84_7, J84_10, J84_11, J84_14, J84_15, J84_18, J84_21, J84_22, J84_25, J84_28, J84_31, J84_32, J84_35, J84_36, am_gg_c, am_gf_c, am_pf_c, am_af_c, am_sf_c, am_bf_c, am_qf_c, am_ap_c, am_bp_c, am_qp_c, am_lf_c, am_kt_s, am_kt_n, am_wst, am_wstop, am_ns_0, am_ns_1, Bool.not_true, Bool.not_false, Bool.true_and, Bool.false_and, Nat.reduceBEq, ↓reduceIte, am_k2_n, am_k2_i, am_k2_r, am_k2_u, am_k2_f, am_k2_l, Nat.zero_le, true_and, and_true, true_or, or_true, am_cat_0, am_cat_i, am_cat_r, am_cat_l, am_cat_n, Nat.reduceLeDiff, Nat.reduceAdd, Option.isSome_some, List.getElem?_cons_zero, List.getElem?_cons_succ, am_fit_i, am_fit_r, am_fit_a, o2, a1]
  refine sp_search (by omega) b1 hd0 hd8 (by decide) (by decide) (by omega) a1 a2 a4 a5 sb2 sb3 (fun G2 df1 sf1 u1 u2 u3 u4 u5 => ?_)
  have o3 : am_ob G2 0 4 = some [.ref 1, .ref 3, .ref 7, .ref 10, .ref 12, .ref 14, .ref 18, .int (if old = true then 1 else 0)] := by rw [u5.ob (by decide)]; exact o2
  have u0 := u1.1
  have hFF : Fr [12, 13, 14, 15, 16, 17] G G2 := (b2.up (by decide)).tr (u5.up (by decide))
  have hC2 : CSs G2 l h d f n t s old := cs_solv hC hFF ⟨_, _, _, _, b1.fr u5 (by decide) (by decide)⟩ ⟨_, _, df1, sf1, _, u1, u2, u3⟩
  have hres := hP G2 hC2 hFF
  obtain ⟨e1, _⟩ := srL_eq (l := l') (h := h') (d := d') (f := fun _ => 0) hl hd hd0 hd8
  rw [arrs_nopin (f := f)] at e1
  simp only [J84_0, J84_1, J84_4, J84_5, J84_6, J84_7, J84_10, J84_11, J84_14, J84_15, J84_18, J84_21, J84_22, J84_25, J84_28, J84_31, J84_32, J84_35, J84_36, am_gg_c, am_gf_c, am_pf_c, am_af_c, am_sf_c, am_bf_c, am_qf_c, am_ap_c, am_bp_c, am_qp_c, am_lf_c, am_kt_s, am_kt_n, am_wst, am_wstop, am_ns_0, am_ns_1, Bool.not_true, Bool.not_false, Bool.true_and, Bool.false_and, Nat.reduceBEq, ↓reduceIte, am_k2_n, am_k2_i, am_k2_r, am_k2_u, am_k2_f, am_k2_l, Nat.zero_le, true_and, and_true, true_or, or_true, am_cat_0, am_cat_i, am_cat_r, am_cat_l, am_cat_n, Nat.reduceLeDiff, Nat.reduceAdd, Option.isSome_some, List.getElem?_cons_zero, List.getElem?_cons_succ, am_fit_i, am_fit_r, am_fit_a, o3, u0]
  rw [e1]
  cases hA : arrs false l' h' d' f with
  | nil =>
    rw [hA] at hres
    rw [if_neg (by show ¬ (0 : Int32) < nI 0; decide)]
    simpa using hres
  | cons a R =>
    rw [hA] at hres
    rw [if_pos (by show (0 : Int32) < nI 1; decide)]
    simpa using hres
theorem lp_chooks {G0 : am_H} (hD : 16 ≤ D) (hw : WF (l, h, d, f)) (hP : ∀ G', CSs G' l h d f n t s old → Fr [12, 13, 14, 15, 16, 17] G0 G' → P (some (.int (nI (hkM d f)))) G') : ∀ (k i : Nat) (G : am_H), i + k = 2 * (bl d).length + 1 → CSs G l h d f n t s old → Fr [12, 13, 14, 15, 16, 17] G0 G → am_WP X D 81 16 [some (.ref 0), some (.int (nI (2 * (bl d).length + 1))), some (.int (nI (mkm (fun p => !(arrs false (2 * (bl d).length + 1) (2 ^ p) d f).isEmpty) i))), some (.int (nI i))] [] G 0 0 P := by
  obtain ⟨w1, w2, w3, w4, w5, w6, w7, w8⟩ := hw.o
  intro k
  induction k with
  | zero =>
    intro i G hi hC hF
    refine am_wps 60 [48] ?_
    simp only [J81_0, J81_1, J81_2, J81_5, J81_8, J81_9, J81_10, J81_11, J81_12, J81_13, J81_14, J81_15, J81_16, J81_17, J81_18, J81_21, J81_22, J81_23, J81_24, J81_25, J81_26, J81_27, J81_30, J81_33, J81_36, J81_39, J81_40, J81_41, J81_42, J81_43, J81_44, J81_45, J81_48, J81_51, J81_52, am_gg_c, am_gf_c, am_pf_c, am_af_c, am_sf_c, am_bf_c, am_qf_c, am_ap_c, am_bp_c, am_qp_c, am_lf_c, am_kt_s, am_kt_n, am_wst, am_wstop, am_ns_0, am_ns_1, Bool.not_true, Bool.not_false, Bool.true_and, Bool.false_and, Nat.reduceBEq, ↓reduceIte, am_k2_n, am_k2_i, am_k2_r, am_k2_u, am_k2_f, am_k2_l, Nat.zero_le, true_and, and_true, true_or, or_true, am_cat_0, am_cat_i, am_cat_r, am_cat_l, am_cat_n, Nat.reduceLeDiff, Nat.reduceAdd, Option.isSome_some, List.getElem?_cons_zero, List.getElem?_cons_succ, am_fit_i, am_fit_r, am_fit_a]
    rw [if_neg (by rw [nI_ltI (by omega) (by omega)]; omega), show i = 2 * (bl d).length + 1 by omega]
    exact hP G hC hF
  | succ k ih =>
    intro i G hi hC hF
    have o1 := hC.1
    unfold CO at o1
    have p2 := hC.2.1.1
    have hlt := mkm_lt (fun p => !(arrs false (2 * (bl d).length + 1) (2 ^ p) d f).isEmpty) i
    have hs : mkm (fun p => !(arrs false (2 * (bl d).length + 1) (2 ^ p) d f).isEmpty) (i + 1) = mkm (fun p => !(arrs false (2 * (bl d).length + 1) (2 ^ p) d f).isEmpty) i + (if (!(arrs false (2 * (bl d).length + 1) (2 ^ i) d f).isEmpty) = true then 2 ^ i else 0) := rfl
    have hn := ih (i + 1)
    rw [hs] at hn
    have hpi : 2 ^ i < 2 ^ 18 := Nat.pow_lt_pow_right (by omega) (by omega)
    refine am_wps 60 [48] ?_
    simp only [J81_0, J81_1, J81_2, J81_5, J81_8, J81_9, J81_10, J81_11, J81_12, J81_13, J81_14, J81_15, J81_16, J81_17, J81_18, J81_21, J81_22, J81_23, J81_24, J81_25, J81_26, J81_27, J81_30, J81_33, J81_36, J81_39, J81_40, J81_41, J81_42, J81_43, J81_44, J81_45, J81_48, J81_51, J81_52, am_gg_c, am_gf_c, am_pf_c, am_af_c, am_sf_c, am_bf_c, am_qf_c, am_ap_c, am_bp_c, am_qp_c, am_lf_c, am_kt_s, am_kt_n, am_wst, am_wstop, am_ns_0, am_ns_1, Bool.not_true, Bool.not_false, Bool.true_and, Bool.false_and, Nat.reduceBEq, ↓reduceIte, am_k2_n, am_k2_i, am_k2_r, am_k2_u, am_k2_f, am_k2_l, Nat.zero_le, true_and, and_true, true_or, or_true, am_cat_0, am_cat_i, am_cat_r, am_cat_l, am_cat_n, Nat.reduceLeDiff, Nat.reduceAdd, Option.isSome_some, List.getElem?_cons_zero, List.getElem?_cons_succ, am_fit_i, am_fit_r, am_fit_a, o1, p2]
    rw [if_pos (by rw [nI_ltI (by omega) (by omega)]; omega)]
    rw [show (1 : Int32) <<< (nI i &&& 31) = nI (2 ^ i) by rw [show (1 : Int32) = nI 1 by rfl, bi_shl (by omega), Nat.one_mul]]
    refine sp_solv hD hC (by omega) hpi w4 w5 w8 (fun G1 c1 f1 => ?_)
    simp only [J81_0, J81_1, J81_2, J81_5, J81_8, J81_9, J81_10, J81_11, J81_12, J81_13, J81_14, J81_15, J81_16, J81_17, J81_18, J81_21, J81_22, J81_23, J81_24, J81_25, J81_26, J81_27, J81_30, J81_33, J81_36, J81_39, J81_40, J81_41, J81_42, J81_43, J81_44, J81_45, J81_48, J81_51, J81_52, am_gg_c, am_gf_c, am_pf_c, am_af_c, am_sf_c, am_bf_c, am_qf_c, am_ap_c, am_bp_c, am_qp_c, am_lf_c, am_kt_s, am_kt_n, am_wst, am_wstop, am_ns_0, am_ns_1, Bool.not_true, Bool.not_false, Bool.true_and, Bool.false_and, Nat.reduceBEq, ↓reduceIte, am_k2_n, am_k2_i, am_k2_r, am_k2_u, am_k2_f, am_k2_l, Nat.zero_le, true_and, and_true, true_or, or_true, am_cat_0, am_cat_i, am_cat_r, am_cat_l, am_cat_n, Nat.reduceLeDiff, Nat.reduceAdd, Option.isSome_some, List.getElem?_cons_zero, List.getElem?_cons_succ, am_fit_i, am_fit_r, am_fit_a]
    have hn1 := hn G1 (by omega) c1 (hF.tr f1)
    cases c : (!(arrs false (2 * (bl d).length + 1) (2 ^ i) d f).isEmpty) with
    | false =>
      rw [c] at hn1
      simp only [Bool.false_eq_true, if_false, if_true, Nat.add_zero] at hn1 ⊢
      refine am_goto I81_48 ?_
      rw [nI_1]
      exact hn1
    | true =>
      rw [c] at hn1
      simp only [if_true, if_neg (show ¬ (1 : Int32) = 0 by decide)] at hn1 ⊢
      refine am_goto I81_48 ?_
      rw [nI_1]
      have e : nI (mkm (fun p => !(arrs false (2 * (bl d).length + 1) (2 ^ p) d f).isEmpty) i) ||| nI (2 ^ i) = nI (mkm (fun p => !(arrs false (2 * (bl d).length + 1) (2 ^ p) d f).isEmpty) i + 2 ^ i) := by
        rw [← bi_orbit hlt (by omega), show nI 1 <<< (nI i &&& 31) = nI (2 ^ i) by rw [bi_shl (by omega), Nat.one_mul]]
      first | exact hn1 | (rw [e]; exact hn1) | (rw [bi_orbit_l hlt (by omega)]; exact hn1)
theorem sp_chooks (hD : 17 ≤ D) (hw : WF (l, h, d, f)) (hC : CSs G l h d f n t s old) (hP : ∀ o' G', CSs G' l h d f n t s o' → Fr kC G G' → P (some (.int (nI (hkM d f)))) G') : am_CB X D 81 [.ref 0] G P := by
  obtain ⟨D, rfl⟩ : ∃ D0, D = D0 + 1 := ⟨D - 1, by omega⟩
  have o1 := hC.1
  unfold CO at o1
  have p2 := hC.2.1.1
  refine B81 60 [16] ?_
  simp only [J81_0, J81_1, J81_2, J81_5, J81_8, J81_9, J81_10, J81_11, J81_12, J81_13, J81_14, J81_15, J81_16, J81_17, J81_18, J81_21, J81_22, J81_23, J81_24, J81_25, J81_26, J81_27, J81_30, J81_33, J81_36, J81_39, J81_40, J81_41, J81_42, J81_43, J81_44, J81_45, J81_48, J81_51, J81_52, am_gg_c, am_gf_c, am_pf_c, am_af_c, am_sf_c, am_bf_c, am_qf_c, am_ap_c, am_bp_c, am_qp_c, am_lf_c, am_kt_s, am_kt_n, am_wst, am_wstop, am_ns_0, am_ns_1, Bool.not_true, Bool.not_false, Bool.true_and, Bool.false_and, Nat.reduceBEq, ↓reduceIte, am_k2_n, am_k2_i, am_k2_r, am_k2_u, am_k2_f, am_k2_l, Nat.zero_le, true_and, and_true, true_or, or_true, am_cat_0, am_cat_i, am_cat_r, am_cat_l, am_cat_n, Nat.reduceLeDiff, Nat.reduceAdd, Option.isSome_some, List.getElem?_cons_zero, List.getElem?_cons_succ, am_fit_i, am_fit_r, am_fit_a, o1, p2]
  refine sp_pairs (by omega) hC.2.1 ?_
  simp only [J81_0, J81_1, J81_2, J81_5, J81_8, J81_9, J81_10, J81_11, J81_12, J81_13, J81_14, J81_15, J81_16, J81_17, J81_18, J81_21, J81_22, J81_23, J81_24, J81_25, J81_26, J81_27, J81_30, J81_33, J81_36, J81_39, J81_40, J81_41, J81_42, J81_43, J81_44, J81_45, J81_48, J81_51, J81_52, am_gg_c, am_gf_c, am_pf_c, am_af_c, am_sf_c, am_bf_c, am_qf_c, am_ap_c, am_bp_c, am_qp_c, am_lf_c, am_kt_s, am_kt_n, am_wst, am_wstop, am_ns_0, am_ns_1, Bool.not_true, Bool.not_false, Bool.true_and, Bool.false_and, Nat.reduceBEq, ↓reduceIte, am_k2_n, am_k2_i, am_k2_r, am_k2_u, am_k2_f, am_k2_l, Nat.zero_le, true_and, and_true, true_or, or_true, am_cat_0, am_cat_i, am_cat_r, am_cat_l, am_cat_n, Nat.reduceLeDiff, Nat.reduceAdd, Option.isSome_some, List.getElem?_cons_zero, List.getElem?_cons_succ, am_fit_i, am_fit_r, am_fit_a]
  rw [show (2 : Int32) = nI 2 by rfl, pk_mul, nI_1]
  exact am_WP.fg (lp_chooks (G0 := G) (by omega) hw (fun G' a b => hP _ G' a (b.up (by decide))) (2 * (bl d).length + 1) 0 G (by omega) hC Fr.rf) (by simp [am_le, nI_0, mkm])
theorem lp_comis {G0 : am_H} (hD : 16 ≤ D) (hw : WF (l, h, d, f)) (h2 : 2 ≤ (bl d).length) (hP : ∀ G', CSs G' l h d f n t s old → Fr [12, 13, 14, 15, 16, 17] G0 G' → P (some (.int (nI (mkm (omB d f) 18)))) G') : ∀ (k i : Nat) (G : am_H), i + k = 18 → CSs G l h d f n t s old → Fr [12, 13, 14, 15, 16, 17] G0 G → am_WP X D 82 20 [some (.ref 0), some (.int (nI ((bl d).length - 1))), some (.int (nI (mkm (omB d f) i))), some (.int (nI i))] [] G 0 0 P := by
  obtain ⟨w1, w2, w3, w4, w5, w6, w7, w8⟩ := hw.o
  intro k
  induction k with
  | zero =>
    intro i G hi hC hF
    refine am_wps 60 [70] ?_
    simp only [J82_0, J82_1, J82_4, J82_7, J82_8, J82_9, J82_10, J82_11, J82_14, J82_15, J82_16, J82_17, J82_18, J82_19, J82_20, J82_21, J82_23, J82_26, J82_27, J82_30, J82_31, J82_34, J82_37, J82_38, J82_39, J82_40, J82_41, J82_42, J82_43, J82_46, J82_49, J82_50, J82_51, J82_52, J82_53, J82_54, J82_55, J82_58, J82_61, J82_62, J82_63, J82_64, J82_65, J82_66, J82_67, J82_70, J82_73, J82_74, am_gg_c, am_gf_c, am_pf_c, am_af_c, am_sf_c, am_bf_c, am_qf_c, am_ap_c, am_bp_c, am_qp_c, am_lf_c, am_kt_s, am_kt_n, am_wst, am_wstop, am_ns_0, am_ns_1, Bool.not_true, Bool.not_false, Bool.true_and, Bool.false_and, Nat.reduceBEq, ↓reduceIte, am_k2_n, am_k2_i, am_k2_r, am_k2_u, am_k2_f, am_k2_l, Nat.zero_le, true_and, and_true, true_or, or_true, am_cat_0, am_cat_i, am_cat_r, am_cat_l, am_cat_n, Nat.reduceLeDiff, Nat.reduceAdd, Option.isSome_some, List.getElem?_cons_zero, List.getElem?_cons_succ, am_fit_i, am_fit_r, am_fit_a]
    rw [if_pos (by rw [show i = 18 by omega]; decide), show i = 18 by omega]
    exact hP G hC hF
  | succ k ih =>
    intro i G hi hC hF
    have o1 := hC.1
    unfold CO at o1
    have c2 := hC.2.1
    have p2 := c2.1
    have hlt := mkm_lt (omB d f) i
    have hs : mkm (omB d f) (i + 1) = mkm (omB d f) i + (if omB d f i = true then 2 ^ i else 0) := rfl
    have hn := ih (i + 1)
    rw [hs] at hn
    refine am_wps 60 [70] ?_
    simp only [J82_0, J82_1, J82_4, J82_7, J82_8, J82_9, J82_10, J82_11, J82_14, J82_15, J82_16, J82_17, J82_18, J82_19, J82_20, J82_21, J82_23, J82_26, J82_27, J82_30, J82_31, J82_34, J82_37, J82_38, J82_39, J82_40, J82_41, J82_42, J82_43, J82_46, J82_49, J82_50, J82_51, J82_52, J82_53, J82_54, J82_55, J82_58, J82_61, J82_62, J82_63, J82_64, J82_65, J82_66, J82_67, J82_70, J82_73, J82_74, am_gg_c, am_gf_c, am_pf_c, am_af_c, am_sf_c, am_bf_c, am_qf_c, am_ap_c, am_bp_c, am_qp_c, am_lf_c, am_kt_s, am_kt_n, am_wst, am_wstop, am_ns_0, am_ns_1, Bool.not_true, Bool.not_false, Bool.true_and, Bool.false_and, Nat.reduceBEq, ↓reduceIte, am_k2_n, am_k2_i, am_k2_r, am_k2_u, am_k2_f, am_k2_l, Nat.zero_le, true_and, and_true, true_or, or_true, am_cat_0, am_cat_i, am_cat_r, am_cat_l, am_cat_n, Nat.reduceLeDiff, Nat.reduceAdd, Option.isSome_some, List.getElem?_cons_zero, List.getElem?_cons_succ, am_fit_i, am_fit_r, am_fit_a, o1, p2]
    rw [if_neg (by rw [show (17 : Int32) = nI 17 by rfl, nI_ltI (by omega) (by omega)]; omega)]
    refine sp_hasDifference (by omega) c2 ?_
    rw [show ctn d (nI i) = d.testBit i from ctn_n (by omega) (by omega)]
    simp only [J82_0, J82_1, J82_4, J82_7, J82_8, J82_9, J82_10, J82_11, J82_14, J82_15, J82_16, J82_17, J82_18, J82_19, J82_20, J82_21, J82_23, J82_26, J82_27, J82_30, J82_31, J82_34, J82_37, J82_38, J82_39, J82_40, J82_41, J82_42, J82_43, J82_46, J82_49, J82_50, J82_51, J82_52, J82_53, J82_54, J82_55, J82_58, J82_61, J82_62, J82_63, J82_64, J82_65, J82_66, J82_67, J82_70, J82_73, J82_74, am_gg_c, am_gf_c, am_pf_c, am_af_c, am_sf_c, am_bf_c, am_qf_c, am_ap_c, am_bp_c, am_qp_c, am_lf_c, am_kt_s, am_kt_n, am_wst, am_wstop, am_ns_0, am_ns_1, Bool.not_true, Bool.not_false, Bool.true_and, Bool.false_and, Nat.reduceBEq, ↓reduceIte, am_k2_n, am_k2_i, am_k2_r, am_k2_u, am_k2_f, am_k2_l, Nat.zero_le, true_and, and_true, true_or, or_true, am_cat_0, am_cat_i, am_cat_r, am_cat_l, am_cat_n, Nat.reduceLeDiff, Nat.reduceAdd, Option.isSome_some, List.getElem?_cons_zero, List.getElem?_cons_succ, am_fit_i, am_fit_r, am_fit_a, o1, p2]
    cases cb : d.testBit i with
    | false =>
      have ho : omB d f i = false := by unfold omB; rw [cb]; rfl
      have hn1 := hn G (by omega) hC hF
      rw [ho] at hn1
      simp only [Bool.false_eq_true, if_false, if_true, Nat.add_zero] at hn1 ⊢
      refine am_goto I82_70 ?_
      rw [nI_1]
      exact hn1
    | true =>
      simp only [if_true, if_neg (show ¬ (1 : Int32) = 0 by decide)]
      have e2 : nI d &&& ((1 : Int32) <<< (nI i &&& 31) ^^^ (-1)) = nI (d - 2 ^ i) := by
        rw [show (1 : Int32) = nI 1 by rfl, bi_shl (by omega), Nat.one_mul, show (-nI 1 : Int32) = -1 by rfl, bi_not, bi_not_bit (by omega) cb]
      have hlen := bl_sub_len (m := d) (d := i) (by omega) cb
      have hd2 : d - 2 ^ i < 2 ^ 18 := by omega
      have hd02 : (d - 2 ^ i).testBit 0 = false := by rw [bt_sub cb, w5]; rfl
      have hne : (d - 2 ^ i == 0) = false := by
        cases z : (d - 2 ^ i == 0) with
        | false => rfl
        | true =>
          have z : d - 2 ^ i = 0 := by simpa using z
          rw [z] at hlen
          have : (bl 0).length = 0 := by decide +kernel
          omega
      have ho : omB d f i = !(arrs false (2 * (bl (d - 2 ^ i)).length) 0 (d - 2 ^ i) f).isEmpty := by unfold omB; rw [cb, hne]; rfl
      rw [e2, show (2 : Int32) = nI 2 by rfl, pk_mul, show (bl d).length - 1 = (bl (d - 2 ^ i)).length by omega, show (0 : Int32) = nI 0 by rfl]
      refine sp_solv hD hC (by omega) (by omega) hd2 hd02 (by omega) (fun G1 c1 f1 => ?_)
      simp only [J82_0, J82_1, J82_4, J82_7, J82_8, J82_9, J82_10, J82_11, J82_14, J82_15, J82_16, J82_17, J82_18, J82_19, J82_20, J82_21, J82_23, J82_26, J82_27, J82_30, J82_31, J82_34, J82_37, J82_38, J82_39, J82_40, J82_41, J82_42, J82_43, J82_46, J82_49, J82_50, J82_51, J82_52, J82_53, J82_54, J82_55, J82_58, J82_61, J82_62, J82_63, J82_64, J82_65, J82_66, J82_67, J82_70, J82_73, J82_74, am_gg_c, am_gf_c, am_pf_c, am_af_c, am_sf_c, am_bf_c, am_qf_c, am_ap_c, am_bp_c, am_qp_c, am_lf_c, am_kt_s, am_kt_n, am_wst, am_wstop, am_ns_0, am_ns_1, Bool.not_true, Bool.not_false, Bool.true_and, Bool.false_and, Nat.reduceBEq, ↓reduceIte, am_k2_n, am_k2_i, am_k2_r, am_k2_u, am_k2_f, am_k2_l, Nat.zero_le, true_and, and_true, true_or, or_true, am_cat_0, am_cat_i, am_cat_r, am_cat_l, am_cat_n, Nat.reduceLeDiff, Nat.reduceAdd, Option.isSome_some, List.getElem?_cons_zero, List.getElem?_cons_succ, am_fit_i, am_fit_r, am_fit_a]
      have hn1 := hn G1 (by omega) c1 (hF.tr f1)
      rw [ho] at hn1
      rw [show (bl d).length - 1 = (bl (d - 2 ^ i)).length by omega] at hn1
      cases c : (!(arrs false (2 * (bl (d - 2 ^ i)).length) 0 (d - 2 ^ i) f).isEmpty) with
      | false =>
        rw [c] at hn1
        simp only [Bool.false_eq_true, if_false, if_true, Nat.add_zero] at hn1 ⊢
        refine am_goto I82_70 ?_
        rw [nI_1]
        exact hn1
      | true =>
        rw [c] at hn1
        simp only [if_true, if_neg (show ¬ (1 : Int32) = 0 by decide)] at hn1 ⊢
        refine am_goto I82_70 ?_
        rw [nI_1, bi_orbit_l hlt (by omega)]
        exact hn1
theorem sp_comis (hD : 17 ≤ D) (hw : WF (l, h, d, f)) (hC : CSs G l h d f n t s old) (hP : ∀ o' G', CSs G' l h d f n t s o' → Fr kC G G' → P (some (.int (nI (mkm (omB d f) 18)))) G') : am_CB X D 82 [.ref 0] G P := by
  obtain ⟨D, rfl⟩ : ∃ D0, D = D0 + 1 := ⟨D - 1, by omega⟩
  obtain ⟨w1, w2, w3, w4, w5, w6, w7, w8⟩ := hw.o
  have o1 := hC.1
  unfold CO at o1
  have p2 := hC.2.1.1
  refine B82 60 [20] ?_
  simp only [J82_0, J82_1, J82_4, J82_7, J82_8, J82_9, J82_10, J82_11, J82_14, J82_15, J82_16, J82_17, J82_18, J82_19, J82_20, J82_21, J82_23, J82_26, J82_27, J82_30, J82_31, J82_34, J82_37, J82_38, J82_39, J82_40, J82_41, J82_42, J82_43, J82_46, J82_49, J82_50, J82_51, J82_52, J82_53, J82_54, J82_55, J82_58, J82_61, J82_62, J82_63, J82_64, J82_65, J82_66, J82_67, J82_70, J82_73, J82_74, am_gg_c, am_gf_c, am_pf_c, am_af_c, am_sf_c, am_bf_c, am_qf_c, am_ap_c, am_bp_c, am_qp_c, am_lf_c, am_kt_s, am_kt_n, am_wst, am_wstop, am_ns_0, am_ns_1, Bool.not_true, Bool.not_false, Bool.true_and, Bool.false_and, Nat.reduceBEq, ↓reduceIte, am_k2_n, am_k2_i, am_k2_r, am_k2_u, am_k2_f, am_k2_l, Nat.zero_le, true_and, and_true, true_or, or_true, am_cat_0, am_cat_i, am_cat_r, am_cat_l, am_cat_n, Nat.reduceLeDiff, Nat.reduceAdd, Option.isSome_some, List.getElem?_cons_zero, List.getElem?_cons_succ, am_fit_i, am_fit_r, am_fit_a, o1, p2]
  refine sp_pairs (by omega) hC.2.1 ?_
  simp only [J82_0, J82_1, J82_4, J82_7, J82_8, J82_9, J82_10, J82_11, J82_14, J82_15, J82_16, J82_17, J82_18, J82_19, J82_20, J82_21, J82_23, J82_26, J82_27, J82_30, J82_31, J82_34, J82_37, J82_38, J82_39, J82_40, J82_41, J82_42, J82_43, J82_46, J82_49, J82_50, J82_51, J82_52, J82_53, J82_54, J82_55, J82_58, J82_61, J82_62, J82_63, J82_64, J82_65, J82_66, J82_67, J82_70, J82_73, J82_74, am_gg_c, am_gf_c, am_pf_c, am_af_c, am_sf_c, am_bf_c, am_qf_c, am_ap_c, am_bp_c, am_qp_c, am_lf_c, am_kt_s, am_kt_n, am_wst, am_wstop, am_ns_0, am_ns_1, Bool.not_true, Bool.not_false, Bool.true_and, Bool.false_and, Nat.reduceBEq, ↓reduceIte, am_k2_n, am_k2_i, am_k2_r, am_k2_u, am_k2_f, am_k2_l, Nat.zero_le, true_and, and_true, true_or, or_true, am_cat_0, am_cat_i, am_cat_r, am_cat_l, am_cat_n, Nat.reduceLeDiff, Nat.reduceAdd, Option.isSome_some, List.getElem?_cons_zero, List.getElem?_cons_succ, am_fit_i, am_fit_r, am_fit_a]
  rw [show (1 : Int32) = nI 1 by rfl, pk_sub w7]
  have e1 : mkm (omB d f) 1 = 0 := by
    show 0 + (if omB d f 0 = true then 2 ^ 0 else 0) = 0
    unfold omB
    rw [w5]; rfl
  by_cases c : (bl d).length = 1
  · rw [if_pos (by rw [c]; rfl)]
    have hz : mkm (omB d f) 18 = 0 := by
      apply Nat.eq_of_testBit_eq
      intro i
      rw [mkm_bit, Nat.zero_testBit]
      by_cases hi : i < 18
      · rw [decide_eq_true hi, Bool.true_and]
        unfold omB
        cases cb : d.testBit i with
        | false => rfl
        | true =>
          have hlen := bl_sub_len (m := d) (d := i) hi cb
          have : d - 2 ^ i = 0 := bl_zero (Nat.lt_of_le_of_lt (Nat.sub_le _ _) w4) (List.eq_nil_of_length_eq_zero (by omega))
          rw [this]; rfl
      · rw [decide_eq_false hi]; rfl
    have := hP _ G hC Fr.rf
    rw [hz] at this
    exact this
  · rw [if_neg (by rw [bi_eq0 (by omega)]; omega)]
    have hgo := lp_comis (X := X) (D := D) (P := P) (n := n) (t := t) (s := s) (old := old) (G0 := G) (by omega) hw (by omega) (fun G' a b => hP _ G' a (b.up (by decide))) 17 1 G (by omega) hC Fr.rf
    rw [e1] at hgo
    exact hgo
end CT
