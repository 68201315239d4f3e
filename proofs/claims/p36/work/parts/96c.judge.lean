def fbI (B : Nat → Nat → Bool) (l r : Nat) : Int32 := match vdQ (B r) l 0 with
  | some q => nI q
  | none => -1
section CJ
variable {X : Nat × (Nat → Int32)} {D : Nat} {G : am_H} {P : Option Value → am_H → Prop} {l h d : Nat} {f : Nat → Nat} {n : Nat} {t : Nat → Int32} {s : Nat → Option PT} {old : Bool}
theorem rt_len (hr : rtB n l t = true) : n = l := by
  unfold rtB at hr
  rw [Bool.and_eq_true, decide_eq_true_eq] at hr
  exact hr.1
theorem lp_fb {r : Nat} (hD : 5 ≤ D) (hw : WF (l, h, d, f)) (hC : CSs G l h d f n t s old) (hr : rtB n l t = true) (hr1 : 1 ≤ r) (hr5 : r ≤ 5) (hP : P (some (.int (fbI (bkN l h d f (gnP t)) l r))) G) : ∀ (k q : Nat), q + k = l → vdQ (bkN l h d f (gnP t) r) l 0 = vdQ (bkN l h d f (gnP t) r) k q → am_WP X D 70 2 [some (.ref 0), some (.int (nI r)), some (.int (nI q))] [] G 0 0 P := by
  obtain ⟨w1, w2, w3, w4, w5, w6, w7, w8⟩ := hw.o
  have o1 := hC.1
  unfold CO at o1
  have p1 := hC.2.2.2.2.1.1
  have hnl := rt_len hr
  unfold fbI at hP
  intro k
  induction k with
  | zero =>
    intro q hq he
    refine am_wps 60 [27] ?_
    simp only [J70_0, J70_1, J70_2, J70_3, J70_4, J70_7, J70_10, J70_13, J70_14, J70_15, J70_16, J70_19, J70_22, J70_23, J70_24, J70_27, J70_30, J70_31, am_gg_c, am_gf_c, am_pf_c, am_af_c, am_sf_c, am_bf_c, am_qf_c, am_ap_c, am_bp_c, am_qp_c, am_lf_c, am_kt_s, am_kt_n, am_wst, am_wstop, am_ns_0, am_ns_1, Bool.not_true, Bool.not_false, Bool.true_and, Bool.false_and, Nat.reduceBEq, ↓reduceIte, am_k2_n, am_k2_i, am_k2_r, am_k2_u, am_k2_f, am_k2_l, Nat.zero_le, true_and, and_true, true_or, or_true, am_cat_0, am_cat_i, am_cat_r, am_cat_l, am_cat_n, Nat.reduceLeDiff, Nat.reduceAdd, Option.isSome_some, List.getElem?_cons_zero, List.getElem?_cons_succ, am_fit_i, am_fit_r, am_fit_a, o1, p1]
    rw [if_neg (by rw [nI_ltI (by omega) (by omega)]; omega)]
    rw [he] at hP
    exact hP
  | succ k ih =>
    intro q hq he
    have hv : vdQ (bkN l h d f (gnP t) r) (k + 1) q = if bkN l h d f (gnP t) r q = true then some q else vdQ (bkN l h d f (gnP t) r) k (q + 1) := rfl
    rw [hv] at he
    refine am_wps 60 [27] ?_
    simp only [J70_0, J70_1, J70_2, J70_3, J70_4, J70_7, J70_10, J70_13, J70_14, J70_15, J70_16, J70_19, J70_22, J70_23, J70_24, J70_27, J70_30, J70_31, am_gg_c, am_gf_c, am_pf_c, am_af_c, am_sf_c, am_bf_c, am_qf_c, am_ap_c, am_bp_c, am_qp_c, am_lf_c, am_kt_s, am_kt_n, am_wst, am_wstop, am_ns_0, am_ns_1, Bool.not_true, Bool.not_false, Bool.true_and, Bool.false_and, Nat.reduceBEq, ↓reduceIte, am_k2_n, am_k2_i, am_k2_r, am_k2_u, am_k2_f, am_k2_l, Nat.zero_le, true_and, and_true, true_or, or_true, am_cat_0, am_cat_i, am_cat_r, am_cat_l, am_cat_n, Nat.reduceLeDiff, Nat.reduceAdd, Option.isSome_some, List.getElem?_cons_zero, List.getElem?_cons_succ, am_fit_i, am_fit_r, am_fit_a, o1, p1]
    rw [if_pos (by rw [nI_ltI (by omega) (by omega)]; omega)]
    refine sp_cbreaks hD hw hC hr (by omega) hr1 hr5 ?_
    simp only [J70_0, J70_1, J70_2, J70_3, J70_4, J70_7, J70_10, J70_13, J70_14, J70_15, J70_16, J70_19, J70_22, J70_23, J70_24, J70_27, J70_30, J70_31, am_gg_c, am_gf_c, am_pf_c, am_af_c, am_sf_c, am_bf_c, am_qf_c, am_ap_c, am_bp_c, am_qp_c, am_lf_c, am_kt_s, am_kt_n, am_wst, am_wstop, am_ns_0, am_ns_1, Bool.not_true, Bool.not_false, Bool.true_and, Bool.false_and, Nat.reduceBEq, ↓reduceIte, am_k2_n, am_k2_i, am_k2_r, am_k2_u, am_k2_f, am_k2_l, Nat.zero_le, true_and, and_true, true_or, or_true, am_cat_0, am_cat_i, am_cat_r, am_cat_l, am_cat_n, Nat.reduceLeDiff, Nat.reduceAdd, Option.isSome_some, List.getElem?_cons_zero, List.getElem?_cons_succ, am_fit_i, am_fit_r, am_fit_a]
    by_cases c : bkN l h d f (gnP t) r q = true
    · rw [if_pos c] at he
      rw [if_pos c, if_neg (show ¬ (1 : Int32) = 0 by decide)]
      rw [he] at hP
      exact hP
    · rw [if_neg c] at he
      rw [if_neg c, if_pos rfl]
      refine am_goto I70_27 ?_
      rw [nI_1]
      exact ih (q + 1) (by omega) he
theorem sp_fb {r : Nat} (hD : 6 ≤ D) (hw : WF (l, h, d, f)) (hC : CSs G l h d f n t s old) (hr : rtB n l t = true) (hr1 : 1 ≤ r) (hr5 : r ≤ 5) (hP : P (some (.int (fbI (bkN l h d f (gnP t)) l r))) G) : am_CB X D 70 [.ref 0, .int (nI r)] G P := by
  obtain ⟨D, rfl⟩ : ∃ D0, D = D0 + 1 := ⟨D - 1, by omega⟩
  refine B70 60 [2] ?_
  simp only [J70_0, J70_1, J70_2, J70_3, J70_4, J70_7, J70_10, J70_13, J70_14, J70_15, J70_16, J70_19, J70_22, J70_23, J70_24, J70_27, J70_30, J70_31, am_gg_c, am_gf_c, am_pf_c, am_af_c, am_sf_c, am_bf_c, am_qf_c, am_ap_c, am_bp_c, am_qp_c, am_lf_c, am_kt_s, am_kt_n, am_wst, am_wstop, am_ns_0, am_ns_1, Bool.not_true, Bool.not_false, Bool.true_and, Bool.false_and, Nat.reduceBEq, ↓reduceIte, am_k2_n, am_k2_i, am_k2_r, am_k2_u, am_k2_f, am_k2_l, Nat.zero_le, true_and, and_true, true_or, or_true, am_cat_0, am_cat_i, am_cat_r, am_cat_l, am_cat_n, Nat.reduceLeDiff, Nat.reduceAdd, Option.isSome_some, List.getElem?_cons_zero, List.getElem?_cons_succ, am_fit_i, am_fit_r, am_fit_a]
  exact lp_fb (by omega) hw hC hr hr1 hr5 hP l 0 (by omega) rfl
theorem vdQ_lt {b : Nat → Bool} {q : Nat} : ∀ (k i : Nat), vdQ b k i = some q → q < i + k
  | 0, i, e => by cases e
  | k + 1, i, e => by
    unfold vdQ at e
    split at e
    · cases e; omega
    · have := vdQ_lt k (i + 1) e; omega
theorem lp_cjudge {x : Int32} (hD : 6 ≤ D) (hw : WF (l, h, d, f)) (hC : CSs G l h d f n t s old) (hr : rtB n l t = true) (hP : P (some (.int (if x = 0 then vdI (bkN l h d f (gnP t)) l else vdP (bkN l h d f (gnP t)) l))) G) : ∀ (k r : Nat), r + k = 6 → 1 ≤ r → vdR (bkN l h d f (gnP t)) l 5 1 = vdR (bkN l h d f (gnP t)) l k r → am_WP X D 64 24 [some (.ref 0), some (.int x), some (.int (nI r)), none] [] G 0 0 P := by
  obtain ⟨w1, w2, w3, w4, w5, w6, w7, w8⟩ := hw.o
  have o1 := hC.1
  unfold CO at o1
  unfold vdI vdP at hP
  intro k
  induction k with
  | zero =>
    intro r hr6 hr1 he
    have e : vdR (bkN l h d f (gnP t)) l 5 1 = none := he
    rw [e] at hP
    refine am_wps 60 [52] ?_
    simp only [J64_0, J64_1, J64_4, J64_5, J64_6, J64_9, J64_11, J64_12, J64_13, J64_16, J64_19, J64_21, J64_22, J64_23, J64_24, J64_25, J64_26, J64_29, J64_30, J64_31, J64_34, J64_35, J64_36, J64_39, J64_40, J64_43, J64_44, J64_47, J64_48, J64_49, J64_52, J64_55, J64_56, J64_59, J64_60, J64_63, J64_65, am_gg_c, am_gf_c, am_pf_c, am_af_c, am_sf_c, am_bf_c, am_qf_c, am_ap_c, am_bp_c, am_qp_c, am_lf_c, am_kt_s, am_kt_n, am_wst, am_wstop, am_ns_0, am_ns_1, Bool.not_true, Bool.not_false, Bool.true_and, Bool.false_and, Nat.reduceBEq, ↓reduceIte, am_k2_n, am_k2_i, am_k2_r, am_k2_u, am_k2_f, am_k2_l, Nat.zero_le, true_and, and_true, true_or, or_true, am_cat_0, am_cat_i, am_cat_r, am_cat_l, am_cat_n, Nat.reduceLeDiff, Nat.reduceAdd, Option.isSome_some, List.getElem?_cons_zero, List.getElem?_cons_succ, am_fit_i, am_fit_r, am_fit_a, o1]
    rw [if_pos (by rw [show r = 6 by omega]; decide)]
    by_cases c : x = 0
    · rw [if_pos c] at hP ⊢
      exact hP
    · rw [if_neg c] at hP ⊢
      exact hP
  | succ k ih =>
    intro r hr6 hr1 he
    have hv : vdR (bkN l h d f (gnP t)) l (k + 1) r = (match vdQ (bkN l h d f (gnP t) r) l 0 with | some q => some (r, q) | none => vdR (bkN l h d f (gnP t)) l k (r + 1)) := rfl
    rw [hv] at he
    refine am_wps 60 [52] ?_
    simp only [J64_0, J64_1, J64_4, J64_5, J64_6, J64_9, J64_11, J64_12, J64_13, J64_16, J64_19, J64_21, J64_22, J64_23, J64_24, J64_25, J64_26, J64_29, J64_30, J64_31, J64_34, J64_35, J64_36, J64_39, J64_40, J64_43, J64_44, J64_47, J64_48, J64_49, J64_52, J64_55, J64_56, J64_59, J64_60, J64_63, J64_65, am_gg_c, am_gf_c, am_pf_c, am_af_c, am_sf_c, am_bf_c, am_qf_c, am_ap_c, am_bp_c, am_qp_c, am_lf_c, am_kt_s, am_kt_n, am_wst, am_wstop, am_ns_0, am_ns_1, Bool.not_true, Bool.not_false, Bool.true_and, Bool.false_and, Nat.reduceBEq, ↓reduceIte, am_k2_n, am_k2_i, am_k2_r, am_k2_u, am_k2_f, am_k2_l, Nat.zero_le, true_and, and_true, true_or, or_true, am_cat_0, am_cat_i, am_cat_r, am_cat_l, am_cat_n, Nat.reduceLeDiff, Nat.reduceAdd, Option.isSome_some, List.getElem?_cons_zero, List.getElem?_cons_succ, am_fit_i, am_fit_r, am_fit_a, o1]
    rw [if_neg (by rw [show (5 : Int32) = nI 5 by rfl, nI_ltI (by omega) (by omega)]; omega)]
    refine sp_fb hD hw hC hr hr1 (by omega) ?_
    unfold fbI
    simp only [J64_0, J64_1, J64_4, J64_5, J64_6, J64_9, J64_11, J64_12, J64_13, J64_16, J64_19, J64_21, J64_22, J64_23, J64_24, J64_25, J64_26, J64_29, J64_30, J64_31, J64_34, J64_35, J64_36, J64_39, J64_40, J64_43, J64_44, J64_47, J64_48, J64_49, J64_52, J64_55, J64_56, J64_59, J64_60, J64_63, J64_65, am_gg_c, am_gf_c, am_pf_c, am_af_c, am_sf_c, am_bf_c, am_qf_c, am_ap_c, am_bp_c, am_qp_c, am_lf_c, am_kt_s, am_kt_n, am_wst, am_wstop, am_ns_0, am_ns_1, Bool.not_true, Bool.not_false, Bool.true_and, Bool.false_and, Nat.reduceBEq, ↓reduceIte, am_k2_n, am_k2_i, am_k2_r, am_k2_u, am_k2_f, am_k2_l, Nat.zero_le, true_and, and_true, true_or, or_true, am_cat_0, am_cat_i, am_cat_r, am_cat_l, am_cat_n, Nat.reduceLeDiff, Nat.reduceAdd, Option.isSome_some, List.getElem?_cons_zero, List.getElem?_cons_succ, am_fit_i, am_fit_r, am_fit_a]
    cases c : vdQ (bkN l h d f (gnP t) r) l 0 with
    | some q =>
      rw [c] at he
      simp only at he
      rw [he] at hP
      simp only at hP ⊢
      have hq := vdQ_lt l 0 c
      rw [if_neg (nI_pos (by omega))]
      by_cases c2 : x = 0
      · rw [if_pos c2] at hP ⊢
        exact hP
      · rw [if_neg c2] at hP ⊢
        exact hP
    | none =>
      rw [c] at he
      simp only at he ⊢
      rw [if_pos (by decide)]
      refine am_goto I64_52 ?_
      rw [nI_1]
      exact am_WP.fg (ih (r + 1) (by omega) (by omega) he) (by simp [am_le])
theorem sp_cjudge {x : Int32} (hD : 7 ≤ D) (hw : WF (l, h, d, f)) (hC : CSs G l h d f n t s old) (hP : P (some (.int (jdI l h d n f t x))) G) : am_CB X D 64 [.ref 0, .int x] G P := by
  obtain ⟨D, rfl⟩ : ∃ D0, D = D0 + 1 := ⟨D - 1, by omega⟩
  have o1 := hC.1
  unfold CO at o1
  unfold jdI at hP
  have z0 : (0 : Int32).toInt = 0 := rfl
  have z1 : (1 : Int32).toInt = 1 := rfl
  have go : 0 ≤ x.toInt ∧ x.toInt ≤ 1 → am_CB X D 69 [.ref 0] G (am_kt [24] X D 64 P 57 16 [some (.ref 0), some (.int x), none, none] [] 0 0) := by
    intro c
    rw [if_pos c] at hP
    refine sp_padIsRow (by omega) hw hC ?_
    simp only [J64_0, J64_1, J64_4, J64_5, J64_6, J64_9, J64_11, J64_12, J64_13, J64_16, J64_19, J64_21, J64_22, J64_23, J64_24, J64_25, J64_26, J64_29, J64_30, J64_31, J64_34, J64_35, J64_36, J64_39, J64_40, J64_43, J64_44, J64_47, J64_48, J64_49, J64_52, J64_55, J64_56, J64_59, J64_60, J64_63, J64_65, am_gg_c, am_gf_c, am_pf_c, am_af_c, am_sf_c, am_bf_c, am_qf_c, am_ap_c, am_bp_c, am_qp_c, am_lf_c, am_kt_s, am_kt_n, am_wst, am_wstop, am_ns_0, am_ns_1, Bool.not_true, Bool.not_false, Bool.true_and, Bool.false_and, Nat.reduceBEq, ↓reduceIte, am_k2_n, am_k2_i, am_k2_r, am_k2_u, am_k2_f, am_k2_l, Nat.zero_le, true_and, and_true, true_or, or_true, am_cat_0, am_cat_i, am_cat_r, am_cat_l, am_cat_n, Nat.reduceLeDiff, Nat.reduceAdd, Option.isSome_some, List.getElem?_cons_zero, List.getElem?_cons_succ, am_fit_i, am_fit_r, am_fit_a]
    cases hr : rtB n l t with
    | false =>
      rw [hr] at hP
      simp only [Bool.false_eq_true, if_false, if_true] at hP ⊢
      exact hP
    | true =>
      rw [hr] at hP
      simp only [if_true, if_neg (show ¬ (1 : Int32) = 0 by decide)] at hP ⊢
      exact am_WP.fg (lp_cjudge (by omega) hw hC hr hP 5 1 rfl (by omega) rfl) (by simp [am_le]; rfl)
  refine B64 60 [12] ?_
  simp only [J64_0, J64_1, J64_4, J64_5, J64_6, J64_9, J64_11, J64_12, J64_13, J64_16, J64_19, J64_21, J64_22, J64_23, J64_24, J64_25, J64_26, J64_29, J64_30, J64_31, J64_34, J64_35, J64_36, J64_39, J64_40, J64_43, J64_44, J64_47, J64_48, J64_49, J64_52, J64_55, J64_56, J64_59, J64_60, J64_63, J64_65, am_gg_c, am_gf_c, am_pf_c, am_af_c, am_sf_c, am_bf_c, am_qf_c, am_ap_c, am_bp_c, am_qp_c, am_lf_c, am_kt_s, am_kt_n, am_wst, am_wstop, am_ns_0, am_ns_1, Bool.not_true, Bool.not_false, Bool.true_and, Bool.false_and, Nat.reduceBEq, ↓reduceIte, am_k2_n, am_k2_i, am_k2_r, am_k2_u, am_k2_f, am_k2_l, Nat.zero_le, true_and, and_true, true_or, or_true, am_cat_0, am_cat_i, am_cat_r, am_cat_l, am_cat_n, Nat.reduceLeDiff, Nat.reduceAdd, Option.isSome_some, List.getElem?_cons_zero, List.getElem?_cons_succ, am_fit_i, am_fit_r, am_fit_a]
  have go2 : 0 ≤ x.toInt ∧ x.toInt ≤ 1 → am_WP X D 64 12 [some (.ref 0), some (.int x), none, none] [] G 0 0 P := by
    intro c
    refine am_wps 59 [24] ?_
    simp only [J64_0, J64_1, J64_4, J64_5, J64_6, J64_9, J64_11, J64_12, J64_13, J64_16, J64_19, J64_21, J64_22, J64_23, J64_24, J64_25, J64_26, J64_29, J64_30, J64_31, J64_34, J64_35, J64_36, J64_39, J64_40, J64_43, J64_44, J64_47, J64_48, J64_49, J64_52, J64_55, J64_56, J64_59, J64_60, J64_63, J64_65, am_gg_c, am_gf_c, am_pf_c, am_af_c, am_sf_c, am_bf_c, am_qf_c, am_ap_c, am_bp_c, am_qp_c, am_lf_c, am_kt_s, am_kt_n, am_wst, am_wstop, am_ns_0, am_ns_1, Bool.not_true, Bool.not_false, Bool.true_and, Bool.false_and, Nat.reduceBEq, ↓reduceIte, am_k2_n, am_k2_i, am_k2_r, am_k2_u, am_k2_f, am_k2_l, Nat.zero_le, true_and, and_true, true_or, or_true, am_cat_0, am_cat_i, am_cat_r, am_cat_l, am_cat_n, Nat.reduceLeDiff, Nat.reduceAdd, Option.isSome_some, List.getElem?_cons_zero, List.getElem?_cons_succ, am_fit_i, am_fit_r, am_fit_a, o1]
    exact go c
  by_cases c0 : x = 0
  · rw [if_pos c0]
    exact go2 (by rw [c0]; decide)
  · rw [if_neg c0]
    by_cases c1 : x = 1
    · rw [if_pos c1]
      exact go2 (by rw [c1]; decide)
    · rw [if_neg c1]
      rw [if_neg (fun c => by
        have : x.toInt = 0 ∨ x.toInt = 1 := by omega
        rcases this with e | e
        · exact c0 (Int32.toInt_inj.mp (e.trans z0.symm))
        · exact c1 (Int32.toInt_inj.mp (e.trans z1.symm)))] at hP
      exact hP
theorem lp_isMatch {a : List (Nat × Nat)} {k0 : Nat} (hD : 4 ≤ D) (hw : WF (l, h, d, f)) (hC : CSs G l h d f n t s old) (hf : FO G l h d f) (hnl : n = l) (hk0 : (arrs true l h d f)[k0]? = some a) (hP : P (some (.int (if mtR t (rwN a) l = true then 1 else 0))) G) : ∀ (k i : Nat), i + k = l → mtR t (rwN a) i = true → am_WP X D 73 21 [some (.ref 0), some (.ref 3), some (.int (nI k0)), some (.int (nI i)), none] [] G 0 0 P := by
  obtain ⟨w1, w2, w3, w4, w5, w6, w7, w8⟩ := hw.o
  have o1 := hC.1
  unfold CO at o1
  have q1 := hC.2.1.1
  have c5 := hC.2.2.2.2.1
  have p1 := c5.1
  have hn := c5.2.1
  obtain ⟨pr, f1⟩ := fo_ob hf
  intro k
  induction k with
  | zero =>
    intro i hi hb
    refine am_wps 60 [64] ?_
    simp only [J73_0, J73_1, J73_4, J73_7, J73_8, J73_11, J73_14, J73_17, J73_18, J73_19, J73_20, J73_21, J73_22, J73_23, J73_26, J73_29, J73_32, J73_33, J73_36, J73_37, J73_40, J73_42, J73_44, J73_45, J73_48, J73_50, J73_51, J73_52, J73_53, J73_56, J73_59, J73_60, J73_61, J73_64, J73_67, J73_68, am_gg_c, am_gf_c, am_pf_c, am_af_c, am_sf_c, am_bf_c, am_qf_c, am_ap_c, am_bp_c, am_qp_c, am_lf_c, am_kt_s, am_kt_n, am_wst, am_wstop, am_ns_0, am_ns_1, Bool.not_true, Bool.not_false, Bool.true_and, Bool.false_and, Nat.reduceBEq, ↓reduceIte, am_k2_n, am_k2_i, am_k2_r, am_k2_u, am_k2_f, am_k2_l, Nat.zero_le, true_and, and_true, true_or, or_true, am_cat_0, am_cat_i, am_cat_r, am_cat_l, am_cat_n, Nat.reduceLeDiff, Nat.reduceAdd, Option.isSome_some, List.getElem?_cons_zero, List.getElem?_cons_succ, am_fit_i, am_fit_r, am_fit_a, o1, q1]
    rw [if_neg (by rw [nI_ltI (by omega) (by omega)]; omega)]
    rw [show i = l by omega] at hb
    rw [hb] at hP
    simpa using hP
  | succ k ih =>
    intro i hi hb
    have hs : mtR t (rwN a) (i + 1) = (mtR t (rwN a) i && (decide (mgI (t i) = 18) || decide (mgI (t i) = nI (rwN a i)))) := rfl
    have hn2 := ih (i + 1) (by omega)
    rw [hs, hb, Bool.true_and] at hn2
    have hrw := rwN_lt (q := i) (List.mem_of_getElem? hk0)
    have hvm := vl_match (c := t i) hrw
    have good : (vlI (t i) = -1 ∨ vlI (t i) = nI (rwN a i)) → ∀ v4, am_WP X D 73 64 [some (.ref 0), some (.ref 3), some (.int (nI k0)), some (.int (nI i + 1)), v4] [] G 0 0 P := by
      intro c v4
      refine am_goto I73_64 ?_
      rw [nI_1]
      exact am_WP.fg (hn2 (by rw [Bool.or_eq_true, decide_eq_true_eq, decide_eq_true_eq]; exact hvm.mp c)) (by simp [am_le])
    refine am_wps 60 [64] ?_
    simp only [J73_0, J73_1, J73_4, J73_7, J73_8, J73_11, J73_14, J73_17, J73_18, J73_19, J73_20, J73_21, J73_22, J73_23, J73_26, J73_29, J73_32, J73_33, J73_36, J73_37, J73_40, J73_42, J73_44, J73_45, J73_48, J73_50, J73_51, J73_52, J73_53, J73_56, J73_59, J73_60, J73_61, J73_64, J73_67, J73_68, am_gg_c, am_gf_c, am_pf_c, am_af_c, am_sf_c, am_bf_c, am_qf_c, am_ap_c, am_bp_c, am_qp_c, am_lf_c, am_kt_s, am_kt_n, am_wst, am_wstop, am_ns_0, am_ns_1, Bool.not_true, Bool.not_false, Bool.true_and, Bool.false_and, Nat.reduceBEq, ↓reduceIte, am_k2_n, am_k2_i, am_k2_r, am_k2_u, am_k2_f, am_k2_l, Nat.zero_le, true_and, and_true, true_or, or_true, am_cat_0, am_cat_i, am_cat_r, am_cat_l, am_cat_n, Nat.reduceLeDiff, Nat.reduceAdd, Option.isSome_some, List.getElem?_cons_zero, List.getElem?_cons_succ, am_fit_i, am_fit_r, am_fit_a, o1, q1, p1]
    rw [if_pos (by rw [nI_ltI (by omega) (by omega)]; omega)]
    refine sp_pvalueAt (by omega) c5 ?_
    rw [vaI_n (by omega) hn]
    simp only [J73_0, J73_1, J73_4, J73_7, J73_8, J73_11, J73_14, J73_17, J73_18, J73_19, J73_20, J73_21, J73_22, J73_23, J73_26, J73_29, J73_32, J73_33, J73_36, J73_37, J73_40, J73_42, J73_44, J73_45, J73_48, J73_50, J73_51, J73_52, J73_53, J73_56, J73_59, J73_60, J73_61, J73_64, J73_67, J73_68, am_gg_c, am_gf_c, am_pf_c, am_af_c, am_sf_c, am_bf_c, am_qf_c, am_ap_c, am_bp_c, am_qp_c, am_lf_c, am_kt_s, am_kt_n, am_wst, am_wstop, am_ns_0, am_ns_1, Bool.not_true, Bool.not_false, Bool.true_and, Bool.false_and, Nat.reduceBEq, ↓reduceIte, am_k2_n, am_k2_i, am_k2_r, am_k2_u, am_k2_f, am_k2_l, Nat.zero_le, true_and, and_true, true_or, or_true, am_cat_0, am_cat_i, am_cat_r, am_cat_l, am_cat_n, Nat.reduceLeDiff, Nat.reduceAdd, Option.isSome_some, List.getElem?_cons_zero, List.getElem?_cons_succ, am_fit_i, am_fit_r, am_fit_a, f1]
    by_cases c1 : vlI (t i) = -1
    · rw [if_pos c1]
      exact good (Or.inl c1) _
    · rw [if_neg c1]
      refine sp_valueAt w2 w4 w5 w8 (by omega) hD hf hk0 ?_
      simp only [J73_0, J73_1, J73_4, J73_7, J73_8, J73_11, J73_14, J73_17, J73_18, J73_19, J73_20, J73_21, J73_22, J73_23, J73_26, J73_29, J73_32, J73_33, J73_36, J73_37, J73_40, J73_42, J73_44, J73_45, J73_48, J73_50, J73_51, J73_52, J73_53, J73_56, J73_59, J73_60, J73_61, J73_64, J73_67, J73_68, am_gg_c, am_gf_c, am_pf_c, am_af_c, am_sf_c, am_bf_c, am_qf_c, am_ap_c, am_bp_c, am_qp_c, am_lf_c, am_kt_s, am_kt_n, am_wst, am_wstop, am_ns_0, am_ns_1, Bool.not_true, Bool.not_false, Bool.true_and, Bool.false_and, Nat.reduceBEq, ↓reduceIte, am_k2_n, am_k2_i, am_k2_r, am_k2_u, am_k2_f, am_k2_l, Nat.zero_le, true_and, and_true, true_or, or_true, am_cat_0, am_cat_i, am_cat_r, am_cat_l, am_cat_n, Nat.reduceLeDiff, Nat.reduceAdd, Option.isSome_some, List.getElem?_cons_zero, List.getElem?_cons_succ, am_fit_i, am_fit_r, am_fit_a]
      by_cases c2 : vlI (t i) = nI (rwN a i)
      · rw [if_pos c2]
        exact good (Or.inr c2) _
      · rw [if_neg c2]
        have e : mtR t (rwN a) l = false := mtR_le (show i + 1 ≤ l by omega) (by
          rw [hs, hb, Bool.true_and, Bool.or_eq_false_iff, decide_eq_false_iff_not, decide_eq_false_iff_not]
          exact ⟨fun z => (hvm.mpr (Or.inl z)).elim c1 c2, fun z => (hvm.mpr (Or.inr z)).elim c1 c2⟩)
        rw [e] at hP
        simpa using hP
theorem sp_isMatch {a : List (Nat × Nat)} {k0 : Nat} (hD : 5 ≤ D) (hw : WF (l, h, d, f)) (hC : CSs G l h d f n t s old) (hf : FO G l h d f) (hk0 : (arrs true l h d f)[k0]? = some a) (hP : P (some (.int (if mtB n l t a = true then 1 else 0))) G) : am_CB X D 73 [.ref 0, .ref 3, .int (nI k0)] G P := by
  obtain ⟨D, rfl⟩ : ∃ D0, D = D0 + 1 := ⟨D - 1, by omega⟩
  have w2 : l ≤ 18 := hw.2.1
  have o1 := hC.1
  unfold CO at o1
  have q1 := hC.2.1.1
  have c5 := hC.2.2.2.2.1
  have p1 := c5.1
  have hn := c5.2.1
  unfold mtB at hP
  refine B73 60 [21] ?_
  simp only [J73_0, J73_1, J73_4, J73_7, J73_8, J73_11, J73_14, J73_17, J73_18, J73_19, J73_20, J73_21, J73_22, J73_23, J73_26, J73_29, J73_32, J73_33, J73_36, J73_37, J73_40, J73_42, J73_44, J73_45, J73_48, J73_50, J73_51, J73_52, J73_53, J73_56, J73_59, J73_60, J73_61, J73_64, J73_67, J73_68, am_gg_c, am_gf_c, am_pf_c, am_af_c, am_sf_c, am_bf_c, am_qf_c, am_ap_c, am_bp_c, am_qp_c, am_lf_c, am_kt_s, am_kt_n, am_wst, am_wstop, am_ns_0, am_ns_1, Bool.not_true, Bool.not_false, Bool.true_and, Bool.false_and, Nat.reduceBEq, ↓reduceIte, am_k2_n, am_k2_i, am_k2_r, am_k2_u, am_k2_f, am_k2_l, Nat.zero_le, true_and, and_true, true_or, or_true, am_cat_0, am_cat_i, am_cat_r, am_cat_l, am_cat_n, Nat.reduceLeDiff, Nat.reduceAdd, Option.isSome_some, List.getElem?_cons_zero, List.getElem?_cons_succ, am_fit_i, am_fit_r, am_fit_a, o1, p1, q1]
  by_cases c : n = l
  · rw [if_pos (by rw [c])]
    rw [decide_eq_true c, Bool.true_and] at hP
    exact lp_isMatch (by omega) hw hC hf c hk0 hP l 0 (by omega) rfl
  · rw [if_neg (fun e => c (bi_inj (by omega) (by omega) e))]
    rw [decide_eq_false c, Bool.false_and] at hP
    simpa using hP
theorem lp_matchOf {ix : Int32} (hD : 5 ≤ D) (hw : WF (l, h, d, f)) (hC : CSs G l h d f n t s old) (hf : FO G l h d f) {V : Int32} (hP : P (some (.int V)) G) : ∀ (R : List (List (Nat × Nat))) (k c : Nat), (arrs true l h d f).drop k = R → k ≤ (arrs true l h d f).length → V = nbF (mtB n l t) ix R k c → am_WP X D 72 5 [some (.ref 0), some (.ref 3), some (.int ix), some (.int (nI c)), some (.int (nI k))] [] G 0 0 P := by
  obtain ⟨w1, w2, w3, w4, w5, w6, w7, w8⟩ := hw.o
  have o1 := hC.1
  unfold CO at o1
  obtain ⟨pr, f1⟩ := fo_ob hf
  have hlen := arrs_len (ipb := true) (h := h) (f := f) w2 w4 w5 w8
  intro R
  induction R with
  | nil =>
    intro k c hk hkl hV
    have : (arrs true l h d f).length = k := by
      have := congrArg List.length hk
      simp only [List.length_drop, List.length_nil] at this
      omega
    refine am_wps 60 [38] ?_
    simp only [J72_0, J72_1, J72_2, J72_3, J72_5, J72_7, J72_8, J72_11, J72_14, J72_15, J72_16, J72_18, J72_21, J72_24, J72_25, J72_26, J72_29, J72_31, J72_32, J72_35, J72_38, J72_41, J72_42, J72_43, J72_46, J72_47, J72_50, J72_52, am_gg_c, am_gf_c, am_pf_c, am_af_c, am_sf_c, am_bf_c, am_qf_c, am_ap_c, am_bp_c, am_qp_c, am_lf_c, am_kt_s, am_kt_n, am_wst, am_wstop, am_ns_0, am_ns_1, Bool.not_true, Bool.not_false, Bool.true_and, Bool.false_and, Nat.reduceBEq, ↓reduceIte, am_k2_n, am_k2_i, am_k2_r, am_k2_u, am_k2_f, am_k2_l, Nat.zero_le, true_and, and_true, true_or, or_true, am_cat_0, am_cat_i, am_cat_r, am_cat_l, am_cat_n, Nat.reduceLeDiff, Nat.reduceAdd, Option.isSome_some, List.getElem?_cons_zero, List.getElem?_cons_succ, am_fit_i, am_fit_r, am_fit_a, f1]
    rw [if_neg (by rw [nI_ltI (by omega) (by omega)]; omega)]
    rw [hV] at hP
    unfold nbF at hP
    split
    · next q => rw [if_pos q] at hP; exact hP
    · next q => rw [if_neg q] at hP; exact hP
  | cons a R ih =>
    intro k c hk hkl hV
    have hkA : k < (arrs true l h d f).length := by
      have := congrArg List.length hk
      simp only [List.length_drop, List.length_cons] at this
      omega
    have hka : (arrs true l h d f)[k]? = some a := by
      have := congrArg (fun t => t[0]?) hk
      simpa using this
    have hk2 : (arrs true l h d f).drop (k + 1) = R := by rw [← List.drop_drop, hk]; rfl
    have hs : nbF (mtB n l t) ix (a :: R) k c = if mtB n l t a = true then (if nI c = ix then nI k else nbF (mtB n l t) ix R (k + 1) (c + 1)) else nbF (mtB n l t) ix R (k + 1) c := rfl
    rw [hs] at hV
    refine am_wps 60 [38] ?_
    simp only [J72_0, J72_1, J72_2, J72_3, J72_5, J72_7, J72_8, J72_11, J72_14, J72_15, J72_16, J72_18, J72_21, J72_24, J72_25, J72_26, J72_29, J72_31, J72_32, J72_35, J72_38, J72_41, J72_42, J72_43, J72_46, J72_47, J72_50, J72_52, am_gg_c, am_gf_c, am_pf_c, am_af_c, am_sf_c, am_bf_c, am_qf_c, am_ap_c, am_bp_c, am_qp_c, am_lf_c, am_kt_s, am_kt_n, am_wst, am_wstop, am_ns_0, am_ns_1, Bool.not_true, Bool.not_false, Bool.true_and, Bool.false_and, Nat.reduceBEq, ↓reduceIte, am_k2_n, am_k2_i, am_k2_r, am_k2_u, am_k2_f, am_k2_l, Nat.zero_le, true_and, and_true, true_or, or_true, am_cat_0, am_cat_i, am_cat_r, am_cat_l, am_cat_n, Nat.reduceLeDiff, Nat.reduceAdd, Option.isSome_some, List.getElem?_cons_zero, List.getElem?_cons_succ, am_fit_i, am_fit_r, am_fit_a, o1, f1]
    rw [if_pos (by rw [nI_ltI (by omega) (by omega)]; exact hkA)]
    refine sp_isMatch hD hw hC hf hka ?_
    simp only [J72_0, J72_1, J72_2, J72_3, J72_5, J72_7, J72_8, J72_11, J72_14, J72_15, J72_16, J72_18, J72_21, J72_24, J72_25, J72_26, J72_29, J72_31, J72_32, J72_35, J72_38, J72_41, J72_42, J72_43, J72_46, J72_47, J72_50, J72_52, am_gg_c, am_gf_c, am_pf_c, am_af_c, am_sf_c, am_bf_c, am_qf_c, am_ap_c, am_bp_c, am_qp_c, am_lf_c, am_kt_s, am_kt_n, am_wst, am_wstop, am_ns_0, am_ns_1, Bool.not_true, Bool.not_false, Bool.true_and, Bool.false_and, Nat.reduceBEq, ↓reduceIte, am_k2_n, am_k2_i, am_k2_r, am_k2_u, am_k2_f, am_k2_l, Nat.zero_le, true_and, and_true, true_or, or_true, am_cat_0, am_cat_i, am_cat_r, am_cat_l, am_cat_n, Nat.reduceLeDiff, Nat.reduceAdd, Option.isSome_some, List.getElem?_cons_zero, List.getElem?_cons_succ, am_fit_i, am_fit_r, am_fit_a]
    cases b : mtB n l t a with
    | true =>
      rw [b, if_pos rfl] at hV
      simp only [if_true, if_neg (show ¬ (1 : Int32) = 0 by decide)]
      by_cases c2 : nI c = ix
      · rw [if_pos c2] at hV
        rw [if_pos c2]
        rw [hV] at hP
        exact hP
      · rw [if_neg c2] at hV
        rw [if_neg c2]
        refine am_goto I72_38 ?_
        rw [nI_1, nI_1]
        exact ih (k + 1) (c + 1) hk2 (by omega) hV
    | false =>
      rw [b, if_neg (by decide)] at hV
      simp only [Bool.false_eq_true, if_false, if_true]
      refine am_goto I72_38 ?_
      rw [nI_1]
      exact ih (k + 1) c hk2 (by omega) hV
theorem sp_matchOf {ix : Int32} (hD : 6 ≤ D) (hw : WF (l, h, d, f)) (hC : CSs G l h d f n t s old) (hf : FO G l h d f) (hP : P (some (.int (nbF (mtB n l t) ix (arrs true l h d f) 0 0))) G) : am_CB X D 72 [.ref 0, .ref 3, .int ix] G P := by
  obtain ⟨D, rfl⟩ : ∃ D0, D = D0 + 1 := ⟨D - 1, by omega⟩
  refine B72 60 [5] ?_
  simp only [J72_0, J72_1, J72_2, J72_3, J72_5, J72_7, J72_8, J72_11, J72_14, J72_15, J72_16, J72_18, J72_21, J72_24, J72_25, J72_26, J72_29, J72_31, J72_32, J72_35, J72_38, J72_41, J72_42, J72_43, J72_46, J72_47, J72_50, J72_52, am_gg_c, am_gf_c, am_pf_c, am_af_c, am_sf_c, am_bf_c, am_qf_c, am_ap_c, am_bp_c, am_qp_c, am_lf_c, am_kt_s, am_kt_n, am_wst, am_wstop, am_ns_0, am_ns_1, Bool.not_true, Bool.not_false, Bool.true_and, Bool.false_and, Nat.reduceBEq, ↓reduceIte, am_k2_n, am_k2_i, am_k2_r, am_k2_u, am_k2_f, am_k2_l, Nat.zero_le, true_and, and_true, true_or, or_true, am_cat_0, am_cat_i, am_cat_r, am_cat_l, am_cat_n, Nat.reduceLeDiff, Nat.reduceAdd, Option.isSome_some, List.getElem?_cons_zero, List.getElem?_cons_succ, am_fit_i, am_fit_r, am_fit_a]
  exact lp_matchOf (by omega) hw hC hf hP _ 0 0 (by rw [List.drop_zero]) (by omega) rfl
theorem nb_nl {q : List (Nat × Nat) → Bool} : ∀ (R : List (List (Nat × Nat))) (k : Nat), nbF q 0 R k 0 = nlF q R k
  | [], k => by
    show (if (0 : Int32) = -1 then nI 0 else (-6 : Int32)) = -6
    rw [if_neg (by decide)]
  | a :: R, k => by
    unfold nbF nlF
    cases q a with
    | true => rw [if_pos rfl, if_pos rfl, if_pos (by rfl)]
    | false =>
      rw [if_neg (by decide), if_neg (by decide)]
      exact nb_nl R (k + 1)
theorem nlF_congr {q q' : List (Nat × Nat) → Bool} : ∀ {R : List (List (Nat × Nat))}, (∀ b ∈ R, q b = q' b) → ∀ k, nlF q R k = nlF q' R k
  | [], _, _ => rfl
  | b :: R, h, k => by
    unfold nlF
    rw [h b List.mem_cons_self, nlF_congr (fun c hc => h c (List.mem_cons_of_mem _ hc))]
theorem nlF_no {q : List (Nat × Nat) → Bool} : ∀ {R : List (List (Nat × Nat))}, (∀ b ∈ R, q b = false) → ∀ k, nlF q R k = -6
  | [], _, _ => rfl
  | b :: R, h, k => by
    unfold nlF
    rw [h b List.mem_cons_self, if_neg (by decide), nlF_no (fun c hc => h c (List.mem_cons_of_mem _ hc))]
theorem mt_eq (hr : rtB n l t = true) (hw : WF (l, h, d, f)) {a : List (Nat × Nat)} (ha : a ∈ arrs true l h d f) : mtB n l t a = eqR (rwN a) (gnP t) l := by
  have key : ∀ k, k ≤ l → mtR t (rwN a) k = eqR (rwN a) (gnP t) k := by
    intro k
    induction k with
    | zero => intro _; rfl
    | succ k ih =>
      intro hk
      have hg := gnP_le hr (i := k) (by omega)
      have hrw := rwN_lt (q := k) ha
      show (mtR t (rwN a) k && (decide (mgI (t k) = 18) || decide (mgI (t k) = nI (rwN a k)))) = (eqR (rwN a) (gnP t) k && (rwN a k == gnP t k))
      rw [ih (by omega), hg.2]
      congr 1
      have h18 : ¬ nI (gnP t k) = 18 := fun e => by
        have := bi_inj (a := gnP t k) (b := 18) (by omega) (by omega) e
        omega
      rw [decide_eq_false h18, Bool.false_or]
      by_cases c : rwN a k = gnP t k
      · rw [c]; simp
      · have : ¬ nI (gnP t k) = nI (rwN a k) := fun e => c (bi_inj (by omega) (by omega) e).symm
        rw [decide_eq_false this]
        simpa using c
  unfold mtB
  rw [decide_eq_true (rt_len hr), Bool.true_and, key l (Nat.le_refl _)]
theorem sp_crank (hD : 16 ≤ D) (hw : WF (l, h, d, f)) (hC : CSs G l h d f n t s old) (hP : ∀ o' G', CSs G' l h d f n t s o' → Fr kC G G' → P (some (.int (rkI l h d n f t))) G') : am_CB X D 65 [.ref 0] G P := by
  obtain ⟨D, rfl⟩ : ∃ D0, D = D0 + 1 := ⟨D - 1, by omega⟩
  obtain ⟨w1, w2, w3, w4, w5, w6, w7, w8⟩ := hw.o
  have o1 := hC.1
  unfold CO at o1
  unfold rkI at hP
  refine B65 60 [] ?_
  simp only [J65_0, J65_1, J65_4, J65_7, J65_9, J65_10, J65_11, J65_12, J65_15, J65_16, J65_19, am_gg_c, am_gf_c, am_pf_c, am_af_c, am_sf_c, am_bf_c, am_qf_c, am_ap_c, am_bp_c, am_qp_c, am_lf_c, am_kt_s, am_kt_n, am_wst, am_wstop, am_ns_0, am_ns_1, Bool.not_true, Bool.not_false, Bool.true_and, Bool.false_and, Nat.reduceBEq, ↓reduceIte, am_k2_n, am_k2_i, am_k2_r, am_k2_u, am_k2_f, am_k2_l, Nat.zero_le, true_and, and_true, true_or, or_true, am_cat_0, am_cat_i, am_cat_r, am_cat_l, am_cat_n, Nat.reduceLeDiff, Nat.reduceAdd, Option.isSome_some, List.getElem?_cons_zero, List.getElem?_cons_succ, am_fit_i, am_fit_r, am_fit_a, o1]
  refine sp_padIsRow (by omega) hw hC ?_
  simp only [J65_0, J65_1, J65_4, J65_7, J65_9, J65_10, J65_11, J65_12, J65_15, J65_16, J65_19, am_gg_c, am_gf_c, am_pf_c, am_af_c, am_sf_c, am_bf_c, am_qf_c, am_ap_c, am_bp_c, am_qp_c, am_lf_c, am_kt_s, am_kt_n, am_wst, am_wstop, am_ns_0, am_ns_1, Bool.not_true, Bool.not_false, Bool.true_and, Bool.false_and, Nat.reduceBEq, ↓reduceIte, am_k2_n, am_k2_i, am_k2_r, am_k2_u, am_k2_f, am_k2_l, Nat.zero_le, true_and, and_true, true_or, or_true, am_cat_0, am_cat_i, am_cat_r, am_cat_l, am_cat_n, Nat.reduceLeDiff, Nat.reduceAdd, Option.isSome_some, List.getElem?_cons_zero, List.getElem?_cons_succ, am_fit_i, am_fit_r, am_fit_a, o1]
  cases hr : rtB n l t with
  | false =>
    rw [hr] at hP
    simp only [Bool.false_eq_true, if_false, if_true] at hP ⊢
    exact hP _ G hC Fr.rf
  | true =>
    rw [hr] at hP
    simp only [if_true, if_neg (show ¬ (1 : Int32) = 0 by decide)] at hP ⊢
    refine sp_searched hw (by omega) hC (fun G1 c1 c2 c3 => ?_)
    have o2 := c1.1
    unfold CO at o2
    simp only [J65_0, J65_1, J65_4, J65_7, J65_9, J65_10, J65_11, J65_12, J65_15, J65_16, J65_19, am_gg_c, am_gf_c, am_pf_c, am_af_c, am_sf_c, am_bf_c, am_qf_c, am_ap_c, am_bp_c, am_qp_c, am_lf_c, am_kt_s, am_kt_n, am_wst, am_wstop, am_ns_0, am_ns_1, Bool.not_true, Bool.not_false, Bool.true_and, Bool.false_and, Nat.reduceBEq, ↓reduceIte, am_k2_n, am_k2_i, am_k2_r, am_k2_u, am_k2_f, am_k2_l, Nat.zero_le, true_and, and_true, true_or, or_true, am_cat_0, am_cat_i, am_cat_r, am_cat_l, am_cat_n, Nat.reduceLeDiff, Nat.reduceAdd, Option.isSome_some, List.getElem?_cons_zero, List.getElem?_cons_succ, am_fit_i, am_fit_r, am_fit_a, o2]
    refine sp_matchOf (by omega) hw c1 c2 ?_
    simp only [J65_0, J65_1, J65_4, J65_7, J65_9, J65_10, J65_11, J65_12, J65_15, J65_16, J65_19, am_gg_c, am_gf_c, am_pf_c, am_af_c, am_sf_c, am_bf_c, am_qf_c, am_ap_c, am_bp_c, am_qp_c, am_lf_c, am_kt_s, am_kt_n, am_wst, am_wstop, am_ns_0, am_ns_1, Bool.not_true, Bool.not_false, Bool.true_and, Bool.false_and, Nat.reduceBEq, ↓reduceIte, am_k2_n, am_k2_i, am_k2_r, am_k2_u, am_k2_f, am_k2_l, Nat.zero_le, true_and, and_true, true_or, or_true, am_cat_0, am_cat_i, am_cat_r, am_cat_l, am_cat_n, Nat.reduceLeDiff, Nat.reduceAdd, Option.isSome_some, List.getElem?_cons_zero, List.getElem?_cons_succ, am_fit_i, am_fit_r, am_fit_a]
    have hh := hP _ G1 c1 (c3.up (by decide))
    rw [nb_nl, nlF_congr (fun b hb => mt_eq hr hw hb)]
    by_cases cv : vdI (bkN l h d f (gnP t)) l = 0
    · rw [if_pos cv] at hh
      exact hh
    · rw [if_neg cv] at hh
      rw [nlF_no (fun b hb => by
        cases c : eqR (rwN b) (gnP t) l with
        | false => rfl
        | true => exact absurd (vdI_0.mpr (fun r _ _ q hq => arr_good w2 w4 w5 hb (fun q hq => ((eqR_s l).mp c q hq).symm) hq)) cv)]
      exact hh
theorem sp_cmatch {ix : Int32} (hD : 16 ≤ D) (hw : WF (l, h, d, f)) (hC : CSs G l h d f n t s old) (hP : ∀ o' G', CSs G' l h d f n t s o' → Fr kC G G' → P (some (.int (mtI (arrs true l h d f) n l t ix))) G') : am_CB X D 66 [.ref 0, .int ix] G P := by
  obtain ⟨D, rfl⟩ : ∃ D0, D = D0 + 1 := ⟨D - 1, by omega⟩
  have o1 := hC.1
  unfold CO at o1
  have c5 := hC.2.2.2.2.1
  have p1 := c5.1
  have hn := c5.2.1
  unfold mtI at hP
  rw [← ixI_ft n 0 (by omega)] at hP
  have hix : ixI t (-2) n 0 ≠ -6 := by
    have gen : ∀ k i, i + k ≤ 18 → ixI t (-2) k i ≠ -6 := by
      intro k
      induction k with
      | zero => intro i _; unfold ixI; decide
      | succ k ih =>
        intro i hi
        unfold ixI
        split
        · exact (nI_n1 (by omega)).2.2.1
        · exact ih (i + 1) (by omega)
    exact gen n 0 (by omega)
  refine B66 60 [] ?_
  simp only [J66_0, J66_1, J66_4, J66_6, J66_9, J66_12, J66_14, J66_15, J66_16, J66_17, J66_20, J66_21, J66_24, am_gg_c, am_gf_c, am_pf_c, am_af_c, am_sf_c, am_bf_c, am_qf_c, am_ap_c, am_bp_c, am_qp_c, am_lf_c, am_kt_s, am_kt_n, am_wst, am_wstop, am_ns_0, am_ns_1, Bool.not_true, Bool.not_false, Bool.true_and, Bool.false_and, Nat.reduceBEq, ↓reduceIte, am_k2_n, am_k2_i, am_k2_r, am_k2_u, am_k2_f, am_k2_l, Nat.zero_le, true_and, and_true, true_or, or_true, am_cat_0, am_cat_i, am_cat_r, am_cat_l, am_cat_n, Nat.reduceLeDiff, Nat.reduceAdd, Option.isSome_some, List.getElem?_cons_zero, List.getElem?_cons_succ, am_fit_i, am_fit_r, am_fit_a, o1, p1]
  refine sp_indexOf (by omega) c5 ?_
  simp only [J66_0, J66_1, J66_4, J66_6, J66_9, J66_12, J66_14, J66_15, J66_16, J66_17, J66_20, J66_21, J66_24, am_gg_c, am_gf_c, am_pf_c, am_af_c, am_sf_c, am_bf_c, am_qf_c, am_ap_c, am_bp_c, am_qp_c, am_lf_c, am_kt_s, am_kt_n, am_wst, am_wstop, am_ns_0, am_ns_1, Bool.not_true, Bool.not_false, Bool.true_and, Bool.false_and, Nat.reduceBEq, ↓reduceIte, am_k2_n, am_k2_i, am_k2_r, am_k2_u, am_k2_f, am_k2_l, Nat.zero_le, true_and, and_true, true_or, or_true, am_cat_0, am_cat_i, am_cat_r, am_cat_l, am_cat_n, Nat.reduceLeDiff, Nat.reduceAdd, Option.isSome_some, List.getElem?_cons_zero, List.getElem?_cons_succ, am_fit_i, am_fit_r, am_fit_a, o1]
  by_cases c : ixI t (-2) n 0 < 0
  · simp only [if_pos c, if_true] at hP
    rw [if_pos c]
    refine sp_searched hw (by omega) hC (fun G1 c1 c2 c3 => ?_)
    have o2 := c1.1
    unfold CO at o2
    simp only [J66_0, J66_1, J66_4, J66_6, J66_9, J66_12, J66_14, J66_15, J66_16, J66_17, J66_20, J66_21, J66_24, am_gg_c, am_gf_c, am_pf_c, am_af_c, am_sf_c, am_bf_c, am_qf_c, am_ap_c, am_bp_c, am_qp_c, am_lf_c, am_kt_s, am_kt_n, am_wst, am_wstop, am_ns_0, am_ns_1, Bool.not_true, Bool.not_false, Bool.true_and, Bool.false_and, Nat.reduceBEq, ↓reduceIte, am_k2_n, am_k2_i, am_k2_r, am_k2_u, am_k2_f, am_k2_l, Nat.zero_le, true_and, and_true, true_or, or_true, am_cat_0, am_cat_i, am_cat_r, am_cat_l, am_cat_n, Nat.reduceLeDiff, Nat.reduceAdd, Option.isSome_some, List.getElem?_cons_zero, List.getElem?_cons_succ, am_fit_i, am_fit_r, am_fit_a, o2]
    refine sp_matchOf (by omega) hw c1 c2 ?_
    simp only [J66_0, J66_1, J66_4, J66_6, J66_9, J66_12, J66_14, J66_15, J66_16, J66_17, J66_20, J66_21, J66_24, am_gg_c, am_gf_c, am_pf_c, am_af_c, am_sf_c, am_bf_c, am_qf_c, am_ap_c, am_bp_c, am_qp_c, am_lf_c, am_kt_s, am_kt_n, am_wst, am_wstop, am_ns_0, am_ns_1, Bool.not_true, Bool.not_false, Bool.true_and, Bool.false_and, Nat.reduceBEq, ↓reduceIte, am_k2_n, am_k2_i, am_k2_r, am_k2_u, am_k2_f, am_k2_l, Nat.zero_le, true_and, and_true, true_or, or_true, am_cat_0, am_cat_i, am_cat_r, am_cat_l, am_cat_n, Nat.reduceLeDiff, Nat.reduceAdd, Option.isSome_some, List.getElem?_cons_zero, List.getElem?_cons_succ, am_fit_i, am_fit_r, am_fit_a]
    exact hP _ G1 c1 (c3.up (by decide))
  · simp only [if_neg c, if_neg hix] at hP
    rw [if_neg c]
    exact hP _ G hC Fr.rf
end CJ
