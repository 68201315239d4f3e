theorem fdI_s {q : List (Nat × Nat) → Bool} : ∀ (R : List (List (Nat × Nat))) (k0 : Nat), k0 + R.length < 2 ^ 31 → ((fdI q R k0 = -1 ∧ ∀ b ∈ R, q b = false) ∨ ∃ j b, fdI q R k0 = nI (k0 + j) ∧ R[j]? = some b ∧ q b = true ∧ ∀ j' b', j' < j → R[j']? = some b' → q b' = false)
  | [], k0, _ => Or.inl ⟨rfl, fun b hb => by cases hb⟩
  | a :: R, k0, h => by
    rw [List.length_cons] at h
    unfold fdI
    cases c : q a with
    | true => exact Or.inr ⟨0, a, by rw [if_pos rfl, Nat.add_zero], rfl, c, fun j' b' hj => by omega⟩
    | false =>
      rw [if_neg (by decide)]
      rcases fdI_s R (k0 + 1) (by omega) with ⟨h1, h2⟩ | ⟨j, b, h1, h2, h3, h4⟩
      · refine Or.inl ⟨h1, fun b hb => ?_⟩
        rcases List.mem_cons.mp hb with e | e
        · rw [e]; exact c
        · exact h2 b e
      · refine Or.inr ⟨j + 1, b, by rw [h1]; congr 1; omega, h2, h3, fun j' b' hj hb' => ?_⟩
        match j', hj, hb' with
        | 0, _, hb' =>
          simp at hb'
          rw [← hb']; exact c
        | j' + 1, hj, hb' => exact h4 j' b' (by omega) (by simpa using hb')
theorem fd_nl {q : List (Nat × Nat) → Bool} : ∀ (R : List (List (Nat × Nat))) (k : Nat), k + R.length < 2 ^ 31 → (if fdI q R k < 0 then (-6 : Int32) else fdI q R k) = nlF q R k
  | [], k, _ => by unfold fdI nlF; rw [if_pos (by decide)]
  | a :: R, k, h => by
    rw [List.length_cons] at h
    unfold fdI nlF
    cases q a with
    | true => rw [if_pos rfl, if_pos rfl, if_neg (nI_pos (by omega))]
    | false =>
      simp only [Bool.false_eq_true, if_false]
      exact fd_nl R (k + 1) (by omega)
section CA
variable {X : Nat × (Nat → Int32)} {D : Nat} {G : am_H} {P : Option Value → am_H → Prop} {l h d : Nat} {f : Nat → Nat} {n : Nat} {t : Nat → Int32} {s : Nat → Option PT} {old : Bool}
def spN (A : List (List (Nat × Nat))) (z : Int32) (l n : Nat) : Nat := match goA A z with
  | none => n
  | some _ => l
def spF (A : List (List (Nat × Nat))) (z : Int32) (t : Nat → Int32) : Nat → Int32 := match goA A z with
  | none => t
  | some a => fun i => sgI (nI (rwN a i))
def spV (A : List (List (Nat × Nat))) (z : Int32) (l : Nat) : Int32 := match goA A z with
  | none => -1
  | some _ => nI l
theorem lp_cspell {a : List (Nat × Nat)} {k0 : Nat} {G0 : am_H} (hD : 4 ≤ D) (hw : WF (l, h, d, f)) (hk0 : (arrs true l h d f)[k0]? = some a) (hf : ∀ G, Fr [10, 11] G0 G → FO G l h d f) (hP : ∀ G, CSs G l h d f l (fun i => sgI (nI (rwN a i))) s old → Fr [10, 11] G0 G → P (some (.int (nI l))) G) : ∀ (k i : Nat) (G : am_H), i + k = l → CSs G l h d f i (fun i => sgI (nI (rwN a i))) s old → Fr [10, 11] G0 G → am_WP X D 67 23 [some (.ref 0), some (.int (nI k0)), some (.int (nI i))] [] G 0 0 P := by
  obtain ⟨w1, w2, w3, w4, w5, w6, w7, w8⟩ := hw.o
  intro k
  induction k with
  | zero =>
    intro i G hi hC hF
    have o1 := hC.1
    unfold CO at o1
    have q1 := hC.2.1.1
    have p1 := hC.2.2.2.2.1.1
    have e : i = l := by omega
    subst e
    refine am_wps 60 [56] ?_
    simp only [J67_0, J67_1, J67_4, J67_5, J67_8, J67_11, J67_12, J67_13, J67_14, J67_17, J67_18, J67_21, J67_22, J67_23, J67_24, J67_25, J67_28, J67_31, J67_34, J67_35, J67_38, J67_39, J67_42, J67_43, J67_44, J67_47, J67_50, J67_53, J67_56, J67_59, J67_60, J67_63, J67_66, am_gg_c, am_gf_c, am_pf_c, am_af_c, am_sf_c, am_bf_c, am_qf_c, am_ap_c, am_bp_c, am_qp_c, am_lf_c, am_kt_s, am_kt_n, am_wst, am_wstop, am_ns_0, am_ns_1, Bool.not_true, Bool.not_false, Bool.true_and, Bool.false_and, Nat.reduceBEq, ↓reduceIte, am_k2_n, am_k2_i, am_k2_r, am_k2_u, am_k2_f, am_k2_l, Nat.zero_le, true_and, and_true, true_or, or_true, am_cat_0, am_cat_i, am_cat_r, am_cat_l, am_cat_n, Nat.reduceLeDiff, Nat.reduceAdd, Option.isSome_some, List.getElem?_cons_zero, List.getElem?_cons_succ, am_fit_i, am_fit_r, am_fit_a, o1, q1, p1]
    rw [if_neg (by rw [nI_ltI (by omega) (by omega)]; omega)]
    exact hP G hC hF
  | succ k ih =>
    intro i G hi hC hF
    have o1 := hC.1
    unfold CO at o1
    have q1 := hC.2.1.1
    have c5 := hC.2.2.2.2.1
    have p1 := c5.1
    have hf1 := hf G hF
    obtain ⟨pr, f1⟩ := fo_ob hf1
    refine am_wps 60 [56] ?_
    simp only [J67_0, J67_1, J67_4, J67_5, J67_8, J67_11, J67_12, J67_13, J67_14, J67_17, J67_18, J67_21, J67_22, J67_23, J67_24, J67_25, J67_28, J67_31, J67_34, J67_35, J67_38, J67_39, J67_42, J67_43, J67_44, J67_47, J67_50, J67_53, J67_56, J67_59, J67_60, J67_63, J67_66, am_gg_c, am_gf_c, am_pf_c, am_af_c, am_sf_c, am_bf_c, am_qf_c, am_ap_c, am_bp_c, am_qp_c, am_lf_c, am_kt_s, am_kt_n, am_wst, am_wstop, am_ns_0, am_ns_1, Bool.not_true, Bool.not_false, Bool.true_and, Bool.false_and, Nat.reduceBEq, ↓reduceIte, am_k2_n, am_k2_i, am_k2_r, am_k2_u, am_k2_f, am_k2_l, Nat.zero_le, true_and, and_true, true_or, or_true, am_cat_0, am_cat_i, am_cat_r, am_cat_l, am_cat_n, Nat.reduceLeDiff, Nat.reduceAdd, Option.isSome_some, List.getElem?_cons_zero, List.getElem?_cons_succ, am_fit_i, am_fit_r, am_fit_a, o1, q1, p1, f1]
    rw [if_pos (by rw [nI_ltI (by omega) (by omega)]; omega)]
    refine sp_valueAt w2 w4 w5 w8 (by omega) hD hf1 hk0 ?_
    simp only [J67_0, J67_1, J67_4, J67_5, J67_8, J67_11, J67_12, J67_13, J67_14, J67_17, J67_18, J67_21, J67_22, J67_23, J67_24, J67_25, J67_28, J67_31, J67_34, J67_35, J67_38, J67_39, J67_42, J67_43, J67_44, J67_47, J67_50, J67_53, J67_56, J67_59, J67_60, J67_63, J67_66, am_gg_c, am_gf_c, am_pf_c, am_af_c, am_sf_c, am_bf_c, am_qf_c, am_ap_c, am_bp_c, am_qp_c, am_lf_c, am_kt_s, am_kt_n, am_wst, am_wstop, am_ns_0, am_ns_1, Bool.not_true, Bool.not_false, Bool.true_and, Bool.false_and, Nat.reduceBEq, ↓reduceIte, am_k2_n, am_k2_i, am_k2_r, am_k2_u, am_k2_f, am_k2_l, Nat.zero_le, true_and, and_true, true_or, or_true, am_cat_0, am_cat_i, am_cat_r, am_cat_l, am_cat_n, Nat.reduceLeDiff, Nat.reduceAdd, Option.isSome_some, List.getElem?_cons_zero, List.getElem?_cons_succ, am_fit_i, am_fit_r, am_fit_a]
    refine sp_codeOf (by omega) ?_
    simp only [J67_0, J67_1, J67_4, J67_5, J67_8, J67_11, J67_12, J67_13, J67_14, J67_17, J67_18, J67_21, J67_22, J67_23, J67_24, J67_25, J67_28, J67_31, J67_34, J67_35, J67_38, J67_39, J67_42, J67_43, J67_44, J67_47, J67_50, J67_53, J67_56, J67_59, J67_60, J67_63, J67_66, am_gg_c, am_gf_c, am_pf_c, am_af_c, am_sf_c, am_bf_c, am_qf_c, am_ap_c, am_bp_c, am_qp_c, am_lf_c, am_kt_s, am_kt_n, am_wst, am_wstop, am_ns_0, am_ns_1, Bool.not_true, Bool.not_false, Bool.true_and, Bool.false_and, Nat.reduceBEq, ↓reduceIte, am_k2_n, am_k2_i, am_k2_r, am_k2_u, am_k2_f, am_k2_l, Nat.zero_le, true_and, and_true, true_or, or_true, am_cat_0, am_cat_i, am_cat_r, am_cat_l, am_cat_n, Nat.reduceLeDiff, Nat.reduceAdd, Option.isSome_some, List.getElem?_cons_zero, List.getElem?_cons_succ, am_fit_i, am_fit_r, am_fit_a, p1]
    refine sp_append (by omega) c5 (by omega) (fun G1 b1 b2 => ?_)
    simp only [J67_0, J67_1, J67_4, J67_5, J67_8, J67_11, J67_12, J67_13, J67_14, J67_17, J67_18, J67_21, J67_22, J67_23, J67_24, J67_25, J67_28, J67_31, J67_34, J67_35, J67_38, J67_39, J67_42, J67_43, J67_44, J67_47, J67_50, J67_53, J67_56, J67_59, J67_60, J67_63, J67_66, am_gg_c, am_gf_c, am_pf_c, am_af_c, am_sf_c, am_bf_c, am_qf_c, am_ap_c, am_bp_c, am_qp_c, am_lf_c, am_kt_s, am_kt_n, am_wst, am_wstop, am_ns_0, am_ns_1, Bool.not_true, Bool.not_false, Bool.true_and, Bool.false_and, Nat.reduceBEq, ↓reduceIte, am_k2_n, am_k2_i, am_k2_r, am_k2_u, am_k2_f, am_k2_l, Nat.zero_le, true_and, and_true, true_or, or_true, am_cat_0, am_cat_i, am_cat_r, am_cat_l, am_cat_n, Nat.reduceLeDiff, Nat.reduceAdd, Option.isSome_some, List.getElem?_cons_zero, List.getElem?_cons_succ, am_fit_i, am_fit_r, am_fit_a]
    refine am_goto I67_56 ?_
    rw [nI_1]
    have ef : (fun i' => if i' = i then sgI (nI (rwN a i)) else (fun i => sgI (nI (rwN a i))) i') = (fun i => sgI (nI (rwN a i))) := by
      funext j
      by_cases e : j = i
      · rw [if_pos e, e]
      · rw [if_neg e]
    rw [ef] at b1
    exact ih (i + 1) G1 (by omega) (cs_pad hC b2 b1) (hF.tr b2)
theorem sp_cspell {z : Int32} (hD : 16 ≤ D) (hw : WF (l, h, d, f)) (hC : CSs G l h d f n t s old) (hP : ∀ o' G', CSs G' l h d f (spN (arrs true l h d f) z l n) (spF (arrs true l h d f) z t) s o' → Fr kC G G' → P (some (.int (spV (arrs true l h d f) z l))) G') : am_CB X D 67 [.ref 0, .int z] G P := by
  obtain ⟨D, rfl⟩ : ∃ D0, D = D0 + 1 := ⟨D - 1, by omega⟩
  obtain ⟨w1, w2, w3, w4, w5, w6, w7, w8⟩ := hw.o
  have o1 := hC.1
  unfold CO at o1
  unfold spN spF spV at hP
  refine B67 60 [23] ?_
  simp only [J67_0, J67_1, J67_4, J67_5, J67_8, J67_11, J67_12, J67_13, J67_14, J67_17, J67_18, J67_21, J67_22, J67_23, J67_24, J67_25, J67_28, J67_31, J67_34, J67_35, J67_38, J67_39, J67_42, J67_43, J67_44, J67_47, J67_50, J67_53, J67_56, J67_59, J67_60, J67_63, J67_66, am_gg_c, am_gf_c, am_pf_c, am_af_c, am_sf_c, am_bf_c, am_qf_c, am_ap_c, am_bp_c, am_qp_c, am_lf_c, am_kt_s, am_kt_n, am_wst, am_wstop, am_ns_0, am_ns_1, Bool.not_true, Bool.not_false, Bool.true_and, Bool.false_and, Nat.reduceBEq, ↓reduceIte, am_k2_n, am_k2_i, am_k2_r, am_k2_u, am_k2_f, am_k2_l, Nat.zero_le, true_and, and_true, true_or, or_true, am_cat_0, am_cat_i, am_cat_r, am_cat_l, am_cat_n, Nat.reduceLeDiff, Nat.reduceAdd, Option.isSome_some, List.getElem?_cons_zero, List.getElem?_cons_succ, am_fit_i, am_fit_r, am_fit_a, o1]
  refine sp_searched hw (by omega) hC (fun G1 c1 c2 c3 => ?_)
  obtain ⟨pr, f1⟩ := fo_ob c2
  simp only [J67_0, J67_1, J67_4, J67_5, J67_8, J67_11, J67_12, J67_13, J67_14, J67_17, J67_18, J67_21, J67_22, J67_23, J67_24, J67_25, J67_28, J67_31, J67_34, J67_35, J67_38, J67_39, J67_42, J67_43, J67_44, J67_47, J67_50, J67_53, J67_56, J67_59, J67_60, J67_63, J67_66, am_gg_c, am_gf_c, am_pf_c, am_af_c, am_sf_c, am_bf_c, am_qf_c, am_ap_c, am_bp_c, am_qp_c, am_lf_c, am_kt_s, am_kt_n, am_wst, am_wstop, am_ns_0, am_ns_1, Bool.not_true, Bool.not_false, Bool.true_and, Bool.false_and, Nat.reduceBEq, ↓reduceIte, am_k2_n, am_k2_i, am_k2_r, am_k2_u, am_k2_f, am_k2_l, Nat.zero_le, true_and, and_true, true_or, or_true, am_cat_0, am_cat_i, am_cat_r, am_cat_l, am_cat_n, Nat.reduceLeDiff, Nat.reduceAdd, Option.isSome_some, List.getElem?_cons_zero, List.getElem?_cons_succ, am_fit_i, am_fit_r, am_fit_a, f1]
  refine sp_fhas (by omega) c2 ?_
  have o2 := c1.1
  unfold CO at o2
  obtain ⟨p1, p2, cc, p3, p4⟩ := id c1.2.2.2.2.1
  have k10 := am_ob_lt p1
  simp only [J67_0, J67_1, J67_4, J67_5, J67_8, J67_11, J67_12, J67_13, J67_14, J67_17, J67_18, J67_21, J67_22, J67_23, J67_24, J67_25, J67_28, J67_31, J67_34, J67_35, J67_38, J67_39, J67_42, J67_43, J67_44, J67_47, J67_50, J67_53, J67_56, J67_59, J67_60, J67_63, J67_66, am_gg_c, am_gf_c, am_pf_c, am_af_c, am_sf_c, am_bf_c, am_qf_c, am_ap_c, am_bp_c, am_qp_c, am_lf_c, am_kt_s, am_kt_n, am_wst, am_wstop, am_ns_0, am_ns_1, Bool.not_true, Bool.not_false, Bool.true_and, Bool.false_and, Nat.reduceBEq, ↓reduceIte, am_k2_n, am_k2_i, am_k2_r, am_k2_u, am_k2_f, am_k2_l, Nat.zero_le, true_and, and_true, true_or, or_true, am_cat_0, am_cat_i, am_cat_r, am_cat_l, am_cat_n, Nat.reduceLeDiff, Nat.reduceAdd, Option.isSome_some, List.getElem?_cons_zero, List.getElem?_cons_succ, am_fit_i, am_fit_r, am_fit_a, o2, p1]
  cases hz : inN z (arrs true l h d f).length with
  | false =>
    rw [go_none hz] at hP
    simp only [Bool.false_eq_true, if_false, if_true]
    exact hP _ G1 c1 (c3.up (by decide))
  | true =>
    obtain ⟨k0, a, rfl, hk, ha, hg⟩ := go_some (arrs_len w2 w4 w5 w8) hz
    rw [hg] at hP
    simp only at hP
    simp only [if_true, if_neg (show ¬ (1 : Int32) = 0 by decide), Value.category, List.length_cons, List.length_nil, Nat.reduceLT, List.set_cons_succ, List.set_cons_zero]
    have hF : Fr [10, 11] G1 (G1.set 10 (am_o 1 [.ref 11, .int 0])) := Fr.set (by decide)
    have hC2 : CSs (G1.set 10 (am_o 1 [.ref 11, .int 0])) l h d f 0 (fun i => sgI (nI (rwN a i))) s false := cs_pad c1 hF ⟨am_ob_ss k10, by omega, cc, by rw [am_ia_sn (show 10 ≠ 11 by decide)]; exact p3, fun i hi => by omega⟩
    refine ⟨by decide, ?_⟩
    exact am_WP.fg (lp_cspell (X := X) (D := D) (P := P) (a := a) (k0 := k0) (old := false) (s := s) (G0 := G1.set 10 (am_o 1 [.ref 11, .int 0])) (by omega) hw ha (fun G' hF' => c2.fr (hF.tr hF') (by decide) (by decide) (by decide) (by decide)) (fun G' a1 a2 => hP _ G' a1 ((c3.up (by decide)).tr ((hF.tr a2).up (by decide)))) l 0 _ (by omega) hC2 Fr.rf) (by simp [am_le, nI_0])
theorem sp_creversed {z : Int32} (hD : 16 ≤ D) (hw : WF (l, h, d, f)) (hC : CSs G l h d f n t s old) (hP : ∀ o' G', CSs G' l h d f n t s o' → Fr kC G G' → P (some (.int (rvI l h d f z))) G') : am_CB X D 74 [.ref 0, .int z] G P := by
  obtain ⟨D, rfl⟩ : ∃ D0, D = D0 + 1 := ⟨D - 1, by omega⟩
  obtain ⟨w1, w2, w3, w4, w5, w6, w7, w8⟩ := hw.o
  have o1 := hC.1
  unfold CO at o1
  unfold rvI at hP
  have hlen := arrs_len (ipb := true) (h := h) (f := f) w2 w4 w5 w8
  refine B74 60 [] ?_
  simp only [J74_0, J74_1, J74_4, J74_5, J74_8, J74_11, J74_12, J74_13, J74_14, J74_17, J74_18, J74_21, J74_22, J74_23, J74_26, J74_28, J74_31, J74_32, am_gg_c, am_gf_c, am_pf_c, am_af_c, am_sf_c, am_bf_c, am_qf_c, am_ap_c, am_bp_c, am_qp_c, am_lf_c, am_kt_s, am_kt_n, am_wst, am_wstop, am_ns_0, am_ns_1, Bool.not_true, Bool.not_false, Bool.true_and, Bool.false_and, Nat.reduceBEq, ↓reduceIte, am_k2_n, am_k2_i, am_k2_r, am_k2_u, am_k2_f, am_k2_l, Nat.zero_le, true_and, and_true, true_or, or_true, am_cat_0, am_cat_i, am_cat_r, am_cat_l, am_cat_n, Nat.reduceLeDiff, Nat.reduceAdd, Option.isSome_some, List.getElem?_cons_zero, List.getElem?_cons_succ, am_fit_i, am_fit_r, am_fit_a, o1]
  refine sp_searched hw (by omega) hC (fun G1 c1 c2 c3 => ?_)
  obtain ⟨pr, f1⟩ := fo_ob c2
  simp only [J74_0, J74_1, J74_4, J74_5, J74_8, J74_11, J74_12, J74_13, J74_14, J74_17, J74_18, J74_21, J74_22, J74_23, J74_26, J74_28, J74_31, J74_32, am_gg_c, am_gf_c, am_pf_c, am_af_c, am_sf_c, am_bf_c, am_qf_c, am_ap_c, am_bp_c, am_qp_c, am_lf_c, am_kt_s, am_kt_n, am_wst, am_wstop, am_ns_0, am_ns_1, Bool.not_true, Bool.not_false, Bool.true_and, Bool.false_and, Nat.reduceBEq, ↓reduceIte, am_k2_n, am_k2_i, am_k2_r, am_k2_u, am_k2_f, am_k2_l, Nat.zero_le, true_and, and_true, true_or, or_true, am_cat_0, am_cat_i, am_cat_r, am_cat_l, am_cat_n, Nat.reduceLeDiff, Nat.reduceAdd, Option.isSome_some, List.getElem?_cons_zero, List.getElem?_cons_succ, am_fit_i, am_fit_r, am_fit_a, f1]
  refine sp_fhas (by omega) c2 ?_
  have o2 := c1.1
  unfold CO at o2
  have hh := hP _ G1 c1 (c3.up (by decide))
  simp only [J74_0, J74_1, J74_4, J74_5, J74_8, J74_11, J74_12, J74_13, J74_14, J74_17, J74_18, J74_21, J74_22, J74_23, J74_26, J74_28, J74_31, J74_32, am_gg_c, am_gf_c, am_pf_c, am_af_c, am_sf_c, am_bf_c, am_qf_c, am_ap_c, am_bp_c, am_qp_c, am_lf_c, am_kt_s, am_kt_n, am_wst, am_wstop, am_ns_0, am_ns_1, Bool.not_true, Bool.not_false, Bool.true_and, Bool.false_and, Nat.reduceBEq, ↓reduceIte, am_k2_n, am_k2_i, am_k2_r, am_k2_u, am_k2_f, am_k2_l, Nat.zero_le, true_and, and_true, true_or, or_true, am_cat_0, am_cat_i, am_cat_r, am_cat_l, am_cat_n, Nat.reduceLeDiff, Nat.reduceAdd, Option.isSome_some, List.getElem?_cons_zero, List.getElem?_cons_succ, am_fit_i, am_fit_r, am_fit_a, o2, f1]
  cases hz : inN z (arrs true l h d f).length with
  | false =>
    rw [go_none hz] at hh
    simp only [Bool.false_eq_true, if_false, if_true]
    exact hh
  | true =>
    obtain ⟨k0, a, rfl, hk, ha, hg⟩ := go_some hlen hz
    rw [hg] at hh
    simp only at hh
    simp only [if_true, if_neg (show ¬ (1 : Int32) = 0 by decide)]
    refine sp_revOf w2 w4 w5 w8 (by omega) c2 ha ?_
    simp only [J74_0, J74_1, J74_4, J74_5, J74_8, J74_11, J74_12, J74_13, J74_14, J74_17, J74_18, J74_21, J74_22, J74_23, J74_26, J74_28, J74_31, J74_32, am_gg_c, am_gf_c, am_pf_c, am_af_c, am_sf_c, am_bf_c, am_qf_c, am_ap_c, am_bp_c, am_qp_c, am_lf_c, am_kt_s, am_kt_n, am_wst, am_wstop, am_ns_0, am_ns_1, Bool.not_true, Bool.not_false, Bool.true_and, Bool.false_and, Nat.reduceBEq, ↓reduceIte, am_k2_n, am_k2_i, am_k2_r, am_k2_u, am_k2_f, am_k2_l, Nat.zero_le, true_and, and_true, true_or, or_true, am_cat_0, am_cat_i, am_cat_r, am_cat_l, am_cat_n, Nat.reduceLeDiff, Nat.reduceAdd, Option.isSome_some, List.getElem?_cons_zero, List.getElem?_cons_succ, am_fit_i, am_fit_r, am_fit_a]
    have e : (if fdI (fun b => eqR (rwN b) (rvN l a) l) (arrs true l h d f) 0 < 0 then (-6 : Int32) else fdI (fun b => eqR (rwN b) (rvN l a) l) (arrs true l h d f) 0) = (if vdI (bkN l h d f (rvN l a)) l = 0 then nlF (fun b => eqR (rwN b) (rvN l a) l) (arrs true l h d f) 0 else -6) := by
      rw [fd_nl _ 0 (by omega)]
      by_cases cv : vdI (bkN l h d f (rvN l a)) l = 0
      · rw [if_pos cv]
      · rw [if_neg cv]
        exact nlF_no (fun b hb => by
          cases c : eqR (rwN b) (rvN l a) l with
          | false => rfl
          | true => exact absurd (vdI_0.mpr (fun r _ _ q hq => arr_good w2 w4 w5 hb (fun q hq => ((eqR_s l).mp c q hq).symm) hq)) cv) 0
    rw [← e] at hh
    split
    · next q => rw [if_pos q] at hh; exact hh
    · next q => rw [if_neg q] at hh; exact hh
theorem lp_cclasses (hD : 4 ≤ D) (hw : WF (l, h, d, f)) (hC : CSs G l h d f n t s old) (hf : FO G l h d f) {V : Nat} (hP : P (some (.int (nI V))) G) : ∀ (R : List (List (Nat × Nat))) (k c : Nat), (arrs true l h d f).drop k = R → k ≤ (arrs true l h d f).length → V = clN l h d f R c → am_WP X D 75 12 [some (.ref 0), some (.int (nI (arrs true l h d f).length)), some (.int (nI c)), some (.int (nI k)), none] [] G 0 0 P := by
  obtain ⟨w1, w2, w3, w4, w5, w6, w7, w8⟩ := hw.o
  have o1 := hC.1
  unfold CO at o1
  obtain ⟨pr, f1⟩ := fo_ob hf
  have hlen := arrs_len (ipb := true) (h := h) (f := f) w2 w4 w5 w8
  intro R
  induction R with
  | nil =>
    intro k c hk hkl hV
    have : (arrs true l h d f).length = k := by
      have := congrArg List.length hk
      simp only [List.length_drop, List.length_nil] at this
      omega
    refine am_wps 60 [44] ?_
    simp only [J75_0, J75_1, J75_4, J75_7, J75_8, J75_9, J75_10, J75_11, J75_12, J75_13, J75_14, J75_17, J75_18, J75_21, J75_22, J75_25, J75_27, J75_29, J75_32, J75_34, J75_35, J75_38, J75_41, J75_44, J75_47, J75_48, am_gg_c, am_gf_c, am_pf_c, am_af_c, am_sf_c, am_bf_c, am_qf_c, am_ap_c, am_bp_c, am_qp_c, am_lf_c, am_kt_s, am_kt_n, am_wst, am_wstop, am_ns_0, am_ns_1, Bool.not_true, Bool.not_false, Bool.true_and, Bool.false_and, Nat.reduceBEq, ↓reduceIte, am_k2_n, am_k2_i, am_k2_r, am_k2_u, am_k2_f, am_k2_l, Nat.zero_le, true_and, and_true, true_or, or_true, am_cat_0, am_cat_i, am_cat_r, am_cat_l, am_cat_n, Nat.reduceLeDiff, Nat.reduceAdd, Option.isSome_some, List.getElem?_cons_zero, List.getElem?_cons_succ, am_fit_i, am_fit_r, am_fit_a]
    rw [if_neg (by rw [nI_ltI (by omega) (by omega)]; omega)]
    rw [hV] at hP
    exact hP
  | cons a R ih =>
    intro k c hk hkl hV
    have hkA : k < (arrs true l h d f).length := by
      have := congrArg List.length hk
      simp only [List.length_drop, List.length_cons] at this
      omega
    have hka : (arrs true l h d f)[k]? = some a := by
      have := congrArg (fun t => t[0]?) hk
      simpa using this
    have hk2 : (arrs true l h d f).drop (k + 1) = R := by rw [← List.drop_drop, hk]; rfl
    have hs : clN l h d f (a :: R) c = clN l h d f R (c + (if clB l h d f a = true then 1 else 0)) := rfl
    rw [hs] at hV
    have hcl := clB_s w1 w2 w4 w5 hka
    refine am_wps 60 [44] ?_
    simp only [J75_0, J75_1, J75_4, J75_7, J75_8, J75_9, J75_10, J75_11, J75_12, J75_13, J75_14, J75_17, J75_18, J75_21, J75_22, J75_25, J75_27, J75_29, J75_32, J75_34, J75_35, J75_38, J75_41, J75_44, J75_47, J75_48, am_gg_c, am_gf_c, am_pf_c, am_af_c, am_sf_c, am_bf_c, am_qf_c, am_ap_c, am_bp_c, am_qp_c, am_lf_c, am_kt_s, am_kt_n, am_wst, am_wstop, am_ns_0, am_ns_1, Bool.not_true, Bool.not_false, Bool.true_and, Bool.false_and, Nat.reduceBEq, ↓reduceIte, am_k2_n, am_k2_i, am_k2_r, am_k2_u, am_k2_f, am_k2_l, Nat.zero_le, true_and, and_true, true_or, or_true, am_cat_0, am_cat_i, am_cat_r, am_cat_l, am_cat_n, Nat.reduceLeDiff, Nat.reduceAdd, Option.isSome_some, List.getElem?_cons_zero, List.getElem?_cons_succ, am_fit_i, am_fit_r, am_fit_a, o1, f1]
    rw [if_pos (by rw [nI_ltI (by omega) (by omega)]; exact hkA)]
    refine sp_revOf w2 w4 w5 w8 hD hf hka ?_
    simp only [J75_0, J75_1, J75_4, J75_7, J75_8, J75_9, J75_10, J75_11, J75_12, J75_13, J75_14, J75_17, J75_18, J75_21, J75_22, J75_25, J75_27, J75_29, J75_32, J75_34, J75_35, J75_38, J75_41, J75_44, J75_47, J75_48, am_gg_c, am_gf_c, am_pf_c, am_af_c, am_sf_c, am_bf_c, am_qf_c, am_ap_c, am_bp_c, am_qp_c, am_lf_c, am_kt_s, am_kt_n, am_wst, am_wstop, am_ns_0, am_ns_1, Bool.not_true, Bool.not_false, Bool.true_and, Bool.false_and, Nat.reduceBEq, ↓reduceIte, am_k2_n, am_k2_i, am_k2_r, am_k2_u, am_k2_f, am_k2_l, Nat.zero_le, true_and, and_true, true_or, or_true, am_cat_0, am_cat_i, am_cat_r, am_cat_l, am_cat_n, Nat.reduceLeDiff, Nat.reduceAdd, Option.isSome_some, List.getElem?_cons_zero, List.getElem?_cons_succ, am_fit_i, am_fit_r, am_fit_a]
    have inc : clB l h d f a = true → ∀ v, am_WP X D 75 44 [some (.ref 0), some (.int (nI (arrs true l h d f).length)), some (.int (nI c + 1)), some (.int (nI k + 1)), some v] [] G 0 0 P := by
      intro hc v
      rw [if_pos hc] at hV
      refine am_goto I75_44 ?_
      rw [nI_1, nI_1]
      exact am_WP.fg (ih (k + 1) (c + 1) hk2 (by omega) hV) (by simp [am_le])
    rcases fdI_s (q := fun b => eqR (rwN b) (rvN l a) l) (arrs true l h d f) 0 (by omega) with ⟨h1, h2⟩ | ⟨j, b, h1, h2, h3, h4⟩
    · rw [h1, if_pos (by decide)]
      refine inc (hcl.mpr (fun k' b _ hb hr => ?_)) _
      have := h2 b (List.mem_of_getElem? hb)
      rw [(eqR_s l).mpr hr] at this
      cases this
    · rw [Nat.zero_add] at h1
      have hjl := (List.getElem?_eq_some_iff.mp h2).1
      rw [h1, if_neg (nI_pos (by omega))]
      by_cases c1 : j < k
      · rw [if_pos (by rw [nI_ltI (by omega) (by omega)]; exact c1)]
        have hc : clB l h d f a = false := by
          cases z : clB l h d f a with
          | false => rfl
          | true => exact absurd ((eqR_s l).mp h3) (hcl.mp z j b c1 h2)
        rw [if_neg (by rw [hc]; decide), Nat.add_zero] at hV
        refine am_goto I75_44 ?_
        rw [nI_1]
        exact am_WP.fg (ih (k + 1) c hk2 (by omega) hV) (by simp [am_le])
      · rw [if_neg (by rw [nI_ltI (by omega) (by omega)]; exact c1)]
        refine inc (hcl.mpr (fun k' b' hk' hb' hr => ?_)) _
        have := h4 k' b' (by omega) hb'
        rw [(eqR_s l).mpr hr] at this
        cases this
theorem sp_cclasses (hD : 16 ≤ D) (hw : WF (l, h, d, f)) (hC : CSs G l h d f n t s old) (hP : ∀ o' G', CSs G' l h d f n t s o' → Fr kC G G' → P (some (.int (nI (clN l h d f (arrs true l h d f) 0)))) G') : am_CB X D 75 [.ref 0] G P := by
  obtain ⟨D, rfl⟩ : ∃ D0, D = D0 + 1 := ⟨D - 1, by omega⟩
  have o1 := hC.1
  unfold CO at o1
  refine B75 60 [12] ?_
  simp only [J75_0, J75_1, J75_4, J75_7, J75_8, J75_9, J75_10, J75_11, J75_12, J75_13, J75_14, J75_17, J75_18, J75_21, J75_22, J75_25, J75_27, J75_29, J75_32, J75_34, J75_35, J75_38, J75_41, J75_44, J75_47, J75_48, am_gg_c, am_gf_c, am_pf_c, am_af_c, am_sf_c, am_bf_c, am_qf_c, am_ap_c, am_bp_c, am_qp_c, am_lf_c, am_kt_s, am_kt_n, am_wst, am_wstop, am_ns_0, am_ns_1, Bool.not_true, Bool.not_false, Bool.true_and, Bool.false_and, Nat.reduceBEq, ↓reduceIte, am_k2_n, am_k2_i, am_k2_r, am_k2_u, am_k2_f, am_k2_l, Nat.zero_le, true_and, and_true, true_or, or_true, am_cat_0, am_cat_i, am_cat_r, am_cat_l, am_cat_n, Nat.reduceLeDiff, Nat.reduceAdd, Option.isSome_some, List.getElem?_cons_zero, List.getElem?_cons_succ, am_fit_i, am_fit_r, am_fit_a, o1]
  refine sp_searched hw (by omega) hC (fun G1 c1 c2 c3 => ?_)
  obtain ⟨pr, f1⟩ := fo_ob c2
  simp only [J75_0, J75_1, J75_4, J75_7, J75_8, J75_9, J75_10, J75_11, J75_12, J75_13, J75_14, J75_17, J75_18, J75_21, J75_22, J75_25, J75_27, J75_29, J75_32, J75_34, J75_35, J75_38, J75_41, J75_44, J75_47, J75_48, am_gg_c, am_gf_c, am_pf_c, am_af_c, am_sf_c, am_bf_c, am_qf_c, am_ap_c, am_bp_c, am_qp_c, am_lf_c, am_kt_s, am_kt_n, am_wst, am_wstop, am_ns_0, am_ns_1, Bool.not_true, Bool.not_false, Bool.true_and, Bool.false_and, Nat.reduceBEq, ↓reduceIte, am_k2_n, am_k2_i, am_k2_r, am_k2_u, am_k2_f, am_k2_l, Nat.zero_le, true_and, and_true, true_or, or_true, am_cat_0, am_cat_i, am_cat_r, am_cat_l, am_cat_n, Nat.reduceLeDiff, Nat.reduceAdd, Option.isSome_some, List.getElem?_cons_zero, List.getElem?_cons_succ, am_fit_i, am_fit_r, am_fit_a, f1]
  exact am_WP.fg (lp_cclasses (by omega) hw c1 c2 (hP _ G1 c1 (c3.up (by decide))) _ 0 0 (by rw [List.drop_zero]) (by omega) rfl) (by simp [am_le, nI_0])
theorem sp_cdist {z1 z2 : Int32} (hD : 16 ≤ D) (hw : WF (l, h, d, f)) (hC : CSs G l h d f n t s old) (hP : ∀ o' G', CSs G' l h d f n t s o' → Fr kC G G' → P (some (.int (dsI (arrs true l h d f) d z1 z2))) G') : am_CB X D 76 [.ref 0, .int z1, .int z2] G P := by
  obtain ⟨D, rfl⟩ : ∃ D0, D = D0 + 1 := ⟨D - 1, by omega⟩
  obtain ⟨w1, w2, w3, w4, w5, w6, w7, w8⟩ := hw.o
  have o1 := hC.1
  unfold CO at o1
  unfold dsI at hP
  have hlen := arrs_len (ipb := true) (h := h) (f := f) w2 w4 w5 w8
  refine B76 60 [] ?_
  simp only [J76_0, J76_1, J76_4, J76_5, J76_8, J76_11, J76_12, J76_15, J76_16, J76_19, J76_22, J76_23, J76_24, J76_25, J76_28, J76_29, J76_30, J76_33, am_gg_c, am_gf_c, am_pf_c, am_af_c, am_sf_c, am_bf_c, am_qf_c, am_ap_c, am_bp_c, am_qp_c, am_lf_c, am_kt_s, am_kt_n, am_wst, am_wstop, am_ns_0, am_ns_1, Bool.not_true, Bool.not_false, Bool.true_and, Bool.false_and, Nat.reduceBEq, ↓reduceIte, am_k2_n, am_k2_i, am_k2_r, am_k2_u, am_k2_f, am_k2_l, Nat.zero_le, true_and, and_true, true_or, or_true, am_cat_0, am_cat_i, am_cat_r, am_cat_l, am_cat_n, Nat.reduceLeDiff, Nat.reduceAdd, Option.isSome_some, List.getElem?_cons_zero, List.getElem?_cons_succ, am_fit_i, am_fit_r, am_fit_a, o1]
  refine sp_searched hw (by omega) hC (fun G1 c1 c2 c3 => ?_)
  obtain ⟨pr, f1⟩ := fo_ob c2
  have o2 := c1.1
  unfold CO at o2
  have hh := hP _ G1 c1 (c3.up (by decide))
  simp only [J76_0, J76_1, J76_4, J76_5, J76_8, J76_11, J76_12, J76_15, J76_16, J76_19, J76_22, J76_23, J76_24, J76_25, J76_28, J76_29, J76_30, J76_33, am_gg_c, am_gf_c, am_pf_c, am_af_c, am_sf_c, am_bf_c, am_qf_c, am_ap_c, am_bp_c, am_qp_c, am_lf_c, am_kt_s, am_kt_n, am_wst, am_wstop, am_ns_0, am_ns_1, Bool.not_true, Bool.not_false, Bool.true_and, Bool.false_and, Nat.reduceBEq, ↓reduceIte, am_k2_n, am_k2_i, am_k2_r, am_k2_u, am_k2_f, am_k2_l, Nat.zero_le, true_and, and_true, true_or, or_true, am_cat_0, am_cat_i, am_cat_r, am_cat_l, am_cat_n, Nat.reduceLeDiff, Nat.reduceAdd, Option.isSome_some, List.getElem?_cons_zero, List.getElem?_cons_succ, am_fit_i, am_fit_r, am_fit_a, f1]
  refine sp_fhas (by omega) c2 ?_
  simp only [J76_0, J76_1, J76_4, J76_5, J76_8, J76_11, J76_12, J76_15, J76_16, J76_19, J76_22, J76_23, J76_24, J76_25, J76_28, J76_29, J76_30, J76_33, am_gg_c, am_gf_c, am_pf_c, am_af_c, am_sf_c, am_bf_c, am_qf_c, am_ap_c, am_bp_c, am_qp_c, am_lf_c, am_kt_s, am_kt_n, am_wst, am_wstop, am_ns_0, am_ns_1, Bool.not_true, Bool.not_false, Bool.true_and, Bool.false_and, Nat.reduceBEq, ↓reduceIte, am_k2_n, am_k2_i, am_k2_r, am_k2_u, am_k2_f, am_k2_l, Nat.zero_le, true_and, and_true, true_or, or_true, am_cat_0, am_cat_i, am_cat_r, am_cat_l, am_cat_n, Nat.reduceLeDiff, Nat.reduceAdd, Option.isSome_some, List.getElem?_cons_zero, List.getElem?_cons_succ, am_fit_i, am_fit_r, am_fit_a, o2, f1]
  cases hz : inN z1 (arrs true l h d f).length with
  | false =>
    rw [go_none hz] at hh
    simp only [Bool.false_eq_true, if_false, if_true]
    exact hh
  | true =>
    obtain ⟨k0, a, rfl, hk, ha, hg⟩ := go_some hlen hz
    rw [hg] at hh
    simp only [if_true, if_neg (show ¬ (1 : Int32) = 0 by decide)]
    refine sp_fhas (by omega) c2 ?_
    simp only [J76_0, J76_1, J76_4, J76_5, J76_8, J76_11, J76_12, J76_15, J76_16, J76_19, J76_22, J76_23, J76_24, J76_25, J76_28, J76_29, J76_30, J76_33, am_gg_c, am_gf_c, am_pf_c, am_af_c, am_sf_c, am_bf_c, am_qf_c, am_ap_c, am_bp_c, am_qp_c, am_lf_c, am_kt_s, am_kt_n, am_wst, am_wstop, am_ns_0, am_ns_1, Bool.not_true, Bool.not_false, Bool.true_and, Bool.false_and, Nat.reduceBEq, ↓reduceIte, am_k2_n, am_k2_i, am_k2_r, am_k2_u, am_k2_f, am_k2_l, Nat.zero_le, true_and, and_true, true_or, or_true, am_cat_0, am_cat_i, am_cat_r, am_cat_l, am_cat_n, Nat.reduceLeDiff, Nat.reduceAdd, Option.isSome_some, List.getElem?_cons_zero, List.getElem?_cons_succ, am_fit_i, am_fit_r, am_fit_a, o2, f1]
    cases hz2 : inN z2 (arrs true l h d f).length with
    | false =>
      rw [go_none hz2] at hh
      simp only [Bool.false_eq_true, if_false, if_true]
      exact hh
    | true =>
      obtain ⟨k1, b, rfl, hk1, hb, hg1⟩ := go_some hlen hz2
      rw [hg1] at hh
      simp only [if_true, if_neg (show ¬ (1 : Int32) = 0 by decide)]
      refine sp_distOf w2 w4 w5 w8 (by omega) c2 ha hb ?_
      simp only [J76_0, J76_1, J76_4, J76_5, J76_8, J76_11, J76_12, J76_15, J76_16, J76_19, J76_22, J76_23, J76_24, J76_25, J76_28, J76_29, J76_30, J76_33, am_gg_c, am_gf_c, am_pf_c, am_af_c, am_sf_c, am_bf_c, am_qf_c, am_ap_c, am_bp_c, am_qp_c, am_lf_c, am_kt_s, am_kt_n, am_wst, am_wstop, am_ns_0, am_ns_1, Bool.not_true, Bool.not_false, Bool.true_and, Bool.false_and, Nat.reduceBEq, ↓reduceIte, am_k2_n, am_k2_i, am_k2_r, am_k2_u, am_k2_f, am_k2_l, Nat.zero_le, true_and, and_true, true_or, or_true, am_cat_0, am_cat_i, am_cat_r, am_cat_l, am_cat_n, Nat.reduceLeDiff, Nat.reduceAdd, Option.isSome_some, List.getElem?_cons_zero, List.getElem?_cons_succ, am_fit_i, am_fit_r, am_fit_a]
      exact hh
theorem lp_cneigh {a : List (Nat × Nat)} {k0 : Nat} {ix : Int32} (hD : 3 ≤ D) (hw : WF (l, h, d, f)) (hC : CSs G l h d f n t s old) (hf : FO G l h d f) (hk0 : (arrs true l h d f)[k0]? = some a) {V : Int32} (hP : P (some (.int V)) G) : ∀ (R : List (List (Nat × Nat))) (k c : Nat), (arrs true l h d f).drop k = R → k ≤ (arrs true l h d f).length → V = nbF (fun b => dsN d a b == 3) ix R k c → am_WP X D 77 18 [some (.ref 0), some (.int (nI k0)), some (.int ix), some (.int (nI c)), some (.int (nI k))] [] G 0 0 P := by
  obtain ⟨w1, w2, w3, w4, w5, w6, w7, w8⟩ := hw.o
  have o1 := hC.1
  unfold CO at o1
  obtain ⟨pr, f1⟩ := fo_ob hf
  have hlen := arrs_len (ipb := true) (h := h) (f := f) w2 w4 w5 w8
  intro R
  induction R with
  | nil =>
    intro k c hk hkl hV
    have : (arrs true l h d f).length = k := by
      have := congrArg List.length hk
      simp only [List.length_drop, List.length_nil] at this
      omega
    refine am_wps 60 [58] ?_
    simp only [J77_0, J77_1, J77_4, J77_5, J77_8, J77_11, J77_12, J77_13, J77_14, J77_15, J77_16, J77_18, J77_20, J77_21, J77_24, J77_27, J77_30, J77_31, J77_34, J77_35, J77_37, J77_40, J77_41, J77_44, J77_45, J77_46, J77_49, J77_51, J77_52, J77_55, J77_58, J77_61, J77_62, J77_63, J77_66, J77_67, J77_70, J77_72, am_gg_c, am_gf_c, am_pf_c, am_af_c, am_sf_c, am_bf_c, am_qf_c, am_ap_c, am_bp_c, am_qp_c, am_lf_c, am_kt_s, am_kt_n, am_wst, am_wstop, am_ns_0, am_ns_1, Bool.not_true, Bool.not_false, Bool.true_and, Bool.false_and, Nat.reduceBEq, ↓reduceIte, am_k2_n, am_k2_i, am_k2_r, am_k2_u, am_k2_f, am_k2_l, Nat.zero_le, true_and, and_true, true_or, or_true, am_cat_0, am_cat_i, am_cat_r, am_cat_l, am_cat_n, Nat.reduceLeDiff, Nat.reduceAdd, Option.isSome_some, List.getElem?_cons_zero, List.getElem?_cons_succ, am_fit_i, am_fit_r, am_fit_a, o1, f1]
    rw [if_neg (by rw [nI_ltI (by omega) (by omega)]; omega)]
    rw [hV] at hP
    unfold nbF at hP
    split
    · next q => rw [if_pos q] at hP; exact hP
    · next q => rw [if_neg q] at hP; exact hP
  | cons b R ih =>
    intro k c hk hkl hV
    have hkA : k < (arrs true l h d f).length := by
      have := congrArg List.length hk
      simp only [List.length_drop, List.length_cons] at this
      omega
    have hkb : (arrs true l h d f)[k]? = some b := by
      have := congrArg (fun t => t[0]?) hk
      simpa using this
    have hk2 : (arrs true l h d f).drop (k + 1) = R := by rw [← List.drop_drop, hk]; rfl
    have hs : nbF (fun b => dsN d a b == 3) ix (b :: R) k c = if (dsN d a b == 3) = true then (if nI c = ix then nI k else nbF (fun b => dsN d a b == 3) ix R (k + 1) (c + 1)) else nbF (fun b => dsN d a b == 3) ix R (k + 1) c := rfl
    rw [hs] at hV
    have hle := apC_le (d := d) (x := fun w => nI (bgN a w)) (y := fun w => nI (bgN b w)) 18
    have hle : dsN d a b ≤ 18 := hle
    refine am_wps 60 [58] ?_
    simp only [J77_0, J77_1, J77_4, J77_5, J77_8, J77_11, J77_12, J77_13, J77_14, J77_15, J77_16, J77_18, J77_20, J77_21, J77_24, J77_27, J77_30, J77_31, J77_34, J77_35, J77_37, J77_40, J77_41, J77_44, J77_45, J77_46, J77_49, J77_51, J77_52, J77_55, J77_58, J77_61, J77_62, J77_63, J77_66, J77_67, J77_70, J77_72, am_gg_c, am_gf_c, am_pf_c, am_af_c, am_sf_c, am_bf_c, am_qf_c, am_ap_c, am_bp_c, am_qp_c, am_lf_c, am_kt_s, am_kt_n, am_wst, am_wstop, am_ns_0, am_ns_1, Bool.not_true, Bool.not_false, Bool.true_and, Bool.false_and, Nat.reduceBEq, ↓reduceIte, am_k2_n, am_k2_i, am_k2_r, am_k2_u, am_k2_f, am_k2_l, Nat.zero_le, true_and, and_true, true_or, or_true, am_cat_0, am_cat_i, am_cat_r, am_cat_l, am_cat_n, Nat.reduceLeDiff, Nat.reduceAdd, Option.isSome_some, List.getElem?_cons_zero, List.getElem?_cons_succ, am_fit_i, am_fit_r, am_fit_a, o1, f1]
    rw [if_pos (by rw [nI_ltI (by omega) (by omega)]; exact hkA)]
    refine sp_distOf w2 w4 w5 w8 hD hf hk0 hkb ?_
    simp only [J77_0, J77_1, J77_4, J77_5, J77_8, J77_11, J77_12, J77_13, J77_14, J77_15, J77_16, J77_18, J77_20, J77_21, J77_24, J77_27, J77_30, J77_31, J77_34, J77_35, J77_37, J77_40, J77_41, J77_44, J77_45, J77_46, J77_49, J77_51, J77_52, J77_55, J77_58, J77_61, J77_62, J77_63, J77_66, J77_67, J77_70, J77_72, am_gg_c, am_gf_c, am_pf_c, am_af_c, am_sf_c, am_bf_c, am_qf_c, am_ap_c, am_bp_c, am_qp_c, am_lf_c, am_kt_s, am_kt_n, am_wst, am_wstop, am_ns_0, am_ns_1, Bool.not_true, Bool.not_false, Bool.true_and, Bool.false_and, Nat.reduceBEq, ↓reduceIte, am_k2_n, am_k2_i, am_k2_r, am_k2_u, am_k2_f, am_k2_l, Nat.zero_le, true_and, and_true, true_or, or_true, am_cat_0, am_cat_i, am_cat_r, am_cat_l, am_cat_n, Nat.reduceLeDiff, Nat.reduceAdd, Option.isSome_some, List.getElem?_cons_zero, List.getElem?_cons_succ, am_fit_i, am_fit_r, am_fit_a]
    by_cases c1 : dsN d a b = 3
    · rw [if_pos (by rw [c1]; rfl)] at hV
      rw [if_pos (by rw [c1]; rfl)]
      by_cases c2 : nI c = ix
      · rw [if_pos c2] at hV
        rw [if_pos c2]
        rw [hV] at hP
        exact hP
      · rw [if_neg c2] at hV
        rw [if_neg c2]
        refine am_goto I77_58 ?_
        rw [nI_1, nI_1]
        exact ih (k + 1) (c + 1) hk2 (by omega) hV
    · rw [if_neg (by simpa using c1)] at hV
      rw [if_neg (fun e => c1 (bi_inj (by omega) (by omega) (e.trans (show (3 : Int32) = nI 3 by rfl))))]
      refine am_goto I77_58 ?_
      rw [nI_1]
      exact ih (k + 1) c hk2 (by omega) hV
theorem sp_cneigh {z ix : Int32} (hD : 16 ≤ D) (hw : WF (l, h, d, f)) (hC : CSs G l h d f n t s old) (hP : ∀ o' G', CSs G' l h d f n t s o' → Fr kC G G' → P (some (.int (nbI (arrs true l h d f) d z ix))) G') : am_CB X D 77 [.ref 0, .int z, .int ix] G P := by
  obtain ⟨D, rfl⟩ : ∃ D0, D = D0 + 1 := ⟨D - 1, by omega⟩
  obtain ⟨w1, w2, w3, w4, w5, w6, w7, w8⟩ := hw.o
  have o1 := hC.1
  unfold CO at o1
  unfold nbI at hP
  have hlen := arrs_len (ipb := true) (h := h) (f := f) w2 w4 w5 w8
  refine B77 60 [18] ?_
  simp only [J77_0, J77_1, J77_4, J77_5, J77_8, J77_11, J77_12, J77_13, J77_14, J77_15, J77_16, J77_18, J77_20, J77_21, J77_24, J77_27, J77_30, J77_31, J77_34, J77_35, J77_37, J77_40, J77_41, J77_44, J77_45, J77_46, J77_49, J77_51, J77_52, J77_55, J77_58, J77_61, J77_62, J77_63, J77_66, J77_67, J77_70, J77_72, am_gg_c, am_gf_c, am_pf_c, am_af_c, am_sf_c, am_bf_c, am_qf_c, am_ap_c, am_bp_c, am_qp_c, am_lf_c, am_kt_s, am_kt_n, am_wst, am_wstop, am_ns_0, am_ns_1, Bool.not_true, Bool.not_false, Bool.true_and, Bool.false_and, Nat.reduceBEq, ↓reduceIte, am_k2_n, am_k2_i, am_k2_r, am_k2_u, am_k2_f, am_k2_l, Nat.zero_le, true_and, and_true, true_or, or_true, am_cat_0, am_cat_i, am_cat_r, am_cat_l, am_cat_n, Nat.reduceLeDiff, Nat.reduceAdd, Option.isSome_some, List.getElem?_cons_zero, List.getElem?_cons_succ, am_fit_i, am_fit_r, am_fit_a, o1]
  refine sp_searched hw (by omega) hC (fun G1 c1 c2 c3 => ?_)
  obtain ⟨pr, f1⟩ := fo_ob c2
  have hh := hP _ G1 c1 (c3.up (by decide))
  simp only [J77_0, J77_1, J77_4, J77_5, J77_8, J77_11, J77_12, J77_13, J77_14, J77_15, J77_16, J77_18, J77_20, J77_21, J77_24, J77_27, J77_30, J77_31, J77_34, J77_35, J77_37, J77_40, J77_41, J77_44, J77_45, J77_46, J77_49, J77_51, J77_52, J77_55, J77_58, J77_61, J77_62, J77_63, J77_66, J77_67, J77_70, J77_72, am_gg_c, am_gf_c, am_pf_c, am_af_c, am_sf_c, am_bf_c, am_qf_c, am_ap_c, am_bp_c, am_qp_c, am_lf_c, am_kt_s, am_kt_n, am_wst, am_wstop, am_ns_0, am_ns_1, Bool.not_true, Bool.not_false, Bool.true_and, Bool.false_and, Nat.reduceBEq, ↓reduceIte, am_k2_n, am_k2_i, am_k2_r, am_k2_u, am_k2_f, am_k2_l, Nat.zero_le, true_and, and_true, true_or, or_true, am_cat_0, am_cat_i, am_cat_r, am_cat_l, am_cat_n, Nat.reduceLeDiff, Nat.reduceAdd, Option.isSome_some, List.getElem?_cons_zero, List.getElem?_cons_succ, am_fit_i, am_fit_r, am_fit_a, f1]
  refine sp_fhas (by omega) c2 ?_
  simp only [J77_0, J77_1, J77_4, J77_5, J77_8, J77_11, J77_12, J77_13, J77_14, J77_15, J77_16, J77_18, J77_20, J77_21, J77_24, J77_27, J77_30, J77_31, J77_34, J77_35, J77_37, J77_40, J77_41, J77_44, J77_45, J77_46, J77_49, J77_51, J77_52, J77_55, J77_58, J77_61, J77_62, J77_63, J77_66, J77_67, J77_70, J77_72, am_gg_c, am_gf_c, am_pf_c, am_af_c, am_sf_c, am_bf_c, am_qf_c, am_ap_c, am_bp_c, am_qp_c, am_lf_c, am_kt_s, am_kt_n, am_wst, am_wstop, am_ns_0, am_ns_1, Bool.not_true, Bool.not_false, Bool.true_and, Bool.false_and, Nat.reduceBEq, ↓reduceIte, am_k2_n, am_k2_i, am_k2_r, am_k2_u, am_k2_f, am_k2_l, Nat.zero_le, true_and, and_true, true_or, or_true, am_cat_0, am_cat_i, am_cat_r, am_cat_l, am_cat_n, Nat.reduceLeDiff, Nat.reduceAdd, Option.isSome_some, List.getElem?_cons_zero, List.getElem?_cons_succ, am_fit_i, am_fit_r, am_fit_a]
  cases hz : inN z (arrs true l h d f).length with
  | false =>
    rw [go_none hz] at hh
    simp only [Bool.false_eq_true, if_false, if_true]
    exact hh
  | true =>
    obtain ⟨k0, a, rfl, hk, ha, hg⟩ := go_some hlen hz
    rw [hg] at hh
    simp only [if_true, if_neg (show ¬ (1 : Int32) = 0 by decide)]
    exact am_WP.fg (lp_cneigh (by omega) hw c1 c2 ha hh _ 0 0 (by rw [List.drop_zero]) (by omega) rfl) (by simp [am_le, nI_0])
theorem sw_sv {o : Option Nat} (h : ∀ x, o = some x → x < 2 ^ 31) : (if swI o < 0 then (-6 : Int32) else swI o) = svI o := by
  cases o with
  | none => rfl
  | some v =>
    show (if nI v < 0 then (-6 : Int32) else nI v) = nI v
    rw [if_neg (nI_pos (h v rfl))]
theorem bfO_lt {nb : Nat → Nat → Bool} {many : Nat} : ∀ (m k K : Nat) (s : BT), BI many K s → ∀ j x, (bfO nb many m k s).1 j = some x → x ≤ K + m
  | 0, _, K, s, h, j, x, hx => by have := h.2.2 j x hx; omega
  | m + 1, k, K, s, h, j, x, hx => by
    unfold bfO at hx
    split at hx
    · have := h.2.2 j x hx; omega
    · next i hi =>
      have hs := (h.1 i (List.mem_of_getElem? hi)).2
      obtain ⟨y, hy⟩ := Option.isSome_iff_exists.mp hs
      rw [hy] at hx
      have hy2 := h.2.2 i y hy
      have hb : BI many (K + 1) (bfI (nb i) (y + 1) many s) := bfI_bi h (by omega) many (Nat.le_refl _)
      have := bfO_lt m (k + 1) (K + 1) _ hb j x hx
      omega
theorem cs_walk {G' : am_H} (hC : CSs G l h d f n t s old) (hF : Fr kW G G') (h1 : WK G') : CSs G' l h d f n t s old := by
  obtain ⟨c1, c2, c3, c4, c5, c6, c7, c8⟩ := hC
  exact ⟨c1.fr hF (by decide), c2.fr hF (by decide) (by decide), c3.fr hF (by decide) (by decide) (by decide) (by decide), h1, c5.fr hF (by decide) (by decide), c6.fr hF (by decide) (by decide), c7.fr hF (by decide) (by decide) (by decide) (by decide), c8.fr hF (by decide) (by decide) (by decide) (by decide) (by decide)⟩
theorem sp_csteps {z1 z2 : Int32} (hD : 16 ≤ D) (hw : WF (l, h, d, f)) (hC : CSs G l h d f n t s old) (hP : ∀ o' G', CSs G' l h d f n t s o' → Fr kC G G' → P (some (.int (stI (arrs true l h d f) d z1 z2))) G') : am_CB X D 78 [.ref 0, .int z1, .int z2] G P := by
  obtain ⟨D, rfl⟩ : ∃ D0, D = D0 + 1 := ⟨D - 1, by omega⟩
  obtain ⟨w1, w2, w3, w4, w5, w6, w7, w8⟩ := hw.o
  have o1 := hC.1
  unfold CO at o1
  unfold stI at hP
  have hlen := arrs_len (ipb := true) (h := h) (f := f) w2 w4 w5 w8
  have c3' : (300 : Int32) = nI 300 := rfl
  refine B78 60 [] ?_
  simp only [J78_0, J78_1, J78_4, J78_5, J78_8, J78_11, J78_12, J78_15, J78_16, J78_19, J78_22, J78_23, J78_24, J78_25, J78_28, J78_31, J78_32, J78_35, J78_38, J78_40, J78_41, J78_42, J78_45, J78_46, J78_49, J78_50, J78_51, J78_54, J78_55, J78_56, J78_59, J78_61, J78_64, J78_65, am_gg_c, am_gf_c, am_pf_c, am_af_c, am_sf_c, am_bf_c, am_qf_c, am_ap_c, am_bp_c, am_qp_c, am_lf_c, am_kt_s, am_kt_n, am_wst, am_wstop, am_ns_0, am_ns_1, Bool.not_true, Bool.not_false, Bool.true_and, Bool.false_and, Nat.reduceBEq, ↓reduceIte, am_k2_n, am_k2_i, am_k2_r, am_k2_u, am_k2_f, am_k2_l, Nat.zero_le, true_and, and_true, true_or, or_true, am_cat_0, am_cat_i, am_cat_r, am_cat_l, am_cat_n, Nat.reduceLeDiff, Nat.reduceAdd, Option.isSome_some, List.getElem?_cons_zero, List.getElem?_cons_succ, am_fit_i, am_fit_r, am_fit_a, o1]
  refine sp_searched hw (by omega) hC (fun G1 c1 c2 c3 => ?_)
  obtain ⟨pr, f1⟩ := fo_ob c2
  have o2 := c1.1
  unfold CO at o2
  have hwk := c1.2.2.2.1
  obtain ⟨wq, wst, wqu, wk1, wk2, wk3⟩ := id hwk
  have hh := fun G' a b => hP false G' a b
  simp only [J78_0, J78_1, J78_4, J78_5, J78_8, J78_11, J78_12, J78_15, J78_16, J78_19, J78_22, J78_23, J78_24, J78_25, J78_28, J78_31, J78_32, J78_35, J78_38, J78_40, J78_41, J78_42, J78_45, J78_46, J78_49, J78_50, J78_51, J78_54, J78_55, J78_56, J78_59, J78_61, J78_64, J78_65, am_gg_c, am_gf_c, am_pf_c, am_af_c, am_sf_c, am_bf_c, am_qf_c, am_ap_c, am_bp_c, am_qp_c, am_lf_c, am_kt_s, am_kt_n, am_wst, am_wstop, am_ns_0, am_ns_1, Bool.not_true, Bool.not_false, Bool.true_and, Bool.false_and, Nat.reduceBEq, ↓reduceIte, am_k2_n, am_k2_i, am_k2_r, am_k2_u, am_k2_f, am_k2_l, Nat.zero_le, true_and, and_true, true_or, or_true, am_cat_0, am_cat_i, am_cat_r, am_cat_l, am_cat_n, Nat.reduceLeDiff, Nat.reduceAdd, Option.isSome_some, List.getElem?_cons_zero, List.getElem?_cons_succ, am_fit_i, am_fit_r, am_fit_a, f1]
  refine sp_fhas (by omega) c2 ?_
  simp only [J78_0, J78_1, J78_4, J78_5, J78_8, J78_11, J78_12, J78_15, J78_16, J78_19, J78_22, J78_23, J78_24, J78_25, J78_28, J78_31, J78_32, J78_35, J78_38, J78_40, J78_41, J78_42, J78_45, J78_46, J78_49, J78_50, J78_51, J78_54, J78_55, J78_56, J78_59, J78_61, J78_64, J78_65, am_gg_c, am_gf_c, am_pf_c, am_af_c, am_sf_c, am_bf_c, am_qf_c, am_ap_c, am_bp_c, am_qp_c, am_lf_c, am_kt_s, am_kt_n, am_wst, am_wstop, am_ns_0, am_ns_1, Bool.not_true, Bool.not_false, Bool.true_and, Bool.false_and, Nat.reduceBEq, ↓reduceIte, am_k2_n, am_k2_i, am_k2_r, am_k2_u, am_k2_f, am_k2_l, Nat.zero_le, true_and, and_true, true_or, or_true, am_cat_0, am_cat_i, am_cat_r, am_cat_l, am_cat_n, Nat.reduceLeDiff, Nat.reduceAdd, Option.isSome_some, List.getElem?_cons_zero, List.getElem?_cons_succ, am_fit_i, am_fit_r, am_fit_a, o2, f1, wk1]
  cases hz : inN z1 (arrs true l h d f).length with
  | false =>
    rw [go_none hz] at hh
    simp only [Bool.false_eq_true, if_false, if_true]
    exact hh G1 c1 (c3.up (by decide))
  | true =>
    obtain ⟨k0, a, rfl, hk, ha, hg⟩ := go_some hlen hz
    rw [hg] at hh
    simp only [if_true, if_neg (show ¬ (1 : Int32) = 0 by decide)]
    refine sp_fhas (by omega) c2 ?_
    simp only [J78_0, J78_1, J78_4, J78_5, J78_8, J78_11, J78_12, J78_15, J78_16, J78_19, J78_22, J78_23, J78_24, J78_25, J78_28, J78_31, J78_32, J78_35, J78_38, J78_40, J78_41, J78_42, J78_45, J78_46, J78_49, J78_50, J78_51, J78_54, J78_55, J78_56, J78_59, J78_61, J78_64, J78_65, am_gg_c, am_gf_c, am_pf_c, am_af_c, am_sf_c, am_bf_c, am_qf_c, am_ap_c, am_bp_c, am_qp_c, am_lf_c, am_kt_s, am_kt_n, am_wst, am_wstop, am_ns_0, am_ns_1, Bool.not_true, Bool.not_false, Bool.true_and, Bool.false_and, Nat.reduceBEq, ↓reduceIte, am_k2_n, am_k2_i, am_k2_r, am_k2_u, am_k2_f, am_k2_l, Nat.zero_le, true_and, and_true, true_or, or_true, am_cat_0, am_cat_i, am_cat_r, am_cat_l, am_cat_n, Nat.reduceLeDiff, Nat.reduceAdd, Option.isSome_some, List.getElem?_cons_zero, List.getElem?_cons_succ, am_fit_i, am_fit_r, am_fit_a, o2, f1, wk1]
    cases hz2 : inN z2 (arrs true l h d f).length with
    | false =>
      rw [go_none hz2] at hh
      simp only [Bool.false_eq_true, if_false, if_true]
      exact hh G1 c1 (c3.up (by decide))
    | true =>
      obtain ⟨k1, b, rfl, hk1, hb, hg1⟩ := go_some hlen hz2
      rw [hg1] at hh
      simp only [nI_toInt (show k0 < 2 ^ 31 by omega), nI_toInt (show k1 < 2 ^ 31 by omega), Int.toNat_natCast] at hh
      simp only [if_true, if_neg (show ¬ (1 : Int32) = 0 by decide)]
      by_cases q1 : k0 < 300
      · rw [if_pos (by rw [c3', nI_ltI (by omega) (by omega)]; exact q1)]
        by_cases q2 : k1 < 300
        · rw [if_pos (by rw [c3', nI_ltI (by omega) (by omega)]; exact q2)]
          simp only [if_pos (show ((k0 : Nat) : Int) < 300 ∧ ((k1 : Nat) : Int) < 300 by omega)] at hh
          refine sp_fewest w2 w4 w5 w8 (by omega) c2 hwk (by omega) (by omega) (fun G2 v1 v2 => ?_)
          simp only [J78_0, J78_1, J78_4, J78_5, J78_8, J78_11, J78_12, J78_15, J78_16, J78_19, J78_22, J78_23, J78_24, J78_25, J78_28, J78_31, J78_32, J78_35, J78_38, J78_40, J78_41, J78_42, J78_45, J78_46, J78_49, J78_50, J78_51, J78_54, J78_55, J78_56, J78_59, J78_61, J78_64, J78_65, am_gg_c, am_gf_c, am_pf_c, am_af_c, am_sf_c, am_bf_c, am_qf_c, am_ap_c, am_bp_c, am_qp_c, am_lf_c, am_kt_s, am_kt_n, am_wst, am_wstop, am_ns_0, am_ns_1, Bool.not_true, Bool.not_false, Bool.true_and, Bool.false_and, Nat.reduceBEq, ↓reduceIte, am_k2_n, am_k2_i, am_k2_r, am_k2_u, am_k2_f, am_k2_l, Nat.zero_le, true_and, and_true, true_or, or_true, am_cat_0, am_cat_i, am_cat_r, am_cat_l, am_cat_n, Nat.reduceLeDiff, Nat.reduceAdd, Option.isSome_some, List.getElem?_cons_zero, List.getElem?_cons_succ, am_fit_i, am_fit_r, am_fit_a]
          have h2 := hh G2 (cs_walk c1 v2 v1) ((c3.up (by decide)).tr (v2.up (by decide)))
          have hb0 := bf0_bi (one := k0) (many := min 300 (arrs true l h d f).length) (by omega)
          rw [← sw_sv (fun x hx => by have := bfO_lt 301 0 0 _ hb0 k1 x hx; omega)] at h2
          split
          · next q => rw [if_pos q] at h2; exact h2
          · next q => rw [if_neg q] at h2; exact h2
        · rw [if_neg (by rw [c3', nI_ltI (by omega) (by omega)]; exact q2)]
          simp only [if_neg (show ¬ (((k0 : Nat) : Int) < 300 ∧ ((k1 : Nat) : Int) < 300) by omega)] at hh
          exact hh G1 c1 (c3.up (by decide))
      · rw [if_neg (by rw [c3', nI_ltI (by omega) (by omega)]; exact q1)]
        simp only [if_neg (show ¬ (((k0 : Nat) : Int) < 300 ∧ ((k1 : Nat) : Int) < 300) by omega)] at hh
        exact hh G1 c1 (c3.up (by decide))
end CA
