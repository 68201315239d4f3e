/-! rank, reversed -/
section RK
variable {X : Nat × (Nat → Int32)} {D : Nat} {P : Option Value → am_H → Prop} {pm vp : Int32} {l h d n : Nat} {f : Nat → Nat} {t : Nat → Int32}
def rkI (l h d n : Nat) (f : Nat → Nat) (t : Nat → Int32) : Int32 := if rtB n l t = true then (if vdI (bkN l h d f (gnP t)) l = 0 then nlF (fun a => eqR (rwN a) (gnP t) l) (arrs true l h d f) 0 else -6) else -3
theorem sp_mrank {G : am_H} (hD : 6 ≤ D) (hE : EnA G (nI n) vp) (hp : MP G n t) (hm : MA G l h d f) (hd1 : 1 ≤ (bl d).length) (hd8 : (bl d).length ≤ 8) (hL : LK G 0 (fun _ => 0)) (hP : ∀ vp' G', EnA G' (nI n) vp' → LK G' 0 (fun _ => 0) → Fr [23, 28, 29, 30, 31, 33] G G' → P (some (.int (rkI l h d n f t))) G') : am_CB X D 142 [.ref 23] G P := by
  obtain ⟨D, rfl⟩ : ∃ D0, D = D0 + 1 := ⟨D - 1, by omega⟩
  obtain ⟨len, T, m, ip, due, dep, h1⟩ := hE.1
  unfold rkI at hP
  refine B142 60 [] ?_
  simp only [J142_0, J142_1, J142_4, J142_7, J142_9, J142_10, J142_11, J142_14, J142_15, J142_18, J142_21, J142_22, J142_25, J142_28, J142_30, am_gg_c, am_gf_c, am_pf_c, am_af_c, am_sf_c, am_bf_c, am_qf_c, am_ap_c, am_bp_c, am_qp_c, am_lf_c, am_kt_s, am_kt_n, am_wst, am_wstop, am_ns_0, am_ns_1, Bool.not_true, Bool.not_false, Bool.true_and, Bool.false_and, Nat.reduceBEq, ↓reduceIte, am_k2_n, am_k2_i, am_k2_r, am_k2_u, am_k2_f, am_k2_l, Nat.zero_le, true_and, and_true, true_or, or_true, am_cat_0, am_cat_i, am_cat_r, am_cat_l, am_cat_n, Nat.reduceLeDiff, Nat.reduceAdd, Option.isSome_some, List.getElem?_cons_zero, List.getElem?_cons_succ, am_fit_i, am_fit_r, am_fit_a, h1]
  refine sp_isRow (by omega) hp hm ?_
  simp only [J142_0, J142_1, J142_4, J142_7, J142_9, J142_10, J142_11, J142_14, J142_15, J142_18, J142_21, J142_22, J142_25, J142_28, J142_30, am_gg_c, am_gf_c, am_pf_c, am_af_c, am_sf_c, am_bf_c, am_qf_c, am_ap_c, am_bp_c, am_qp_c, am_lf_c, am_kt_s, am_kt_n, am_wst, am_wstop, am_ns_0, am_ns_1, Bool.not_true, Bool.not_false, Bool.true_and, Bool.false_and, Nat.reduceBEq, ↓reduceIte, am_k2_n, am_k2_i, am_k2_r, am_k2_u, am_k2_f, am_k2_l, Nat.zero_le, true_and, and_true, true_or, or_true, am_cat_0, am_cat_i, am_cat_r, am_cat_l, am_cat_n, Nat.reduceLeDiff, Nat.reduceAdd, Option.isSome_some, List.getElem?_cons_zero, List.getElem?_cons_succ, am_fit_i, am_fit_r, am_fit_a, h1]
  cases b : rtB n l t with
  | false =>
    simp only [Bool.false_eq_true, if_false, if_true]
    rw [b] at hP
    simpa using hP vp G hE hL Fr.rf
  | true =>
    rw [b] at hP
    simp only [if_true, if_neg (show ¬ (1 : Int32) = 0 by decide)]
    have hnl : n = l := by
      unfold rtB at b
      rw [Bool.and_eq_true, decide_eq_true_eq] at b
      exact b.1
    refine sp_lookAtPad (by omega) hp hL (fun G1 l1 f1 => ?_)
    have k1 : am_ob G1 23 5 = some (moL (nI n) len T m ip due dep vp) := by rw [f1.ob (by decide)]; exact h1
    have hE1 : EnA G1 (nI n) vp := hE.fr f1 (by decide) (by decide) (by decide) (by decide) (by decide)
    simp only [J142_0, J142_1, J142_4, J142_7, J142_9, J142_10, J142_11, J142_14, J142_15, J142_18, J142_21, J142_22, J142_25, J142_28, J142_30, am_gg_c, am_gf_c, am_pf_c, am_af_c, am_sf_c, am_bf_c, am_qf_c, am_ap_c, am_bp_c, am_qp_c, am_lf_c, am_kt_s, am_kt_n, am_wst, am_wstop, am_ns_0, am_ns_1, Bool.not_true, Bool.not_false, Bool.true_and, Bool.false_and, Nat.reduceBEq, ↓reduceIte, am_k2_n, am_k2_i, am_k2_r, am_k2_u, am_k2_f, am_k2_l, Nat.zero_le, true_and, and_true, true_or, or_true, am_cat_0, am_cat_i, am_cat_r, am_cat_l, am_cat_n, Nat.reduceLeDiff, Nat.reduceAdd, Option.isSome_some, List.getElem?_cons_zero, List.getElem?_cons_succ, am_fit_i, am_fit_r, am_fit_a, k1]
    have l2 : LK G1 l (fun i => nI (gnP t i)) := by
      obtain ⟨lf, q1, q2⟩ := l1
      exact ⟨lf, q1, fun i hi => (q2 i (by omega)).trans (gnP_le b hi).2⟩
    refine sp_verdict (by omega) k1 (hm.fr f1 (by decide)) l2 (fun i hi => (gnP_le b hi).1) (fun G2 k2 f2 => ?_)
    simp only [J142_0, J142_1, J142_4, J142_7, J142_9, J142_10, J142_11, J142_14, J142_15, J142_18, J142_21, J142_22, J142_25, J142_28, J142_30, am_gg_c, am_gf_c, am_pf_c, am_af_c, am_sf_c, am_bf_c, am_qf_c, am_ap_c, am_bp_c, am_qp_c, am_lf_c, am_kt_s, am_kt_n, am_wst, am_wstop, am_ns_0, am_ns_1, Bool.not_true, Bool.not_false, Bool.true_and, Bool.false_and, Nat.reduceBEq, ↓reduceIte, am_k2_n, am_k2_i, am_k2_r, am_k2_u, am_k2_f, am_k2_l, Nat.zero_le, true_and, and_true, true_or, or_true, am_cat_0, am_cat_i, am_cat_r, am_cat_l, am_cat_n, Nat.reduceLeDiff, Nat.reduceAdd, Option.isSome_some, List.getElem?_cons_zero, List.getElem?_cons_succ, am_fit_i, am_fit_r, am_fit_a, k2]
    have hE2 : EnA G2 (nI n) (vdP (bkN l h d f (gnP t)) l) := hE1.vp k2 (f2.up (by decide))
    have hF2 : Fr [23, 28, 29, 30, 31, 33] G G2 := (f1.up (by decide)).tr (f2.up (by decide))
    by_cases c : vdI (bkN l h d f (gnP t)) l = 0
    · rw [if_pos c] at hP ⊢
      refine sp_numLooked (by omega) hE2 ((hm.fr f1 (by decide)).fr f2 (by decide)) hd1 hd8 (l2.fr f2 (by decide)) (fun i hi => (gnP_le b hi).1) (fun G3 e3 f3 => ?_)
      simp only [J142_0, J142_1, J142_4, J142_7, J142_9, J142_10, J142_11, J142_14, J142_15, J142_18, J142_21, J142_22, J142_25, J142_28, J142_30, am_gg_c, am_gf_c, am_pf_c, am_af_c, am_sf_c, am_bf_c, am_qf_c, am_ap_c, am_bp_c, am_qp_c, am_lf_c, am_kt_s, am_kt_n, am_wst, am_wstop, am_ns_0, am_ns_1, Bool.not_true, Bool.not_false, Bool.true_and, Bool.false_and, Nat.reduceBEq, ↓reduceIte, am_k2_n, am_k2_i, am_k2_r, am_k2_u, am_k2_f, am_k2_l, Nat.zero_le, true_and, and_true, true_or, or_true, am_cat_0, am_cat_i, am_cat_r, am_cat_l, am_cat_n, Nat.reduceLeDiff, Nat.reduceAdd, Option.isSome_some, List.getElem?_cons_zero, List.getElem?_cons_succ, am_fit_i, am_fit_r, am_fit_a]
      exact hP _ G3 e3 (((l2.fr f2 (by decide)).fr f3 (by decide)).z) (hF2.tr (f3.up (by decide)))
    · rw [if_neg c] at hP ⊢
      exact hP _ G2 hE2 ((l2.fr f2 (by decide)).z) hF2
/-- the row, reversed -/
def rvN (l : Nat) (a : List (Nat × Nat)) (i : Nat) : Nat := rwN a (l - 1 - i)
def rvI (l h d : Nat) (f : Nat → Nat) (z : Int32) : Int32 := match goA (arrs true l h d f) z with
  | none => -1
  | some a => if vdI (bkN l h d f (rvN l a)) l = 0 then nlF (fun b => eqR (rwN b) (rvN l a) l) (arrs true l h d f) 0 else -6
theorem sp_mreversed {G : am_H} {z : Int32} (hD : 6 ≤ D) (hE : EnA G pm vp) (hm : MA G l h d f) (hd1 : 1 ≤ (bl d).length) (hd8 : (bl d).length ≤ 8) (hL : LK G 0 (fun _ => 0)) (hP : ∀ vp' G', EnA G' pm vp' → LK G' 0 (fun _ => 0) → Fr [23, 28, 29, 30, 31, 33] G G' → P (some (.int (rvI l h d f z))) G') : am_CB X D 149 [.ref 23, .int z] G P := by
  obtain ⟨D, rfl⟩ : ∃ D0, D = D0 + 1 := ⟨D - 1, by omega⟩
  obtain ⟨len, T, m, ip, due, dep, h1⟩ := hE.1
  have hl := hm.2.2.1
  unfold rvI at hP
  refine B149 60 [] ?_
  simp only [J149_0, J149_1, J149_2, J149_5, J149_8, J149_9, J149_10, J149_11, J149_14, J149_15, J149_18, J149_21, J149_22, J149_25, J149_28, J149_30, am_gg_c, am_gf_c, am_pf_c, am_af_c, am_sf_c, am_bf_c, am_qf_c, am_ap_c, am_bp_c, am_qp_c, am_lf_c, am_kt_s, am_kt_n, am_wst, am_wstop, am_ns_0, am_ns_1, Bool.not_true, Bool.not_false, Bool.true_and, Bool.false_and, Nat.reduceBEq, ↓reduceIte, am_k2_n, am_k2_i, am_k2_r, am_k2_u, am_k2_f, am_k2_l, Nat.zero_le, true_and, and_true, true_or, or_true, am_cat_0, am_cat_i, am_cat_r, am_cat_l, am_cat_n, Nat.reduceLeDiff, Nat.reduceAdd, Option.isSome_some, List.getElem?_cons_zero, List.getElem?_cons_succ, am_fit_i, am_fit_r, am_fit_a, h1]
  refine sp_goToS (by omega) hE hm hd1 hd8 (fun e G1 d1 d2 => ?_) (fun a e G1 d1 d2 d3 => ?_)
  · simp only [J149_0, J149_1, J149_2, J149_5, J149_8, J149_9, J149_10, J149_11, J149_14, J149_15, J149_18, J149_21, J149_22, J149_25, J149_28, J149_30, am_gg_c, am_gf_c, am_pf_c, am_af_c, am_sf_c, am_bf_c, am_qf_c, am_ap_c, am_bp_c, am_qp_c, am_lf_c, am_kt_s, am_kt_n, am_wst, am_wstop, am_ns_0, am_ns_1, Bool.not_true, Bool.not_false, Bool.true_and, Bool.false_and, Nat.reduceBEq, ↓reduceIte, am_k2_n, am_k2_i, am_k2_r, am_k2_u, am_k2_f, am_k2_l, Nat.zero_le, true_and, and_true, true_or, or_true, am_cat_0, am_cat_i, am_cat_r, am_cat_l, am_cat_n, Nat.reduceLeDiff, Nat.reduceAdd, Option.isSome_some, List.getElem?_cons_zero, List.getElem?_cons_succ, am_fit_i, am_fit_r, am_fit_a, if_true]
    rw [e] at hP
    exact hP vp G1 d1 (hL.fr d2 (by decide)) (d2.up (by decide))
  · rw [e] at hP
    obtain ⟨R, d1⟩ := d1
    have ha := goA_mem e
    obtain ⟨T, m, ip, due, dep, b2⟩ := d1.lgt
    simp only [J149_0, J149_1, J149_2, J149_5, J149_8, J149_9, J149_10, J149_11, J149_14, J149_15, J149_18, J149_21, J149_22, J149_25, J149_28, J149_30, am_gg_c, am_gf_c, am_pf_c, am_af_c, am_sf_c, am_bf_c, am_qf_c, am_ap_c, am_bp_c, am_qp_c, am_lf_c, am_kt_s, am_kt_n, am_wst, am_wstop, am_ns_0, am_ns_1, Bool.not_true, Bool.not_false, Bool.true_and, Bool.false_and, Nat.reduceBEq, ↓reduceIte, am_k2_n, am_k2_i, am_k2_r, am_k2_u, am_k2_f, am_k2_l, Nat.zero_le, true_and, and_true, true_or, or_true, am_cat_0, am_cat_i, am_cat_r, am_cat_l, am_cat_n, Nat.reduceLeDiff, Nat.reduceAdd, Option.isSome_some, List.getElem?_cons_zero, List.getElem?_cons_succ, am_fit_i, am_fit_r, am_fit_a, if_neg (show ¬ (1 : Int32) = 0 by decide), b2]
    refine sp_lookReversed hl (by omega) b2 d2 (hL.fr d3 (by decide)) (fun G2 l2 f2 => ?_)
    have k2 : am_ob G2 23 5 = some (moL pm (nI l) T m ip due dep vp) := by rw [f2.ob (by decide)]; exact b2
    have hE2 : EnA G2 pm vp := d1.a.fr f2 (by decide) (by decide) (by decide) (by decide) (by decide)
    have hm2 : MA G2 l h d f := (hm.fr d3 (by decide)).fr f2 (by decide)
    have hg : ∀ i, i < l → rvN l a i ≤ 17 := fun i _ => by have := rwN_lt (q := l - 1 - i) ha; unfold rvN; omega
    have l2' : LK G2 l (fun i => nI (rvN l a i)) := l2
    simp only [J149_0, J149_1, J149_2, J149_5, J149_8, J149_9, J149_10, J149_11, J149_14, J149_15, J149_18, J149_21, J149_22, J149_25, J149_28, J149_30, am_gg_c, am_gf_c, am_pf_c, am_af_c, am_sf_c, am_bf_c, am_qf_c, am_ap_c, am_bp_c, am_qp_c, am_lf_c, am_kt_s, am_kt_n, am_wst, am_wstop, am_ns_0, am_ns_1, Bool.not_true, Bool.not_false, Bool.true_and, Bool.false_and, Nat.reduceBEq, ↓reduceIte, am_k2_n, am_k2_i, am_k2_r, am_k2_u, am_k2_f, am_k2_l, Nat.zero_le, true_and, and_true, true_or, or_true, am_cat_0, am_cat_i, am_cat_r, am_cat_l, am_cat_n, Nat.reduceLeDiff, Nat.reduceAdd, Option.isSome_some, List.getElem?_cons_zero, List.getElem?_cons_succ, am_fit_i, am_fit_r, am_fit_a, k2]
    refine sp_verdict (by omega) k2 hm2 l2' hg (fun G3 k3 f3 => ?_)
    simp only [J149_0, J149_1, J149_2, J149_5, J149_8, J149_9, J149_10, J149_11, J149_14, J149_15, J149_18, J149_21, J149_22, J149_25, J149_28, J149_30, am_gg_c, am_gf_c, am_pf_c, am_af_c, am_sf_c, am_bf_c, am_qf_c, am_ap_c, am_bp_c, am_qp_c, am_lf_c, am_kt_s, am_kt_n, am_wst, am_wstop, am_ns_0, am_ns_1, Bool.not_true, Bool.not_false, Bool.true_and, Bool.false_and, Nat.reduceBEq, ↓reduceIte, am_k2_n, am_k2_i, am_k2_r, am_k2_u, am_k2_f, am_k2_l, Nat.zero_le, true_and, and_true, true_or, or_true, am_cat_0, am_cat_i, am_cat_r, am_cat_l, am_cat_n, Nat.reduceLeDiff, Nat.reduceAdd, Option.isSome_some, List.getElem?_cons_zero, List.getElem?_cons_succ, am_fit_i, am_fit_r, am_fit_a, k3]
    have hE3 : EnA G3 pm (vdP (bkN l h d f (rvN l a)) l) := hE2.vp k3 (f3.up (by decide))
    have hF3 : Fr [23, 28, 29, 30, 31, 33] G G3 := ((d3.up (by decide)).tr (f2.up (by decide))).tr (f3.up (by decide))
    simp only at hP
    by_cases c : vdI (bkN l h d f (rvN l a)) l = 0
    · rw [if_pos c] at hP ⊢
      refine sp_numLooked (by omega) hE3 (hm2.fr f3 (by decide)) hd1 hd8 (l2'.fr f3 (by decide)) hg (fun G4 e4 f4 => ?_)
      simp only [J149_0, J149_1, J149_2, J149_5, J149_8, J149_9, J149_10, J149_11, J149_14, J149_15, J149_18, J149_21, J149_22, J149_25, J149_28, J149_30, am_gg_c, am_gf_c, am_pf_c, am_af_c, am_sf_c, am_bf_c, am_qf_c, am_ap_c, am_bp_c, am_qp_c, am_lf_c, am_kt_s, am_kt_n, am_wst, am_wstop, am_ns_0, am_ns_1, Bool.not_true, Bool.not_false, Bool.true_and, Bool.false_and, Nat.reduceBEq, ↓reduceIte, am_k2_n, am_k2_i, am_k2_r, am_k2_u, am_k2_f, am_k2_l, Nat.zero_le, true_and, and_true, true_or, or_true, am_cat_0, am_cat_i, am_cat_r, am_cat_l, am_cat_n, Nat.reduceLeDiff, Nat.reduceAdd, Option.isSome_some, List.getElem?_cons_zero, List.getElem?_cons_succ, am_fit_i, am_fit_r, am_fit_a]
      exact hP _ G4 e4 (((l2'.fr f3 (by decide)).fr f4 (by decide)).z) (hF3.tr (f4.up (by decide)))
    · rw [if_neg c] at hP ⊢
      exact hP _ G3 hE3 ((l2'.fr f3 (by decide)).z) hF3
end RK
