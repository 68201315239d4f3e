/-! the reference: what it has looked at, and its pad's rows -/
section MR
variable {X : Nat × (Nat → Int32)} {D : Nat} {P : Option Value → am_H → Prop} {n : Nat} {t : Nat → Int32}
/-- the row that is looked at -/
def LK (G : am_H) (n : Nat) (g : Nat → Int32) : Prop := ∃ lf, am_ia G 33 0 = some (18, lf) ∧ ∀ i, i < n → lf i = g i
theorem LK.fr {G G' : am_H} {ks : List Nat} {g : Nat → Int32} (h : LK G n g) (hF : Fr ks G G') (h1 : ¬ 33 ∈ ks) : LK G' n g := by
  obtain ⟨lf, a, b⟩ := h
  exact ⟨lf, by rw [hF.ia h1]; exact a, b⟩
theorem MP.fr {G G' : am_H} {ks : List Nat} (h : MP G n t) (hF : Fr ks G G') (h1 : ¬ 27 ∈ ks) (h2 : ¬ 23 ∈ ks) : MP G' n t := by
  obtain ⟨⟨len, T, m, ip, due, dep, vp, a⟩, b, pf, c, e⟩ := h
  exact ⟨⟨len, T, m, ip, due, dep, vp, by rw [hF.ob h2]; exact a⟩, b, pf, by rw [hF.ia h1]; exact c, e⟩
theorem lp_lookAtPad {G0 : am_H} (hD : 2 ≤ D) (hm : ∀ G, Fr [33] G0 G → MP G n t) (hP : ∀ G', LK G' n (fun i => mgI (t i)) → Fr [33] G0 G' → P none G') : ∀ (k i : Nat) (G : am_H), i + k = n → LK G i (fun i => mgI (t i)) → Fr [33] G0 G → am_WP X D 135 2 [some (.ref 23), some (.int (nI i))] [] G 0 0 P := by
  intro k
  induction k with
  | zero =>
    intro i G hi hL hF
    obtain ⟨⟨len, T, m, ip, due, dep, vp, h1⟩, hn, pf, h2, h3⟩ := hm G hF
    refine am_wps 40 [28] ?_
    simp only [J135_0, J135_1, J135_2, J135_3, J135_4, J135_7, J135_10, J135_11, J135_14, J135_15, J135_16, J135_19, J135_20, J135_21, J135_24, J135_25, J135_28, J135_31, am_gg_c, am_gf_c, am_pf_c, am_af_c, am_sf_c, am_bf_c, am_qf_c, am_ap_c, am_bp_c, am_qp_c, am_lf_c, am_kt_s, am_kt_n, am_wst, am_wstop, am_ns_0, am_ns_1, Bool.not_true, Bool.not_false, Bool.true_and, Bool.false_and, Nat.reduceBEq, ↓reduceIte, am_k2_n, am_k2_i, am_k2_r, am_k2_u, am_k2_f, am_k2_l, Nat.zero_le, true_and, and_true, true_or, or_true, am_cat_0, am_cat_i, am_cat_r, am_cat_l, am_cat_n, Nat.reduceLeDiff, Nat.reduceAdd, Option.isSome_some, List.getElem?_cons_zero, List.getElem?_cons_succ, am_fit_i, am_fit_r, am_fit_a, h1]
    rw [if_neg (by rw [nI_ltI (by omega) (by omega)]; omega)]
    rw [show i = n by omega] at hL
    exact hP G hL hF
  | succ k ih =>
    intro i G hi hL hF
    obtain ⟨⟨len, T, m, ip, due, dep, vp, h1⟩, hn, pf, h2, h3⟩ := hm G hF
    obtain ⟨lf, l1, l2⟩ := hL
    have k33 := am_ia_lt l1
    refine am_wps 40 [28] ?_
    simp only [J135_0, J135_1, J135_2, J135_3, J135_4, J135_7, J135_10, J135_11, J135_14, J135_15, J135_16, J135_19, J135_20, J135_21, J135_24, J135_25, J135_28, J135_31, am_gg_c, am_gf_c, am_pf_c, am_af_c, am_sf_c, am_bf_c, am_qf_c, am_ap_c, am_bp_c, am_qp_c, am_lf_c, am_kt_s, am_kt_n, am_wst, am_wstop, am_ns_0, am_ns_1, Bool.not_true, Bool.not_false, Bool.true_and, Bool.false_and, Nat.reduceBEq, ↓reduceIte, am_k2_n, am_k2_i, am_k2_r, am_k2_u, am_k2_f, am_k2_l, Nat.zero_le, true_and, and_true, true_or, or_true, am_cat_0, am_cat_i, am_cat_r, am_cat_l, am_cat_n, Nat.reduceLeDiff, Nat.reduceAdd, Option.isSome_some, List.getElem?_cons_zero, List.getElem?_cons_succ, am_fit_i, am_fit_r, am_fit_a, h1, h2]
    rw [if_pos (by rw [nI_ltI (by omega) (by omega)]; omega)]
    refine ⟨vp_in_n (by omega) (by omega), ?_⟩
    rw [nI_clamp (by omega), h3 i (by omega)]
    refine sp_meaning (by omega) ?_
    simp only [J135_0, J135_1, J135_2, J135_3, J135_4, J135_7, J135_10, J135_11, J135_14, J135_15, J135_16, J135_19, J135_20, J135_21, J135_24, J135_25, J135_28, J135_31, am_gg_c, am_gf_c, am_pf_c, am_af_c, am_sf_c, am_bf_c, am_qf_c, am_ap_c, am_bp_c, am_qp_c, am_lf_c, am_kt_s, am_kt_n, am_wst, am_wstop, am_ns_0, am_ns_1, Bool.not_true, Bool.not_false, Bool.true_and, Bool.false_and, Nat.reduceBEq, ↓reduceIte, am_k2_n, am_k2_i, am_k2_r, am_k2_u, am_k2_f, am_k2_l, Nat.zero_le, true_and, and_true, true_or, or_true, am_cat_0, am_cat_i, am_cat_r, am_cat_l, am_cat_n, Nat.reduceLeDiff, Nat.reduceAdd, Option.isSome_some, List.getElem?_cons_zero, List.getElem?_cons_succ, am_fit_i, am_fit_r, am_fit_a, l1]
    refine ⟨vp_in_n (by omega) (by omega), ?_⟩
    rw [nI_clamp (by omega)]
    refine am_goto I135_28 ?_
    rw [nI_1]
    refine ih (i + 1) _ (by omega) ⟨_, am_ia_ss k33, fun j hj => ?_⟩ (hF.tr (Fr.set (by decide)))
    show upd lf i (mgI (t i)) j = mgI (t j)
    unfold upd
    by_cases c : j = i
    · rw [if_pos c, c]
    · rw [if_neg c]
      exact l2 j (by omega)
theorem sp_lookAtPad {G : am_H} (hD : 3 ≤ D) (hm : MP G n t) (hL : LK G 0 (fun _ => 0)) (hP : ∀ G', LK G' n (fun i => mgI (t i)) → Fr [33] G G' → P none G') : am_CB X D 135 [.ref 23] G P := by
  obtain ⟨D, rfl⟩ : ∃ D0, D = D0 + 1 := ⟨D - 1, by omega⟩
  obtain ⟨lf, l1, l2⟩ := hL
  refine B135 40 [2] ?_
  simp only [J135_0, J135_1, J135_2, J135_3, J135_4, J135_7, J135_10, J135_11, J135_14, J135_15, J135_16, J135_19, J135_20, J135_21, J135_24, J135_25, J135_28, J135_31, am_gg_c, am_gf_c, am_pf_c, am_af_c, am_sf_c, am_bf_c, am_qf_c, am_ap_c, am_bp_c, am_qp_c, am_lf_c, am_kt_s, am_kt_n, am_wst, am_wstop, am_ns_0, am_ns_1, Bool.not_true, Bool.not_false, Bool.true_and, Bool.false_and, Nat.reduceBEq, ↓reduceIte, am_k2_n, am_k2_i, am_k2_r, am_k2_u, am_k2_f, am_k2_l, Nat.zero_le, true_and, and_true, true_or, or_true, am_cat_0, am_cat_i, am_cat_r, am_cat_l, am_cat_n, Nat.reduceLeDiff, Nat.reduceAdd, Option.isSome_some, List.getElem?_cons_zero, List.getElem?_cons_succ, am_fit_i, am_fit_r, am_fit_a]
  exact lp_lookAtPad (G0 := G) (by omega) (fun G' hF => hm.fr hF (by decide) (by decide)) hP n 0 G (by omega) ⟨lf, l1, fun i hi => by omega⟩ Fr.rf
end MR
section PIN
variable {X : Nat × (Nat → Int32)} {D : Nat} {G : am_H} {P : Option Value → am_H → Prop} {pm len T m ip due dep vp : Int32} {l h d : Nat} {f : Nat → Nat}
theorem sp_hasOtherPin {q w : Nat} (hD : 1 ≤ D) (h1 : am_ob G 23 5 = some (moL pm len T m ip due dep vp)) (hm : MA G l h d f) (hq : q < 18) (hw : w < 18) (hP : P (some (.int (if !(f q == 0) && !(f q == w) then 1 else 0))) G) : am_CB X D 112 [.ref 23, .int (nI q), .int (nI w)] G P := by
  obtain ⟨D, rfl⟩ : ∃ D0, D = D0 + 1 := ⟨D - 1, by omega⟩
  obtain ⟨⟨af, a1, a2, a3, a4, a5⟩, hl1, hl, hh, hd, hd0, hf⟩ := hm
  have hfq := hf q
  have haf : af (3 + nI q).toNatClampNeg = nI (f q) := by rw [show (3 : Int32) = nI 3 by rfl, nI_add, nI_clamp (by omega)]; exact a5 q hq
  have hin : vp_in (3 + nI q) 21 := vp_lit (k := 3 + q) (by rw [show (3 : Int32) = nI 3 by rfl, nI_add]) (by omega) (by omega)
  refine B112 40 [] ?_
  simp only [J112_0, J112_1, J112_4, J112_5, J112_6, J112_7, J112_8, J112_11, J112_12, J112_15, J112_16, J112_17, J112_18, J112_19, J112_20, J112_23, J112_24, J112_27, J112_28, am_gg_c, am_gf_c, am_pf_c, am_af_c, am_sf_c, am_bf_c, am_qf_c, am_ap_c, am_bp_c, am_qp_c, am_lf_c, am_kt_s, am_kt_n, am_wst, am_wstop, am_ns_0, am_ns_1, Bool.not_true, Bool.not_false, Bool.true_and, Bool.false_and, Nat.reduceBEq, ↓reduceIte, am_k2_n, am_k2_i, am_k2_r, am_k2_u, am_k2_f, am_k2_l, Nat.zero_le, true_and, and_true, true_or, or_true, am_cat_0, am_cat_i, am_cat_r, am_cat_l, am_cat_n, Nat.reduceLeDiff, Nat.reduceAdd, Option.isSome_some, List.getElem?_cons_zero, List.getElem?_cons_succ, am_fit_i, am_fit_r, am_fit_a, h1, a1, haf]
  refine ⟨hin, ?_⟩
  by_cases c0 : f q = 0
  · rw [if_neg (by rw [c0]; decide)]
    rw [c0] at hP
    simpa using hP
  · rw [if_pos (by rw [bi_lt, nI_toInt (by omega)]; show (0 : Int) < _; omega)]
    refine ⟨hin, ?_⟩
    by_cases c1 : f q = w
    · rw [if_pos (by rw [c1])]
      simpa [c1] using hP
    · rw [if_neg (fun e => c1 (bi_inj (by omega) (by omega) e))]
      simpa [c0, c1] using hP
theorem sp_fitsPins {s w : Nat} (hD : 2 ≤ D) (h1 : am_ob G 23 5 = some (moL pm len T m ip due dep vp)) (hm : MA G l h d f) (hs : s + w < 18) (hP : P (some (.int (if pnB true f s w && pnB true f (s + w) w then 1 else 0))) G) : am_CB X D 113 [.ref 23, .int (nI w), .int (nI s)] G P := by
  obtain ⟨D, rfl⟩ : ∃ D0, D = D0 + 1 := ⟨D - 1, by omega⟩
  unfold pnB at hP
  refine B113 40 [] ?_
  simp only [J113_0, J113_1, J113_2, J113_3, J113_6, J113_9, J113_10, J113_11, J113_12, J113_13, J113_14, J113_17, J113_20, J113_21, J113_24, J113_25, am_gg_c, am_gf_c, am_pf_c, am_af_c, am_sf_c, am_bf_c, am_qf_c, am_ap_c, am_bp_c, am_qp_c, am_lf_c, am_kt_s, am_kt_n, am_wst, am_wstop, am_ns_0, am_ns_1, Bool.not_true, Bool.not_false, Bool.true_and, Bool.false_and, Nat.reduceBEq, ↓reduceIte, am_k2_n, am_k2_i, am_k2_r, am_k2_u, am_k2_f, am_k2_l, Nat.zero_le, true_and, and_true, true_or, or_true, am_cat_0, am_cat_i, am_cat_r, am_cat_l, am_cat_n, Nat.reduceLeDiff, Nat.reduceAdd, Option.isSome_some, List.getElem?_cons_zero, List.getElem?_cons_succ, am_fit_i, am_fit_r, am_fit_a, h1]
  refine sp_hasOtherPin (by omega) h1 hm (by omega) (by omega) ?_
  simp only [J113_0, J113_1, J113_2, J113_3, J113_6, J113_9, J113_10, J113_11, J113_12, J113_13, J113_14, J113_17, J113_20, J113_21, J113_24, J113_25, am_gg_c, am_gf_c, am_pf_c, am_af_c, am_sf_c, am_bf_c, am_qf_c, am_ap_c, am_bp_c, am_qp_c, am_lf_c, am_kt_s, am_kt_n, am_wst, am_wstop, am_ns_0, am_ns_1, Bool.not_true, Bool.not_false, Bool.true_and, Bool.false_and, Nat.reduceBEq, ↓reduceIte, am_k2_n, am_k2_i, am_k2_r, am_k2_u, am_k2_f, am_k2_l, Nat.zero_le, true_and, and_true, true_or, or_true, am_cat_0, am_cat_i, am_cat_r, am_cat_l, am_cat_n, Nat.reduceLeDiff, Nat.reduceAdd, Option.isSome_some, List.getElem?_cons_zero, List.getElem?_cons_succ, am_fit_i, am_fit_r, am_fit_a, h1]
  by_cases c0 : (!(f s == 0) && !(f s == w)) = true
  · rw [if_pos c0, if_neg (by decide)]
    rw [Bool.and_eq_true] at c0
    simp only [Bool.not_eq_true'] at c0
    rw [c0.1, c0.2] at hP
    simpa using hP
  · rw [if_neg c0, if_pos rfl, nI_add]
    refine sp_hasOtherPin (by omega) h1 hm (by omega) (by omega) ?_
    simp only [J113_0, J113_1, J113_2, J113_3, J113_6, J113_9, J113_10, J113_11, J113_12, J113_13, J113_14, J113_17, J113_20, J113_21, J113_24, J113_25, am_gg_c, am_gf_c, am_pf_c, am_af_c, am_sf_c, am_bf_c, am_qf_c, am_ap_c, am_bp_c, am_qp_c, am_lf_c, am_kt_s, am_kt_n, am_wst, am_wstop, am_ns_0, am_ns_1, Bool.not_true, Bool.not_false, Bool.true_and, Bool.false_and, Nat.reduceBEq, ↓reduceIte, am_k2_n, am_k2_i, am_k2_r, am_k2_u, am_k2_f, am_k2_l, Nat.zero_le, true_and, and_true, true_or, or_true, am_cat_0, am_cat_i, am_cat_r, am_cat_l, am_cat_n, Nat.reduceLeDiff, Nat.reduceAdd, Option.isSome_some, List.getElem?_cons_zero, List.getElem?_cons_succ, am_fit_i, am_fit_r, am_fit_a, h1]
    by_cases c1 : (!(f (s + w) == 0) && !(f (s + w) == w)) = true
    · rw [if_pos c1, if_neg (by decide)]
      rw [Bool.and_eq_true] at c1
      simp only [Bool.not_eq_true'] at c1
      rw [c1.1, c1.2] at hP
      simpa using hP
    · rw [if_neg c1, if_pos rfl]
      have e0 : (f s == 0 || f s == w) = true := by
        cases z1 : (f s == 0) <;> cases z2 : (f s == w) <;> simp_all
      have e1 : (f (s + w) == 0 || f (s + w) == w) = true := by
        cases z1 : (f (s + w) == 0) <;> cases z2 : (f (s + w) == w) <;> simp_all
      simp only [Bool.not_true, Bool.false_or] at hP
      rw [e0, e1] at hP
      simpa using hP
end PIN
