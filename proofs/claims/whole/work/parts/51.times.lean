/-! hasLooked, timesUpTo -/
/-- how often a value is at the first places -/
def tmN (g : Nat → Nat) (w : Nat) : Nat → Nat
  | 0 => 0
  | k + 1 => tmN g w k + (if g k = w then 1 else 0)
section TM
variable {X : Nat × (Nat → Int32)} {D : Nat} {G : am_H} {P : Option Value → am_H → Prop} {pm len T m ip due dep vp : Int32} {l h d : Nat} {f g : Nat → Nat}
theorem sp_hasLooked {x : Int32} {w : Nat} (hD : 3 ≤ D) (h1 : am_ob G 23 5 = some (moL pm len T m ip due dep vp)) (hm : MA G l h d f) (hL : LK G l (fun i => nI (g i))) (hg : ∀ i, i < l → g i < 2 ^ 31) (hw : w < 2 ^ 31) (hP : P (some (.int (if (inN x l && g x.toInt.toNat == w) = true then 1 else 0))) G) : am_CB X D 137 [.ref 23, .int x, .int (nI w)] G P := by
  obtain ⟨D, rfl⟩ : ∃ D0, D = D0 + 1 := ⟨D - 1, by omega⟩
  have hl := hm.2.2.1
  obtain ⟨lf, l1, l2⟩ := hL
  have l2 : ∀ i, i < l → lf i = nI (g i) := l2
  refine B137 40 [] ?_
  simp only [J137_0, J137_1, J137_2, J137_5, J137_8, J137_9, J137_12, J137_13, J137_14, J137_15, J137_18, J137_19, J137_22, J137_23, am_gg_c, am_gf_c, am_pf_c, am_af_c, am_sf_c, am_bf_c, am_qf_c, am_ap_c, am_bp_c, am_qp_c, am_lf_c, am_kt_s, am_kt_n, am_wst, am_wstop, am_ns_0, am_ns_1, Bool.not_true, Bool.not_false, Bool.true_and, Bool.false_and, Nat.reduceBEq, ↓reduceIte, am_k2_n, am_k2_i, am_k2_r, am_k2_u, am_k2_f, am_k2_l, Nat.zero_le, true_and, and_true, true_or, or_true, am_cat_0, am_cat_i, am_cat_r, am_cat_l, am_cat_n, Nat.reduceLeDiff, Nat.reduceAdd, Option.isSome_some, List.getElem?_cons_zero, List.getElem?_cons_succ, am_fit_i, am_fit_r, am_fit_a, h1]
  refine sp_mPosition (by omega) h1 hm ?_
  simp only [J137_0, J137_1, J137_2, J137_5, J137_8, J137_9, J137_12, J137_13, J137_14, J137_15, J137_18, J137_19, J137_22, J137_23, am_gg_c, am_gf_c, am_pf_c, am_af_c, am_sf_c, am_bf_c, am_qf_c, am_ap_c, am_bp_c, am_qp_c, am_lf_c, am_kt_s, am_kt_n, am_wst, am_wstop, am_ns_0, am_ns_1, Bool.not_true, Bool.not_false, Bool.true_and, Bool.false_and, Nat.reduceBEq, ↓reduceIte, am_k2_n, am_k2_i, am_k2_r, am_k2_u, am_k2_f, am_k2_l, Nat.zero_le, true_and, and_true, true_or, or_true, am_cat_0, am_cat_i, am_cat_r, am_cat_l, am_cat_n, Nat.reduceLeDiff, Nat.reduceAdd, Option.isSome_some, List.getElem?_cons_zero, List.getElem?_cons_succ, am_fit_i, am_fit_r, am_fit_a, h1, l1]
  cases hb : inN x l with
  | false =>
    rw [hb] at hP
    simp only [Bool.false_eq_true, if_false, if_true]
    simpa using hP
  | true =>
    rw [hb] at hP
    obtain ⟨q, rfl, hq⟩ := inN_of hb (by omega)
    rw [nI_toInt (by omega), Int.toNat_natCast, Bool.true_and] at hP
    simp only [if_true, if_neg (show ¬ (1 : Int32) = 0 by decide)]
    refine ⟨vp_in_n (by omega) (by omega), ?_⟩
    rw [nI_clamp (by omega), l2 q hq]
    have hgq := hg q hq
    by_cases c : g q = w
    · rw [if_pos (by rw [c])]
      simpa [c] using hP
    · rw [if_neg (fun e => c (bi_inj (by omega) (by omega) e))]
      simpa [c] using hP
theorem lp_times {q : Nat} (h1 : am_ob G 23 5 = some (moL pm len T m ip due dep vp)) (hl : l ≤ 18) (hL : LK G l (fun i => nI (g i))) (hg : ∀ i, i < l → g i < 2 ^ 31) (hq : q < l) (hP : P (some (.int (nI (tmN g (g q) (q + 1))))) G) : ∀ (k i : Nat), i + k = q + 1 → am_WP X D 136 4 [some (.ref 23), some (.int (nI q)), some (.int (nI (tmN g (g q) i))), some (.int (nI i))] [] G 0 0 P := by
  obtain ⟨lf, l1, l2⟩ := hL
  have l2 : ∀ i, i < l → lf i = nI (g i) := l2
  have hgq := hg q hq
  have hin : vp_in (nI q) 18 := vp_in_n (by omega) (by omega)
  intro k
  induction k with
  | zero =>
    intro i hi
    refine am_wps 40 [35] ?_
    simp only [J136_0, J136_1, J136_2, J136_3, J136_4, J136_5, J136_6, J136_9, J136_10, J136_11, J136_14, J136_15, J136_16, J136_17, J136_20, J136_21, J136_22, J136_25, J136_26, J136_29, J136_30, J136_31, J136_32, J136_35, J136_38, J136_39, am_gg_c, am_gf_c, am_pf_c, am_af_c, am_sf_c, am_bf_c, am_qf_c, am_ap_c, am_bp_c, am_qp_c, am_lf_c, am_kt_s, am_kt_n, am_wst, am_wstop, am_ns_0, am_ns_1, Bool.not_true, Bool.not_false, Bool.true_and, Bool.false_and, Nat.reduceBEq, ↓reduceIte, am_k2_n, am_k2_i, am_k2_r, am_k2_u, am_k2_f, am_k2_l, Nat.zero_le, true_and, and_true, true_or, or_true, am_cat_0, am_cat_i, am_cat_r, am_cat_l, am_cat_n, Nat.reduceLeDiff, Nat.reduceAdd, Option.isSome_some, List.getElem?_cons_zero, List.getElem?_cons_succ, am_fit_i, am_fit_r, am_fit_a]
    rw [if_pos (by rw [nI_ltI (by omega) (by omega)]; omega)]
    rw [show i = q + 1 by omega]
    exact hP
  | succ k ih =>
    intro i hi
    have hgi := hg i (by omega)
    refine am_wps 40 [35] ?_
    simp only [J136_0, J136_1, J136_2, J136_3, J136_4, J136_5, J136_6, J136_9, J136_10, J136_11, J136_14, J136_15, J136_16, J136_17, J136_20, J136_21, J136_22, J136_25, J136_26, J136_29, J136_30, J136_31, J136_32, J136_35, J136_38, J136_39, am_gg_c, am_gf_c, am_pf_c, am_af_c, am_sf_c, am_bf_c, am_qf_c, am_ap_c, am_bp_c, am_qp_c, am_lf_c, am_kt_s, am_kt_n, am_wst, am_wstop, am_ns_0, am_ns_1, Bool.not_true, Bool.not_false, Bool.true_and, Bool.false_and, Nat.reduceBEq, ↓reduceIte, am_k2_n, am_k2_i, am_k2_r, am_k2_u, am_k2_f, am_k2_l, Nat.zero_le, true_and, and_true, true_or, or_true, am_cat_0, am_cat_i, am_cat_r, am_cat_l, am_cat_n, Nat.reduceLeDiff, Nat.reduceAdd, Option.isSome_some, List.getElem?_cons_zero, List.getElem?_cons_succ, am_fit_i, am_fit_r, am_fit_a, h1, l1]
    rw [if_neg (by rw [nI_ltI (by omega) (by omega)]; omega)]
    refine ⟨vp_in_n (by omega) (by omega), hin, ?_⟩
    rw [nI_clamp (by omega), nI_clamp (by omega), l2 i (by omega), l2 q hq]
    have hs : (if g i = g q then tmN g (g q) i + 1 else tmN g (g q) i) = tmN g (g q) (i + 1) := by
      show _ = tmN g (g q) i + (if g i = g q then 1 else 0)
      split <;> rfl
    by_cases c : g i = g q
    · rw [if_pos c] at hs
      rw [if_pos (by rw [c])]
      refine am_goto I136_35 ?_
      rw [nI_1, nI_1, hs]
      exact ih (i + 1) (by omega)
    · rw [if_neg c] at hs
      rw [if_neg (fun e => c (bi_inj (by omega) (by omega) e))]
      refine am_goto I136_35 ?_
      rw [nI_1, show nI (tmN g (g q) i) + 0 = nI (tmN g (g q) i) by rw [show (0 : Int32) = nI 0 by rfl, nI_add, Nat.add_zero], hs]
      exact ih (i + 1) (by omega)
theorem sp_timesUpTo {q : Nat} (hD : 1 ≤ D) (h1 : am_ob G 23 5 = some (moL pm len T m ip due dep vp)) (hl : l ≤ 18) (hL : LK G l (fun i => nI (g i))) (hg : ∀ i, i < l → g i < 2 ^ 31) (hq : q < l) (hP : P (some (.int (nI (tmN g (g q) (q + 1))))) G) : am_CB X D 136 [.ref 23, .int (nI q)] G P := by
  obtain ⟨D, rfl⟩ : ∃ D0, D = D0 + 1 := ⟨D - 1, by omega⟩
  refine B136 40 [4] ?_
  simp only [J136_0, J136_1, J136_2, J136_3, J136_4, J136_5, J136_6, J136_9, J136_10, J136_11, J136_14, J136_15, J136_16, J136_17, J136_20, J136_21, J136_22, J136_25, J136_26, J136_29, J136_30, J136_31, J136_32, J136_35, J136_38, J136_39, am_gg_c, am_gf_c, am_pf_c, am_af_c, am_sf_c, am_bf_c, am_qf_c, am_ap_c, am_bp_c, am_qp_c, am_lf_c, am_kt_s, am_kt_n, am_wst, am_wstop, am_ns_0, am_ns_1, Bool.not_true, Bool.not_false, Bool.true_and, Bool.false_and, Nat.reduceBEq, ↓reduceIte, am_k2_n, am_k2_i, am_k2_r, am_k2_u, am_k2_f, am_k2_l, Nat.zero_le, true_and, and_true, true_or, or_true, am_cat_0, am_cat_i, am_cat_r, am_cat_l, am_cat_n, Nat.reduceLeDiff, Nat.reduceAdd, Option.isSome_some, List.getElem?_cons_zero, List.getElem?_cons_succ, am_fit_i, am_fit_r, am_fit_a]
  exact lp_times h1 hl hL hg hq hP (q + 1) 0 (by omega)
end TM
