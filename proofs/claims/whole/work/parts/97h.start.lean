/-! the law's start -/
theorem gf_h23n {p : Nat → Int32} {z : Nat → Option Nat} (hz : ∀ j k, z j = some k → k < 23) : GF (H23 p z (.int 1)) := by
  intro c hc
  simp only [H23, List.length_cons, List.length_nil, List.mem_cons, List.not_mem_nil, or_false] at hc ⊢
  rcases hc with rfl | rfl | rfl | rfl | rfl | rfl | rfl | rfl | rfl | rfl | rfl | rfl | rfl | rfl | rfl | rfl | rfl | rfl | rfl | rfl | rfl | rfl | rfl <;> first | (simp [am_fC, am_fv]; done) | (simp [am_fC, am_fv]; exact hz)
theorem gf_h23 {p : Nat → Int32} {z : Nat → Option Nat} (hz : ∀ j k, z j = some k → k < 23) : GF (H23 p z (.int 1) ++ [am_o 5 (am_df 5)]) := by
  have hz2 : ∀ j k, z j = some k → k < 24 := fun j k h => by have := hz j k h; omega
  intro c hc
  simp only [H23, List.cons_append, List.nil_append, List.length_cons, List.length_nil, List.mem_cons, List.not_mem_nil, or_false] at hc ⊢
  rcases hc with rfl | rfl | rfl | rfl | rfl | rfl | rfl | rfl | rfl | rfl | rfl | rfl | rfl | rfl | rfl | rfl | rfl | rfl | rfl | rfl | rfl | rfl | rfl | rfl <;> first | (simp [am_fC, am_fv, am_df]; done) | (simp [am_fC, am_fv, am_df]; exact hz2)
theorem lw_start {L : Nat} {xs : Nat → Int32} {D : Nat} (hD : 20 ≤ D) (hL : L ≤ 2048) : am_WP (L, xs) D 170 0 [some (.float 0), none, none, none] [] [] 0 0 (fun v _ => v = some (.int 1)) := by
  refine am_wps 60 [18] ?_
  simp only [J170_0, J170_3, J170_4, J170_7, J170_8, J170_11, J170_12, J170_15, J170_16, J170_17, am_gg_c, am_gf_c, am_pf_c, am_af_c, am_sf_c, am_bf_c, am_qf_c, am_ap_c, am_bp_c, am_qp_c, am_lf_c, am_kt_s, am_kt_n, am_wst, am_wstop, am_ns_0, am_ns_1, Bool.not_true, Bool.not_false, Bool.true_and, Bool.false_and, Nat.reduceBEq, ↓reduceIte, am_k2_n, am_k2_i, am_k2_r, am_k2_u, am_k2_f, am_k2_l, Nat.zero_le, true_and, and_true, true_or, or_true, am_cat_0, am_cat_i, am_cat_r, am_cat_l, am_cat_n, Nat.reduceLeDiff, Nat.reduceAdd, Option.isSome_some, List.getElem?_cons_zero, List.getElem?_cons_succ, am_fit_i, am_fit_r, am_fit_a, List.nil_append, List.length_nil]
  refine ⟨by decide, by decide, (by simp [am_fr, am_fv, am_fC, am_df]), rfl, by decide, by decide, (by simp [am_fr, am_fv, am_fC, am_df]), sp_init4 (by omega) (fun p z hp hz0 hz1 hz => ?_)⟩
  have hg := gf_h23 (p := p) hz
  have hgn := gf_h23n (p := p) hz
  have hlen : (H23 p z (.int 1)).length = 23 := rfl
  simp only [J170_0, J170_3, J170_4, J170_7, J170_8, J170_11, J170_12, J170_15, J170_16, J170_17, am_gg_c, am_gf_c, am_pf_c, am_af_c, am_sf_c, am_bf_c, am_qf_c, am_ap_c, am_bp_c, am_qp_c, am_lf_c, am_kt_s, am_kt_n, am_wst, am_wstop, am_ns_0, am_ns_1, Bool.not_true, Bool.not_false, Bool.true_and, Bool.false_and, Nat.reduceBEq, ↓reduceIte, am_k2_n, am_k2_i, am_k2_r, am_k2_u, am_k2_f, am_k2_l, Nat.zero_le, true_and, and_true, true_or, or_true, am_cat_0, am_cat_i, am_cat_r, am_cat_l, am_cat_n, Nat.reduceLeDiff, Nat.reduceAdd, Option.isSome_some, List.getElem?_cons_zero, List.getElem?_cons_succ, am_fit_i, am_fit_r, am_fit_a]
  refine ⟨by decide, by decide, ⟨by simp [am_fv, hlen], by simp [am_fv], hgn⟩, rfl, by decide, by decide, ⟨by simp [am_fv, hlen], by simp [am_fv, hlen], hg⟩, sp_init5 (by omega) hlen hg (fun G1 hm hF => ?_)⟩
  simp only [hlen, J170_0, J170_3, J170_4, J170_7, J170_8, J170_11, J170_12, J170_15, J170_16, J170_17, am_gg_c, am_gf_c, am_pf_c, am_af_c, am_sf_c, am_bf_c, am_qf_c, am_ap_c, am_bp_c, am_qp_c, am_lf_c, am_kt_s, am_kt_n, am_wst, am_wstop, am_ns_0, am_ns_1, Bool.not_true, Bool.not_false, Bool.true_and, Bool.false_and, Nat.reduceBEq, ↓reduceIte, am_k2_n, am_k2_i, am_k2_r, am_k2_u, am_k2_f, am_k2_l, Nat.zero_le, true_and, and_true, true_or, or_true, am_cat_0, am_cat_i, am_cat_r, am_cat_l, am_cat_n, Nat.reduceLeDiff, Nat.reduceAdd, Option.isSome_some, List.getElem?_cons_zero, List.getElem?_cons_succ, am_fit_i, am_fit_r, am_fit_a]
  refine lw_loop ?_ hD hL (L + 4) 0 G1 (by omega) (by omega) (inv0 hp hz0 hz1 hm hF)
  decide
