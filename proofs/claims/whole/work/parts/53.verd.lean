/-! verdict -/
def vdQ (b : Nat → Bool) : Nat → Nat → Option Nat
  | 0, _ => none
  | k + 1, i => if b i = true then some i else vdQ b k (i + 1)
def vdR (B : Nat → Nat → Bool) (l : Nat) : Nat → Nat → Option (Nat × Nat)
  | 0, _ => none
  | k + 1, r => match vdQ (B r) l 0 with
    | some q => some (r, q)
    | none => vdR B l k (r + 1)
def vdI (B : Nat → Nat → Bool) (l : Nat) : Int32 := match vdR B l 5 1 with
  | some (r, _) => nI r
  | none => 0
def vdP (B : Nat → Nat → Bool) (l : Nat) : Int32 := match vdR B l 5 1 with
  | some (_, q) => nI q
  | none => -6
section VD
variable {X : Nat × (Nat → Int32)} {D : Nat} {G : am_H} {P : Option Value → am_H → Prop} {pm len T m ip due dep vp : Int32} {l h d : Nat} {f g : Nat → Nat}
theorem lp_vq {r : Nat} (hD : 4 ≤ D) (h1 : am_ob G 23 5 = some (moL pm len T m ip due dep vp)) (hm : MA G l h d f) (hL : LK G l (fun i => nI (g i))) (hg : ∀ i, i < l → g i ≤ 17) (hr : r ≤ 5) (hr1 : 1 ≤ r)
    (hs : ∀ p, vdQ (bkN l h d f g r) l 0 = some p → P (some (.int (nI r))) (G.set 23 (am_o 5 (moL pm len T m ip due dep (nI p))))) (hn : vdQ (bkN l h d f g r) l 0 = none → am_WP X D 139 47 [some (.ref 23), some (.int (nI r)), none] [] G 0 0 P) :
    ∀ k q, q + k = l → vdQ (bkN l h d f g r) l 0 = vdQ (bkN l h d f g r) k q → am_WP X D 139 15 [some (.ref 23), some (.int (nI r)), some (.int (nI q))] [] G 0 0 P := by
  obtain ⟨⟨af, a1, a2, a3, a4, a5⟩, hl1, hl, hh, hd, hd0, hf⟩ := id hm
  have k23 := am_ob_lt h1
  have h0 : af (0 : Int32).toNatClampNeg = nI l := a2
  intro k
  induction k with
  | zero =>
    intro q hq he
    refine am_wps 40 [44, 47] ?_
    simp only [J139_0, J139_1, J139_3, J139_6, J139_7, J139_8, J139_9, J139_10, J139_13, J139_14, J139_15, J139_16, J139_17, J139_20, J139_21, J139_22, J139_25, J139_26, J139_27, J139_28, J139_31, J139_34, J139_35, J139_36, J139_39, J139_40, J139_41, J139_44, J139_47, J139_50, J139_53, J139_54, am_gg_c, am_gf_c, am_pf_c, am_af_c, am_sf_c, am_bf_c, am_qf_c, am_ap_c, am_bp_c, am_qp_c, am_lf_c, am_kt_s, am_kt_n, am_wst, am_wstop, am_ns_0, am_ns_1, Bool.not_true, Bool.not_false, Bool.true_and, Bool.false_and, Nat.reduceBEq, ↓reduceIte, am_k2_n, am_k2_i, am_k2_r, am_k2_u, am_k2_f, am_k2_l, Nat.zero_le, true_and, and_true, true_or, or_true, am_cat_0, am_cat_i, am_cat_r, am_cat_l, am_cat_n, Nat.reduceLeDiff, Nat.reduceAdd, Option.isSome_some, List.getElem?_cons_zero, List.getElem?_cons_succ, am_fit_i, am_fit_r, am_fit_a, h1, a1, h0]
    refine ⟨vp_lit (k := 0) rfl (by omega) (by omega), ?_⟩
    rw [if_neg (by rw [nI_ltI (by omega) (by omega)]; omega)]
    exact am_WP.fg (hn he) (by simp [am_le])
  | succ k ih =>
    intro q hq he
    refine am_wps 60 [44, 47] ?_
    simp only [J139_0, J139_1, J139_3, J139_6, J139_7, J139_8, J139_9, J139_10, J139_13, J139_14, J139_15, J139_16, J139_17, J139_20, J139_21, J139_22, J139_25, J139_26, J139_27, J139_28, J139_31, J139_34, J139_35, J139_36, J139_39, J139_40, J139_41, J139_44, J139_47, J139_50, J139_53, J139_54, am_gg_c, am_gf_c, am_pf_c, am_af_c, am_sf_c, am_bf_c, am_qf_c, am_ap_c, am_bp_c, am_qp_c, am_lf_c, am_kt_s, am_kt_n, am_wst, am_wstop, am_ns_0, am_ns_1, Bool.not_true, Bool.not_false, Bool.true_and, Bool.false_and, Nat.reduceBEq, ↓reduceIte, am_k2_n, am_k2_i, am_k2_r, am_k2_u, am_k2_f, am_k2_l, Nat.zero_le, true_and, and_true, true_or, or_true, am_cat_0, am_cat_i, am_cat_r, am_cat_l, am_cat_n, Nat.reduceLeDiff, Nat.reduceAdd, Option.isSome_some, List.getElem?_cons_zero, List.getElem?_cons_succ, am_fit_i, am_fit_r, am_fit_a, h1, a1, h0]
    refine ⟨vp_lit (k := 0) rfl (by omega) (by omega), ?_⟩
    rw [if_pos (by rw [nI_ltI (by omega) (by omega)]; omega)]
    refine sp_breaks hD h1 hm hL hg (by omega) hr hr1 ?_
    simp only [J139_0, J139_1, J139_3, J139_6, J139_7, J139_8, J139_9, J139_10, J139_13, J139_14, J139_15, J139_16, J139_17, J139_20, J139_21, J139_22, J139_25, J139_26, J139_27, J139_28, J139_31, J139_34, J139_35, J139_36, J139_39, J139_40, J139_41, J139_44, J139_47, J139_50, J139_53, J139_54, am_gg_c, am_gf_c, am_pf_c, am_af_c, am_sf_c, am_bf_c, am_qf_c, am_ap_c, am_bp_c, am_qp_c, am_lf_c, am_kt_s, am_kt_n, am_wst, am_wstop, am_ns_0, am_ns_1, Bool.not_true, Bool.not_false, Bool.true_and, Bool.false_and, Nat.reduceBEq, ↓reduceIte, am_k2_n, am_k2_i, am_k2_r, am_k2_u, am_k2_f, am_k2_l, Nat.zero_le, true_and, and_true, true_or, or_true, am_cat_0, am_cat_i, am_cat_r, am_cat_l, am_cat_n, Nat.reduceLeDiff, Nat.reduceAdd, Option.isSome_some, List.getElem?_cons_zero, List.getElem?_cons_succ, am_fit_i, am_fit_r, am_fit_a, h1, Value.category, List.length_cons, List.length_nil, Nat.reduceLT, List.set_cons_succ, List.set_cons_zero]
    have hv : vdQ (bkN l h d f g r) (k + 1) q = if bkN l h d f g r q = true then some q else vdQ (bkN l h d f g r) k (q + 1) := rfl
    rw [hv] at he
    by_cases c : bkN l h d f g r q = true
    · rw [if_pos c] at he
      rw [if_pos c, if_neg (show ¬ (1 : Int32) = 0 by decide)]
      exact hs q he
    · rw [if_neg c] at he
      rw [if_neg c, if_pos rfl]
      refine am_goto I139_44 ?_
      rw [nI_1]
      exact ih (q + 1) (by omega) he
theorem lp_vr (hD : 4 ≤ D) (h1 : am_ob G 23 5 = some (moL pm len T m ip due dep (-6))) (hm : MA G l h d f) (hL : LK G l (fun i => nI (g i))) (hg : ∀ i, i < l → g i ≤ 17)
    (hP : P (some (.int (vdI (bkN l h d f g) l))) (G.set 23 (am_o 5 (moL pm len T m ip due dep (vdP (bkN l h d f g) l))))) (hG : vdP (bkN l h d f g) l = -6 → P (some (.int (vdI (bkN l h d f g) l))) G) :
    ∀ k r, r + k = 6 → 1 ≤ r → vdR (bkN l h d f g) l 5 1 = vdR (bkN l h d f g) l k r → am_WP X D 139 8 [some (.ref 23), some (.int (nI r)), none] [] G 0 0 P := by
  intro k
  induction k with
  | zero =>
    intro r hr hr1 he
    refine am_wps 40 [50] ?_
    simp only [J139_0, J139_1, J139_3, J139_6, J139_7, J139_8, J139_9, J139_10, J139_13, J139_14, J139_15, J139_16, J139_17, J139_20, J139_21, J139_22, J139_25, J139_26, J139_27, J139_28, J139_31, J139_34, J139_35, J139_36, J139_39, J139_40, J139_41, J139_44, J139_47, J139_50, J139_53, J139_54, am_gg_c, am_gf_c, am_pf_c, am_af_c, am_sf_c, am_bf_c, am_qf_c, am_ap_c, am_bp_c, am_qp_c, am_lf_c, am_kt_s, am_kt_n, am_wst, am_wstop, am_ns_0, am_ns_1, Bool.not_true, Bool.not_false, Bool.true_and, Bool.false_and, Nat.reduceBEq, ↓reduceIte, am_k2_n, am_k2_i, am_k2_r, am_k2_u, am_k2_f, am_k2_l, Nat.zero_le, true_and, and_true, true_or, or_true, am_cat_0, am_cat_i, am_cat_r, am_cat_l, am_cat_n, Nat.reduceLeDiff, Nat.reduceAdd, Option.isSome_some, List.getElem?_cons_zero, List.getElem?_cons_succ, am_fit_i, am_fit_r, am_fit_a]
    rw [if_pos (by rw [bi_lt, nI_toInt (by omega)]; show (5 : Int) < _; omega)]
    have e : vdR (bkN l h d f g) l 5 1 = none := he
    unfold vdI vdP at hG
    rw [e] at hG
    exact hG rfl
  | succ k ih =>
    intro r hr hr1 he
    refine am_wps 40 [15, 50] ?_
    simp only [J139_0, J139_1, J139_3, J139_6, J139_7, J139_8, J139_9, J139_10, J139_13, J139_14, J139_15, J139_16, J139_17, J139_20, J139_21, J139_22, J139_25, J139_26, J139_27, J139_28, J139_31, J139_34, J139_35, J139_36, J139_39, J139_40, J139_41, J139_44, J139_47, J139_50, J139_53, J139_54, am_gg_c, am_gf_c, am_pf_c, am_af_c, am_sf_c, am_bf_c, am_qf_c, am_ap_c, am_bp_c, am_qp_c, am_lf_c, am_kt_s, am_kt_n, am_wst, am_wstop, am_ns_0, am_ns_1, Bool.not_true, Bool.not_false, Bool.true_and, Bool.false_and, Nat.reduceBEq, ↓reduceIte, am_k2_n, am_k2_i, am_k2_r, am_k2_u, am_k2_f, am_k2_l, Nat.zero_le, true_and, and_true, true_or, or_true, am_cat_0, am_cat_i, am_cat_r, am_cat_l, am_cat_n, Nat.reduceLeDiff, Nat.reduceAdd, Option.isSome_some, List.getElem?_cons_zero, List.getElem?_cons_succ, am_fit_i, am_fit_r, am_fit_a]
    rw [if_neg (by rw [bi_lt, nI_toInt (by omega)]; show ¬ (5 : Int) < _; omega)]
    have hv : vdR (bkN l h d f g) l (k + 1) r = (match vdQ (bkN l h d f g r) l 0 with | some q => some (r, q) | none => vdR (bkN l h d f g) l k (r + 1)) := rfl
    rw [hv] at he
    refine lp_vq hD h1 hm hL hg (by omega) hr1 (fun p hp => ?_) (fun hp => ?_) l 0 (by omega) rfl
    · rw [hp] at he
      unfold vdI vdP at hP
      rw [he] at hP
      exact hP
    · rw [hp] at he
      refine am_wps 40 [50] ?_
      simp only [J139_0, J139_1, J139_3, J139_6, J139_7, J139_8, J139_9, J139_10, J139_13, J139_14, J139_15, J139_16, J139_17, J139_20, J139_21, J139_22, J139_25, J139_26, J139_27, J139_28, J139_31, J139_34, J139_35, J139_36, J139_39, J139_40, J139_41, J139_44, J139_47, J139_50, J139_53, J139_54, am_gg_c, am_gf_c, am_pf_c, am_af_c, am_sf_c, am_bf_c, am_qf_c, am_ap_c, am_bp_c, am_qp_c, am_lf_c, am_kt_s, am_kt_n, am_wst, am_wstop, am_ns_0, am_ns_1, Bool.not_true, Bool.not_false, Bool.true_and, Bool.false_and, Nat.reduceBEq, ↓reduceIte, am_k2_n, am_k2_i, am_k2_r, am_k2_u, am_k2_f, am_k2_l, Nat.zero_le, true_and, and_true, true_or, or_true, am_cat_0, am_cat_i, am_cat_r, am_cat_l, am_cat_n, Nat.reduceLeDiff, Nat.reduceAdd, Option.isSome_some, List.getElem?_cons_zero, List.getElem?_cons_succ, am_fit_i, am_fit_r, am_fit_a]
      refine am_goto I139_50 ?_
      rw [nI_1]
      exact ih (r + 1) (by omega) (by omega) he
theorem sp_verdict (hD : 5 ≤ D) (h1 : am_ob G 23 5 = some (moL pm len T m ip due dep vp)) (hm : MA G l h d f) (hL : LK G l (fun i => nI (g i))) (hg : ∀ i, i < l → g i ≤ 17)
    (hP : ∀ G', am_ob G' 23 5 = some (moL pm len T m ip due dep (vdP (bkN l h d f g) l)) → Fr [23] G G' → P (some (.int (vdI (bkN l h d f g) l))) G') : am_CB X D 139 [.ref 23] G P := by
  obtain ⟨D, rfl⟩ : ∃ D0, D = D0 + 1 := ⟨D - 1, by omega⟩
  have k23 := am_ob_lt h1
  have hF : ∀ c, Fr [23] G (G.set 23 c) := fun c => Fr.set (by decide)
  refine B139 40 [8] ?_
  simp only [J139_0, J139_1, J139_3, J139_6, J139_7, J139_8, J139_9, J139_10, J139_13, J139_14, J139_15, J139_16, J139_17, J139_20, J139_21, J139_22, J139_25, J139_26, J139_27, J139_28, J139_31, J139_34, J139_35, J139_36, J139_39, J139_40, J139_41, J139_44, J139_47, J139_50, J139_53, J139_54, am_gg_c, am_gf_c, am_pf_c, am_af_c, am_sf_c, am_bf_c, am_qf_c, am_ap_c, am_bp_c, am_qp_c, am_lf_c, am_kt_s, am_kt_n, am_wst, am_wstop, am_ns_0, am_ns_1, Bool.not_true, Bool.not_false, Bool.true_and, Bool.false_and, Nat.reduceBEq, ↓reduceIte, am_k2_n, am_k2_i, am_k2_r, am_k2_u, am_k2_f, am_k2_l, Nat.zero_le, true_and, and_true, true_or, or_true, am_cat_0, am_cat_i, am_cat_r, am_cat_l, am_cat_n, Nat.reduceLeDiff, Nat.reduceAdd, Option.isSome_some, List.getElem?_cons_zero, List.getElem?_cons_succ, am_fit_i, am_fit_r, am_fit_a, h1, Value.category, List.length_cons, List.length_nil, Nat.reduceLT, List.set_cons_succ, List.set_cons_zero]
  refine lp_vr (by omega) (am_ob_ss k23) (hm.fr (hF _) (by decide)) (hL.fr (hF _) (by decide)) hg (hP _ (am_ob_ss (by rw [List.length_set]; exact k23)) ((hF _).tr (Fr.set (by decide)))) (fun e => hP _ (by rw [e]; exact am_ob_ss k23) (hF _)) 5 1 (by omega) (by omega) rfl
end VD
