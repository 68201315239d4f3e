/-! spell -/
section SPL
variable {X : Nat × (Nat → Int32)} {D : Nat} {P : Option Value → am_H → Prop} {pm vp : Int32} {ipb : Bool} {l h d n ln O0 m0 : Nat} {f : Nat → Nat} {R : List (List (Nat × Nat))}
theorem EnS.lgt {G : am_H} (hE : EnS G pm vp ipb f n ln O0 m0 R) : ∃ T m ip due dep, am_ob G 23 5 = some (moL pm (nI ln) T m ip due dep vp) := by
  rcases hE with ⟨_, ⟨T, m, ip, dep, a⟩, _⟩ | ⟨_, Z, b, ⟨T, pl, ch, r, bg, a, _⟩, _⟩
  · exact ⟨_, _, _, _, _, a⟩
  · exact ⟨_, _, _, _, _, a⟩
theorem lp_spell {G0 : am_H} {T m ip due dep : Int32} {a : List (Nat × Nat)} (hl : l ≤ 18) (hD : 1 ≤ D) (h1 : ∀ G, Fr [27] G0 G → am_ob G 23 5 = some (moL (nI l) (nI l) T m ip due dep vp)) (hr : ∀ G, Fr [27] G0 G → RW G a) (hP : ∀ G', (∃ pf, am_ia G' 27 0 = some (18, pf) ∧ ∀ i, i < l → pf i = sgI (nI (rwN a i))) → Fr [27] G0 G' → P (some (.int (nI l))) G') :
    ∀ (k i : Nat) (G : am_H), i + k = l → (∃ pf, am_ia G 27 0 = some (18, pf) ∧ ∀ j, j < i → pf j = sgI (nI (rwN a j))) → Fr [27] G0 G → am_WP X D 146 20 [some (.ref 23), none, some (.int (nI i))] [] G 0 0 P := by
  intro k
  induction k with
  | zero =>
    intro i G hi hp hF
    have k1 := h1 G hF
    refine am_wps 40 [46] ?_
    simp only [J146_0, J146_1, J146_2, J146_5, J146_8, J146_9, J146_10, J146_11, J146_12, J146_15, J146_18, J146_19, J146_20, J146_21, J146_22, J146_25, J146_28, J146_29, J146_32, J146_33, J146_34, J146_37, J146_38, J146_39, J146_42, J146_43, J146_46, J146_49, J146_50, J146_53, am_gg_c, am_gf_c, am_pf_c, am_af_c, am_sf_c, am_bf_c, am_qf_c, am_ap_c, am_bp_c, am_qp_c, am_lf_c, am_kt_s, am_kt_n, am_wst, am_wstop, am_ns_0, am_ns_1, Bool.not_true, Bool.not_false, Bool.true_and, Bool.false_and, Nat.reduceBEq, ↓reduceIte, am_k2_n, am_k2_i, am_k2_r, am_k2_u, am_k2_f, am_k2_l, Nat.zero_le, true_and, and_true, true_or, or_true, am_cat_0, am_cat_i, am_cat_r, am_cat_l, am_cat_n, Nat.reduceLeDiff, Nat.reduceAdd, Option.isSome_some, List.getElem?_cons_zero, List.getElem?_cons_succ, am_fit_i, am_fit_r, am_fit_a, k1]
    rw [if_neg (by rw [nI_ltI (by omega) (by omega)]; omega)]
    rw [show i = l by omega] at hp
    exact hP G hp hF
  | succ k ih =>
    intro i G hi hp hF
    have k1 := h1 G hF
    obtain ⟨r, bg, r1, r2, r3, r4⟩ := hr G hF
    obtain ⟨pf, p1, p2⟩ := hp
    have k27 := am_ia_lt p1
    have hin : vp_in (nI i) 18 := vp_in_n (by omega) (by omega)
    refine am_wps 60 [46] ?_
    simp only [J146_0, J146_1, J146_2, J146_5, J146_8, J146_9, J146_10, J146_11, J146_12, J146_15, J146_18, J146_19, J146_20, J146_21, J146_22, J146_25, J146_28, J146_29, J146_32, J146_33, J146_34, J146_37, J146_38, J146_39, J146_42, J146_43, J146_46, J146_49, J146_50, J146_53, am_gg_c, am_gf_c, am_pf_c, am_af_c, am_sf_c, am_bf_c, am_qf_c, am_ap_c, am_bp_c, am_qp_c, am_lf_c, am_kt_s, am_kt_n, am_wst, am_wstop, am_ns_0, am_ns_1, Bool.not_true, Bool.not_false, Bool.true_and, Bool.false_and, Nat.reduceBEq, ↓reduceIte, am_k2_n, am_k2_i, am_k2_r, am_k2_u, am_k2_f, am_k2_l, Nat.zero_le, true_and, and_true, true_or, or_true, am_cat_0, am_cat_i, am_cat_r, am_cat_l, am_cat_n, Nat.reduceLeDiff, Nat.reduceAdd, Option.isSome_some, List.getElem?_cons_zero, List.getElem?_cons_succ, am_fit_i, am_fit_r, am_fit_a, k1, r1]
    rw [if_pos (by rw [nI_ltI (by omega) (by omega)]; omega)]
    refine ⟨hin, ?_⟩
    rw [nI_clamp (by omega), r3 i (by omega)]
    refine sp_signOf hD ?_
    simp only [J146_0, J146_1, J146_2, J146_5, J146_8, J146_9, J146_10, J146_11, J146_12, J146_15, J146_18, J146_19, J146_20, J146_21, J146_22, J146_25, J146_28, J146_29, J146_32, J146_33, J146_34, J146_37, J146_38, J146_39, J146_42, J146_43, J146_46, J146_49, J146_50, J146_53, am_gg_c, am_gf_c, am_pf_c, am_af_c, am_sf_c, am_bf_c, am_qf_c, am_ap_c, am_bp_c, am_qp_c, am_lf_c, am_kt_s, am_kt_n, am_wst, am_wstop, am_ns_0, am_ns_1, Bool.not_true, Bool.not_false, Bool.true_and, Bool.false_and, Nat.reduceBEq, ↓reduceIte, am_k2_n, am_k2_i, am_k2_r, am_k2_u, am_k2_f, am_k2_l, Nat.zero_le, true_and, and_true, true_or, or_true, am_cat_0, am_cat_i, am_cat_r, am_cat_l, am_cat_n, Nat.reduceLeDiff, Nat.reduceAdd, Option.isSome_some, List.getElem?_cons_zero, List.getElem?_cons_succ, am_fit_i, am_fit_r, am_fit_a, p1]
    refine ⟨hin, ?_⟩
    rw [nI_clamp (by omega)]
    refine am_goto I146_46 ?_
    rw [nI_1]
    refine ih (i + 1) _ (by omega) ⟨_, am_ia_ss k27, fun j hj => ?_⟩ (hF.tr (Fr.set (by decide)))
    show upd pf i (sgI (nI (rwN a i))) j = sgI (nI (rwN a j))
    unfold upd
    by_cases c : j = i
    · rw [if_pos c, c]
    · rw [if_neg c]
      exact p2 j (by omega)
theorem sp_spell {G : am_H} {z : Int32} (hD : 6 ≤ D) (hE : EnA G pm vp) (hm : MA G l h d f) (hd1 : 1 ≤ (bl d).length) (hd8 : (bl d).length ≤ 8) (hp : ∃ pf, am_ia G 27 0 = some (18, pf))
    (h0 : goA (arrs true l h d f) z = none → ∀ G', EnA G' pm vp → Fr kE G G' → P (some (.int (-1))) G') (h1 : ∀ a, goA (arrs true l h d f) z = some a → ∀ G', EnA G' (nI l) vp → (∃ pf, am_ia G' 27 0 = some (18, pf) ∧ ∀ i, i < l → pf i = sgI (nI (rwN a i))) → Fr [23, 27, 28, 29, 30, 31] G G' → P (some (.int (nI l))) G') : am_CB X D 146 [.ref 23, .int z] G P := by
  obtain ⟨D, rfl⟩ : ∃ D0, D = D0 + 1 := ⟨D - 1, by omega⟩
  obtain ⟨len, T, m, ip, due, dep, b1⟩ := hE.1
  have hl := hm.2.2.1
  refine B146 40 [20] ?_
  simp only [J146_0, J146_1, J146_2, J146_5, J146_8, J146_9, J146_10, J146_11, J146_12, J146_15, J146_18, J146_19, J146_20, J146_21, J146_22, J146_25, J146_28, J146_29, J146_32, J146_33, J146_34, J146_37, J146_38, J146_39, J146_42, J146_43, J146_46, J146_49, J146_50, J146_53, am_gg_c, am_gf_c, am_pf_c, am_af_c, am_sf_c, am_bf_c, am_qf_c, am_ap_c, am_bp_c, am_qp_c, am_lf_c, am_kt_s, am_kt_n, am_wst, am_wstop, am_ns_0, am_ns_1, Bool.not_true, Bool.not_false, Bool.true_and, Bool.false_and, Nat.reduceBEq, ↓reduceIte, am_k2_n, am_k2_i, am_k2_r, am_k2_u, am_k2_f, am_k2_l, Nat.zero_le, true_and, and_true, true_or, or_true, am_cat_0, am_cat_i, am_cat_r, am_cat_l, am_cat_n, Nat.reduceLeDiff, Nat.reduceAdd, Option.isSome_some, List.getElem?_cons_zero, List.getElem?_cons_succ, am_fit_i, am_fit_r, am_fit_a, b1]
  refine sp_goToS (by omega) hE hm hd1 hd8 (fun e G' d1 d2 => ?_) (fun a e G' d1 d2 d3 => ?_)
  · simp only [J146_0, J146_1, J146_2, J146_5, J146_8, J146_9, J146_10, J146_11, J146_12, J146_15, J146_18, J146_19, J146_20, J146_21, J146_22, J146_25, J146_28, J146_29, J146_32, J146_33, J146_34, J146_37, J146_38, J146_39, J146_42, J146_43, J146_46, J146_49, J146_50, J146_53, am_gg_c, am_gf_c, am_pf_c, am_af_c, am_sf_c, am_bf_c, am_qf_c, am_ap_c, am_bp_c, am_qp_c, am_lf_c, am_kt_s, am_kt_n, am_wst, am_wstop, am_ns_0, am_ns_1, Bool.not_true, Bool.not_false, Bool.true_and, Bool.false_and, Nat.reduceBEq, ↓reduceIte, am_k2_n, am_k2_i, am_k2_r, am_k2_u, am_k2_f, am_k2_l, Nat.zero_le, true_and, and_true, true_or, or_true, am_cat_0, am_cat_i, am_cat_r, am_cat_l, am_cat_n, Nat.reduceLeDiff, Nat.reduceAdd, Option.isSome_some, List.getElem?_cons_zero, List.getElem?_cons_succ, am_fit_i, am_fit_r, am_fit_a, if_true]
    exact h0 e G' d1 d2
  · obtain ⟨R, d1⟩ := d1
    obtain ⟨T, m, ip, due, dep, b2⟩ := d1.lgt
    obtain ⟨e1, e2, e3, e4, e5⟩ := d1.a
    have k23 := am_ob_lt b2
    simp only [J146_0, J146_1, J146_2, J146_5, J146_8, J146_9, J146_10, J146_11, J146_12, J146_15, J146_18, J146_19, J146_20, J146_21, J146_22, J146_25, J146_28, J146_29, J146_32, J146_33, J146_34, J146_37, J146_38, J146_39, J146_42, J146_43, J146_46, J146_49, J146_50, J146_53, am_gg_c, am_gf_c, am_pf_c, am_af_c, am_sf_c, am_bf_c, am_qf_c, am_ap_c, am_bp_c, am_qp_c, am_lf_c, am_kt_s, am_kt_n, am_wst, am_wstop, am_ns_0, am_ns_1, Bool.not_true, Bool.not_false, Bool.true_and, Bool.false_and, Nat.reduceBEq, ↓reduceIte, am_k2_n, am_k2_i, am_k2_r, am_k2_u, am_k2_f, am_k2_l, Nat.zero_le, true_and, and_true, true_or, or_true, am_cat_0, am_cat_i, am_cat_r, am_cat_l, am_cat_n, Nat.reduceLeDiff, Nat.reduceAdd, Option.isSome_some, List.getElem?_cons_zero, List.getElem?_cons_succ, am_fit_i, am_fit_r, am_fit_a, if_neg (show ¬ (1 : Int32) = 0 by decide), b2, Value.category, List.length_cons, List.length_nil, Nat.reduceLT, List.set_cons_succ, List.set_cons_zero]
    have hF1 : Fr [23] G' (G'.set 23 (am_o 5 (moL (nI l) (nI l) T m ip due dep vp))) := Fr.set (by decide)
    obtain ⟨pf, p1⟩ := hp
    refine am_WP.fg (lp_spell (G0 := G'.set 23 (am_o 5 (moL (nI l) (nI l) T m ip due dep vp))) (vp := vp) hl (by omega) (fun G2 hF => (by rw [hF.ob (by decide)]; exact am_ob_ss k23)) (fun G2 hF => (d2.fr hF1 (by decide) (by decide)).fr hF (by decide) (by decide)) (fun G2 q1 q2 => ?_) l 0 _ (by omega) ⟨pf, by rw [hF1.ia (by decide), d3.ia (by decide)]; exact p1, fun j hj => by omega⟩ Fr.rf) (by simp [am_le, nI_0])
    refine h1 a e G2 ⟨⟨_, _, _, _, _, _, by rw [q2.ob (by decide)]; exact am_ob_ss k23⟩, ?_, ?_, ?_, ?_⟩ q1 (((d3.up (by decide)).tr (hF1.up (by decide))).tr (q2.up (by decide)))
    · rw [q2.ia (by decide), hF1.ia (by decide)]; exact e2
    · rw [q2.ia (by decide), hF1.ia (by decide)]; exact e3
    · rw [q2.ia (by decide), hF1.ia (by decide)]; exact e4
    · rw [q2.ia (by decide), hF1.ia (by decide)]; exact e5
end SPL
