/-! layFirst, areNeighbours -/
def AL (G : am_H) (A : List (List (Nat × Nat))) (n : Nat) : Prop := ∃ al, am_ia G 35 0 = some (5400, al) ∧ ∀ i, i < n → ∀ a, A[i]? = some a → ∀ p w, (p, w) ∈ a → al (18 * i + w) = nI p
theorem AL.fr {G G' : am_H} {ks : List Nat} {A : List (List (Nat × Nat))} {n : Nat} (h : AL G A n) (hF : Fr ks G G') (h1 : ¬ 35 ∈ ks) : AL G' A n := by
  obtain ⟨al, a, b⟩ := h
  exact ⟨al, by rw [hF.ia h1]; exact a, b⟩
abbrev kL : List Nat := [23, 28, 29, 30, 31, 35]
section LF
variable {X : Nat × (Nat → Int32)} {D : Nat} {P : Option Value → am_H → Prop} {pm len T m ip due dep vp : Int32} {ipb : Bool} {l h d n O0 m0 : Nat} {f : Nat → Nat}
theorem lp_lfIn {G0 : am_H} {c : Nat} {bg g0 : Nat → Int32} (hc : c < 300) (h1 : ∀ G, Fr [35] G0 G → am_ob G 23 5 = some (moL pm len T m ip due dep vp)) (hb : ∀ G, Fr [35] G0 G → am_ia G 31 0 = some (18, bg))
    (hP : ∀ G al, am_ia G 35 0 = some (5400, al) → (∀ j, al j = if 18 * c + 1 ≤ j ∧ j < 18 * c + 18 then bg (j - 18 * c) else g0 j) → Fr [35] G0 G → am_WP X D 155 51 [some (.ref 23), some (.int (nI c)), none] [] G 0 0 P) :
    ∀ (k i : Nat) (G : am_H) (al : Nat → Int32), i + k = 18 → am_ia G 35 0 = some (5400, al) → (∀ j, al j = if 18 * c + 1 ≤ j ∧ j < 18 * c + i then bg (j - 18 * c) else g0 j) → 1 ≤ i → Fr [35] G0 G → am_WP X D 155 22 [some (.ref 23), some (.int (nI c)), some (.int (nI i))] [] G 0 0 P := by
  intro k
  induction k with
  | zero =>
    intro i G al hi ha hv h1i hF
    refine am_wps 40 [48, 51] ?_
    simp only [J155_0, J155_1, J155_4, J155_5, J155_6, J155_7, J155_10, J155_13, J155_14, J155_17, J155_20, J155_21, J155_22, J155_23, J155_25, J155_28, J155_29, J155_32, J155_34, J155_35, J155_36, J155_37, J155_38, J155_39, J155_42, J155_43, J155_44, J155_45, J155_48, J155_51, J155_54, J155_57, J155_58, am_gg_c, am_gf_c, am_pf_c, am_af_c, am_sf_c, am_bf_c, am_qf_c, am_ap_c, am_bp_c, am_qp_c, am_lf_c, am_kt_s, am_kt_n, am_wst, am_wstop, am_ns_0, am_ns_1, Bool.not_true, Bool.not_false, Bool.true_and, Bool.false_and, Nat.reduceBEq, ↓reduceIte, am_k2_n, am_k2_i, am_k2_r, am_k2_u, am_k2_f, am_k2_l, Nat.zero_le, true_and, and_true, true_or, or_true, am_cat_0, am_cat_i, am_cat_r, am_cat_l, am_cat_n, Nat.reduceLeDiff, Nat.reduceAdd, Option.isSome_some, List.getElem?_cons_zero, List.getElem?_cons_succ, am_fit_i, am_fit_r, am_fit_a]
    rw [if_pos (by rw [show i = 18 by omega]; decide)]
    rw [show i = 18 by omega] at hv
    exact am_WP.fg (hP G al ha hv hF) (by simp [am_le])
  | succ k ih =>
    intro i G al hi ha hv h1i hF
    have k1 := h1 G hF
    have b1 := hb G hF
    have k35 := am_ia_lt ha
    refine am_wps 40 [48, 51] ?_
    simp only [J155_0, J155_1, J155_4, J155_5, J155_6, J155_7, J155_10, J155_13, J155_14, J155_17, J155_20, J155_21, J155_22, J155_23, J155_25, J155_28, J155_29, J155_32, J155_34, J155_35, J155_36, J155_37, J155_38, J155_39, J155_42, J155_43, J155_44, J155_45, J155_48, J155_51, J155_54, J155_57, J155_58, am_gg_c, am_gf_c, am_pf_c, am_af_c, am_sf_c, am_bf_c, am_qf_c, am_ap_c, am_bp_c, am_qp_c, am_lf_c, am_kt_s, am_kt_n, am_wst, am_wstop, am_ns_0, am_ns_1, Bool.not_true, Bool.not_false, Bool.true_and, Bool.false_and, Nat.reduceBEq, ↓reduceIte, am_k2_n, am_k2_i, am_k2_r, am_k2_u, am_k2_f, am_k2_l, Nat.zero_le, true_and, and_true, true_or, or_true, am_cat_0, am_cat_i, am_cat_r, am_cat_l, am_cat_n, Nat.reduceLeDiff, Nat.reduceAdd, Option.isSome_some, List.getElem?_cons_zero, List.getElem?_cons_succ, am_fit_i, am_fit_r, am_fit_a, k1, b1, ha]
    rw [if_neg (by rw [show (17 : Int32) = nI 17 by rfl, nI_ltI (by omega) (by omega)]; omega)]
    have e : (18 : Int32) * nI c + nI i = nI (18 * c + i) := by rw [show (18 : Int32) = nI 18 by rfl, pk_mul, nI_add]
    rw [e]
    refine ⟨vp_in_n (by omega) (by omega), vp_in_n (by omega) (by omega), am_goto I155_48 ?_⟩
    rw [nI_1, nI_clamp (by omega), nI_clamp (by omega)]
    refine ih (i + 1) _ _ (by omega) (am_ia_ss k35) (fun j => ?_) (by omega) (hF.tr (Fr.set (by decide)))
    rw [upd_at]
    by_cases c1 : j = 18 * c + i
    · rw [if_pos c1, if_pos (by omega), show j - 18 * c = i by omega]
    · rw [if_neg c1, hv j]
      by_cases c2 : 18 * c + 1 ≤ j ∧ j < 18 * c + i
      · rw [if_pos c2, if_pos (by omega)]
      · rw [if_neg c2, if_neg (by omega)]
theorem lp_lf {G0 : am_H} {A : List (List (Nat × Nat))} (hD : 4 ≤ D) (hm : ∀ G, Fr kL G0 G → MA G l h d f) (hA : ∀ a ∈ A, ∀ p w, (p, w) ∈ a → 1 ≤ w ∧ w < 18) (hP : ∀ G', EnA G' pm vp → AL G' A (min 300 A.length) → Fr kL G0 G' → P (some (.int (nI (min 300 A.length)))) G') : ∀ (R : List (List (Nat × Nat))) (c : Nat) (G : am_H), A.drop c = R → c ≤ A.length → c ≤ 300 → EnS G pm vp ipb f n l O0 m0 R → AL G A c → Fr kL G0 G → am_WP X D 155 6 [some (.ref 23), some (.int (nI c)), none] [] G 0 0 P := by
  intro R
  induction R with
  | nil =>
    intro c G hc hcl hc3 hE hL hF
    obtain ⟨len, T, m, ip, due, dep, b1⟩ := hE.a.1
    have hcA : A.length = c := by
      have := congrArg List.length hc
      simp only [List.length_drop, List.length_nil] at this
      omega
    have em : min 300 A.length = c := by omega
    rw [em] at hP
    refine am_wps 40 [22, 54] ?_
    simp only [J155_0, J155_1, J155_4, J155_5, J155_6, J155_7, J155_10, J155_13, J155_14, J155_17, J155_20, J155_21, J155_22, J155_23, J155_25, J155_28, J155_29, J155_32, J155_34, J155_35, J155_36, J155_37, J155_38, J155_39, J155_42, J155_43, J155_44, J155_45, J155_48, J155_51, J155_54, J155_57, J155_58, am_gg_c, am_gf_c, am_pf_c, am_af_c, am_sf_c, am_bf_c, am_qf_c, am_ap_c, am_bp_c, am_qp_c, am_lf_c, am_kt_s, am_kt_n, am_wst, am_wstop, am_ns_0, am_ns_1, Bool.not_true, Bool.not_false, Bool.true_and, Bool.false_and, Nat.reduceBEq, ↓reduceIte, am_k2_n, am_k2_i, am_k2_r, am_k2_u, am_k2_f, am_k2_l, Nat.zero_le, true_and, and_true, true_or, or_true, am_cat_0, am_cat_i, am_cat_r, am_cat_l, am_cat_n, Nat.reduceLeDiff, Nat.reduceAdd, Option.isSome_some, List.getElem?_cons_zero, List.getElem?_cons_succ, am_fit_i, am_fit_r, am_fit_a, b1]
    split
    · next q =>
      refine sp_adv hD hE (hm G hF) (fun _ G' d1 d2 => ?_) (fun a R' e => by cases e)
      simp only [J155_0, J155_1, J155_4, J155_5, J155_6, J155_7, J155_10, J155_13, J155_14, J155_17, J155_20, J155_21, J155_22, J155_23, J155_25, J155_28, J155_29, J155_32, J155_34, J155_35, J155_36, J155_37, J155_38, J155_39, J155_42, J155_43, J155_44, J155_45, J155_48, J155_51, J155_54, J155_57, J155_58, am_gg_c, am_gf_c, am_pf_c, am_af_c, am_sf_c, am_bf_c, am_qf_c, am_ap_c, am_bp_c, am_qp_c, am_lf_c, am_kt_s, am_kt_n, am_wst, am_wstop, am_ns_0, am_ns_1, Bool.not_true, Bool.not_false, Bool.true_and, Bool.false_and, Nat.reduceBEq, ↓reduceIte, am_k2_n, am_k2_i, am_k2_r, am_k2_u, am_k2_f, am_k2_l, Nat.zero_le, true_and, and_true, true_or, or_true, am_cat_0, am_cat_i, am_cat_r, am_cat_l, am_cat_n, Nat.reduceLeDiff, Nat.reduceAdd, Option.isSome_some, List.getElem?_cons_zero, List.getElem?_cons_succ, am_fit_i, am_fit_r, am_fit_a, if_true]
      exact hP G' d1.a (hL.fr d2 (by decide)) (hF.tr (d2.up (by decide)))
    · next q => exact hP G hE.a hL hF
  | cons a R ih =>
    intro c G hc hcl hc3 hE hL hF
    obtain ⟨len, T, m, ip, due, dep, b1⟩ := hE.a.1
    have hcA : c < A.length := by
      have := congrArg List.length hc
      simp only [List.length_drop, List.length_cons] at this
      omega
    have hca : A[c]? = some a := by
      have := congrArg (fun t => t[0]?) hc
      simpa using this
    refine am_wps 40 [22, 54] ?_
    simp only [J155_0, J155_1, J155_4, J155_5, J155_6, J155_7, J155_10, J155_13, J155_14, J155_17, J155_20, J155_21, J155_22, J155_23, J155_25, J155_28, J155_29, J155_32, J155_34, J155_35, J155_36, J155_37, J155_38, J155_39, J155_42, J155_43, J155_44, J155_45, J155_48, J155_51, J155_54, J155_57, J155_58, am_gg_c, am_gf_c, am_pf_c, am_af_c, am_sf_c, am_bf_c, am_qf_c, am_ap_c, am_bp_c, am_qp_c, am_lf_c, am_kt_s, am_kt_n, am_wst, am_wstop, am_ns_0, am_ns_1, Bool.not_true, Bool.not_false, Bool.true_and, Bool.false_and, Nat.reduceBEq, ↓reduceIte, am_k2_n, am_k2_i, am_k2_r, am_k2_u, am_k2_f, am_k2_l, Nat.zero_le, true_and, and_true, true_or, or_true, am_cat_0, am_cat_i, am_cat_r, am_cat_l, am_cat_n, Nat.reduceLeDiff, Nat.reduceAdd, Option.isSome_some, List.getElem?_cons_zero, List.getElem?_cons_succ, am_fit_i, am_fit_r, am_fit_a, b1]
    by_cases c3 : c < 300
    · rw [if_pos (by rw [show (300 : Int32) = nI 300 by rfl, nI_ltI (by omega) (by omega)]; exact c3)]
      refine sp_adv hD hE (hm G hF) (fun e => by cases e) (fun a' R' e G' d1 d2 d3 => ?_)
      cases e
      obtain ⟨T, m, ip, due, dep, b2⟩ := d1.lgt
      obtain ⟨r, bg, r1, r2, r3, r4⟩ := d2
      obtain ⟨al, l1, l2⟩ := hL.fr d3 (by decide)
      simp only [J155_0, J155_1, J155_4, J155_5, J155_6, J155_7, J155_10, J155_13, J155_14, J155_17, J155_20, J155_21, J155_22, J155_23, J155_25, J155_28, J155_29, J155_32, J155_34, J155_35, J155_36, J155_37, J155_38, J155_39, J155_42, J155_43, J155_44, J155_45, J155_48, J155_51, J155_54, J155_57, J155_58, am_gg_c, am_gf_c, am_pf_c, am_af_c, am_sf_c, am_bf_c, am_qf_c, am_ap_c, am_bp_c, am_qp_c, am_lf_c, am_kt_s, am_kt_n, am_wst, am_wstop, am_ns_0, am_ns_1, Bool.not_true, Bool.not_false, Bool.true_and, Bool.false_and, Nat.reduceBEq, ↓reduceIte, am_k2_n, am_k2_i, am_k2_r, am_k2_u, am_k2_f, am_k2_l, Nat.zero_le, true_and, and_true, true_or, or_true, am_cat_0, am_cat_i, am_cat_r, am_cat_l, am_cat_n, Nat.reduceLeDiff, Nat.reduceAdd, Option.isSome_some, List.getElem?_cons_zero, List.getElem?_cons_succ, am_fit_i, am_fit_r, am_fit_a, if_neg (show ¬ (1 : Int32) = 0 by decide)]
      refine lp_lfIn (G0 := G') (g0 := al) c3 (fun G2 hF2 => (by rw [hF2.ob (by decide)]; exact b2)) (fun G2 hF2 => (by rw [hF2.ia (by decide)]; exact r2)) (fun G2 al2 q1 q2 hF2 => ?_) 17 1 G' al rfl l1 (fun j => by rw [if_neg (by omega)]) (by omega) Fr.rf
      refine am_wps 40 [54] ?_
      simp only [J155_0, J155_1, J155_4, J155_5, J155_6, J155_7, J155_10, J155_13, J155_14, J155_17, J155_20, J155_21, J155_22, J155_23, J155_25, J155_28, J155_29, J155_32, J155_34, J155_35, J155_36, J155_37, J155_38, J155_39, J155_42, J155_43, J155_44, J155_45, J155_48, J155_51, J155_54, J155_57, J155_58, am_gg_c, am_gf_c, am_pf_c, am_af_c, am_sf_c, am_bf_c, am_qf_c, am_ap_c, am_bp_c, am_qp_c, am_lf_c, am_kt_s, am_kt_n, am_wst, am_wstop, am_ns_0, am_ns_1, Bool.not_true, Bool.not_false, Bool.true_and, Bool.false_and, Nat.reduceBEq, ↓reduceIte, am_k2_n, am_k2_i, am_k2_r, am_k2_u, am_k2_f, am_k2_l, Nat.zero_le, true_and, and_true, true_or, or_true, am_cat_0, am_cat_i, am_cat_r, am_cat_l, am_cat_n, Nat.reduceLeDiff, Nat.reduceAdd, Option.isSome_some, List.getElem?_cons_zero, List.getElem?_cons_succ, am_fit_i, am_fit_r, am_fit_a]
      refine am_goto I155_54 ?_
      rw [nI_1]
      refine ih (c + 1) G2 ?_ (by omega) (by omega) (d1.fr hF2 (by decide) (by decide) (by decide) (by decide) (by decide)) ⟨al2, q1, fun i hi b hb p w hpw => ?_⟩ ((hF.tr (d3.up (by decide))).tr (hF2.up (by decide)))
      · rw [← List.drop_drop, hc]; rfl
      · have hw := hA b (List.mem_of_getElem? hb) p w hpw
        rw [q2]
        by_cases e : i = c
        · subst e
          rw [hca] at hb
          cases hb
          rw [if_pos (by omega), show 18 * i + w - 18 * i = w by omega]
          exact r4 p w hpw
        · rw [if_neg (by omega)]
          exact l2 i (by omega) b hb p w hpw
    · rw [if_neg (by rw [show (300 : Int32) = nI 300 by rfl, nI_ltI (by omega) (by omega)]; exact c3)]
      have em : min 300 A.length = c := by omega
      rw [em] at hP
      exact hP G hE.a hL hF
theorem sp_layFirst {G : am_H} (hD : 5 ≤ D) (hE : EnA G pm vp) (hm : MA G l h d f) (hd1 : 1 ≤ (bl d).length) (hd8 : (bl d).length ≤ 8) (hb : ∃ b, am_ia G 35 0 = some (5400, b)) (hP : ∀ G', EnA G' pm vp → AL G' (arrs true l h d f) (min 300 (arrs true l h d f).length) → Fr kL G G' → P (some (.int (nI (min 300 (arrs true l h d f).length)))) G') : am_CB X D 155 [.ref 23] G P := by
  obtain ⟨D, rfl⟩ : ∃ D0, D = D0 + 1 := ⟨D - 1, by omega⟩
  obtain ⟨len, T, m, ip, due, dep, b1⟩ := hE.1
  have hd0 := hm.2.2.2.2.2.1
  have hd := hm.2.2.2.2.1
  have hl := hm.2.2.1
  refine B155 40 [6] ?_
  simp only [J155_0, J155_1, J155_4, J155_5, J155_6, J155_7, J155_10, J155_13, J155_14, J155_17, J155_20, J155_21, J155_22, J155_23, J155_25, J155_28, J155_29, J155_32, J155_34, J155_35, J155_36, J155_37, J155_38, J155_39, J155_42, J155_43, J155_44, J155_45, J155_48, J155_51, J155_54, J155_57, J155_58, am_gg_c, am_gf_c, am_pf_c, am_af_c, am_sf_c, am_bf_c, am_qf_c, am_ap_c, am_bp_c, am_qp_c, am_lf_c, am_kt_s, am_kt_n, am_wst, am_wstop, am_ns_0, am_ns_1, Bool.not_true, Bool.not_false, Bool.true_and, Bool.false_and, Nat.reduceBEq, ↓reduceIte, am_k2_n, am_k2_i, am_k2_r, am_k2_u, am_k2_f, am_k2_l, Nat.zero_le, true_and, and_true, true_or, or_true, am_cat_0, am_cat_i, am_cat_r, am_cat_l, am_cat_n, Nat.reduceLeDiff, Nat.reduceAdd, Option.isSome_some, List.getElem?_cons_zero, List.getElem?_cons_succ, am_fit_i, am_fit_r, am_fit_a, b1]
  refine sp_beginOwn (by omega) hE hm hd1 hd8 (fun G1 c1 _ c2 => ?_)
  simp only [J155_0, J155_1, J155_4, J155_5, J155_6, J155_7, J155_10, J155_13, J155_14, J155_17, J155_20, J155_21, J155_22, J155_23, J155_25, J155_28, J155_29, J155_32, J155_34, J155_35, J155_36, J155_37, J155_38, J155_39, J155_42, J155_43, J155_44, J155_45, J155_48, J155_51, J155_54, J155_57, J155_58, am_gg_c, am_gf_c, am_pf_c, am_af_c, am_sf_c, am_bf_c, am_qf_c, am_ap_c, am_bp_c, am_qp_c, am_lf_c, am_kt_s, am_kt_n, am_wst, am_wstop, am_ns_0, am_ns_1, Bool.not_true, Bool.not_false, Bool.true_and, Bool.false_and, Nat.reduceBEq, ↓reduceIte, am_k2_n, am_k2_i, am_k2_r, am_k2_u, am_k2_f, am_k2_l, Nat.zero_le, true_and, and_true, true_or, or_true, am_cat_0, am_cat_i, am_cat_r, am_cat_l, am_cat_n, Nat.reduceLeDiff, Nat.reduceAdd, Option.isSome_some, List.getElem?_cons_zero, List.getElem?_cons_succ, am_fit_i, am_fit_r, am_fit_a]
  obtain ⟨b, b2⟩ := hb
  refine lp_lf (G0 := G1) (A := arrs true l h d f) (by omega) (fun G' hF => (hm.fr c2 (by decide)).fr hF (by decide)) (fun a ha p w hpw => ?_) (fun G' q1 q2 q3 => hP G' q1 q2 ((c2.up (by decide)).tr q3)) _ 0 G1 (by rw [List.drop_zero]) (by omega) (by omega) c1 ⟨b, by rw [c2.ia (by decide)]; exact b2, fun i hi => by omega⟩ Fr.rf
  obtain ⟨_, _, _, r4, r5, r6⟩ := arrs_wit hl hd0 ha hpw
  exact ⟨r5, by omega⟩
theorem lp_areN {G : am_H} {al : Nat → Int32} {i j : Nat} (hi3 : i < 300) (hj3 : j < 300) (hD : 1 ≤ D) (h1 : am_ob G 23 5 = some (moL pm len T m ip due dep vp)) (hm : MA G l h d f) (ha : am_ia G 35 0 = some (5400, al)) (hP : P (some (.int (if (apC d (fun w => al (18 * i + w)) (fun w => al (18 * j + w)) 18 == 3) = true then 1 else 0))) G) :
    ∀ (k c : Nat), c + k = 18 → am_WP X D 156 5 [some (.ref 23), some (.int (nI i)), some (.int (nI j)), some (.int (nI (apC d (fun w => al (18 * i + w)) (fun w => al (18 * j + w)) c))), some (.int (nI c))] [] G 0 0 P := by
  obtain ⟨⟨af, a1, a2, a3, a4, a5⟩, hl1, hl, hh, hd, hd0, hf⟩ := id hm
  have h2 : af (2 : Int32).toNatClampNeg = nI d := a4
  intro k
  induction k with
  | zero =>
    intro c hc
    have hle := apC_le (d := d) (x := fun w => al (18 * i + w)) (y := fun w => al (18 * j + w)) 18
    refine am_wps 60 [64] ?_
    simp only [J156_0, J156_1, J156_2, J156_3, J156_5, J156_7, J156_9, J156_12, J156_13, J156_14, J156_17, J156_18, J156_19, J156_21, J156_24, J156_27, J156_28, J156_31, J156_33, J156_34, J156_35, J156_37, J156_38, J156_39, J156_40, J156_43, J156_45, J156_46, J156_47, J156_49, J156_50, J156_51, J156_54, J156_55, J156_58, J156_59, J156_60, J156_61, J156_64, J156_67, J156_68, J156_69, J156_72, J156_73, J156_76, J156_77, am_gg_c, am_gf_c, am_pf_c, am_af_c, am_sf_c, am_bf_c, am_qf_c, am_ap_c, am_bp_c, am_qp_c, am_lf_c, am_kt_s, am_kt_n, am_wst, am_wstop, am_ns_0, am_ns_1, Bool.not_true, Bool.not_false, Bool.true_and, Bool.false_and, Nat.reduceBEq, ↓reduceIte, am_k2_n, am_k2_i, am_k2_r, am_k2_u, am_k2_f, am_k2_l, Nat.zero_le, true_and, and_true, true_or, or_true, am_cat_0, am_cat_i, am_cat_r, am_cat_l, am_cat_n, Nat.reduceLeDiff, Nat.reduceAdd, Option.isSome_some, List.getElem?_cons_zero, List.getElem?_cons_succ, am_fit_i, am_fit_r, am_fit_a]
    rw [if_pos (by rw [show c = 18 by omega]; decide), show c = 18 by omega]
    generalize apC d (fun w => al (18 * i + w)) (fun w => al (18 * j + w)) 18 = e at *
    by_cases c1 : e = 3
    · rw [if_pos (by rw [c1]; rfl)]
      simpa [c1] using hP
    · rw [if_neg (fun q => c1 (bi_inj (by omega) (by omega) (q.trans (show (3 : Int32) = nI 3 by rfl))))]
      simpa [c1] using hP
  | succ k ih =>
    intro c hc
    have hs : apC d (fun w => al (18 * i + w)) (fun w => al (18 * j + w)) (c + 1) = apC d (fun w => al (18 * i + w)) (fun w => al (18 * j + w)) c + (if (d.testBit c && !(al (18 * i + c) == al (18 * j + c))) = true then 1 else 0) := rfl
    have hn := ih (c + 1) (by omega)
    rw [hs] at hn
    generalize apC d (fun w => al (18 * i + w)) (fun w => al (18 * j + w)) c = e at *
    have e0 : (d.testBit c && !(al (18 * i + c) == al (18 * j + c))) = false → am_WP X D 156 64 [some (.ref 23), some (.int (nI i)), some (.int (nI j)), some (.int (nI e + 0)), some (.int (nI c + 1))] [] G 0 0 P := by
      intro cc
      refine am_goto I156_64 ?_
      rw [nI_1, show (0 : Int32) = nI 0 by rfl, nI_add, Nat.add_zero]
      simpa only [cc, Bool.false_eq_true, if_false, Nat.add_zero] using hn
    refine am_wps 60 [64] ?_
    simp only [J156_0, J156_1, J156_2, J156_3, J156_5, J156_7, J156_9, J156_12, J156_13, J156_14, J156_17, J156_18, J156_19, J156_21, J156_24, J156_27, J156_28, J156_31, J156_33, J156_34, J156_35, J156_37, J156_38, J156_39, J156_40, J156_43, J156_45, J156_46, J156_47, J156_49, J156_50, J156_51, J156_54, J156_55, J156_58, J156_59, J156_60, J156_61, J156_64, J156_67, J156_68, J156_69, J156_72, J156_73, J156_76, J156_77, am_gg_c, am_gf_c, am_pf_c, am_af_c, am_sf_c, am_bf_c, am_qf_c, am_ap_c, am_bp_c, am_qp_c, am_lf_c, am_kt_s, am_kt_n, am_wst, am_wstop, am_ns_0, am_ns_1, Bool.not_true, Bool.not_false, Bool.true_and, Bool.false_and, Nat.reduceBEq, ↓reduceIte, am_k2_n, am_k2_i, am_k2_r, am_k2_u, am_k2_f, am_k2_l, Nat.zero_le, true_and, and_true, true_or, or_true, am_cat_0, am_cat_i, am_cat_r, am_cat_l, am_cat_n, Nat.reduceLeDiff, Nat.reduceAdd, Option.isSome_some, List.getElem?_cons_zero, List.getElem?_cons_succ, am_fit_i, am_fit_r, am_fit_a, h1, a1, h2]
    rw [if_neg (by rw [show (17 : Int32) = nI 17 by rfl, nI_ltI (by omega) (by omega)]; omega)]
    refine ⟨vp_lit (k := 2) rfl (by omega) (by omega), sp_has (by omega) (by omega) (by omega) ?_⟩
    simp only [J156_0, J156_1, J156_2, J156_3, J156_5, J156_7, J156_9, J156_12, J156_13, J156_14, J156_17, J156_18, J156_19, J156_21, J156_24, J156_27, J156_28, J156_31, J156_33, J156_34, J156_35, J156_37, J156_38, J156_39, J156_40, J156_43, J156_45, J156_46, J156_47, J156_49, J156_50, J156_51, J156_54, J156_55, J156_58, J156_59, J156_60, J156_61, J156_64, J156_67, J156_68, J156_69, J156_72, J156_73, J156_76, J156_77, am_gg_c, am_gf_c, am_pf_c, am_af_c, am_sf_c, am_bf_c, am_qf_c, am_ap_c, am_bp_c, am_qp_c, am_lf_c, am_kt_s, am_kt_n, am_wst, am_wstop, am_ns_0, am_ns_1, Bool.not_true, Bool.not_false, Bool.true_and, Bool.false_and, Nat.reduceBEq, ↓reduceIte, am_k2_n, am_k2_i, am_k2_r, am_k2_u, am_k2_f, am_k2_l, Nat.zero_le, true_and, and_true, true_or, or_true, am_cat_0, am_cat_i, am_cat_r, am_cat_l, am_cat_n, Nat.reduceLeDiff, Nat.reduceAdd, Option.isSome_some, List.getElem?_cons_zero, List.getElem?_cons_succ, am_fit_i, am_fit_r, am_fit_a, h1, ha]
    cases c1 : d.testBit c with
    | false =>
      simp only [Bool.false_eq_true, if_false, if_true]
      exact e0 (by rw [c1]; rfl)
    | true =>
      simp only [if_true, if_neg (show ¬ (1 : Int32) = 0 by decide)]
      have ei : ∀ i : Nat, (18 : Int32) * nI i + nI c = nI (18 * i + c) := fun i => by rw [show (18 : Int32) = nI 18 by rfl, pk_mul, nI_add]
      rw [ei i, ei j]
      refine ⟨vp_in_n (by omega) (by omega), vp_in_n (by omega) (by omega), ?_⟩
      rw [nI_clamp (by omega), nI_clamp (by omega)]
      by_cases c2 : al (18 * i + c) = al (18 * j + c)
      · rw [if_pos c2]
        exact e0 (by rw [c1, c2]; simp)
      · rw [if_neg c2]
        have cc : (d.testBit c && !(al (18 * i + c) == al (18 * j + c))) = true := by rw [c1]; simpa using c2
        refine am_goto I156_64 ?_
        rw [nI_1, nI_1]
        simpa only [cc, if_true] using hn
def nbB (A : List (List (Nat × Nat))) (d i j : Nat) : Bool := match A[i]?, A[j]? with
  | some a, some b => dsN d a b == 3
  | _, _ => false
theorem sp_areN {G : am_H} {A : List (List (Nat × Nat))} {i j : Nat} {many : Nat} (hm3 : many ≤ 300) (hmA : many ≤ A.length) (hi : i < many) (hj : j < many) (hA : ∀ a ∈ A, ∀ w, d.testBit w = true → (bgN a w, w) ∈ a) (hD : 2 ≤ D) (h1 : am_ob G 23 5 = some (moL pm len T m ip due dep vp)) (hm : MA G l h d f) (ha : AL G A many) (hP : P (some (.int (if nbB A d i j = true then 1 else 0))) G) : am_CB X D 156 [.ref 23, .int (nI i), .int (nI j)] G P := by
  obtain ⟨D, rfl⟩ : ∃ D0, D = D0 + 1 := ⟨D - 1, by omega⟩
  obtain ⟨al, l1, l2⟩ := ha
  have hd0 := hm.2.2.2.2.2.1
  obtain ⟨a, ha⟩ : ∃ a, A[i]? = some a := ⟨_, List.getElem?_eq_getElem (by omega)⟩
  obtain ⟨b, hb⟩ : ∃ b, A[j]? = some b := ⟨_, List.getElem?_eq_getElem (by omega)⟩
  have e : nbB A d i j = (dsN d a b == 3) := by unfold nbB; rw [ha, hb]
  rw [e] at hP
  unfold dsN at hP
  refine B156 40 [5] ?_
  simp only [J156_0, J156_1, J156_2, J156_3, J156_5, J156_7, J156_9, J156_12, J156_13, J156_14, J156_17, J156_18, J156_19, J156_21, J156_24, J156_27, J156_28, J156_31, J156_33, J156_34, J156_35, J156_37, J156_38, J156_39, J156_40, J156_43, J156_45, J156_46, J156_47, J156_49, J156_50, J156_51, J156_54, J156_55, J156_58, J156_59, J156_60, J156_61, J156_64, J156_67, J156_68, J156_69, J156_72, J156_73, J156_76, J156_77, am_gg_c, am_gf_c, am_pf_c, am_af_c, am_sf_c, am_bf_c, am_qf_c, am_ap_c, am_bp_c, am_qp_c, am_lf_c, am_kt_s, am_kt_n, am_wst, am_wstop, am_ns_0, am_ns_1, Bool.not_true, Bool.not_false, Bool.true_and, Bool.false_and, Nat.reduceBEq, ↓reduceIte, am_k2_n, am_k2_i, am_k2_r, am_k2_u, am_k2_f, am_k2_l, Nat.zero_le, true_and, and_true, true_or, or_true, am_cat_0, am_cat_i, am_cat_r, am_cat_l, am_cat_n, Nat.reduceLeDiff, Nat.reduceAdd, Option.isSome_some, List.getElem?_cons_zero, List.getElem?_cons_succ, am_fit_i, am_fit_r, am_fit_a]
  have hgo := lp_areN (X := X) (D := D) (P := P) (i := i) (j := j) (by omega) (by omega) (by omega) h1 hm l1 (by
    rw [apC_congr (fun w hw => l2 i hi a ha _ w (hA a (List.mem_of_getElem? ha) w hw)) (fun w hw => l2 j hj b hb _ w (hA b (List.mem_of_getElem? hb) w hw))]
    exact hP) 17 1 rfl
  have e1 : apC d (fun w => al (18 * i + w)) (fun w => al (18 * j + w)) 1 = 0 := by
    show 0 + (if (d.testBit 0 && _) = true then 1 else 0) = 0
    rw [hd0]; rfl
  rw [e1] at hgo
  exact hgo
end LF
