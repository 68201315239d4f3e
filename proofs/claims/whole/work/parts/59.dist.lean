/-! distance -/
theorem apC_congr {d : Nat} {x y x' y' : Nat → Int32} (hx : ∀ w, d.testBit w = true → x w = x' w) (hy : ∀ w, d.testBit w = true → y w = y' w) : ∀ k, apC d x y k = apC d x' y' k
  | 0 => rfl
  | k + 1 => by
    show apC d x y k + _ = apC d x' y' k + _
    rw [apC_congr hx hy k]
    cases c : d.testBit k with
    | false => rfl
    | true => rw [hx k c, hy k c]
/-- how many differences begin elsewhere -/
def dsN (d : Nat) (a b : List (Nat × Nat)) : Nat := apC d (fun w => nI (bgN a w)) (fun w => nI (bgN b w)) 18
def dsI (A : List (List (Nat × Nat))) (d : Nat) (z1 z2 : Int32) : Int32 := match goA A z1, goA A z2 with
  | some a, some b => nI (dsN d a b)
  | _, _ => -1
section DI
variable {X : Nat × (Nat → Int32)} {D : Nat} {G : am_H} {P : Option Value → am_H → Prop} {pm vp : Int32} {l h d : Nat} {f : Nat → Nat}
theorem sp_mdist {z1 z2 : Int32} (hD : 6 ≤ D) (hE : EnA G pm vp) (hm : MA G l h d f) (hd1 : 1 ≤ (bl d).length) (hd8 : (bl d).length ≤ 8) (hb : ∃ b, am_ia G 34 0 = some (18, b)) (hP : ∀ G', EnA G' pm vp → (∃ b, am_ia G' 34 0 = some (18, b)) → Fr [23, 28, 29, 30, 31, 34] G G' → P (some (.int (dsI (arrs true l h d f) d z1 z2))) G') : am_CB X D 153 [.ref 23, .int z1, .int z2] G P := by
  obtain ⟨D, rfl⟩ : ∃ D0, D = D0 + 1 := ⟨D - 1, by omega⟩
  obtain ⟨len, T, m, ip, due, dep, b1⟩ := hE.1
  have hd := hm.2.2.2.2.1
  unfold dsI at hP
  refine B153 60 [] ?_
  simp only [J153_0, J153_1, J153_2, J153_5, J153_8, J153_9, J153_10, J153_11, J153_14, J153_15, J153_16, J153_19, J153_22, J153_23, J153_26, J153_29, J153_30, am_gg_c, am_gf_c, am_pf_c, am_af_c, am_sf_c, am_bf_c, am_qf_c, am_ap_c, am_bp_c, am_qp_c, am_lf_c, am_kt_s, am_kt_n, am_wst, am_wstop, am_ns_0, am_ns_1, Bool.not_true, Bool.not_false, Bool.true_and, Bool.false_and, Nat.reduceBEq, ↓reduceIte, am_k2_n, am_k2_i, am_k2_r, am_k2_u, am_k2_f, am_k2_l, Nat.zero_le, true_and, and_true, true_or, or_true, am_cat_0, am_cat_i, am_cat_r, am_cat_l, am_cat_n, Nat.reduceLeDiff, Nat.reduceAdd, Option.isSome_some, List.getElem?_cons_zero, List.getElem?_cons_succ, am_fit_i, am_fit_r, am_fit_a, b1]
  refine sp_goTo (by omega) hE hm hd1 hd8 (fun e G1 d1 d2 => ?_) (fun a e G1 d1 d2 d3 => ?_)
  · simp only [J153_0, J153_1, J153_2, J153_5, J153_8, J153_9, J153_10, J153_11, J153_14, J153_15, J153_16, J153_19, J153_22, J153_23, J153_26, J153_29, J153_30, am_gg_c, am_gf_c, am_pf_c, am_af_c, am_sf_c, am_bf_c, am_qf_c, am_ap_c, am_bp_c, am_qp_c, am_lf_c, am_kt_s, am_kt_n, am_wst, am_wstop, am_ns_0, am_ns_1, Bool.not_true, Bool.not_false, Bool.true_and, Bool.false_and, Nat.reduceBEq, ↓reduceIte, am_k2_n, am_k2_i, am_k2_r, am_k2_u, am_k2_f, am_k2_l, Nat.zero_le, true_and, and_true, true_or, or_true, am_cat_0, am_cat_i, am_cat_r, am_cat_l, am_cat_n, Nat.reduceLeDiff, Nat.reduceAdd, Option.isSome_some, List.getElem?_cons_zero, List.getElem?_cons_succ, am_fit_i, am_fit_r, am_fit_a, if_true]
    rw [e] at hP
    exact hP G1 d1 (by obtain ⟨b, hb⟩ := hb; exact ⟨b, by rw [d2.ia (by decide)]; exact hb⟩) (d2.up (by decide))
  · obtain ⟨len, T, m, ip, due, dep, b2⟩ := d1.1
    obtain ⟨r, bg, r1, r2, r3, r4⟩ := d2
    simp only [J153_0, J153_1, J153_2, J153_5, J153_8, J153_9, J153_10, J153_11, J153_14, J153_15, J153_16, J153_19, J153_22, J153_23, J153_26, J153_29, J153_30, am_gg_c, am_gf_c, am_pf_c, am_af_c, am_sf_c, am_bf_c, am_qf_c, am_ap_c, am_bp_c, am_qp_c, am_lf_c, am_kt_s, am_kt_n, am_wst, am_wstop, am_ns_0, am_ns_1, Bool.not_true, Bool.not_false, Bool.true_and, Bool.false_and, Nat.reduceBEq, ↓reduceIte, am_k2_n, am_k2_i, am_k2_r, am_k2_u, am_k2_f, am_k2_l, Nat.zero_le, true_and, and_true, true_or, or_true, am_cat_0, am_cat_i, am_cat_r, am_cat_l, am_cat_n, Nat.reduceLeDiff, Nat.reduceAdd, Option.isSome_some, List.getElem?_cons_zero, List.getElem?_cons_succ, am_fit_i, am_fit_r, am_fit_a, if_neg (show ¬ (1 : Int32) = 0 by decide), b2]
    refine sp_keepBase (by omega) b2 r2 (by obtain ⟨b, hb⟩ := hb; exact ⟨b, by rw [d3.ia (by decide)]; exact hb⟩) (fun G2 e1 f1 => ?_)
    have b3 : am_ob G2 23 5 = some (moL pm len T m ip due dep vp) := by rw [f1.ob (by decide)]; exact b2
    have hE2 : EnA G2 pm vp := ⟨⟨_, _, _, _, _, _, b3⟩, by rw [f1.ia (by decide)]; exact d1.2.1, by rw [f1.ia (by decide)]; exact d1.2.2.1, by rw [f1.ia (by decide)]; exact d1.2.2.2.1, by rw [f1.ia (by decide)]; exact d1.2.2.2.2⟩
    have hm2 : MA G2 l h d f := (hm.fr d3 (by decide)).fr f1 (by decide)
    have hF2 : Fr [23, 28, 29, 30, 31, 34] G G2 := (d3.up (by decide)).tr (f1.up (by decide))
    simp only [J153_0, J153_1, J153_2, J153_5, J153_8, J153_9, J153_10, J153_11, J153_14, J153_15, J153_16, J153_19, J153_22, J153_23, J153_26, J153_29, J153_30, am_gg_c, am_gf_c, am_pf_c, am_af_c, am_sf_c, am_bf_c, am_qf_c, am_ap_c, am_bp_c, am_qp_c, am_lf_c, am_kt_s, am_kt_n, am_wst, am_wstop, am_ns_0, am_ns_1, Bool.not_true, Bool.not_false, Bool.true_and, Bool.false_and, Nat.reduceBEq, ↓reduceIte, am_k2_n, am_k2_i, am_k2_r, am_k2_u, am_k2_f, am_k2_l, Nat.zero_le, true_and, and_true, true_or, or_true, am_cat_0, am_cat_i, am_cat_r, am_cat_l, am_cat_n, Nat.reduceLeDiff, Nat.reduceAdd, Option.isSome_some, List.getElem?_cons_zero, List.getElem?_cons_succ, am_fit_i, am_fit_r, am_fit_a, b3]
    refine sp_goTo (by omega) hE2 hm2 hd1 hd8 (fun e2 G3 d4 d5 => ?_) (fun a2 e2 G3 d4 d5 d6 => ?_)
    · simp only [J153_0, J153_1, J153_2, J153_5, J153_8, J153_9, J153_10, J153_11, J153_14, J153_15, J153_16, J153_19, J153_22, J153_23, J153_26, J153_29, J153_30, am_gg_c, am_gf_c, am_pf_c, am_af_c, am_sf_c, am_bf_c, am_qf_c, am_ap_c, am_bp_c, am_qp_c, am_lf_c, am_kt_s, am_kt_n, am_wst, am_wstop, am_ns_0, am_ns_1, Bool.not_true, Bool.not_false, Bool.true_and, Bool.false_and, Nat.reduceBEq, ↓reduceIte, am_k2_n, am_k2_i, am_k2_r, am_k2_u, am_k2_f, am_k2_l, Nat.zero_le, true_and, and_true, true_or, or_true, am_cat_0, am_cat_i, am_cat_r, am_cat_l, am_cat_n, Nat.reduceLeDiff, Nat.reduceAdd, Option.isSome_some, List.getElem?_cons_zero, List.getElem?_cons_succ, am_fit_i, am_fit_r, am_fit_a, if_true]
      rw [e, e2] at hP
      exact hP G3 d4 (by obtain ⟨b, c1, c2⟩ := e1; exact ⟨b, by rw [d5.ia (by decide)]; exact c1⟩) (hF2.tr (d5.up (by decide)))
    · obtain ⟨len, T, m, ip, due, dep, b4⟩ := d4.1
      obtain ⟨r', bg', q1, q2, q3, q4⟩ := d5
      simp only [J153_0, J153_1, J153_2, J153_5, J153_8, J153_9, J153_10, J153_11, J153_14, J153_15, J153_16, J153_19, J153_22, J153_23, J153_26, J153_29, J153_30, am_gg_c, am_gf_c, am_pf_c, am_af_c, am_sf_c, am_bf_c, am_qf_c, am_ap_c, am_bp_c, am_qp_c, am_lf_c, am_kt_s, am_kt_n, am_wst, am_wstop, am_ns_0, am_ns_1, Bool.not_true, Bool.not_false, Bool.true_and, Bool.false_and, Nat.reduceBEq, ↓reduceIte, am_k2_n, am_k2_i, am_k2_r, am_k2_u, am_k2_f, am_k2_l, Nat.zero_le, true_and, and_true, true_or, or_true, am_cat_0, am_cat_i, am_cat_r, am_cat_l, am_cat_n, Nat.reduceLeDiff, Nat.reduceAdd, Option.isSome_some, List.getElem?_cons_zero, List.getElem?_cons_succ, am_fit_i, am_fit_r, am_fit_a, if_neg (show ¬ (1 : Int32) = 0 by decide), b4]
      refine sp_apart (x := bg) (y := bg') (by omega) b4 (hm2.fr d6 (by decide)) (by obtain ⟨b, c1, c2⟩ := e1; exact ⟨b, by rw [d6.ia (by decide)]; exact c1, c2⟩) q2 ?_
      simp only [J153_0, J153_1, J153_2, J153_5, J153_8, J153_9, J153_10, J153_11, J153_14, J153_15, J153_16, J153_19, J153_22, J153_23, J153_26, J153_29, J153_30, am_gg_c, am_gf_c, am_pf_c, am_af_c, am_sf_c, am_bf_c, am_qf_c, am_ap_c, am_bp_c, am_qp_c, am_lf_c, am_kt_s, am_kt_n, am_wst, am_wstop, am_ns_0, am_ns_1, Bool.not_true, Bool.not_false, Bool.true_and, Bool.false_and, Nat.reduceBEq, ↓reduceIte, am_k2_n, am_k2_i, am_k2_r, am_k2_u, am_k2_f, am_k2_l, Nat.zero_le, true_and, and_true, true_or, or_true, am_cat_0, am_cat_i, am_cat_r, am_cat_l, am_cat_n, Nat.reduceLeDiff, Nat.reduceAdd, Option.isSome_some, List.getElem?_cons_zero, List.getElem?_cons_succ, am_fit_i, am_fit_r, am_fit_a]
      rw [e, e2] at hP
      have hh := hP G3 d4 (by obtain ⟨b, c1, c2⟩ := e1; exact ⟨b, by rw [d6.ia (by decide)]; exact c1⟩) (hF2.tr (d6.up (by decide)))
      unfold dsN at hh
      rw [apC_congr (fun w hw => r4 _ w (bgN_mem hd (goA_mem e) hw)) (fun w hw => q4 _ w (bgN_mem hd (goA_mem e2) hw))]
      exact hh
end DI
