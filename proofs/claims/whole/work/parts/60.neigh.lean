/-! neighbour -/
theorem apC_le {d : Nat} {x y : Nat → Int32} : ∀ k, apC d x y k ≤ k
  | 0 => Nat.le_refl _
  | k + 1 => by
    have := apC_le (d := d) (x := x) (y := y) k
    show apC d x y k + (if (d.testBit k && !(x k == y k)) = true then 1 else 0) ≤ k + 1
    split <;> omega
def nbF (q : List (Nat × Nat) → Bool) (ix : Int32) : List (List (Nat × Nat)) → Nat → Nat → Int32
  | [], _, c => if ix = -1 then nI c else -6
  | a :: R, k, c => if q a = true then (if nI c = ix then nI k else nbF q ix R (k + 1) (c + 1)) else nbF q ix R (k + 1) c
section NB
variable {X : Nat × (Nat → Int32)} {D : Nat} {P : Option Value → am_H → Prop} {pm vp : Int32} {ipb : Bool} {l h d : Nat} {f : Nat → Nat} {n ln O0 m0 : Nat}
theorem lp_neigh {G0 : am_H} {x : Nat → Int32} {z ix : Int32} (hD : 4 ≤ D) (hm : ∀ G, Fr kE G0 G → MA G l h d f) (hx : ∀ G, Fr kE G0 G → BS G x) : ∀ (R : List (List (Nat × Nat))) (k c : Nat) (G : am_H), (∀ a ∈ R, ∀ w, d.testBit w = true → (bgN a w, w) ∈ a) → EnS G pm vp ipb f n ln O0 m0 R → Fr kE G0 G → (∀ G', EnA G' pm vp → Fr kE G0 G' → P (some (.int (nbF (fun a => apC d x (fun w => nI (bgN a w)) 18 == 3) ix R k c))) G') → am_WP X D 154 23 [some (.ref 23), some (.int z), some (.int ix), some (.int (nI k)), some (.int (nI c))] [] G 0 0 P := by
  intro R
  induction R with
  | nil =>
    intro k c G _ hE hF hP
    obtain ⟨len, T, m, ip, due, dep, b1⟩ := hE.a.1
    refine am_wps 60 [52] ?_
    simp only [J154_0, J154_1, J154_2, J154_5, J154_8, J154_9, J154_10, J154_11, J154_14, J154_15, J154_18, J154_19, J154_20, J154_21, J154_23, J154_24, J154_27, J154_30, J154_31, J154_34, J154_35, J154_38, J154_40, J154_41, J154_44, J154_45, J154_46, J154_49, J154_52, J154_55, J154_56, J154_57, J154_60, J154_62, J154_65, J154_67, am_gg_c, am_gf_c, am_pf_c, am_af_c, am_sf_c, am_bf_c, am_qf_c, am_ap_c, am_bp_c, am_qp_c, am_lf_c, am_kt_s, am_kt_n, am_wst, am_wstop, am_ns_0, am_ns_1, Bool.not_true, Bool.not_false, Bool.true_and, Bool.false_and, Nat.reduceBEq, ↓reduceIte, am_k2_n, am_k2_i, am_k2_r, am_k2_u, am_k2_f, am_k2_l, Nat.zero_le, true_and, and_true, true_or, or_true, am_cat_0, am_cat_i, am_cat_r, am_cat_l, am_cat_n, Nat.reduceLeDiff, Nat.reduceAdd, Option.isSome_some, List.getElem?_cons_zero, List.getElem?_cons_succ, am_fit_i, am_fit_r, am_fit_a, b1]
    refine sp_adv hD hE (hm G hF) (fun _ G' d1 d2 => ?_) (fun a R' e => by cases e)
    simp only [J154_0, J154_1, J154_2, J154_5, J154_8, J154_9, J154_10, J154_11, J154_14, J154_15, J154_18, J154_19, J154_20, J154_21, J154_23, J154_24, J154_27, J154_30, J154_31, J154_34, J154_35, J154_38, J154_40, J154_41, J154_44, J154_45, J154_46, J154_49, J154_52, J154_55, J154_56, J154_57, J154_60, J154_62, J154_65, J154_67, am_gg_c, am_gf_c, am_pf_c, am_af_c, am_sf_c, am_bf_c, am_qf_c, am_ap_c, am_bp_c, am_qp_c, am_lf_c, am_kt_s, am_kt_n, am_wst, am_wstop, am_ns_0, am_ns_1, Bool.not_true, Bool.not_false, Bool.true_and, Bool.false_and, Nat.reduceBEq, ↓reduceIte, am_k2_n, am_k2_i, am_k2_r, am_k2_u, am_k2_f, am_k2_l, Nat.zero_le, true_and, and_true, true_or, or_true, am_cat_0, am_cat_i, am_cat_r, am_cat_l, am_cat_n, Nat.reduceLeDiff, Nat.reduceAdd, Option.isSome_some, List.getElem?_cons_zero, List.getElem?_cons_succ, am_fit_i, am_fit_r, am_fit_a, if_true]
    have hh := hP G' d1.a (hF.tr d2)
    unfold nbF at hh
    split
    · next q => rw [if_pos q] at hh; exact hh
    · next q => rw [if_neg q] at hh; exact hh
  | cons a R ih =>
    intro k c G hR hE hF hP
    obtain ⟨len, T, m, ip, due, dep, b1⟩ := hE.a.1
    have ha := hR a List.mem_cons_self
    refine am_wps 60 [52] ?_
    simp only [J154_0, J154_1, J154_2, J154_5, J154_8, J154_9, J154_10, J154_11, J154_14, J154_15, J154_18, J154_19, J154_20, J154_21, J154_23, J154_24, J154_27, J154_30, J154_31, J154_34, J154_35, J154_38, J154_40, J154_41, J154_44, J154_45, J154_46, J154_49, J154_52, J154_55, J154_56, J154_57, J154_60, J154_62, J154_65, J154_67, am_gg_c, am_gf_c, am_pf_c, am_af_c, am_sf_c, am_bf_c, am_qf_c, am_ap_c, am_bp_c, am_qp_c, am_lf_c, am_kt_s, am_kt_n, am_wst, am_wstop, am_ns_0, am_ns_1, Bool.not_true, Bool.not_false, Bool.true_and, Bool.false_and, Nat.reduceBEq, ↓reduceIte, am_k2_n, am_k2_i, am_k2_r, am_k2_u, am_k2_f, am_k2_l, Nat.zero_le, true_and, and_true, true_or, or_true, am_cat_0, am_cat_i, am_cat_r, am_cat_l, am_cat_n, Nat.reduceLeDiff, Nat.reduceAdd, Option.isSome_some, List.getElem?_cons_zero, List.getElem?_cons_succ, am_fit_i, am_fit_r, am_fit_a, b1]
    refine sp_adv hD hE (hm G hF) (fun e => by cases e) (fun a' R' e G' d1 d2 d3 => ?_)
    cases e
    obtain ⟨len, T, m, ip, due, dep, b2⟩ := d1.a.1
    obtain ⟨r, bg, r1, r2, r3, r4⟩ := d2
    have hF2 := hF.tr d3
    simp only [J154_0, J154_1, J154_2, J154_5, J154_8, J154_9, J154_10, J154_11, J154_14, J154_15, J154_18, J154_19, J154_20, J154_21, J154_23, J154_24, J154_27, J154_30, J154_31, J154_34, J154_35, J154_38, J154_40, J154_41, J154_44, J154_45, J154_46, J154_49, J154_52, J154_55, J154_56, J154_57, J154_60, J154_62, J154_65, J154_67, am_gg_c, am_gf_c, am_pf_c, am_af_c, am_sf_c, am_bf_c, am_qf_c, am_ap_c, am_bp_c, am_qp_c, am_lf_c, am_kt_s, am_kt_n, am_wst, am_wstop, am_ns_0, am_ns_1, Bool.not_true, Bool.not_false, Bool.true_and, Bool.false_and, Nat.reduceBEq, ↓reduceIte, am_k2_n, am_k2_i, am_k2_r, am_k2_u, am_k2_f, am_k2_l, Nat.zero_le, true_and, and_true, true_or, or_true, am_cat_0, am_cat_i, am_cat_r, am_cat_l, am_cat_n, Nat.reduceLeDiff, Nat.reduceAdd, Option.isSome_some, List.getElem?_cons_zero, List.getElem?_cons_succ, am_fit_i, am_fit_r, am_fit_a, if_neg (show ¬ (1 : Int32) = 0 by decide), b2]
    refine sp_apart (x := x) (y := bg) (by omega) b2 (hm G' hF2) (hx G' hF2) r2 ?_
    rw [apC_congr (x' := x) (fun w _ => rfl) (fun w hw => r4 _ w (ha w hw))]
    simp only [J154_0, J154_1, J154_2, J154_5, J154_8, J154_9, J154_10, J154_11, J154_14, J154_15, J154_18, J154_19, J154_20, J154_21, J154_23, J154_24, J154_27, J154_30, J154_31, J154_34, J154_35, J154_38, J154_40, J154_41, J154_44, J154_45, J154_46, J154_49, J154_52, J154_55, J154_56, J154_57, J154_60, J154_62, J154_65, J154_67, am_gg_c, am_gf_c, am_pf_c, am_af_c, am_sf_c, am_bf_c, am_qf_c, am_ap_c, am_bp_c, am_qp_c, am_lf_c, am_kt_s, am_kt_n, am_wst, am_wstop, am_ns_0, am_ns_1, Bool.not_true, Bool.not_false, Bool.true_and, Bool.false_and, Nat.reduceBEq, ↓reduceIte, am_k2_n, am_k2_i, am_k2_r, am_k2_u, am_k2_f, am_k2_l, Nat.zero_le, true_and, and_true, true_or, or_true, am_cat_0, am_cat_i, am_cat_r, am_cat_l, am_cat_n, Nat.reduceLeDiff, Nat.reduceAdd, Option.isSome_some, List.getElem?_cons_zero, List.getElem?_cons_succ, am_fit_i, am_fit_r, am_fit_a]
    have hle := apC_le (d := d) (x := x) (y := fun w => nI (bgN a w)) 18
    have hs : nbF (fun a => apC d x (fun w => nI (bgN a w)) 18 == 3) ix (a :: R) k c = if (apC d x (fun w => nI (bgN a w)) 18 == 3) = true then (if nI c = ix then nI k else nbF (fun a => apC d x (fun w => nI (bgN a w)) 18 == 3) ix R (k + 1) (c + 1)) else nbF (fun a => apC d x (fun w => nI (bgN a w)) 18 == 3) ix R (k + 1) c := rfl
    rw [hs] at hP
    have hR2 : ∀ b ∈ R, ∀ w, d.testBit w = true → (bgN b w, w) ∈ b := fun b hb => hR b (List.mem_cons_of_mem _ hb)
    generalize apC d x (fun w => nI (bgN a w)) 18 = e at *
    by_cases c1 : e = 3
    · rw [if_pos (show nI e = 3 by rw [c1]; rfl)]
      simp only [c1, beq_self_eq_true, if_true] at hP
      by_cases c2 : nI c = ix
      · simp only [if_pos c2] at hP
        rw [if_pos c2]
        exact hP G' d1.a hF2
      · simp only [if_neg c2] at hP
        rw [if_neg c2]
        refine am_goto I154_52 ?_
        rw [nI_1, nI_1]
        exact ih (k + 1) (c + 1) G' hR2 d1 hF2 hP
    · rw [if_neg (fun q => c1 (bi_inj (by omega) (by omega) (q.trans (show (3 : Int32) = nI 3 by rfl))))]
      rw [if_neg (by simpa using c1)] at hP
      refine am_goto I154_52 ?_
      rw [nI_1]
      exact ih (k + 1) c G' hR2 d1 hF2 hP
def nbI (A : List (List (Nat × Nat))) (d : Nat) (z ix : Int32) : Int32 := match goA A z with
  | none => -1
  | some b => nbF (fun a => dsN d b a == 3) ix A 0 0
theorem sp_neighbour {G : am_H} {z ix : Int32} (hD : 6 ≤ D) (hE : EnA G pm vp) (hm : MA G l h d f) (hd1 : 1 ≤ (bl d).length) (hd8 : (bl d).length ≤ 8) (hb : ∃ b, am_ia G 34 0 = some (18, b)) (hP : ∀ G', EnA G' pm vp → (∃ b, am_ia G' 34 0 = some (18, b)) → Fr [23, 28, 29, 30, 31, 34] G G' → P (some (.int (nbI (arrs true l h d f) d z ix))) G') : am_CB X D 154 [.ref 23, .int z, .int ix] G P := by
  obtain ⟨D, rfl⟩ : ∃ D0, D = D0 + 1 := ⟨D - 1, by omega⟩
  obtain ⟨len, T, m, ip, due, dep, b1⟩ := hE.1
  have hd := hm.2.2.2.2.1
  unfold nbI at hP
  refine B154 60 [23] ?_
  simp only [J154_0, J154_1, J154_2, J154_5, J154_8, J154_9, J154_10, J154_11, J154_14, J154_15, J154_18, J154_19, J154_20, J154_21, J154_23, J154_24, J154_27, J154_30, J154_31, J154_34, J154_35, J154_38, J154_40, J154_41, J154_44, J154_45, J154_46, J154_49, J154_52, J154_55, J154_56, J154_57, J154_60, J154_62, J154_65, J154_67, am_gg_c, am_gf_c, am_pf_c, am_af_c, am_sf_c, am_bf_c, am_qf_c, am_ap_c, am_bp_c, am_qp_c, am_lf_c, am_kt_s, am_kt_n, am_wst, am_wstop, am_ns_0, am_ns_1, Bool.not_true, Bool.not_false, Bool.true_and, Bool.false_and, Nat.reduceBEq, ↓reduceIte, am_k2_n, am_k2_i, am_k2_r, am_k2_u, am_k2_f, am_k2_l, Nat.zero_le, true_and, and_true, true_or, or_true, am_cat_0, am_cat_i, am_cat_r, am_cat_l, am_cat_n, Nat.reduceLeDiff, Nat.reduceAdd, Option.isSome_some, List.getElem?_cons_zero, List.getElem?_cons_succ, am_fit_i, am_fit_r, am_fit_a, b1]
  refine sp_goTo (by omega) hE hm hd1 hd8 (fun e G1 d1 d2 => ?_) (fun a e G1 d1 d2 d3 => ?_)
  · simp only [J154_0, J154_1, J154_2, J154_5, J154_8, J154_9, J154_10, J154_11, J154_14, J154_15, J154_18, J154_19, J154_20, J154_21, J154_23, J154_24, J154_27, J154_30, J154_31, J154_34, J154_35, J154_38, J154_40, J154_41, J154_44, J154_45, J154_46, J154_49, J154_52, J154_55, J154_56, J154_57, J154_60, J154_62, J154_65, J154_67, am_gg_c, am_gf_c, am_pf_c, am_af_c, am_sf_c, am_bf_c, am_qf_c, am_ap_c, am_bp_c, am_qp_c, am_lf_c, am_kt_s, am_kt_n, am_wst, am_wstop, am_ns_0, am_ns_1, Bool.not_true, Bool.not_false, Bool.true_and, Bool.false_and, Nat.reduceBEq, ↓reduceIte, am_k2_n, am_k2_i, am_k2_r, am_k2_u, am_k2_f, am_k2_l, Nat.zero_le, true_and, and_true, true_or, or_true, am_cat_0, am_cat_i, am_cat_r, am_cat_l, am_cat_n, Nat.reduceLeDiff, Nat.reduceAdd, Option.isSome_some, List.getElem?_cons_zero, List.getElem?_cons_succ, am_fit_i, am_fit_r, am_fit_a, if_true]
    rw [e] at hP
    exact hP G1 d1 (by obtain ⟨b, hb⟩ := hb; exact ⟨b, by rw [d2.ia (by decide)]; exact hb⟩) (d2.up (by decide))
  · obtain ⟨len, T, m, ip, due, dep, b2⟩ := d1.1
    obtain ⟨r, bg, r1, r2, r3, r4⟩ := d2
    simp only [J154_0, J154_1, J154_2, J154_5, J154_8, J154_9, J154_10, J154_11, J154_14, J154_15, J154_18, J154_19, J154_20, J154_21, J154_23, J154_24, J154_27, J154_30, J154_31, J154_34, J154_35, J154_38, J154_40, J154_41, J154_44, J154_45, J154_46, J154_49, J154_52, J154_55, J154_56, J154_57, J154_60, J154_62, J154_65, J154_67, am_gg_c, am_gf_c, am_pf_c, am_af_c, am_sf_c, am_bf_c, am_qf_c, am_ap_c, am_bp_c, am_qp_c, am_lf_c, am_kt_s, am_kt_n, am_wst, am_wstop, am_ns_0, am_ns_1, Bool.not_true, Bool.not_false, Bool.true_and, Bool.false_and, Nat.reduceBEq, ↓reduceIte, am_k2_n, am_k2_i, am_k2_r, am_k2_u, am_k2_f, am_k2_l, Nat.zero_le, true_and, and_true, true_or, or_true, am_cat_0, am_cat_i, am_cat_r, am_cat_l, am_cat_n, Nat.reduceLeDiff, Nat.reduceAdd, Option.isSome_some, List.getElem?_cons_zero, List.getElem?_cons_succ, am_fit_i, am_fit_r, am_fit_a, if_neg (show ¬ (1 : Int32) = 0 by decide), b2]
    refine sp_keepBase (by omega) b2 r2 (by obtain ⟨b, hb⟩ := hb; exact ⟨b, by rw [d3.ia (by decide)]; exact hb⟩) (fun G2 e1 f1 => ?_)
    have b3 : am_ob G2 23 5 = some (moL pm len T m ip due dep vp) := by rw [f1.ob (by decide)]; exact b2
    have hE2 : EnA G2 pm vp := ⟨⟨_, _, _, _, _, _, b3⟩, by rw [f1.ia (by decide)]; exact d1.2.1, by rw [f1.ia (by decide)]; exact d1.2.2.1, by rw [f1.ia (by decide)]; exact d1.2.2.2.1, by rw [f1.ia (by decide)]; exact d1.2.2.2.2⟩
    have hm2 : MA G2 l h d f := (hm.fr d3 (by decide)).fr f1 (by decide)
    have hF2 : Fr [23, 28, 29, 30, 31, 34] G G2 := (d3.up (by decide)).tr (f1.up (by decide))
    simp only [J154_0, J154_1, J154_2, J154_5, J154_8, J154_9, J154_10, J154_11, J154_14, J154_15, J154_18, J154_19, J154_20, J154_21, J154_23, J154_24, J154_27, J154_30, J154_31, J154_34, J154_35, J154_38, J154_40, J154_41, J154_44, J154_45, J154_46, J154_49, J154_52, J154_55, J154_56, J154_57, J154_60, J154_62, J154_65, J154_67, am_gg_c, am_gf_c, am_pf_c, am_af_c, am_sf_c, am_bf_c, am_qf_c, am_ap_c, am_bp_c, am_qp_c, am_lf_c, am_kt_s, am_kt_n, am_wst, am_wstop, am_ns_0, am_ns_1, Bool.not_true, Bool.not_false, Bool.true_and, Bool.false_and, Nat.reduceBEq, ↓reduceIte, am_k2_n, am_k2_i, am_k2_r, am_k2_u, am_k2_f, am_k2_l, Nat.zero_le, true_and, and_true, true_or, or_true, am_cat_0, am_cat_i, am_cat_r, am_cat_l, am_cat_n, Nat.reduceLeDiff, Nat.reduceAdd, Option.isSome_some, List.getElem?_cons_zero, List.getElem?_cons_succ, am_fit_i, am_fit_r, am_fit_a, b3]
    refine sp_beginOwn (by omega) hE2 hm2 hd1 hd8 (fun G3 c1 _ c2 => ?_)
    simp only [J154_0, J154_1, J154_2, J154_5, J154_8, J154_9, J154_10, J154_11, J154_14, J154_15, J154_18, J154_19, J154_20, J154_21, J154_23, J154_24, J154_27, J154_30, J154_31, J154_34, J154_35, J154_38, J154_40, J154_41, J154_44, J154_45, J154_46, J154_49, J154_52, J154_55, J154_56, J154_57, J154_60, J154_62, J154_65, J154_67, am_gg_c, am_gf_c, am_pf_c, am_af_c, am_sf_c, am_bf_c, am_qf_c, am_ap_c, am_bp_c, am_qp_c, am_lf_c, am_kt_s, am_kt_n, am_wst, am_wstop, am_ns_0, am_ns_1, Bool.not_true, Bool.not_false, Bool.true_and, Bool.false_and, Nat.reduceBEq, ↓reduceIte, am_k2_n, am_k2_i, am_k2_r, am_k2_u, am_k2_f, am_k2_l, Nat.zero_le, true_and, and_true, true_or, or_true, am_cat_0, am_cat_i, am_cat_r, am_cat_l, am_cat_n, Nat.reduceLeDiff, Nat.reduceAdd, Option.isSome_some, List.getElem?_cons_zero, List.getElem?_cons_succ, am_fit_i, am_fit_r, am_fit_a]
    obtain ⟨bb, u1, u2⟩ := e1
    have hgo := lp_neigh (X := X) (D := D) (P := P) (ipb := true) (l := l) (h := h) (d := d) (f := f) (G0 := G3) (x := bg) (z := z) (ix := ix) (by omega) (fun G' hF => hm2.fr (c2.tr hF) (by decide)) (fun G' hF => ⟨bb, by rw [(c2.tr hF).ia (by decide)]; exact u1, u2⟩) (arrs true l h d f) 0 0 G3 (fun b hb w hw => bgN_mem hd hb hw) c1 Fr.rf (fun G' q1 q2 => by
      rw [e] at hP
      have hh := hP G' q1 ⟨bb, by rw [(c2.tr q2).ia (by decide)]; exact u1⟩ (hF2.tr ((c2.tr q2).up (by decide)))
      have e3 : (fun b => apC d bg (fun w => nI (bgN b w)) 18 == 3) = (fun b => dsN d a b == 3) := by
        funext b
        unfold dsN
        rw [apC_congr (y' := fun w => nI (bgN b w)) (fun w hw => r4 _ w (bgN_mem hd (goA_mem e) hw)) (fun w _ => rfl)]
      rw [e3]
      exact hh)
    exact hgo
end NB
