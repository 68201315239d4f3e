/-! match -/
def mtR (t : Nat → Int32) (x : Nat → Nat) : Nat → Bool
  | 0 => true
  | k + 1 => mtR t x k && (decide (mgI (t k) = 18) || decide (mgI (t k) = nI (x k)))
theorem mtR_le {t : Nat → Int32} {x : Nat → Nat} {i : Nat} : ∀ {m : Nat}, i ≤ m → mtR t x i = false → mtR t x m = false
  | 0, h, e => by rw [show i = 0 by omega] at e; exact e
  | m + 1, h, e => by
    by_cases q : i = m + 1
    · rw [← q]; exact e
    · show (mtR t x m && _) = false
      rw [mtR_le (show i ≤ m by omega) e]; rfl
def mtB (n l : Nat) (t : Nat → Int32) (a : List (Nat × Nat)) : Bool := decide (n = l) && mtR t (rwN a) l
section MT
variable {X : Nat × (Nat → Int32)} {D : Nat} {P : Option Value → am_H → Prop} {vp T m ip due dep : Int32} {ipb : Bool} {l h d n : Nat} {f : Nat → Nat} {t : Nat → Int32} {nn O0 m0 : Nat}
theorem lp_mpad {G : am_H} {a : List (Nat × Nat)} (hl : l ≤ 18) (hn : n = l) (hD : 2 ≤ D) (h1 : am_ob G 23 5 = some (moL (nI n) (nI l) T m ip due dep vp)) (hp : MP G n t) (hr : RW G a) (hP : P (some (.int (if mtR t (rwN a) l = true then 1 else 0))) G) :
    ∀ (k i : Nat), i + k = l → mtR t (rwN a) i = true → am_WP X D 143 19 [some (.ref 23), some (.int 1), some (.int (nI i)), none] [] G 0 0 P := by
  obtain ⟨r, bg, r1, r2, r3, r4⟩ := hr
  obtain ⟨_, _, pf, p2, p3⟩ := hp
  intro k
  induction k with
  | zero =>
    intro i hi hb
    refine am_wps 60 [66] ?_
    simp only [J143_0, J143_1, J143_4, J143_5, J143_8, J143_11, J143_12, J143_15, J143_16, J143_17, J143_18, J143_19, J143_20, J143_21, J143_24, J143_27, J143_28, J143_31, J143_32, J143_35, J143_36, J143_37, J143_40, J143_41, J143_42, J143_44, J143_47, J143_48, J143_49, J143_52, J143_53, J143_54, J143_57, J143_58, J143_61, J143_62, J143_63, J143_66, J143_69, J143_70, am_gg_c, am_gf_c, am_pf_c, am_af_c, am_sf_c, am_bf_c, am_qf_c, am_ap_c, am_bp_c, am_qp_c, am_lf_c, am_kt_s, am_kt_n, am_wst, am_wstop, am_ns_0, am_ns_1, Bool.not_true, Bool.not_false, Bool.true_and, Bool.false_and, Nat.reduceBEq, ↓reduceIte, am_k2_n, am_k2_i, am_k2_r, am_k2_u, am_k2_f, am_k2_l, Nat.zero_le, true_and, and_true, true_or, or_true, am_cat_0, am_cat_i, am_cat_r, am_cat_l, am_cat_n, Nat.reduceLeDiff, Nat.reduceAdd, Option.isSome_some, List.getElem?_cons_zero, List.getElem?_cons_succ, am_fit_i, am_fit_r, am_fit_a, h1]
    rw [if_neg (by rw [nI_ltI (by omega) (by omega)]; omega)]
    rw [show i = l by omega] at hb
    rw [hb] at hP
    simpa using hP
  | succ k ih =>
    intro i hi hb
    have hn2 := ih (i + 1) (by omega)
    have hs : mtR t (rwN a) (i + 1) = (mtR t (rwN a) i && (decide (mgI (t i) = 18) || decide (mgI (t i) = nI (rwN a i)))) := rfl
    rw [hs, hb, Bool.true_and] at hn2
    refine am_wps 60 [66] ?_
    simp only [J143_0, J143_1, J143_4, J143_5, J143_8, J143_11, J143_12, J143_15, J143_16, J143_17, J143_18, J143_19, J143_20, J143_21, J143_24, J143_27, J143_28, J143_31, J143_32, J143_35, J143_36, J143_37, J143_40, J143_41, J143_42, J143_44, J143_47, J143_48, J143_49, J143_52, J143_53, J143_54, J143_57, J143_58, J143_61, J143_62, J143_63, J143_66, J143_69, J143_70, am_gg_c, am_gf_c, am_pf_c, am_af_c, am_sf_c, am_bf_c, am_qf_c, am_ap_c, am_bp_c, am_qp_c, am_lf_c, am_kt_s, am_kt_n, am_wst, am_wstop, am_ns_0, am_ns_1, Bool.not_true, Bool.not_false, Bool.true_and, Bool.false_and, Nat.reduceBEq, ↓reduceIte, am_k2_n, am_k2_i, am_k2_r, am_k2_u, am_k2_f, am_k2_l, Nat.zero_le, true_and, and_true, true_or, or_true, am_cat_0, am_cat_i, am_cat_r, am_cat_l, am_cat_n, Nat.reduceLeDiff, Nat.reduceAdd, Option.isSome_some, List.getElem?_cons_zero, List.getElem?_cons_succ, am_fit_i, am_fit_r, am_fit_a, h1, p2, r1]
    rw [if_pos (by rw [nI_ltI (by omega) (by omega)]; omega), if_neg (show ¬ (1 : Int32) = 0 by decide)]
    refine ⟨vp_in_n (by omega) (by omega), ?_⟩
    rw [nI_clamp (by omega), p3 i (by omega)]
    refine sp_meaning (by omega) ?_
    simp only [J143_0, J143_1, J143_4, J143_5, J143_8, J143_11, J143_12, J143_15, J143_16, J143_17, J143_18, J143_19, J143_20, J143_21, J143_24, J143_27, J143_28, J143_31, J143_32, J143_35, J143_36, J143_37, J143_40, J143_41, J143_42, J143_44, J143_47, J143_48, J143_49, J143_52, J143_53, J143_54, J143_57, J143_58, J143_61, J143_62, J143_63, J143_66, J143_69, J143_70, am_gg_c, am_gf_c, am_pf_c, am_af_c, am_sf_c, am_bf_c, am_qf_c, am_ap_c, am_bp_c, am_qp_c, am_lf_c, am_kt_s, am_kt_n, am_wst, am_wstop, am_ns_0, am_ns_1, Bool.not_true, Bool.not_false, Bool.true_and, Bool.false_and, Nat.reduceBEq, ↓reduceIte, am_k2_n, am_k2_i, am_k2_r, am_k2_u, am_k2_f, am_k2_l, Nat.zero_le, true_and, and_true, true_or, or_true, am_cat_0, am_cat_i, am_cat_r, am_cat_l, am_cat_n, Nat.reduceLeDiff, Nat.reduceAdd, Option.isSome_some, List.getElem?_cons_zero, List.getElem?_cons_succ, am_fit_i, am_fit_r, am_fit_a, h1, r1]
    have good : (decide (mgI (t i) = 18) || decide (mgI (t i) = nI (rwN a i))) = true → am_WP X D 143 66 [some (.ref 23), some (.int 1), some (.int (nI i + 1)), some (.int (mgI (t i)))] [] G 0 0 P := by
      intro c
      refine am_goto I143_66 ?_
      rw [nI_1]
      exact am_WP.fg (hn2 c) (by simp [am_le])
    by_cases c1 : mgI (t i) = 18
    · rw [if_pos c1]
      exact good (by simp [c1])
    · rw [if_neg c1]
      refine ⟨vp_in_n (by omega) (by omega), ?_⟩
      rw [nI_clamp (by omega), r3 i (by omega), show rwZ a.reverse i = rwN a i by rfl]
      by_cases c2 : mgI (t i) = nI (rwN a i)
      · rw [if_pos c2]
        exact good (by simp [c2])
      · rw [if_neg c2]
        refine am_goto I143_66 ?_
        rw [nI_1]
        have e : mtR t (rwN a) l = false := mtR_le (show i + 1 ≤ l by omega) (by rw [hs, hb]; simp [c1, c2])
        rw [e] at hP
        refine am_wps 60 [66] ?_
        simp only [J143_0, J143_1, J143_4, J143_5, J143_8, J143_11, J143_12, J143_15, J143_16, J143_17, J143_18, J143_19, J143_20, J143_21, J143_24, J143_27, J143_28, J143_31, J143_32, J143_35, J143_36, J143_37, J143_40, J143_41, J143_42, J143_44, J143_47, J143_48, J143_49, J143_52, J143_53, J143_54, J143_57, J143_58, J143_61, J143_62, J143_63, J143_66, J143_69, J143_70, am_gg_c, am_gf_c, am_pf_c, am_af_c, am_sf_c, am_bf_c, am_qf_c, am_ap_c, am_bp_c, am_qp_c, am_lf_c, am_kt_s, am_kt_n, am_wst, am_wstop, am_ns_0, am_ns_1, Bool.not_true, Bool.not_false, Bool.true_and, Bool.false_and, Nat.reduceBEq, ↓reduceIte, am_k2_n, am_k2_i, am_k2_r, am_k2_u, am_k2_f, am_k2_l, Nat.zero_le, true_and, and_true, true_or, or_true, am_cat_0, am_cat_i, am_cat_r, am_cat_l, am_cat_n, Nat.reduceLeDiff, Nat.reduceAdd, Option.isSome_some, List.getElem?_cons_zero, List.getElem?_cons_succ, am_fit_i, am_fit_r, am_fit_a, h1]
        split
        · simpa using hP
        · simpa using hP
theorem sp_matchesPad {G : am_H} {a : List (Nat × Nat)} (hl : l ≤ 18) (hn18 : n ≤ 18) (hD : 3 ≤ D) (h1 : am_ob G 23 5 = some (moL (nI n) (nI l) T m ip due dep vp)) (hp : MP G n t) (hr : RW G a) (hP : P (some (.int (if mtB n l t a = true then 1 else 0))) G) : am_CB X D 143 [.ref 23] G P := by
  obtain ⟨D, rfl⟩ : ∃ D0, D = D0 + 1 := ⟨D - 1, by omega⟩
  unfold mtB at hP
  refine B143 60 [19] ?_
  simp only [J143_0, J143_1, J143_4, J143_5, J143_8, J143_11, J143_12, J143_15, J143_16, J143_17, J143_18, J143_19, J143_20, J143_21, J143_24, J143_27, J143_28, J143_31, J143_32, J143_35, J143_36, J143_37, J143_40, J143_41, J143_42, J143_44, J143_47, J143_48, J143_49, J143_52, J143_53, J143_54, J143_57, J143_58, J143_61, J143_62, J143_63, J143_66, J143_69, J143_70, am_gg_c, am_gf_c, am_pf_c, am_af_c, am_sf_c, am_bf_c, am_qf_c, am_ap_c, am_bp_c, am_qp_c, am_lf_c, am_kt_s, am_kt_n, am_wst, am_wstop, am_ns_0, am_ns_1, Bool.not_true, Bool.not_false, Bool.true_and, Bool.false_and, Nat.reduceBEq, ↓reduceIte, am_k2_n, am_k2_i, am_k2_r, am_k2_u, am_k2_f, am_k2_l, Nat.zero_le, true_and, and_true, true_or, or_true, am_cat_0, am_cat_i, am_cat_r, am_cat_l, am_cat_n, Nat.reduceLeDiff, Nat.reduceAdd, Option.isSome_some, List.getElem?_cons_zero, List.getElem?_cons_succ, am_fit_i, am_fit_r, am_fit_a, h1]
  by_cases c : n = l
  · rw [if_pos (by rw [c])]
    rw [decide_eq_true c, Bool.true_and] at hP
    exact lp_mpad hl c (by omega) h1 hp hr hP l 0 (by omega) rfl
  · rw [if_neg (fun e => c (bi_inj (by omega) (by omega) e))]
    rw [decide_eq_false c, Bool.false_and] at hP
    refine am_wps 60 [66] ?_
    simp only [J143_0, J143_1, J143_4, J143_5, J143_8, J143_11, J143_12, J143_15, J143_16, J143_17, J143_18, J143_19, J143_20, J143_21, J143_24, J143_27, J143_28, J143_31, J143_32, J143_35, J143_36, J143_37, J143_40, J143_41, J143_42, J143_44, J143_47, J143_48, J143_49, J143_52, J143_53, J143_54, J143_57, J143_58, J143_61, J143_62, J143_63, J143_66, J143_69, J143_70, am_gg_c, am_gf_c, am_pf_c, am_af_c, am_sf_c, am_bf_c, am_qf_c, am_ap_c, am_bp_c, am_qp_c, am_lf_c, am_kt_s, am_kt_n, am_wst, am_wstop, am_ns_0, am_ns_1, Bool.not_true, Bool.not_false, Bool.true_and, Bool.false_and, Nat.reduceBEq, ↓reduceIte, am_k2_n, am_k2_i, am_k2_r, am_k2_u, am_k2_f, am_k2_l, Nat.zero_le, true_and, and_true, true_or, or_true, am_cat_0, am_cat_i, am_cat_r, am_cat_l, am_cat_n, Nat.reduceLeDiff, Nat.reduceAdd, Option.isSome_some, List.getElem?_cons_zero, List.getElem?_cons_succ, am_fit_i, am_fit_r, am_fit_a, h1]
    split
    · simpa using hP
    · simpa using hP
theorem lp_match {G0 : am_H} {ix : Int32} (hl : l ≤ 18) (hn18 : n ≤ 18) (hD : 4 ≤ D) (hm : ∀ G, Fr kE G0 G → MA G l h d f) (hp : ∃ pf, am_ia G0 27 0 = some (18, pf) ∧ ∀ i, i < n → pf i = t i) : ∀ (R : List (List (Nat × Nat))) (k c : Nat) (G : am_H), EnS G (nI n) vp ipb f nn l O0 m0 R → Fr kE G0 G → (∀ G', EnA G' (nI n) vp → Fr kE G0 G' → P (some (.int (nbF (mtB n l t) ix R k c))) G') → am_WP X D 144 20 [some (.ref 23), some (.int ix), some (.int (nI k)), some (.int (nI c))] [] G 0 0 P := by
  intro R
  induction R with
  | nil =>
    intro k c G hE hF hP
    obtain ⟨len, T, m, ip, due, dep, b1⟩ := hE.a.1
    refine am_wps 60 [47] ?_
    simp only [J144_0, J144_1, J144_4, J144_6, J144_9, J144_11, J144_12, J144_13, J144_16, J144_17, J144_18, J144_19, J144_20, J144_21, J144_24, J144_27, J144_28, J144_31, J144_34, J144_35, J144_36, J144_39, J144_40, J144_41, J144_44, J144_47, J144_50, J144_51, J144_52, J144_55, J144_56, J144_59, J144_61, am_gg_c, am_gf_c, am_pf_c, am_af_c, am_sf_c, am_bf_c, am_qf_c, am_ap_c, am_bp_c, am_qp_c, am_lf_c, am_kt_s, am_kt_n, am_wst, am_wstop, am_ns_0, am_ns_1, Bool.not_true, Bool.not_false, Bool.true_and, Bool.false_and, Nat.reduceBEq, ↓reduceIte, am_k2_n, am_k2_i, am_k2_r, am_k2_u, am_k2_f, am_k2_l, Nat.zero_le, true_and, and_true, true_or, or_true, am_cat_0, am_cat_i, am_cat_r, am_cat_l, am_cat_n, Nat.reduceLeDiff, Nat.reduceAdd, Option.isSome_some, List.getElem?_cons_zero, List.getElem?_cons_succ, am_fit_i, am_fit_r, am_fit_a, b1]
    refine sp_adv hD hE (hm G hF) (fun _ G' d1 d2 => ?_) (fun a R' e => by cases e)
    simp only [J144_0, J144_1, J144_4, J144_6, J144_9, J144_11, J144_12, J144_13, J144_16, J144_17, J144_18, J144_19, J144_20, J144_21, J144_24, J144_27, J144_28, J144_31, J144_34, J144_35, J144_36, J144_39, J144_40, J144_41, J144_44, J144_47, J144_50, J144_51, J144_52, J144_55, J144_56, J144_59, J144_61, am_gg_c, am_gf_c, am_pf_c, am_af_c, am_sf_c, am_bf_c, am_qf_c, am_ap_c, am_bp_c, am_qp_c, am_lf_c, am_kt_s, am_kt_n, am_wst, am_wstop, am_ns_0, am_ns_1, Bool.not_true, Bool.not_false, Bool.true_and, Bool.false_and, Nat.reduceBEq, ↓reduceIte, am_k2_n, am_k2_i, am_k2_r, am_k2_u, am_k2_f, am_k2_l, Nat.zero_le, true_and, and_true, true_or, or_true, am_cat_0, am_cat_i, am_cat_r, am_cat_l, am_cat_n, Nat.reduceLeDiff, Nat.reduceAdd, Option.isSome_some, List.getElem?_cons_zero, List.getElem?_cons_succ, am_fit_i, am_fit_r, am_fit_a, if_true]
    have hh := hP G' d1.a (hF.tr d2)
    unfold nbF at hh
    split
    · next q => rw [if_pos q] at hh; exact hh
    · next q => rw [if_neg q] at hh; exact hh
  | cons a R ih =>
    intro k c G hE hF hP
    obtain ⟨len, T, m, ip, due, dep, b1⟩ := hE.a.1
    refine am_wps 60 [47] ?_
    simp only [J144_0, J144_1, J144_4, J144_6, J144_9, J144_11, J144_12, J144_13, J144_16, J144_17, J144_18, J144_19, J144_20, J144_21, J144_24, J144_27, J144_28, J144_31, J144_34, J144_35, J144_36, J144_39, J144_40, J144_41, J144_44, J144_47, J144_50, J144_51, J144_52, J144_55, J144_56, J144_59, J144_61, am_gg_c, am_gf_c, am_pf_c, am_af_c, am_sf_c, am_bf_c, am_qf_c, am_ap_c, am_bp_c, am_qp_c, am_lf_c, am_kt_s, am_kt_n, am_wst, am_wstop, am_ns_0, am_ns_1, Bool.not_true, Bool.not_false, Bool.true_and, Bool.false_and, Nat.reduceBEq, ↓reduceIte, am_k2_n, am_k2_i, am_k2_r, am_k2_u, am_k2_f, am_k2_l, Nat.zero_le, true_and, and_true, true_or, or_true, am_cat_0, am_cat_i, am_cat_r, am_cat_l, am_cat_n, Nat.reduceLeDiff, Nat.reduceAdd, Option.isSome_some, List.getElem?_cons_zero, List.getElem?_cons_succ, am_fit_i, am_fit_r, am_fit_a, b1]
    refine sp_adv hD hE (hm G hF) (fun e => by cases e) (fun a' R' e G' d1 d2 d3 => ?_)
    cases e
    obtain ⟨T, m, ip, due, dep, b2⟩ := d1.lgt
    have hF2 := hF.tr d3
    have hpG : MP G' n t := ⟨⟨_, _, _, _, _, _, _, b2⟩, hn18, by obtain ⟨pf, q1, q2⟩ := hp; exact ⟨pf, by rw [hF2.ia (by decide)]; exact q1, q2⟩⟩
    simp only [J144_0, J144_1, J144_4, J144_6, J144_9, J144_11, J144_12, J144_13, J144_16, J144_17, J144_18, J144_19, J144_20, J144_21, J144_24, J144_27, J144_28, J144_31, J144_34, J144_35, J144_36, J144_39, J144_40, J144_41, J144_44, J144_47, J144_50, J144_51, J144_52, J144_55, J144_56, J144_59, J144_61, am_gg_c, am_gf_c, am_pf_c, am_af_c, am_sf_c, am_bf_c, am_qf_c, am_ap_c, am_bp_c, am_qp_c, am_lf_c, am_kt_s, am_kt_n, am_wst, am_wstop, am_ns_0, am_ns_1, Bool.not_true, Bool.not_false, Bool.true_and, Bool.false_and, Nat.reduceBEq, ↓reduceIte, am_k2_n, am_k2_i, am_k2_r, am_k2_u, am_k2_f, am_k2_l, Nat.zero_le, true_and, and_true, true_or, or_true, am_cat_0, am_cat_i, am_cat_r, am_cat_l, am_cat_n, Nat.reduceLeDiff, Nat.reduceAdd, Option.isSome_some, List.getElem?_cons_zero, List.getElem?_cons_succ, am_fit_i, am_fit_r, am_fit_a, if_neg (show ¬ (1 : Int32) = 0 by decide), b2]
    refine sp_matchesPad hl hn18 (by omega) b2 hpG d2 ?_
    simp only [J144_0, J144_1, J144_4, J144_6, J144_9, J144_11, J144_12, J144_13, J144_16, J144_17, J144_18, J144_19, J144_20, J144_21, J144_24, J144_27, J144_28, J144_31, J144_34, J144_35, J144_36, J144_39, J144_40, J144_41, J144_44, J144_47, J144_50, J144_51, J144_52, J144_55, J144_56, J144_59, J144_61, am_gg_c, am_gf_c, am_pf_c, am_af_c, am_sf_c, am_bf_c, am_qf_c, am_ap_c, am_bp_c, am_qp_c, am_lf_c, am_kt_s, am_kt_n, am_wst, am_wstop, am_ns_0, am_ns_1, Bool.not_true, Bool.not_false, Bool.true_and, Bool.false_and, Nat.reduceBEq, ↓reduceIte, am_k2_n, am_k2_i, am_k2_r, am_k2_u, am_k2_f, am_k2_l, Nat.zero_le, true_and, and_true, true_or, or_true, am_cat_0, am_cat_i, am_cat_r, am_cat_l, am_cat_n, Nat.reduceLeDiff, Nat.reduceAdd, Option.isSome_some, List.getElem?_cons_zero, List.getElem?_cons_succ, am_fit_i, am_fit_r, am_fit_a]
    have hs : nbF (mtB n l t) ix (a :: R) k c = if mtB n l t a = true then (if nI c = ix then nI k else nbF (mtB n l t) ix R (k + 1) (c + 1)) else nbF (mtB n l t) ix R (k + 1) c := rfl
    rw [hs] at hP
    cases b : mtB n l t a with
    | true =>
      rw [b] at hP
      simp only [if_true, if_neg (show ¬ (1 : Int32) = 0 by decide)]
      simp only [if_true] at hP
      by_cases c2 : nI c = ix
      · simp only [if_pos c2] at hP
        rw [if_pos c2]
        exact hP G' d1.a hF2
      · simp only [if_neg c2] at hP
        rw [if_neg c2]
        refine am_goto I144_47 ?_
        rw [nI_1, nI_1]
        exact ih (k + 1) (c + 1) G' d1 hF2 hP
    | false =>
      rw [b] at hP
      simp only [Bool.false_eq_true, if_false, if_true]
      simp only [Bool.false_eq_true, if_false] at hP
      refine am_goto I144_47 ?_
      rw [nI_1]
      exact ih (k + 1) c G' d1 hF2 hP
def mtI (A : List (List (Nat × Nat))) (n l : Nat) (t : Nat → Int32) (ix : Int32) : Int32 := if ftI t n 0 = -6 then nbF (mtB n l t) ix A 0 0 else -3
theorem sp_mmatch {G : am_H} {ix : Int32} (hD : 6 ≤ D) (hE : EnA G (nI n) vp) (hp : MP G n t) (hm : MA G l h d f) (hd1 : 1 ≤ (bl d).length) (hd8 : (bl d).length ≤ 8) (hP : ∀ G', EnA G' (nI n) vp → Fr kE G G' → P (some (.int (mtI (arrs true l h d f) n l t ix))) G') : am_CB X D 144 [.ref 23, .int ix] G P := by
  obtain ⟨D, rfl⟩ : ∃ D0, D = D0 + 1 := ⟨D - 1, by omega⟩
  obtain ⟨len, T, m, ip, due, dep, h1⟩ := hE.1
  have hl := hm.2.2.1
  unfold mtI at hP
  refine B144 60 [20] ?_
  simp only [J144_0, J144_1, J144_4, J144_6, J144_9, J144_11, J144_12, J144_13, J144_16, J144_17, J144_18, J144_19, J144_20, J144_21, J144_24, J144_27, J144_28, J144_31, J144_34, J144_35, J144_36, J144_39, J144_40, J144_41, J144_44, J144_47, J144_50, J144_51, J144_52, J144_55, J144_56, J144_59, J144_61, am_gg_c, am_gf_c, am_pf_c, am_af_c, am_sf_c, am_bf_c, am_qf_c, am_ap_c, am_bp_c, am_qp_c, am_lf_c, am_kt_s, am_kt_n, am_wst, am_wstop, am_ns_0, am_ns_1, Bool.not_true, Bool.not_false, Bool.true_and, Bool.false_and, Nat.reduceBEq, ↓reduceIte, am_k2_n, am_k2_i, am_k2_r, am_k2_u, am_k2_f, am_k2_l, Nat.zero_le, true_and, and_true, true_or, or_true, am_cat_0, am_cat_i, am_cat_r, am_cat_l, am_cat_n, Nat.reduceLeDiff, Nat.reduceAdd, Option.isSome_some, List.getElem?_cons_zero, List.getElem?_cons_succ, am_fit_i, am_fit_r, am_fit_a, h1]
  refine sp_mfault (by omega) hp ?_
  simp only [J144_0, J144_1, J144_4, J144_6, J144_9, J144_11, J144_12, J144_13, J144_16, J144_17, J144_18, J144_19, J144_20, J144_21, J144_24, J144_27, J144_28, J144_31, J144_34, J144_35, J144_36, J144_39, J144_40, J144_41, J144_44, J144_47, J144_50, J144_51, J144_52, J144_55, J144_56, J144_59, J144_61, am_gg_c, am_gf_c, am_pf_c, am_af_c, am_sf_c, am_bf_c, am_qf_c, am_ap_c, am_bp_c, am_qp_c, am_lf_c, am_kt_s, am_kt_n, am_wst, am_wstop, am_ns_0, am_ns_1, Bool.not_true, Bool.not_false, Bool.true_and, Bool.false_and, Nat.reduceBEq, ↓reduceIte, am_k2_n, am_k2_i, am_k2_r, am_k2_u, am_k2_f, am_k2_l, Nat.zero_le, true_and, and_true, true_or, or_true, am_cat_0, am_cat_i, am_cat_r, am_cat_l, am_cat_n, Nat.reduceLeDiff, Nat.reduceAdd, Option.isSome_some, List.getElem?_cons_zero, List.getElem?_cons_succ, am_fit_i, am_fit_r, am_fit_a, h1]
  by_cases c : ftI t n 0 = -6
  · rw [if_pos c] at hP ⊢
    refine sp_beginOwn (by omega) hE hm hd1 hd8 (fun G1 c1 _ c2 => ?_)
    simp only [J144_0, J144_1, J144_4, J144_6, J144_9, J144_11, J144_12, J144_13, J144_16, J144_17, J144_18, J144_19, J144_20, J144_21, J144_24, J144_27, J144_28, J144_31, J144_34, J144_35, J144_36, J144_39, J144_40, J144_41, J144_44, J144_47, J144_50, J144_51, J144_52, J144_55, J144_56, J144_59, J144_61, am_gg_c, am_gf_c, am_pf_c, am_af_c, am_sf_c, am_bf_c, am_qf_c, am_ap_c, am_bp_c, am_qp_c, am_lf_c, am_kt_s, am_kt_n, am_wst, am_wstop, am_ns_0, am_ns_1, Bool.not_true, Bool.not_false, Bool.true_and, Bool.false_and, Nat.reduceBEq, ↓reduceIte, am_k2_n, am_k2_i, am_k2_r, am_k2_u, am_k2_f, am_k2_l, Nat.zero_le, true_and, and_true, true_or, or_true, am_cat_0, am_cat_i, am_cat_r, am_cat_l, am_cat_n, Nat.reduceLeDiff, Nat.reduceAdd, Option.isSome_some, List.getElem?_cons_zero, List.getElem?_cons_succ, am_fit_i, am_fit_r, am_fit_a]
    obtain ⟨_, hn18, pf, p2, p3⟩ := hp
    exact lp_match (G0 := G1) hl hn18 (by omega) (fun G' hF => hm.fr (c2.tr hF) (by decide)) ⟨pf, by rw [c2.ia (by decide)]; exact p2, p3⟩ _ 0 0 G1 c1 Fr.rf (fun G' d1 d2 => hP G' d1 (c2.tr d2))
  · rw [if_neg c] at hP ⊢
    exact hP G hE Fr.rf
end MT
