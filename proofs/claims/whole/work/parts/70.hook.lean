/-! hooks, omissions, save, restore -/
def hkM (d : Nat) (f : Nat → Nat) : Nat := mkm (fun p => !(arrs false (2 * (bl d).length + 1) (2 ^ p) d f).isEmpty) (2 * (bl d).length + 1)
def omB (d : Nat) (f : Nat → Nat) (w : Nat) : Bool := d.testBit w && (!(d - 2 ^ w == 0) && !(arrs false (2 * (bl (d - 2 ^ w)).length) 0 (d - 2 ^ w) f).isEmpty)
section HK
variable {X : Nat × (Nat → Int32)} {D : Nat} {P : Option Value → am_H → Prop} {pm len T m ip due dep vp : Int32} {l h d : Nat} {f : Nat → Nat}
theorem EnB.a {G : am_H} {ipb : Bool} {due : Int32} (h : EnB G pm vp ipb l h d due) : EnA G pm vp := by
  obtain ⟨a, b, ⟨ch, c, _⟩, ⟨r, e, _⟩, g⟩ := h
  exact ⟨⟨_, _, _, _, _, _, a⟩, b, ⟨ch, c⟩, ⟨r, e⟩, g⟩
theorem lp_hooks {G0 : am_H} (hd1 : 1 ≤ (bl d).length) (hd8 : (bl d).length ≤ 8) (hD : 4 ≤ D) (hm : ∀ G, Fr kE G0 G → MA G l h d f) (hP : ∀ G', EnA G' pm vp → Fr kE G0 G' → P (some (.int (nI (hkM d f)))) G') : ∀ (k i : Nat) (G : am_H), i + k = 2 * (bl d).length + 1 → EnA G pm vp → Fr kE G0 G → am_WP X D 161 27 [some (.ref 23), some (.int (nI (2 * (bl d).length + 1))), some (.int (nI (mkm (fun p => !(arrs false (2 * (bl d).length + 1) (2 ^ p) d f).isEmpty) i))), some (.int (nI i))] [] G 0 0 P := by
  intro k
  induction k with
  | zero =>
    intro i G hi hE hF
    refine am_wps 60 [67] ?_
    simp only [J161_0, J161_1, J161_2, J161_5, J161_6, J161_7, J161_10, J161_11, J161_12, J161_13, J161_14, J161_15, J161_17, J161_20, J161_22, J161_23, J161_24, J161_25, J161_26, J161_27, J161_28, J161_29, J161_32, J161_33, J161_34, J161_35, J161_36, J161_37, J161_38, J161_41, J161_42, J161_43, J161_44, J161_47, J161_48, J161_49, J161_52, J161_55, J161_56, J161_57, J161_58, J161_61, J161_62, J161_63, J161_64, J161_67, J161_70, J161_71, am_gg_c, am_gf_c, am_pf_c, am_af_c, am_sf_c, am_bf_c, am_qf_c, am_ap_c, am_bp_c, am_qp_c, am_lf_c, am_kt_s, am_kt_n, am_wst, am_wstop, am_ns_0, am_ns_1, Bool.not_true, Bool.not_false, Bool.true_and, Bool.false_and, Nat.reduceBEq, ↓reduceIte, am_k2_n, am_k2_i, am_k2_r, am_k2_u, am_k2_f, am_k2_l, Nat.zero_le, true_and, and_true, true_or, or_true, am_cat_0, am_cat_i, am_cat_r, am_cat_l, am_cat_n, Nat.reduceLeDiff, Nat.reduceAdd, Option.isSome_some, List.getElem?_cons_zero, List.getElem?_cons_succ, am_fit_i, am_fit_r, am_fit_a]
    rw [if_neg (by rw [nI_ltI (by omega) (by omega)]; omega), show i = 2 * (bl d).length + 1 by omega]
    exact hP G hE hF
  | succ k ih =>
    intro i G hi hE hF
    obtain ⟨len, T, m, ip, due, dep, b1⟩ := hE.1
    have hm1 := hm G hF
    obtain ⟨⟨af, a1, a2, a3, a4, a5⟩, hl1, hl, hh, hd, hd0, hf⟩ := id hm1
    have h2 : af (2 : Int32).toNatClampNeg = nI d := a4
    have hlt := mkm_lt (fun p => !(arrs false (2 * (bl d).length + 1) (2 ^ p) d f).isEmpty) i
    have hs : mkm (fun p => !(arrs false (2 * (bl d).length + 1) (2 ^ p) d f).isEmpty) (i + 1) = mkm (fun p => !(arrs false (2 * (bl d).length + 1) (2 ^ p) d f).isEmpty) i + (if (!(arrs false (2 * (bl d).length + 1) (2 ^ i) d f).isEmpty) = true then 2 ^ i else 0) := rfl
    have hn := ih (i + 1)
    rw [hs] at hn
    have hpi : 2 ^ i < 2 ^ (2 * (bl d).length + 1) := Nat.pow_lt_pow_right (by omega) (by omega)
    refine am_wps 60 [67] ?_
    simp only [J161_0, J161_1, J161_2, J161_5, J161_6, J161_7, J161_10, J161_11, J161_12, J161_13, J161_14, J161_15, J161_17, J161_20, J161_22, J161_23, J161_24, J161_25, J161_26, J161_27, J161_28, J161_29, J161_32, J161_33, J161_34, J161_35, J161_36, J161_37, J161_38, J161_41, J161_42, J161_43, J161_44, J161_47, J161_48, J161_49, J161_52, J161_55, J161_56, J161_57, J161_58, J161_61, J161_62, J161_63, J161_64, J161_67, J161_70, J161_71, am_gg_c, am_gf_c, am_pf_c, am_af_c, am_sf_c, am_bf_c, am_qf_c, am_ap_c, am_bp_c, am_qp_c, am_lf_c, am_kt_s, am_kt_n, am_wst, am_wstop, am_ns_0, am_ns_1, Bool.not_true, Bool.not_false, Bool.true_and, Bool.false_and, Nat.reduceBEq, ↓reduceIte, am_k2_n, am_k2_i, am_k2_r, am_k2_u, am_k2_f, am_k2_l, Nat.zero_le, true_and, and_true, true_or, or_true, am_cat_0, am_cat_i, am_cat_r, am_cat_l, am_cat_n, Nat.reduceLeDiff, Nat.reduceAdd, Option.isSome_some, List.getElem?_cons_zero, List.getElem?_cons_succ, am_fit_i, am_fit_r, am_fit_a, b1, a1, h2]
    rw [if_pos (by rw [nI_ltI (by omega) (by omega)]; omega)]
    refine ⟨vp_lit (k := 2) rfl (by omega) (by omega), ?_⟩
    rw [show (1 : Int32) <<< (nI i &&& 31) = nI (2 ^ i) by rw [show (1 : Int32) = nI 1 by rfl, bi_shl (by omega), Nat.one_mul]]
    refine sp_begin (ipb := false) (by omega) hE (by omega) hpi hd (fun G1 e1 f1 => ?_)
    have b2 := e1.1
    have hS : EnS G1 pm vp false f (bl d).length (2 * (bl d).length + 1) (frN (2 * (bl d).length + 1) (2 ^ i)) d (arrs false (2 * (bl d).length + 1) (2 ^ i) d f) := EnB.s (by omega) hpi hd hd0 hd1 hd8 e1 (by unfold duN; simp)
    simp only [J161_0, J161_1, J161_2, J161_5, J161_6, J161_7, J161_10, J161_11, J161_12, J161_13, J161_14, J161_15, J161_17, J161_20, J161_22, J161_23, J161_24, J161_25, J161_26, J161_27, J161_28, J161_29, J161_32, J161_33, J161_34, J161_35, J161_36, J161_37, J161_38, J161_41, J161_42, J161_43, J161_44, J161_47, J161_48, J161_49, J161_52, J161_55, J161_56, J161_57, J161_58, J161_61, J161_62, J161_63, J161_64, J161_67, J161_70, J161_71, am_gg_c, am_gf_c, am_pf_c, am_af_c, am_sf_c, am_bf_c, am_qf_c, am_ap_c, am_bp_c, am_qp_c, am_lf_c, am_kt_s, am_kt_n, am_wst, am_wstop, am_ns_0, am_ns_1, Bool.not_true, Bool.not_false, Bool.true_and, Bool.false_and, Nat.reduceBEq, ↓reduceIte, am_k2_n, am_k2_i, am_k2_r, am_k2_u, am_k2_f, am_k2_l, Nat.zero_le, true_and, and_true, true_or, or_true, am_cat_0, am_cat_i, am_cat_r, am_cat_l, am_cat_n, Nat.reduceLeDiff, Nat.reduceAdd, Option.isSome_some, List.getElem?_cons_zero, List.getElem?_cons_succ, am_fit_i, am_fit_r, am_fit_a, b2]
    refine sp_adv (by omega) hS (hm G1 (hF.tr f1)) (fun e G2 d1 d2 => ?_) (fun a R e G2 d1 d2 d3 => ?_)
    · simp only [J161_0, J161_1, J161_2, J161_5, J161_6, J161_7, J161_10, J161_11, J161_12, J161_13, J161_14, J161_15, J161_17, J161_20, J161_22, J161_23, J161_24, J161_25, J161_26, J161_27, J161_28, J161_29, J161_32, J161_33, J161_34, J161_35, J161_36, J161_37, J161_38, J161_41, J161_42, J161_43, J161_44, J161_47, J161_48, J161_49, J161_52, J161_55, J161_56, J161_57, J161_58, J161_61, J161_62, J161_63, J161_64, J161_67, J161_70, J161_71, am_gg_c, am_gf_c, am_pf_c, am_af_c, am_sf_c, am_bf_c, am_qf_c, am_ap_c, am_bp_c, am_qp_c, am_lf_c, am_kt_s, am_kt_n, am_wst, am_wstop, am_ns_0, am_ns_1, Bool.not_true, Bool.not_false, Bool.true_and, Bool.false_and, Nat.reduceBEq, ↓reduceIte, am_k2_n, am_k2_i, am_k2_r, am_k2_u, am_k2_f, am_k2_l, Nat.zero_le, true_and, and_true, true_or, or_true, am_cat_0, am_cat_i, am_cat_r, am_cat_l, am_cat_n, Nat.reduceLeDiff, Nat.reduceAdd, Option.isSome_some, List.getElem?_cons_zero, List.getElem?_cons_succ, am_fit_i, am_fit_r, am_fit_a, if_true]
      refine am_goto I161_67 ?_
      rw [nI_1, show (0 : Int32) = nI 0 by rfl, bi_or, Nat.or_zero]
      have := hn G2 (by omega) d1.a ((hF.tr f1).tr d2)
      rw [e] at this
      simpa using this
    · simp only [J161_0, J161_1, J161_2, J161_5, J161_6, J161_7, J161_10, J161_11, J161_12, J161_13, J161_14, J161_15, J161_17, J161_20, J161_22, J161_23, J161_24, J161_25, J161_26, J161_27, J161_28, J161_29, J161_32, J161_33, J161_34, J161_35, J161_36, J161_37, J161_38, J161_41, J161_42, J161_43, J161_44, J161_47, J161_48, J161_49, J161_52, J161_55, J161_56, J161_57, J161_58, J161_61, J161_62, J161_63, J161_64, J161_67, J161_70, J161_71, am_gg_c, am_gf_c, am_pf_c, am_af_c, am_sf_c, am_bf_c, am_qf_c, am_ap_c, am_bp_c, am_qp_c, am_lf_c, am_kt_s, am_kt_n, am_wst, am_wstop, am_ns_0, am_ns_1, Bool.not_true, Bool.not_false, Bool.true_and, Bool.false_and, Nat.reduceBEq, ↓reduceIte, am_k2_n, am_k2_i, am_k2_r, am_k2_u, am_k2_f, am_k2_l, Nat.zero_le, true_and, and_true, true_or, or_true, am_cat_0, am_cat_i, am_cat_r, am_cat_l, am_cat_n, Nat.reduceLeDiff, Nat.reduceAdd, Option.isSome_some, List.getElem?_cons_zero, List.getElem?_cons_succ, am_fit_i, am_fit_r, am_fit_a, if_neg (show ¬ (1 : Int32) = 0 by decide)]
      refine am_goto I161_67 ?_
      rw [nI_1, bi_orbit_l hlt (by omega)]
      have := hn G2 (by omega) d1.a ((hF.tr f1).tr d3)
      rw [e] at this
      simpa using this
theorem sp_mhooks {G : am_H} (hD : 5 ≤ D) (hE : EnA G pm vp) (hm : MA G l h d f) (hd1 : 1 ≤ (bl d).length) (hd8 : (bl d).length ≤ 8) (hP : ∀ G', EnA G' pm vp → Fr kE G G' → P (some (.int (nI (hkM d f)))) G') : am_CB X D 161 [.ref 23] G P := by
  obtain ⟨D, rfl⟩ : ∃ D0, D = D0 + 1 := ⟨D - 1, by omega⟩
  obtain ⟨len, T, m, ip, due, dep, b1⟩ := hE.1
  obtain ⟨⟨af, a1, a2, a3, a4, a5⟩, hl1, hl, hh, hd, hd0, hf⟩ := id hm
  have h2 : af (2 : Int32).toNatClampNeg = nI d := a4
  refine B161 60 [27] ?_
  simp only [J161_0, J161_1, J161_2, J161_5, J161_6, J161_7, J161_10, J161_11, J161_12, J161_13, J161_14, J161_15, J161_17, J161_20, J161_22, J161_23, J161_24, J161_25, J161_26, J161_27, J161_28, J161_29, J161_32, J161_33, J161_34, J161_35, J161_36, J161_37, J161_38, J161_41, J161_42, J161_43, J161_44, J161_47, J161_48, J161_49, J161_52, J161_55, J161_56, J161_57, J161_58, J161_61, J161_62, J161_63, J161_64, J161_67, J161_70, J161_71, am_gg_c, am_gf_c, am_pf_c, am_af_c, am_sf_c, am_bf_c, am_qf_c, am_ap_c, am_bp_c, am_qp_c, am_lf_c, am_kt_s, am_kt_n, am_wst, am_wstop, am_ns_0, am_ns_1, Bool.not_true, Bool.not_false, Bool.true_and, Bool.false_and, Nat.reduceBEq, ↓reduceIte, am_k2_n, am_k2_i, am_k2_r, am_k2_u, am_k2_f, am_k2_l, Nat.zero_le, true_and, and_true, true_or, or_true, am_cat_0, am_cat_i, am_cat_r, am_cat_l, am_cat_n, Nat.reduceLeDiff, Nat.reduceAdd, Option.isSome_some, List.getElem?_cons_zero, List.getElem?_cons_succ, am_fit_i, am_fit_r, am_fit_a, b1, a1, h2]
  refine ⟨vp_lit (k := 2) rfl (by omega) (by omega), sp_sizeOf (by omega) (by omega) ?_⟩
  simp only [J161_0, J161_1, J161_2, J161_5, J161_6, J161_7, J161_10, J161_11, J161_12, J161_13, J161_14, J161_15, J161_17, J161_20, J161_22, J161_23, J161_24, J161_25, J161_26, J161_27, J161_28, J161_29, J161_32, J161_33, J161_34, J161_35, J161_36, J161_37, J161_38, J161_41, J161_42, J161_43, J161_44, J161_47, J161_48, J161_49, J161_52, J161_55, J161_56, J161_57, J161_58, J161_61, J161_62, J161_63, J161_64, J161_67, J161_70, J161_71, am_gg_c, am_gf_c, am_pf_c, am_af_c, am_sf_c, am_bf_c, am_qf_c, am_ap_c, am_bp_c, am_qp_c, am_lf_c, am_kt_s, am_kt_n, am_wst, am_wstop, am_ns_0, am_ns_1, Bool.not_true, Bool.not_false, Bool.true_and, Bool.false_and, Nat.reduceBEq, ↓reduceIte, am_k2_n, am_k2_i, am_k2_r, am_k2_u, am_k2_f, am_k2_l, Nat.zero_le, true_and, and_true, true_or, or_true, am_cat_0, am_cat_i, am_cat_r, am_cat_l, am_cat_n, Nat.reduceLeDiff, Nat.reduceAdd, Option.isSome_some, List.getElem?_cons_zero, List.getElem?_cons_succ, am_fit_i, am_fit_r, am_fit_a]
  rw [show (2 : Int32) = nI 2 by rfl, pk_mul, nI_1, if_neg (by rw [show (18 : Int32) = nI 18 by rfl, nI_ltI (by omega) (by omega)]; omega)]
  exact lp_hooks (G0 := G) hd1 hd8 (by omega) (fun G' hF => hm.fr hF (by decide)) hP (2 * (bl d).length + 1) 0 G (by omega) hE Fr.rf
theorem lp_omis {G0 : am_H} (hd8 : (bl d).length ≤ 8) (hD : 4 ≤ D) (hm : ∀ G, Fr kE G0 G → MA G l h d f) (hP : ∀ G', EnA G' pm vp → Fr kE G0 G' → P (some (.int (nI (mkm (omB d f) 18)))) G') : ∀ (k i : Nat) (G : am_H), i + k = 18 → EnA G pm vp → Fr kE G0 G → am_WP X D 162 4 [some (.ref 23), some (.int (nI (mkm (omB d f) i))), some (.int (nI i)), none] [] G 0 0 P := by
  intro k
  induction k with
  | zero =>
    intro i G hi hE hF
    refine am_wps 60 [68] ?_
    simp only [J162_0, J162_1, J162_2, J162_3, J162_4, J162_5, J162_7, J162_10, J162_11, J162_12, J162_15, J162_18, J162_19, J162_22, J162_23, J162_24, J162_25, J162_26, J162_27, J162_28, J162_29, J162_30, J162_31, J162_32, J162_33, J162_34, J162_37, J162_38, J162_39, J162_40, J162_41, J162_44, J162_45, J162_46, J162_49, J162_50, J162_53, J162_56, J162_57, J162_58, J162_59, J162_62, J162_63, J162_64, J162_65, J162_68, J162_71, J162_72, am_gg_c, am_gf_c, am_pf_c, am_af_c, am_sf_c, am_bf_c, am_qf_c, am_ap_c, am_bp_c, am_qp_c, am_lf_c, am_kt_s, am_kt_n, am_wst, am_wstop, am_ns_0, am_ns_1, Bool.not_true, Bool.not_false, Bool.true_and, Bool.false_and, Nat.reduceBEq, ↓reduceIte, am_k2_n, am_k2_i, am_k2_r, am_k2_u, am_k2_f, am_k2_l, Nat.zero_le, true_and, and_true, true_or, or_true, am_cat_0, am_cat_i, am_cat_r, am_cat_l, am_cat_n, Nat.reduceLeDiff, Nat.reduceAdd, Option.isSome_some, List.getElem?_cons_zero, List.getElem?_cons_succ, am_fit_i, am_fit_r, am_fit_a]
    rw [if_pos (by rw [show i = 18 by omega]; decide), show i = 18 by omega]
    exact hP G hE hF
  | succ k ih =>
    intro i G hi hE hF
    obtain ⟨len, T, m, ip, due, dep, b1⟩ := hE.1
    have hm1 := hm G hF
    obtain ⟨⟨af, a1, a2, a3, a4, a5⟩, hl1, hl, hh, hd, hd0, hf⟩ := id hm1
    have h2 : af (2 : Int32).toNatClampNeg = nI d := a4
    have hlt := mkm_lt (omB d f) i
    have hs : mkm (omB d f) (i + 1) = mkm (omB d f) i + (if omB d f i = true then 2 ^ i else 0) := rfl
    have hn := ih (i + 1)
    rw [hs] at hn
    unfold omB at hn
    have go0 : ∀ (G2 : am_H) (x : Option Value), omB d f i = false → EnA G2 pm vp → Fr kE G0 G2 → am_WP X D 162 68 [some (.ref 23), some (.int (nI (mkm (omB d f) i) ||| 0)), some (.int (nI i + 1)), x] [] G2 0 0 P := by
      intro G2 x hb hE2 hF2
      refine am_goto I162_68 ?_
      rw [nI_1, show (0 : Int32) = nI 0 by rfl, bi_or, Nat.or_zero]
      have := ih (i + 1) G2 (by omega) hE2 hF2
      rw [hs, hb] at this
      exact am_WP.fg (by simpa using this) (by simp [am_le])
    refine am_wps 60 [68] ?_
    simp only [J162_0, J162_1, J162_2, J162_3, J162_4, J162_5, J162_7, J162_10, J162_11, J162_12, J162_15, J162_18, J162_19, J162_22, J162_23, J162_24, J162_25, J162_26, J162_27, J162_28, J162_29, J162_30, J162_31, J162_32, J162_33, J162_34, J162_37, J162_38, J162_39, J162_40, J162_41, J162_44, J162_45, J162_46, J162_49, J162_50, J162_53, J162_56, J162_57, J162_58, J162_59, J162_62, J162_63, J162_64, J162_65, J162_68, J162_71, J162_72, am_gg_c, am_gf_c, am_pf_c, am_af_c, am_sf_c, am_bf_c, am_qf_c, am_ap_c, am_bp_c, am_qp_c, am_lf_c, am_kt_s, am_kt_n, am_wst, am_wstop, am_ns_0, am_ns_1, Bool.not_true, Bool.not_false, Bool.true_and, Bool.false_and, Nat.reduceBEq, ↓reduceIte, am_k2_n, am_k2_i, am_k2_r, am_k2_u, am_k2_f, am_k2_l, Nat.zero_le, true_and, and_true, true_or, or_true, am_cat_0, am_cat_i, am_cat_r, am_cat_l, am_cat_n, Nat.reduceLeDiff, Nat.reduceAdd, Option.isSome_some, List.getElem?_cons_zero, List.getElem?_cons_succ, am_fit_i, am_fit_r, am_fit_a, b1, a1, h2]
    rw [if_neg (by rw [show (17 : Int32) = nI 17 by rfl, nI_ltI (by omega) (by omega)]; omega)]
    refine sp_isOwn (by omega) b1 hm1 ?_
    rw [ownB_n hd hd0 (by omega)]
    simp only [J162_0, J162_1, J162_2, J162_3, J162_4, J162_5, J162_7, J162_10, J162_11, J162_12, J162_15, J162_18, J162_19, J162_22, J162_23, J162_24, J162_25, J162_26, J162_27, J162_28, J162_29, J162_30, J162_31, J162_32, J162_33, J162_34, J162_37, J162_38, J162_39, J162_40, J162_41, J162_44, J162_45, J162_46, J162_49, J162_50, J162_53, J162_56, J162_57, J162_58, J162_59, J162_62, J162_63, J162_64, J162_65, J162_68, J162_71, J162_72, am_gg_c, am_gf_c, am_pf_c, am_af_c, am_sf_c, am_bf_c, am_qf_c, am_ap_c, am_bp_c, am_qp_c, am_lf_c, am_kt_s, am_kt_n, am_wst, am_wstop, am_ns_0, am_ns_1, Bool.not_true, Bool.not_false, Bool.true_and, Bool.false_and, Nat.reduceBEq, ↓reduceIte, am_k2_n, am_k2_i, am_k2_r, am_k2_u, am_k2_f, am_k2_l, Nat.zero_le, true_and, and_true, true_or, or_true, am_cat_0, am_cat_i, am_cat_r, am_cat_l, am_cat_n, Nat.reduceLeDiff, Nat.reduceAdd, Option.isSome_some, List.getElem?_cons_zero, List.getElem?_cons_succ, am_fit_i, am_fit_r, am_fit_a, b1, a1, h2]
    cases cb : d.testBit i with
    | false =>
      simp only [Bool.false_eq_true, if_false, if_true]
      refine am_goto I162_68 ?_
      rw [nI_1]
      have := ih (i + 1) G (by omega) hE hF
      rw [hs, show omB d f i = false by unfold omB; rw [cb]; rfl] at this
      exact am_WP.fg (by simpa using this) (by simp [am_le])
    | true =>
      simp only [if_true, if_neg (show ¬ (1 : Int32) = 0 by decide)]
      refine ⟨vp_lit (k := 2) rfl (by omega) (by omega), ?_⟩
      have e2 : nI d &&& ((1 : Int32) <<< (nI i &&& 31) ^^^ (-1)) = nI (d - 2 ^ i) := by
        rw [show (1 : Int32) = nI 1 by rfl, bi_shl (by omega), Nat.one_mul, show (-nI 1 : Int32) = -1 by rfl, bi_not, bi_not_bit (by omega) cb]
      rw [e2]
      have hlen := bl_sub_len (m := d) (d := i) (by omega) cb
      have hd2 : d - 2 ^ i < 2 ^ 18 := by omega
      have hd02 : (d - 2 ^ i).testBit 0 = false := by rw [bt_sub cb, hd0]; rfl
      have hom : omB d f i = (!(d - 2 ^ i == 0) && !(arrs false (2 * (bl (d - 2 ^ i)).length) 0 (d - 2 ^ i) f).isEmpty) := by unfold omB; rw [cb]; rfl
      refine sp_sizeOf (by omega) (by omega) ?_
      simp only [J162_0, J162_1, J162_2, J162_3, J162_4, J162_5, J162_7, J162_10, J162_11, J162_12, J162_15, J162_18, J162_19, J162_22, J162_23, J162_24, J162_25, J162_26, J162_27, J162_28, J162_29, J162_30, J162_31, J162_32, J162_33, J162_34, J162_37, J162_38, J162_39, J162_40, J162_41, J162_44, J162_45, J162_46, J162_49, J162_50, J162_53, J162_56, J162_57, J162_58, J162_59, J162_62, J162_63, J162_64, J162_65, J162_68, J162_71, J162_72, am_gg_c, am_gf_c, am_pf_c, am_af_c, am_sf_c, am_bf_c, am_qf_c, am_ap_c, am_bp_c, am_qp_c, am_lf_c, am_kt_s, am_kt_n, am_wst, am_wstop, am_ns_0, am_ns_1, Bool.not_true, Bool.not_false, Bool.true_and, Bool.false_and, Nat.reduceBEq, ↓reduceIte, am_k2_n, am_k2_i, am_k2_r, am_k2_u, am_k2_f, am_k2_l, Nat.zero_le, true_and, and_true, true_or, or_true, am_cat_0, am_cat_i, am_cat_r, am_cat_l, am_cat_n, Nat.reduceLeDiff, Nat.reduceAdd, Option.isSome_some, List.getElem?_cons_zero, List.getElem?_cons_succ, am_fit_i, am_fit_r, am_fit_a, b1]
      generalize hom2 : omB d f i = ob at *
      generalize d - 2 ^ i = o at *
      rw [show (2 : Int32) = nI 2 by rfl, pk_mul, show (0 : Int32) = nI 0 by rfl]
      have h0p : 0 < 2 ^ (2 * (bl o).length) := Nat.two_pow_pos _
      refine sp_begin (ipb := false) (by omega) hE (by omega) h0p hd2 (fun G1 e1 f1 => ?_)
      have b2 := e1.1
      simp only [J162_0, J162_1, J162_2, J162_3, J162_4, J162_5, J162_7, J162_10, J162_11, J162_12, J162_15, J162_18, J162_19, J162_22, J162_23, J162_24, J162_25, J162_26, J162_27, J162_28, J162_29, J162_30, J162_31, J162_32, J162_33, J162_34, J162_37, J162_38, J162_39, J162_40, J162_41, J162_44, J162_45, J162_46, J162_49, J162_50, J162_53, J162_56, J162_57, J162_58, J162_59, J162_62, J162_63, J162_64, J162_65, J162_68, J162_71, J162_72, am_gg_c, am_gf_c, am_pf_c, am_af_c, am_sf_c, am_bf_c, am_qf_c, am_ap_c, am_bp_c, am_qp_c, am_lf_c, am_kt_s, am_kt_n, am_wst, am_wstop, am_ns_0, am_ns_1, Bool.not_true, Bool.not_false, Bool.true_and, Bool.false_and, Nat.reduceBEq, ↓reduceIte, am_k2_n, am_k2_i, am_k2_r, am_k2_u, am_k2_f, am_k2_l, Nat.zero_le, true_and, and_true, true_or, or_true, am_cat_0, am_cat_i, am_cat_r, am_cat_l, am_cat_n, Nat.reduceLeDiff, Nat.reduceAdd, Option.isSome_some, List.getElem?_cons_zero, List.getElem?_cons_succ, am_fit_i, am_fit_r, am_fit_a, b2]
      have hF1 := hF.tr f1
      by_cases c0 : o = 0
      · rw [if_pos (by rw [c0]; rfl)]
        exact go0 G1 _ (by rw [hom, c0]; rfl) e1.a hF1
      · rw [if_neg (by rw [bi_eq0 (by omega)]; exact c0)]
        have hlo : 1 ≤ (bl o).length := by
          rcases Nat.eq_zero_or_pos (bl o).length with z | z
          · exact absurd (bl_zero hd2 (List.eq_nil_of_length_eq_zero z)) c0
          · exact z
        have hS : EnS G1 pm vp false f (bl o).length (2 * (bl o).length) (frN (2 * (bl o).length) 0) o (arrs false (2 * (bl o).length) 0 o f) := EnB.s (by omega) h0p hd2 hd02 hlo (by omega) e1 (by unfold duN; simp)
        refine sp_adv (by omega) hS (hm G1 hF1) (fun e G2 d1 d2 => ?_) (fun a R e G2 d1 d2 d3 => ?_)
        · simp only [J162_0, J162_1, J162_2, J162_3, J162_4, J162_5, J162_7, J162_10, J162_11, J162_12, J162_15, J162_18, J162_19, J162_22, J162_23, J162_24, J162_25, J162_26, J162_27, J162_28, J162_29, J162_30, J162_31, J162_32, J162_33, J162_34, J162_37, J162_38, J162_39, J162_40, J162_41, J162_44, J162_45, J162_46, J162_49, J162_50, J162_53, J162_56, J162_57, J162_58, J162_59, J162_62, J162_63, J162_64, J162_65, J162_68, J162_71, J162_72, am_gg_c, am_gf_c, am_pf_c, am_af_c, am_sf_c, am_bf_c, am_qf_c, am_ap_c, am_bp_c, am_qp_c, am_lf_c, am_kt_s, am_kt_n, am_wst, am_wstop, am_ns_0, am_ns_1, Bool.not_true, Bool.not_false, Bool.true_and, Bool.false_and, Nat.reduceBEq, ↓reduceIte, am_k2_n, am_k2_i, am_k2_r, am_k2_u, am_k2_f, am_k2_l, Nat.zero_le, true_and, and_true, true_or, or_true, am_cat_0, am_cat_i, am_cat_r, am_cat_l, am_cat_n, Nat.reduceLeDiff, Nat.reduceAdd, Option.isSome_some, List.getElem?_cons_zero, List.getElem?_cons_succ, am_fit_i, am_fit_r, am_fit_a, show (nI 0 : Int32) = 0 by rfl, if_true]
          exact go0 G2 _ (by rw [hom, e]; simp) d1.a (hF1.tr d2)
        · simp only [J162_0, J162_1, J162_2, J162_3, J162_4, J162_5, J162_7, J162_10, J162_11, J162_12, J162_15, J162_18, J162_19, J162_22, J162_23, J162_24, J162_25, J162_26, J162_27, J162_28, J162_29, J162_30, J162_31, J162_32, J162_33, J162_34, J162_37, J162_38, J162_39, J162_40, J162_41, J162_44, J162_45, J162_46, J162_49, J162_50, J162_53, J162_56, J162_57, J162_58, J162_59, J162_62, J162_63, J162_64, J162_65, J162_68, J162_71, J162_72, am_gg_c, am_gf_c, am_pf_c, am_af_c, am_sf_c, am_bf_c, am_qf_c, am_ap_c, am_bp_c, am_qp_c, am_lf_c, am_kt_s, am_kt_n, am_wst, am_wstop, am_ns_0, am_ns_1, Bool.not_true, Bool.not_false, Bool.true_and, Bool.false_and, Nat.reduceBEq, ↓reduceIte, am_k2_n, am_k2_i, am_k2_r, am_k2_u, am_k2_f, am_k2_l, Nat.zero_le, true_and, and_true, true_or, or_true, am_cat_0, am_cat_i, am_cat_r, am_cat_l, am_cat_n, Nat.reduceLeDiff, Nat.reduceAdd, Option.isSome_some, List.getElem?_cons_zero, List.getElem?_cons_succ, am_fit_i, am_fit_r, am_fit_a, show (nI 0 : Int32) = 0 by rfl, if_neg (show ¬ (1 : Int32) = 0 by decide)]
          refine am_goto I162_68 ?_
          rw [nI_1, bi_orbit_l hlt (by omega)]
          have := ih (i + 1) G2 (by omega) d1.a (hF1.tr d3)
          rw [hs, hom, e] at this
          have hb0 : (o == 0) = false := by simpa using c0
          rw [hb0] at this
          exact am_WP.fg (by simpa using this) (by simp [am_le])
theorem sp_momis {G : am_H} (hD : 5 ≤ D) (hE : EnA G pm vp) (hm : MA G l h d f) (hd8 : (bl d).length ≤ 8) (hP : ∀ G', EnA G' pm vp → Fr kE G G' → P (some (.int (nI (mkm (omB d f) 18)))) G') : am_CB X D 162 [.ref 23] G P := by
  obtain ⟨D, rfl⟩ : ∃ D0, D = D0 + 1 := ⟨D - 1, by omega⟩
  have hd0 := hm.2.2.2.2.2.1
  refine B162 60 [4] ?_
  simp only [J162_0, J162_1, J162_2, J162_3, J162_4, J162_5, J162_7, J162_10, J162_11, J162_12, J162_15, J162_18, J162_19, J162_22, J162_23, J162_24, J162_25, J162_26, J162_27, J162_28, J162_29, J162_30, J162_31, J162_32, J162_33, J162_34, J162_37, J162_38, J162_39, J162_40, J162_41, J162_44, J162_45, J162_46, J162_49, J162_50, J162_53, J162_56, J162_57, J162_58, J162_59, J162_62, J162_63, J162_64, J162_65, J162_68, J162_71, J162_72, am_gg_c, am_gf_c, am_pf_c, am_af_c, am_sf_c, am_bf_c, am_qf_c, am_ap_c, am_bp_c, am_qp_c, am_lf_c, am_kt_s, am_kt_n, am_wst, am_wstop, am_ns_0, am_ns_1, Bool.not_true, Bool.not_false, Bool.true_and, Bool.false_and, Nat.reduceBEq, ↓reduceIte, am_k2_n, am_k2_i, am_k2_r, am_k2_u, am_k2_f, am_k2_l, Nat.zero_le, true_and, and_true, true_or, or_true, am_cat_0, am_cat_i, am_cat_r, am_cat_l, am_cat_n, Nat.reduceLeDiff, Nat.reduceAdd, Option.isSome_some, List.getElem?_cons_zero, List.getElem?_cons_succ, am_fit_i, am_fit_r, am_fit_a]
  have hgo := lp_omis (X := X) (D := D) (P := P) (pm := pm) (vp := vp) (G0 := G) hd8 (by omega) (fun G' hF => hm.fr hF (by decide)) hP 17 1 G (by omega) hE Fr.rf
  have e : mkm (omB d f) 1 = 0 := by
    show 0 + (if omB d f 0 = true then 2 ^ 0 else 0) = 0
    unfold omB
    rw [hd0]; rfl
  rw [e] at hgo
  exact hgo
end HK
