/-! mirrored(): holes and differences can be mirrored -/
section MI
variable {l h d : Nat} {f : Nat → Nat} {ipb : Bool} {a : List (Nat × Nat)}
theorem hk_fill {p : Nat} (h8 : (bl d).length ≤ 8) (hp : p < 2 * (bl d).length + 1) : filledB (2 * (bl d).length + 1) (2 ^ p) d = true := by
  have := fr_cnt (l := 2 * (bl d).length + 1) (h := 2 ^ p) (by omega) (Nat.pow_lt_pow_right (by omega) hp)
  rw [bl_pow p (by omega)] at this
  unfold filledB
  rw [decide_eq_true (by omega)]
theorem fr_hk {l p q : Nat} (hl : l ≤ 18) : (frN l (2 ^ p)).testBit q = (decide (q < l) && !decide (p = q)) := by
  rw [frN_bit hl, Nat.testBit_two_pow]
theorem mk_arr {l' h' : Nat} {s : Nat → Nat} (hl : l' ≤ 18) (hd : d < 2 ^ 18) (hd0 : d.testBit 0 = false) (hf : filledB l' h' d = true) (h1 : ∀ w, d.testBit w = true → (frN l' h').testBit (s w) = true ∧ (frN l' h').testBit (s w + w) = true) (h2 : ∀ w v, d.testBit w = true → d.testBit v = true → ∀ q, cvP q (s w) w → cvP q (s v) v → w = v) (h3 : ∀ q, (frN l' h').testBit q = true → ∃ w, d.testBit w = true ∧ cvP q (s w) w) : (arrs false l' h' d f).isEmpty = false := by
  obtain ⟨a, ha, _⟩ := ens_all (ok := okB false f) (s := s) (bl d).length (frN l' h') d (frN_lt hl) hd hd0 rfl (filled_len hf) (fun w hw => ⟨(h1 w hw).1, (h1 w hw).2, by unfold okB pnB; simp⟩) h2 h3
  have e : arrs false l' h' d f = ens (okB false f) (bl d).length (frN l' h') d := by
    unfold arrs
    rw [hf]; rfl
  rw [e]
  cases z : ens (okB false f) (bl d).length (frN l' h') d with
  | nil => rw [z] at ha; cases ha
  | cons x y => rfl
theorem hk_rev {p : Nat} (hd : d < 2 ^ 18) (hd0 : d.testBit 0 = false) (h8 : (bl d).length ≤ 8) (hp : p < 2 * (bl d).length + 1) (hn : (arrs false (2 * (bl d).length + 1) (2 ^ p) d f).isEmpty = false) : (arrs false (2 * (bl d).length + 1) (2 ^ (2 * (bl d).length - p)) d f).isEmpty = false := by
  obtain ⟨a, ha⟩ : ∃ a, a ∈ arrs false (2 * (bl d).length + 1) (2 ^ p) d f := by
    cases z : arrs false (2 * (bl d).length + 1) (2 ^ p) d f with
    | nil => rw [z] at hn; cases hn
    | cons x y => exact ⟨x, List.mem_cons_self⟩
  have hl : 2 * (bl d).length + 1 ≤ 18 := by omega
  have wt : ∀ w, d.testBit w = true → (bgN a w, w) ∈ a ∧ bgN a w + w < 2 * (bl d).length + 1 ∧ bgN a w ≠ p ∧ bgN a w + w ≠ p := fun w hw => by
    have hm := bgN_mem hd ha hw
    obtain ⟨r1, r2, _, _, _, r6⟩ := arrs_wit hl hd0 ha hm
    rw [fr_hk hl] at r1 r2
    simp only [Bool.and_eq_true, decide_eq_true_eq, Bool.not_eq_true', decide_eq_false_iff_not] at r1 r2
    exact ⟨hm, r6, fun e => r1.2 e.symm, fun e => r2.2 e.symm⟩
  refine mk_arr (s := fun w => 2 * (bl d).length - (bgN a w + w)) hl hd hd0 (hk_fill h8 (by omega)) (fun w hw => ?_) (fun w v hw hv q c1 c2 => ?_) (fun q hq => ?_)
  · obtain ⟨_, g1, g2, g3⟩ := wt w hw
    rw [fr_hk hl, fr_hk hl]
    simp only [Bool.and_eq_true, decide_eq_true_eq, Bool.not_eq_true', decide_eq_false_iff_not]
    omega
  · obtain ⟨m1, g1, _, _⟩ := wt w hw
    obtain ⟨m2, g2, _, _⟩ := wt v hv
    refine (arrs_dis hl hd0 ha _ _ _ _ m1 m2 (2 * (bl d).length - q) ?_ ?_).2
    · rcases c1 with z | z
      · exact Or.inr (by omega)
      · exact Or.inl (by omega)
    · rcases c2 with z | z
      · exact Or.inr (by omega)
      · exact Or.inl (by omega)
  · rw [fr_hk hl] at hq
    simp only [Bool.and_eq_true, decide_eq_true_eq, Bool.not_eq_true', decide_eq_false_iff_not] at hq
    obtain ⟨p0, w, hm, hc⟩ := arrs_cov hl hd0 ha (q := 2 * (bl d).length - q) (by
      rw [fr_hk hl]
      simp only [Bool.and_eq_true, decide_eq_true_eq, Bool.not_eq_true', decide_eq_false_iff_not]
      omega)
    obtain ⟨_, _, _, r4, _, r6⟩ := arrs_wit hl hd0 ha hm
    have e := bg_mem hl hd hd0 ha hm
    refine ⟨w, r4, ?_⟩
    show q = 2 * (bl d).length - (bgN a w + w) ∨ q = 2 * (bl d).length - (bgN a w + w) + w
    rw [e]
    rcases hc with z | z <;> omega
theorem hk_0 (hl : l ≤ 18) (hd : d < 2 ^ 18) (hd0 : d.testBit 0 = false) (h8 : (bl d).length ≤ 8) (ha : a ∈ arrs ipb l 0 d f) : (arrs false (2 * (bl d).length + 1) (2 ^ 0) d f).isEmpty = false := by
  have hc := fr_cnt (l := l) (h := 0) hl (Nat.two_pow_pos _)
  have hfl := filled_len (filled_of ha).1
  have e0 : (bl 0).length = 0 := by decide +kernel
  have hl2 : l = 2 * (bl d).length := by omega
  have hl3 : 2 * (bl d).length + 1 ≤ 18 := by omega
  have wt : ∀ w, d.testBit w = true → (bgN a w, w) ∈ a ∧ bgN a w + w < l := fun w hw => by
    have hm := bgN_mem hd ha hw
    obtain ⟨_, _, _, _, _, r6⟩ := arrs_wit hl hd0 ha hm
    exact ⟨hm, r6⟩
  refine mk_arr (s := fun w => bgN a w + 1) hl3 hd hd0 (hk_fill h8 (by omega)) (fun w hw => ?_) (fun w v hw hv q c1 c2 => ?_) (fun q hq => ?_)
  · obtain ⟨_, g1⟩ := wt w hw
    rw [fr_hk hl3, fr_hk hl3]
    simp only [Bool.and_eq_true, decide_eq_true_eq, Bool.not_eq_true', decide_eq_false_iff_not]
    omega
  · obtain ⟨m1, g1⟩ := wt w hw
    obtain ⟨m2, g2⟩ := wt v hv
    refine (arrs_dis hl hd0 ha _ _ _ _ m1 m2 (q - 1) ?_ ?_).2
    · rcases c1 with z | z
      · exact Or.inl (by omega)
      · exact Or.inr (by omega)
    · rcases c2 with z | z
      · exact Or.inl (by omega)
      · exact Or.inr (by omega)
  · rw [fr_hk hl3] at hq
    simp only [Bool.and_eq_true, decide_eq_true_eq, Bool.not_eq_true', decide_eq_false_iff_not] at hq
    obtain ⟨p0, w, hm, hc⟩ := arrs_cov hl hd0 ha (q := q - 1) (by
      rw [frN_bit hl, decide_eq_true (by omega), Nat.zero_testBit]; rfl)
    obtain ⟨_, _, _, r4, _, r6⟩ := arrs_wit hl hd0 ha hm
    have e := bg_mem hl hd hd0 ha hm
    refine ⟨w, r4, ?_⟩
    show q = bgN a w + 1 ∨ q = bgN a w + 1 + w
    rw [e]
    rcases hc with z | z <;> omega
theorem hk_bit (q : Nat) : (hkM d f).testBit q = (decide (q < 2 * (bl d).length + 1) && !(arrs false (2 * (bl d).length + 1) (2 ^ q) d f).isEmpty) := by
  unfold hkM
  rw [mkm_bit]
theorem hk_sym {p : Nat} (hd : d < 2 ^ 18) (hd0 : d.testBit 0 = false) (h8 : (bl d).length ≤ 8) (hp : p < 2 * (bl d).length + 1) : (hkM d f).testBit p = (hkM d f).testBit (2 * (bl d).length - p) := by
  rw [hk_bit, hk_bit, decide_eq_true hp, decide_eq_true (by omega), Bool.true_and, Bool.true_and]
  cases e : (arrs false (2 * (bl d).length + 1) (2 ^ p) d f).isEmpty with
  | false => rw [hk_rev hd hd0 h8 hp e]
  | true =>
    cases e2 : (arrs false (2 * (bl d).length + 1) (2 ^ (2 * (bl d).length - p)) d f).isEmpty with
    | true => rfl
    | false =>
      have := hk_rev hd hd0 h8 (by omega) e2
      rw [show 2 * (bl d).length - (2 * (bl d).length - p) = p by omega, e] at this
      cases this
end MI
section MIW
variable {X : Nat × (Nat → Int32)} {D : Nat} {G : am_H} {P : Option Value → am_H → Prop} {l h d : Nat} {f : Nat → Nat} {n : Nat} {t : Nat → Int32} {s : Nat → Option PT}
theorem lp_mirr {x1 : Option Value} (hD : 17 ≤ D) (hP : ∀ G1, ST G1 l h d f n t s → am_WP X D 102 54 [some (.ref 0), x1, some (.int (nI (2 * (bl d).length + 1))), some (.int (nI (hkM d f))), none] [] G1 0 0 P) : ∀ (m p : Nat), p + m = 2 * (bl d).length + 1 → ∀ (G : am_H), ST G l h d f n t s → am_WP X D 102 21 [some (.ref 0), x1, some (.int (nI (2 * (bl d).length + 1))), some (.int (nI (hkM d f))), some (.int (nI p))] [] G 0 0 P := by
  intro m
  induction m with
  | zero =>
    intro p hp G hS
    obtain ⟨w1, w2, w3, w4, w5, w6, w7, w8⟩ := hS.wf
    refine am_wps 60 [51, 54] ?_
    simp only [J102_0, J102_1, J102_2, J102_3, J102_6, J102_9, J102_10, J102_11, J102_12, J102_13, J102_14, J102_17, J102_18, J102_19, J102_21, J102_23, J102_24, J102_27, J102_28, J102_30, J102_31, J102_32, J102_33, J102_34, J102_35, J102_36, J102_37, J102_39, J102_40, J102_41, J102_42, J102_43, J102_46, J102_47, J102_48, J102_51, J102_54, J102_55, J102_58, J102_59, J102_60, J102_63, J102_64, J102_65, J102_66, J102_69, J102_70, J102_71, J102_72, J102_75, J102_76, J102_77, J102_78, J102_79, J102_82, J102_85, J102_86, J102_89, J102_90, J102_91, J102_92, J102_93, J102_96, J102_97, J102_100, J102_101, am_gg_c, am_gf_c, am_pf_c, am_af_c, am_sf_c, am_bf_c, am_qf_c, am_ap_c, am_bp_c, am_qp_c, am_lf_c, am_kt_s, am_kt_n, am_wst, am_wstop, am_ns_0, am_ns_1, Bool.not_true, Bool.not_false, Bool.true_and, Bool.false_and, Nat.reduceBEq, ↓reduceIte, am_k2_n, am_k2_i, am_k2_r, am_k2_u, am_k2_f, am_k2_l, Nat.zero_le, true_and, and_true, true_or, or_true, am_cat_0, am_cat_i, am_cat_r, am_cat_l, am_cat_n, Nat.reduceLeDiff, Nat.reduceAdd, Option.isSome_some, List.getElem?_cons_zero, List.getElem?_cons_succ, am_fit_i, am_fit_r, am_fit_a]
    rw [if_neg (by rw [nI_ltI (by omega) (by omega)]; omega)]
    exact am_WP.fg (hP _ hS) (by simp [am_le])
  | succ m ih =>
    intro p hp G hS
    obtain ⟨w1, w2, w3, w4, w5, w6, w7, w8⟩ := hS.wf
    have hlt : hkM d f < 2 ^ (2 * (bl d).length + 1) := mkm_lt _ _
    have h17 : 2 ^ (2 * (bl d).length + 1) ≤ 2 ^ 17 := Nat.pow_le_pow_right (by omega) (by omega)
    refine am_wps 60 [51] ?_
    simp only [J102_0, J102_1, J102_2, J102_3, J102_6, J102_9, J102_10, J102_11, J102_12, J102_13, J102_14, J102_17, J102_18, J102_19, J102_21, J102_23, J102_24, J102_27, J102_28, J102_30, J102_31, J102_32, J102_33, J102_34, J102_35, J102_36, J102_37, J102_39, J102_40, J102_41, J102_42, J102_43, J102_46, J102_47, J102_48, J102_51, J102_54, J102_55, J102_58, J102_59, J102_60, J102_63, J102_64, J102_65, J102_66, J102_69, J102_70, J102_71, J102_72, J102_75, J102_76, J102_77, J102_78, J102_79, J102_82, J102_85, J102_86, J102_89, J102_90, J102_91, J102_92, J102_93, J102_96, J102_97, J102_100, J102_101, am_gg_c, am_gf_c, am_pf_c, am_af_c, am_sf_c, am_bf_c, am_qf_c, am_ap_c, am_bp_c, am_qp_c, am_lf_c, am_kt_s, am_kt_n, am_wst, am_wstop, am_ns_0, am_ns_1, Bool.not_true, Bool.not_false, Bool.true_and, Bool.false_and, Nat.reduceBEq, ↓reduceIte, am_k2_n, am_k2_i, am_k2_r, am_k2_u, am_k2_f, am_k2_l, Nat.zero_le, true_and, and_true, true_or, or_true, am_cat_0, am_cat_i, am_cat_r, am_cat_l, am_cat_n, Nat.reduceLeDiff, Nat.reduceAdd, Option.isSome_some, List.getElem?_cons_zero, List.getElem?_cons_succ, am_fit_i, am_fit_r, am_fit_a]
    have e : nI (2 * (bl d).length + 1) - 1 - nI p = nI (2 * (bl d).length - p) := by
      rw [bi_lit1, pk_sub (by omega), pk_sub (by omega), show 2 * (bl d).length + 1 - 1 - p = 2 * (bl d).length - p by omega]
    rw [if_pos (by rw [nI_ltI (by omega) (by omega)]; omega), e, bi_shr (by omega) (by omega), bi_shr (by omega) (by omega), bi_bit, bi_bit, if_pos (by rw [hk_sym w4 w5 w8 (by omega)])]
    refine am_goto I102_51 ?_
    rw [nI_1]
    exact ih (p + 1) (by omega) _ hS
theorem sp_mirrored (hD : 19 ≤ D) (hS : ST G l h d f n t s) (hP : ∀ G1, ST G1 l h d f n t s → P (some (.int 1)) G1) : am_CB X D 102 [.ref 0, .int (nI (arrs true l h d f).length)] G P := by
  obtain ⟨D, rfl⟩ : ∃ D0, D = D0 + 1 := ⟨D - 1, by omega⟩
  obtain ⟨w1, w2, w3, w4, w5, w6, w7, w8⟩ := hS.wf
  have hA := hS.len
  have hh18 : h < 2 ^ 18 := Nat.lt_of_lt_of_le w3 (Nat.pow_le_pow_right (by omega) w2)
  have hlt : hkM d f < 2 ^ (2 * (bl d).length + 1) := mkm_lt _ _
  have h17 : 2 ^ (2 * (bl d).length + 1) ≤ 2 ^ 17 := Nat.pow_le_pow_right (by omega) (by omega)
  refine B102 100 [21] ?_
  simp only [J102_0, J102_1, J102_2, J102_3, J102_6, J102_9, J102_10, J102_11, J102_12, J102_13, J102_14, J102_17, J102_18, J102_19, J102_21, J102_23, J102_24, J102_27, J102_28, J102_30, J102_31, J102_32, J102_33, J102_34, J102_35, J102_36, J102_37, J102_39, J102_40, J102_41, J102_42, J102_43, J102_46, J102_47, J102_48, J102_51, J102_54, J102_55, J102_58, J102_59, J102_60, J102_63, J102_64, J102_65, J102_66, J102_69, J102_70, J102_71, J102_72, J102_75, J102_76, J102_77, J102_78, J102_79, J102_82, J102_85, J102_86, J102_89, J102_90, J102_91, J102_92, J102_93, J102_96, J102_97, J102_100, J102_101, am_gg_c, am_gf_c, am_pf_c, am_af_c, am_sf_c, am_bf_c, am_qf_c, am_ap_c, am_bp_c, am_qp_c, am_lf_c, am_kt_s, am_kt_n, am_wst, am_wstop, am_ns_0, am_ns_1, Bool.not_true, Bool.not_false, Bool.true_and, Bool.false_and, Nat.reduceBEq, ↓reduceIte, am_k2_n, am_k2_i, am_k2_r, am_k2_u, am_k2_f, am_k2_l, Nat.zero_le, true_and, and_true, true_or, or_true, am_cat_0, am_cat_i, am_cat_r, am_cat_l, am_cat_n, Nat.reduceLeDiff, Nat.reduceAdd, Option.isSome_some, List.getElem?_cons_zero, List.getElem?_cons_succ, am_fit_i, am_fit_r, am_fit_a]
  refine k_problem (by omega) hS v_p2 (fun G1 hS => ?_)
  simp only [J102_0, J102_1, J102_2, J102_3, J102_6, J102_9, J102_10, J102_11, J102_12, J102_13, J102_14, J102_17, J102_18, J102_19, J102_21, J102_23, J102_24, J102_27, J102_28, J102_30, J102_31, J102_32, J102_33, J102_34, J102_35, J102_36, J102_37, J102_39, J102_40, J102_41, J102_42, J102_43, J102_46, J102_47, J102_48, J102_51, J102_54, J102_55, J102_58, J102_59, J102_60, J102_63, J102_64, J102_65, J102_66, J102_69, J102_70, J102_71, J102_72, J102_75, J102_76, J102_77, J102_78, J102_79, J102_82, J102_85, J102_86, J102_89, J102_90, J102_91, J102_92, J102_93, J102_96, J102_97, J102_100, J102_101, am_gg_c, am_gf_c, am_pf_c, am_af_c, am_sf_c, am_bf_c, am_qf_c, am_ap_c, am_bp_c, am_qp_c, am_lf_c, am_kt_s, am_kt_n, am_wst, am_wstop, am_ns_0, am_ns_1, Bool.not_true, Bool.not_false, Bool.true_and, Bool.false_and, Nat.reduceBEq, ↓reduceIte, am_k2_n, am_k2_i, am_k2_r, am_k2_u, am_k2_f, am_k2_l, Nat.zero_le, true_and, and_true, true_or, or_true, am_cat_0, am_cat_i, am_cat_r, am_cat_l, am_cat_n, Nat.reduceLeDiff, Nat.reduceAdd, Option.isSome_some, List.getElem?_cons_zero, List.getElem?_cons_succ, am_fit_i, am_fit_r, am_fit_a]
  refine sp_bits (by omega) w4 ?_
  simp only [J102_0, J102_1, J102_2, J102_3, J102_6, J102_9, J102_10, J102_11, J102_12, J102_13, J102_14, J102_17, J102_18, J102_19, J102_21, J102_23, J102_24, J102_27, J102_28, J102_30, J102_31, J102_32, J102_33, J102_34, J102_35, J102_36, J102_37, J102_39, J102_40, J102_41, J102_42, J102_43, J102_46, J102_47, J102_48, J102_51, J102_54, J102_55, J102_58, J102_59, J102_60, J102_63, J102_64, J102_65, J102_66, J102_69, J102_70, J102_71, J102_72, J102_75, J102_76, J102_77, J102_78, J102_79, J102_82, J102_85, J102_86, J102_89, J102_90, J102_91, J102_92, J102_93, J102_96, J102_97, J102_100, J102_101, am_gg_c, am_gf_c, am_pf_c, am_af_c, am_sf_c, am_bf_c, am_qf_c, am_ap_c, am_bp_c, am_qp_c, am_lf_c, am_kt_s, am_kt_n, am_wst, am_wstop, am_ns_0, am_ns_1, Bool.not_true, Bool.not_false, Bool.true_and, Bool.false_and, Nat.reduceBEq, ↓reduceIte, am_k2_n, am_k2_i, am_k2_r, am_k2_u, am_k2_f, am_k2_l, Nat.zero_le, true_and, and_true, true_or, or_true, am_cat_0, am_cat_i, am_cat_r, am_cat_l, am_cat_n, Nat.reduceLeDiff, Nat.reduceAdd, Option.isSome_some, List.getElem?_cons_zero, List.getElem?_cons_succ, am_fit_i, am_fit_r, am_fit_a]
  rw [show (2 : Int32) = nI 2 by rfl, pk_mul, nI_1]
  refine k_hooks (by omega) hS rfl (fun G1 hS => ?_)
  simp only [J102_0, J102_1, J102_2, J102_3, J102_6, J102_9, J102_10, J102_11, J102_12, J102_13, J102_14, J102_17, J102_18, J102_19, J102_21, J102_23, J102_24, J102_27, J102_28, J102_30, J102_31, J102_32, J102_33, J102_34, J102_35, J102_36, J102_37, J102_39, J102_40, J102_41, J102_42, J102_43, J102_46, J102_47, J102_48, J102_51, J102_54, J102_55, J102_58, J102_59, J102_60, J102_63, J102_64, J102_65, J102_66, J102_69, J102_70, J102_71, J102_72, J102_75, J102_76, J102_77, J102_78, J102_79, J102_82, J102_85, J102_86, J102_89, J102_90, J102_91, J102_92, J102_93, J102_96, J102_97, J102_100, J102_101, am_gg_c, am_gf_c, am_pf_c, am_af_c, am_sf_c, am_bf_c, am_qf_c, am_ap_c, am_bp_c, am_qp_c, am_lf_c, am_kt_s, am_kt_n, am_wst, am_wstop, am_ns_0, am_ns_1, Bool.not_true, Bool.not_false, Bool.true_and, Bool.false_and, Nat.reduceBEq, ↓reduceIte, am_k2_n, am_k2_i, am_k2_r, am_k2_u, am_k2_f, am_k2_l, Nat.zero_le, true_and, and_true, true_or, or_true, am_cat_0, am_cat_i, am_cat_r, am_cat_l, am_cat_n, Nat.reduceLeDiff, Nat.reduceAdd, Option.isSome_some, List.getElem?_cons_zero, List.getElem?_cons_succ, am_fit_i, am_fit_r, am_fit_a]
  refine am_WP.fg (lp_mirr (x1 := some (.int (nI (arrs true l h d f).length))) (by omega) (fun G1 hS => ?_) (2 * (bl d).length + 1) 0 (by omega) _ hS) (by simp [am_le, nI_0])
  refine am_wps 100 [] ?_
  simp only [J102_0, J102_1, J102_2, J102_3, J102_6, J102_9, J102_10, J102_11, J102_12, J102_13, J102_14, J102_17, J102_18, J102_19, J102_21, J102_23, J102_24, J102_27, J102_28, J102_30, J102_31, J102_32, J102_33, J102_34, J102_35, J102_36, J102_37, J102_39, J102_40, J102_41, J102_42, J102_43, J102_46, J102_47, J102_48, J102_51, J102_54, J102_55, J102_58, J102_59, J102_60, J102_63, J102_64, J102_65, J102_66, J102_69, J102_70, J102_71, J102_72, J102_75, J102_76, J102_77, J102_78, J102_79, J102_82, J102_85, J102_86, J102_89, J102_90, J102_91, J102_92, J102_93, J102_96, J102_97, J102_100, J102_101, am_gg_c, am_gf_c, am_pf_c, am_af_c, am_sf_c, am_bf_c, am_qf_c, am_ap_c, am_bp_c, am_qp_c, am_lf_c, am_kt_s, am_kt_n, am_wst, am_wstop, am_ns_0, am_ns_1, Bool.not_true, Bool.not_false, Bool.true_and, Bool.false_and, Nat.reduceBEq, ↓reduceIte, am_k2_n, am_k2_i, am_k2_r, am_k2_u, am_k2_f, am_k2_l, Nat.zero_le, true_and, and_true, true_or, or_true, am_cat_0, am_cat_i, am_cat_r, am_cat_l, am_cat_n, Nat.reduceLeDiff, Nat.reduceAdd, Option.isSome_some, List.getElem?_cons_zero, List.getElem?_cons_succ, am_fit_i, am_fit_r, am_fit_a]
  refine k_omis (by omega) hS rfl (fun G1 hS => ?_)
  simp only [J102_0, J102_1, J102_2, J102_3, J102_6, J102_9, J102_10, J102_11, J102_12, J102_13, J102_14, J102_17, J102_18, J102_19, J102_21, J102_23, J102_24, J102_27, J102_28, J102_30, J102_31, J102_32, J102_33, J102_34, J102_35, J102_36, J102_37, J102_39, J102_40, J102_41, J102_42, J102_43, J102_46, J102_47, J102_48, J102_51, J102_54, J102_55, J102_58, J102_59, J102_60, J102_63, J102_64, J102_65, J102_66, J102_69, J102_70, J102_71, J102_72, J102_75, J102_76, J102_77, J102_78, J102_79, J102_82, J102_85, J102_86, J102_89, J102_90, J102_91, J102_92, J102_93, J102_96, J102_97, J102_100, J102_101, am_gg_c, am_gf_c, am_pf_c, am_af_c, am_sf_c, am_bf_c, am_qf_c, am_ap_c, am_bp_c, am_qp_c, am_lf_c, am_kt_s, am_kt_n, am_wst, am_wstop, am_ns_0, am_ns_1, Bool.not_true, Bool.not_false, Bool.true_and, Bool.false_and, Nat.reduceBEq, ↓reduceIte, am_k2_n, am_k2_i, am_k2_r, am_k2_u, am_k2_f, am_k2_l, Nat.zero_le, true_and, and_true, true_or, or_true, am_cat_0, am_cat_i, am_cat_r, am_cat_l, am_cat_n, Nat.reduceLeDiff, Nat.reduceAdd, Option.isSome_some, List.getElem?_cons_zero, List.getElem?_cons_succ, am_fit_i, am_fit_r, am_fit_a]
  refine k_problem (by omega) hS v_p2 (fun G1 hS => ?_)
  simp only [J102_0, J102_1, J102_2, J102_3, J102_6, J102_9, J102_10, J102_11, J102_12, J102_13, J102_14, J102_17, J102_18, J102_19, J102_21, J102_23, J102_24, J102_27, J102_28, J102_30, J102_31, J102_32, J102_33, J102_34, J102_35, J102_36, J102_37, J102_39, J102_40, J102_41, J102_42, J102_43, J102_46, J102_47, J102_48, J102_51, J102_54, J102_55, J102_58, J102_59, J102_60, J102_63, J102_64, J102_65, J102_66, J102_69, J102_70, J102_71, J102_72, J102_75, J102_76, J102_77, J102_78, J102_79, J102_82, J102_85, J102_86, J102_89, J102_90, J102_91, J102_92, J102_93, J102_96, J102_97, J102_100, J102_101, am_gg_c, am_gf_c, am_pf_c, am_af_c, am_sf_c, am_bf_c, am_qf_c, am_ap_c, am_bp_c, am_qp_c, am_lf_c, am_kt_s, am_kt_n, am_wst, am_wstop, am_ns_0, am_ns_1, Bool.not_true, Bool.not_false, Bool.true_and, Bool.false_and, Nat.reduceBEq, ↓reduceIte, am_k2_n, am_k2_i, am_k2_r, am_k2_u, am_k2_f, am_k2_l, Nat.zero_le, true_and, and_true, true_or, or_true, am_cat_0, am_cat_i, am_cat_r, am_cat_l, am_cat_n, Nat.reduceLeDiff, Nat.reduceAdd, Option.isSome_some, List.getElem?_cons_zero, List.getElem?_cons_succ, am_fit_i, am_fit_r, am_fit_a]
  have hom := mkm_lt (omB d f) 18
  have e0 : mkm (omB d f) 18 &&& (d ^^^ 4294967295) = 0 := (nmask (by omega)).mpr (fun i hi => by
    rw [mkm_bit] at hi
    unfold omB at hi
    simp only [Bool.and_eq_true] at hi
    exact hi.2.1)
  rw [bi_not, e0, if_pos (show nI 0 = 0 from rfl), bi_shr (by omega) (by omega), Nat.div_eq_of_lt hlt, if_pos (show nI 0 = 0 from rfl)]
  refine k_problem (by omega) hS v_p1 (fun G1 hS => ?_)
  simp only [J102_0, J102_1, J102_2, J102_3, J102_6, J102_9, J102_10, J102_11, J102_12, J102_13, J102_14, J102_17, J102_18, J102_19, J102_21, J102_23, J102_24, J102_27, J102_28, J102_30, J102_31, J102_32, J102_33, J102_34, J102_35, J102_36, J102_37, J102_39, J102_40, J102_41, J102_42, J102_43, J102_46, J102_47, J102_48, J102_51, J102_54, J102_55, J102_58, J102_59, J102_60, J102_63, J102_64, J102_65, J102_66, J102_69, J102_70, J102_71, J102_72, J102_75, J102_76, J102_77, J102_78, J102_79, J102_82, J102_85, J102_86, J102_89, J102_90, J102_91, J102_92, J102_93, J102_96, J102_97, J102_100, J102_101, am_gg_c, am_gf_c, am_pf_c, am_af_c, am_sf_c, am_bf_c, am_qf_c, am_ap_c, am_bp_c, am_qp_c, am_lf_c, am_kt_s, am_kt_n, am_wst, am_wstop, am_ns_0, am_ns_1, Bool.not_true, Bool.not_false, Bool.true_and, Bool.false_and, Nat.reduceBEq, ↓reduceIte, am_k2_n, am_k2_i, am_k2_r, am_k2_u, am_k2_f, am_k2_l, Nat.zero_le, true_and, and_true, true_or, or_true, am_cat_0, am_cat_i, am_cat_r, am_cat_l, am_cat_n, Nat.reduceLeDiff, Nat.reduceAdd, Option.isSome_some, List.getElem?_cons_zero, List.getElem?_cons_succ, am_fit_i, am_fit_r, am_fit_a]
  by_cases c : h = 0
  · subst c
    rw [if_pos (show nI 0 = 0 from rfl)]
    by_cases c2 : (arrs true l 0 d f).length = 0
    · rw [if_pos (by rw [c2]; rfl)]
      exact hP _ hS
    · rw [if_neg (nI_ne0 (by omega) (by omega))]
      obtain ⟨a, ha⟩ := List.exists_mem_of_length_pos (show 0 < (arrs true l 0 d f).length by omega)
      have hb : (hkM d f).testBit 0 = true := by
        rw [hk_bit, hk_0 w2 w4 w5 w8 ha, decide_eq_true (by omega)]; rfl
      rw [Nat.testBit_zero] at hb
      have hb : hkM d f % 2 = 1 := by simpa using hb
      rw [bi_and1, hb, if_pos (show nI 1 = 1 from rfl)]
      exact hP _ hS
  · rw [if_neg (nI_ne0 (by omega) (by omega))]
    exact hP _ hS
end MIW
