section CSET
variable {X : Nat × (Nat → Int32)} {D : Nat} {G : am_H} {P : Option Value → am_H → Prop} {l h d : Nat} {f : Nat → Nat} {n : Nat} {t : Nat → Int32} {s : Nat → Option PT} {old : Bool}
theorem cs_new {G' : am_H} {l' h' d' : Nat} {f' : Nat → Nat} (hC : CSs G l h d f n t s old) (hF : Fr [0, 1, 2] G G') (h1 : CO G' true) (h2 : PB G' 1 2 l' h' d' f') : CSs G' l' h' d' f' n t s true := by
  obtain ⟨c1, c2, c3, c4, c5, c6, c7, c8⟩ := hC
  have c3' := c3.fr hF (by decide) (by decide) (by decide) (by decide)
  exact ⟨h1, h2, ⟨c3'.1, fun e => by cases e⟩, c4.fr hF (by decide) (by decide) (by decide), c5.fr hF (by decide) (by decide), c6.fr hF (by decide) (by decide), c7.fr hF (by decide) (by decide) (by decide) (by decide), c8.fr hF (by decide) (by decide) (by decide) (by decide) (by decide)⟩
theorem sp_pose {l' h' d' : Nat} (hD : 2 ≤ D) (hC : CSs G l h d f n t s old) (hl : l' ≤ 18) (hh : h' < 2 ^ 18) (hd : d' < 2 ^ 18) (hP : ∀ G', CSs G' l' h' d' (fun _ => 0) n t s true → Fr kC G G' → P none G') : am_CB X D 51 [.ref 0, .int (nI l'), .int (nI h'), .int (nI d')] G P := by
  obtain ⟨D, rfl⟩ : ∃ D0, D = D0 + 1 := ⟨D - 1, by omega⟩
  have o1 := hC.1
  unfold CO at o1
  have c2 := hC.2.1
  obtain ⟨p1, ⟨pp, p2, p3⟩, _⟩ := id c2
  refine B51 60 [] ?_
  simp only [J51_0, J51_1, J51_4, J51_5, J51_6, J51_7, J51_10, J51_11, J51_12, J51_15, am_gg_c, am_gf_c, am_pf_c, am_af_c, am_sf_c, am_bf_c, am_qf_c, am_ap_c, am_bp_c, am_qp_c, am_lf_c, am_kt_s, am_kt_n, am_wst, am_wstop, am_ns_0, am_ns_1, Bool.not_true, Bool.not_false, Bool.true_and, Bool.false_and, Nat.reduceBEq, ↓reduceIte, am_k2_n, am_k2_i, am_k2_r, am_k2_u, am_k2_f, am_k2_l, Nat.zero_le, true_and, and_true, true_or, or_true, am_cat_0, am_cat_i, am_cat_r, am_cat_l, am_cat_n, Nat.reduceLeDiff, Nat.reduceAdd, Option.isSome_some, List.getElem?_cons_zero, List.getElem?_cons_succ, am_fit_i, am_fit_r, am_fit_a, o1, p1]
  refine sp_become (by omega) p1 p2 hl hh hd (fun G1 b1 b2 => ?_)
  have o2 : am_ob G1 0 4 = some [.ref 1, .ref 3, .ref 7, .ref 10, .ref 12, .ref 14, .ref 18, .int (if old = true then 1 else 0)] := by rw [b2.ob (by decide)]; exact o1
  have k0 := am_ob_lt o2
  simp only [J51_0, J51_1, J51_4, J51_5, J51_6, J51_7, J51_10, J51_11, J51_12, J51_15, am_gg_c, am_gf_c, am_pf_c, am_af_c, am_sf_c, am_bf_c, am_qf_c, am_ap_c, am_bp_c, am_qp_c, am_lf_c, am_kt_s, am_kt_n, am_wst, am_wstop, am_ns_0, am_ns_1, Bool.not_true, Bool.not_false, Bool.true_and, Bool.false_and, Nat.reduceBEq, ↓reduceIte, am_k2_n, am_k2_i, am_k2_r, am_k2_u, am_k2_f, am_k2_l, Nat.zero_le, true_and, and_true, true_or, or_true, am_cat_0, am_cat_i, am_cat_r, am_cat_l, am_cat_n, Nat.reduceLeDiff, Nat.reduceAdd, Option.isSome_some, List.getElem?_cons_zero, List.getElem?_cons_succ, am_fit_i, am_fit_r, am_fit_a, o2, am_fit_b, List.length_cons, List.length_nil, Nat.reduceLT, List.set_cons_succ, List.set_cons_zero, am_ob_ss, k0]
  have hF2 : Fr [0] G1 (G1.set 0 (am_o 4 [.ref 1, .ref 3, .ref 7, .ref 10, .ref 12, .ref 14, .ref 18, .int 1])) := Fr.set (by decide)
  have hFF : Fr [0, 1, 2] G (G1.set 0 (am_o 4 [.ref 1, .ref 3, .ref 7, .ref 10, .ref 12, .ref 14, .ref 18, .int 1])) := (b2.up (by decide)).tr (hF2.up (by decide))
  exact hP _ (cs_new hC hFF (am_ob_ss k0) (b1.fr hF2 (by decide) (by decide))) (hFF.up (by decide))
theorem sp_poseTight {d' : Nat} {b : Bool} (hD : 3 ≤ D) (hC : CSs G l h d f n t s old) (hd : d' < 2 ^ 18) (h1 : 1 ≤ (bl d').length) (h8 : (bl d').length ≤ 8) (hP : ∀ G', CSs G' (tgS d' b).1 (tgS d' b).2.1 (tgS d' b).2.2.1 (tgS d' b).2.2.2 n t s true → Fr kC G G' → P (some (.int (nI (tgS d' b).1))) G') : am_CB X D 50 [.ref 0, .int (nI d'), .int (if b = true then 1 else 0)] G P := by
  obtain ⟨D, rfl⟩ : ∃ D0, D = D0 + 1 := ⟨D - 1, by omega⟩
  have o1 := hC.1
  unfold CO at o1
  unfold tgS at hP
  refine B50 60 [] ?_
  simp only [J50_0, J50_1, J50_2, J50_5, J50_6, J50_7, J50_8, J50_10, J50_11, J50_14, J50_17, J50_18, J50_19, J50_20, J50_21, J50_22, J50_24, J50_25, J50_26, J50_28, J50_29, J50_32, J50_33, am_gg_c, am_gf_c, am_pf_c, am_af_c, am_sf_c, am_bf_c, am_qf_c, am_ap_c, am_bp_c, am_qp_c, am_lf_c, am_kt_s, am_kt_n, am_wst, am_wstop, am_ns_0, am_ns_1, Bool.not_true, Bool.not_false, Bool.true_and, Bool.false_and, Nat.reduceBEq, ↓reduceIte, am_k2_n, am_k2_i, am_k2_r, am_k2_u, am_k2_f, am_k2_l, Nat.zero_le, true_and, and_true, true_or, or_true, am_cat_0, am_cat_i, am_cat_r, am_cat_l, am_cat_n, Nat.reduceLeDiff, Nat.reduceAdd, Option.isSome_some, List.getElem?_cons_zero, List.getElem?_cons_succ, am_fit_i, am_fit_r, am_fit_a, o1]
  refine sp_bitCount (by omega) hd ?_
  simp only [J50_0, J50_1, J50_2, J50_5, J50_6, J50_7, J50_8, J50_10, J50_11, J50_14, J50_17, J50_18, J50_19, J50_20, J50_21, J50_22, J50_24, J50_25, J50_26, J50_28, J50_29, J50_32, J50_33, am_gg_c, am_gf_c, am_pf_c, am_af_c, am_sf_c, am_bf_c, am_qf_c, am_ap_c, am_bp_c, am_qp_c, am_lf_c, am_kt_s, am_kt_n, am_wst, am_wstop, am_ns_0, am_ns_1, Bool.not_true, Bool.not_false, Bool.true_and, Bool.false_and, Nat.reduceBEq, ↓reduceIte, am_k2_n, am_k2_i, am_k2_r, am_k2_u, am_k2_f, am_k2_l, Nat.zero_le, true_and, and_true, true_or, or_true, am_cat_0, am_cat_i, am_cat_r, am_cat_l, am_cat_n, Nat.reduceLeDiff, Nat.reduceAdd, Option.isSome_some, List.getElem?_cons_zero, List.getElem?_cons_succ, am_fit_i, am_fit_r, am_fit_a, o1]
  rw [show (2 : Int32) = nI 2 by rfl, pk_mul]
  cases b with
  | true =>
    simp only [if_true, if_neg (show ¬ (1 : Int32) = 0 by decide)] at hP ⊢
    have e : (1 : Int32) <<< ((nI (2 * (bl d').length + 1) - nI 2) &&& 31) = nI (2 ^ (2 * (bl d').length + 1 - 2)) := by
      rw [pk_sub (by omega), show (1 : Int32) = nI 1 by rfl, bi_shl (by omega), Nat.one_mul]
    rw [nI_1, e]
    refine sp_pose (by omega) hC (by omega) (Nat.pow_lt_pow_right (by omega) (by omega)) hd (fun G' q1 q2 => ?_)
    simp only [J50_0, J50_1, J50_2, J50_5, J50_6, J50_7, J50_8, J50_10, J50_11, J50_14, J50_17, J50_18, J50_19, J50_20, J50_21, J50_22, J50_24, J50_25, J50_26, J50_28, J50_29, J50_32, J50_33, am_gg_c, am_gf_c, am_pf_c, am_af_c, am_sf_c, am_bf_c, am_qf_c, am_ap_c, am_bp_c, am_qp_c, am_lf_c, am_kt_s, am_kt_n, am_wst, am_wstop, am_ns_0, am_ns_1, Bool.not_true, Bool.not_false, Bool.true_and, Bool.false_and, Nat.reduceBEq, ↓reduceIte, am_k2_n, am_k2_i, am_k2_r, am_k2_u, am_k2_f, am_k2_l, Nat.zero_le, true_and, and_true, true_or, or_true, am_cat_0, am_cat_i, am_cat_r, am_cat_l, am_cat_n, Nat.reduceLeDiff, Nat.reduceAdd, Option.isSome_some, List.getElem?_cons_zero, List.getElem?_cons_succ, am_fit_i, am_fit_r, am_fit_a]
    exact hP G' q1 q2
  | false =>
    simp only [Bool.false_eq_true, if_false, if_true] at hP ⊢
    rw [show (0 : Int32) = nI 0 by rfl]
    refine sp_pose (by omega) hC (by omega) (by omega) hd (fun G' q1 q2 => ?_)
    simp only [J50_0, J50_1, J50_2, J50_5, J50_6, J50_7, J50_8, J50_10, J50_11, J50_14, J50_17, J50_18, J50_19, J50_20, J50_21, J50_22, J50_24, J50_25, J50_26, J50_28, J50_29, J50_32, J50_33, am_gg_c, am_gf_c, am_pf_c, am_af_c, am_sf_c, am_bf_c, am_qf_c, am_ap_c, am_bp_c, am_qp_c, am_lf_c, am_kt_s, am_kt_n, am_wst, am_wstop, am_ns_0, am_ns_1, Bool.not_true, Bool.not_false, Bool.true_and, Bool.false_and, Nat.reduceBEq, ↓reduceIte, am_k2_n, am_k2_i, am_k2_r, am_k2_u, am_k2_f, am_k2_l, Nat.zero_le, true_and, and_true, true_or, or_true, am_cat_0, am_cat_i, am_cat_r, am_cat_l, am_cat_n, Nat.reduceLeDiff, Nat.reduceAdd, Option.isSome_some, List.getElem?_cons_zero, List.getElem?_cons_succ, am_fit_i, am_fit_r, am_fit_a]
    exact hP G' q1 q2
theorem nmask {y m : Nat} (hy : y < 2 ^ 32) : y &&& (m ^^^ 4294967295) = 0 ↔ ∀ i, y.testBit i = true → m.testBit i = true := by
  constructor
  · intro h i hi
    have e := congrArg (fun t => t.testBit i) h
    simp only [Nat.testBit_and, Nat.testBit_xor, Nat.zero_testBit] at e
    rw [hi, show (4294967295 : Nat) = 2 ^ 32 - 1 by rfl, Nat.testBit_two_pow_sub_one] at e
    have hi32 : i < 32 := by
      rcases Nat.lt_or_ge i 32 with z | z
      · exact z
      · rw [bt_hi hy z] at hi; cases hi
    rw [decide_eq_true hi32] at e
    simpa using e
  · intro h
    apply Nat.eq_of_testBit_eq
    intro i
    rw [Nat.testBit_and, Nat.testBit_xor, Nat.zero_testBit, show (4294967295 : Nat) = 2 ^ 32 - 1 by rfl, Nat.testBit_two_pow_sub_one]
    cases c : y.testBit i with
    | false => rfl
    | true =>
      have hi32 : i < 32 := by
        rcases Nat.lt_or_ge i 32 with z | z
        · exact z
        · rw [bt_hi hy z] at c; cases c
      rw [h i c, decide_eq_true hi32]; rfl
theorem i_un (x : Int32) : ∃ n, x = nI n ∧ n < 2 ^ 32 ∧ ((0 ≤ x.toInt ∧ n < 2 ^ 31 ∧ x.toInt.toNat = n ∧ x.toInt = (n : Int)) ∨ (x.toInt < 0 ∧ 2 ^ 31 ≤ n)) := by
  refine ⟨x.toBitVec.toNat, ?_, x.toBitVec.isLt, ?_⟩
  · apply Int32.toBitVec_inj.1
    show _ = BitVec.ofNat 32 _
    simp
  · have h := BitVec.toInt_eq_toNat_cond x.toBitVec
    have e : x.toInt = x.toBitVec.toInt := rfl
    have hlt := x.toBitVec.isLt
    rw [← e] at h
    split at h <;> omega
theorem sp_cset {x y z : Int32} (hD : 4 ≤ D) (hC : CSs G l h d f n t s old) (hP : ∀ o' G', CSs G' (stS x y z (l, h, d, f)).1 (stS x y z (l, h, d, f)).2.1 (stS x y z (l, h, d, f)).2.2.1 (stS x y z (l, h, d, f)).2.2.2 n t s o' → Fr kC G G' → P (some (.int (stV x y z))) G') : am_CB X D 45 [.ref 0, .int x, .int y, .int z] G P := by
  obtain ⟨D, rfl⟩ : ∃ D0, D = D0 + 1 := ⟨D - 1, by omega⟩
  have o1 := hC.1
  unfold CO at o1
  have bad : stOK x y z = false → P (some (.int (-2))) G := fun hb => by
    unfold stS stV at hP
    rw [hb] at hP
    exact hP _ G hC Fr.rf
  have z1 : (1 : Int32).toInt = 1 := rfl
  have z18 : (18 : Int32).toInt = 18 := rfl
  refine B45 60 [] ?_
  simp only [J45_0, J45_1, J45_2, J45_5, J45_6, J45_8, J45_11, J45_13, J45_14, J45_15, J45_16, J45_17, J45_18, J45_19, J45_22, J45_23, J45_24, J45_25, J45_28, J45_30, J45_31, J45_32, J45_33, J45_35, J45_38, J45_39, J45_40, J45_41, J45_44, J45_46, J45_47, J45_48, J45_51, J45_53, J45_55, J45_56, J45_59, J45_61, J45_63, J45_66, J45_68, J45_69, J45_70, J45_71, J45_72, J45_73, J45_76, J45_78, am_gg_c, am_gf_c, am_pf_c, am_af_c, am_sf_c, am_bf_c, am_qf_c, am_ap_c, am_bp_c, am_qp_c, am_lf_c, am_kt_s, am_kt_n, am_wst, am_wstop, am_ns_0, am_ns_1, Bool.not_true, Bool.not_false, Bool.true_and, Bool.false_and, Nat.reduceBEq, ↓reduceIte, am_k2_n, am_k2_i, am_k2_r, am_k2_u, am_k2_f, am_k2_l, Nat.zero_le, true_and, and_true, true_or, or_true, am_cat_0, am_cat_i, am_cat_r, am_cat_l, am_cat_n, Nat.reduceLeDiff, Nat.reduceAdd, Option.isSome_some, List.getElem?_cons_zero, List.getElem?_cons_succ, am_fit_i, am_fit_r, am_fit_a, o1]
  by_cases c1 : x.toInt < 1
  · rw [if_pos (by rw [bi_lt]; omega)]
    exact bad (by unfold stOK; rw [decide_eq_false (by omega)]; rfl)
  rw [if_neg (by rw [bi_lt]; omega)]
  by_cases c2 : 18 < x.toInt
  · rw [if_pos (by rw [bi_lt]; omega)]
    exact bad (by unfold stOK; rw [decide_eq_false (by omega)]; rfl)
  rw [if_neg (by rw [bi_lt]; omega)]
  obtain ⟨xn, ex, ex2, ex3⟩ := i_un x
  obtain ⟨yn, ey, ey2, ey3⟩ := i_un y
  obtain ⟨zn, ez, ez2, ez3⟩ := i_un z
  have hx : xn ≤ 18 ∧ 1 ≤ xn ∧ x.toInt.toNat = xn := by omega
  have hp : 2 ^ xn ≤ 2 ^ 18 := Nat.pow_le_pow_right (by omega) hx.1
  have hsub : x - 1 + 1 = nI xn := by rw [Int32.sub_add_cancel]; exact ex
  refine sp_range (a := 0) (b := xn) (by omega) (by omega) (by omega) hsub ?_
  simp only [J45_0, J45_1, J45_2, J45_5, J45_6, J45_8, J45_11, J45_13, J45_14, J45_15, J45_16, J45_17, J45_18, J45_19, J45_22, J45_23, J45_24, J45_25, J45_28, J45_30, J45_31, J45_32, J45_33, J45_35, J45_38, J45_39, J45_40, J45_41, J45_44, J45_46, J45_47, J45_48, J45_51, J45_53, J45_55, J45_56, J45_59, J45_61, J45_63, J45_66, J45_68, J45_69, J45_70, J45_71, J45_72, J45_73, J45_76, J45_78, am_gg_c, am_gf_c, am_pf_c, am_af_c, am_sf_c, am_bf_c, am_qf_c, am_ap_c, am_bp_c, am_qp_c, am_lf_c, am_kt_s, am_kt_n, am_wst, am_wstop, am_ns_0, am_ns_1, Bool.not_true, Bool.not_false, Bool.true_and, Bool.false_and, Nat.reduceBEq, ↓reduceIte, am_k2_n, am_k2_i, am_k2_r, am_k2_u, am_k2_f, am_k2_l, Nat.zero_le, true_and, and_true, true_or, or_true, am_cat_0, am_cat_i, am_cat_r, am_cat_l, am_cat_n, Nat.reduceLeDiff, Nat.reduceAdd, Option.isSome_some, List.getElem?_cons_zero, List.getElem?_cons_succ, am_fit_i, am_fit_r, am_fit_a, o1]
  have e1 : y &&& (nI (2 ^ xn - 2 ^ 0) ^^^ (-1)) = nI (yn &&& ((2 ^ xn - 2 ^ 0) ^^^ 4294967295)) := by rw [ey, bi_not]
  have l1 : yn &&& ((2 ^ xn - 2 ^ 0) ^^^ 4294967295) < 2 ^ 32 := Nat.lt_of_le_of_lt Nat.and_le_left ey2
  have n1 : yn &&& ((2 ^ xn - 2 ^ 0) ^^^ 4294967295) = 0 ↔ yn < 2 ^ xn := by
    rw [nmask ey2]
    constructor
    · intro hb
      apply Nat.lt_pow_two_of_testBit
      intro i hi
      cases c : yn.testBit i with
      | false => rfl
      | true =>
        have := hb i c
        rw [show (2 : Nat) ^ 0 = 1 by rfl, Nat.testBit_two_pow_sub_one, decide_eq_false (by omega)] at this
        cases this
    · intro hb i hi
      rw [show (2 : Nat) ^ 0 = 1 by rfl, Nat.testBit_two_pow_sub_one]
      apply decide_eq_true
      rcases Nat.lt_or_ge i xn with z | z
      · exact z
      · rw [bt_hi hb z] at hi; cases hi
  rw [e1]
  by_cases c3 : yn < 2 ^ xn
  · rw [if_pos (by rw [n1.mpr c3]; rfl)]
    refine sp_range (a := 1) (b := 18) (by omega) (by omega) (by omega) rfl ?_
    simp only [J45_0, J45_1, J45_2, J45_5, J45_6, J45_8, J45_11, J45_13, J45_14, J45_15, J45_16, J45_17, J45_18, J45_19, J45_22, J45_23, J45_24, J45_25, J45_28, J45_30, J45_31, J45_32, J45_33, J45_35, J45_38, J45_39, J45_40, J45_41, J45_44, J45_46, J45_47, J45_48, J45_51, J45_53, J45_55, J45_56, J45_59, J45_61, J45_63, J45_66, J45_68, J45_69, J45_70, J45_71, J45_72, J45_73, J45_76, J45_78, am_gg_c, am_gf_c, am_pf_c, am_af_c, am_sf_c, am_bf_c, am_qf_c, am_ap_c, am_bp_c, am_qp_c, am_lf_c, am_kt_s, am_kt_n, am_wst, am_wstop, am_ns_0, am_ns_1, Bool.not_true, Bool.not_false, Bool.true_and, Bool.false_and, Nat.reduceBEq, ↓reduceIte, am_k2_n, am_k2_i, am_k2_r, am_k2_u, am_k2_f, am_k2_l, Nat.zero_le, true_and, and_true, true_or, or_true, am_cat_0, am_cat_i, am_cat_r, am_cat_l, am_cat_n, Nat.reduceLeDiff, Nat.reduceAdd, Option.isSome_some, List.getElem?_cons_zero, List.getElem?_cons_succ, am_fit_i, am_fit_r, am_fit_a, o1]
    have e2 : z &&& (nI (2 ^ 18 - 2 ^ 1) ^^^ (-1)) = nI (zn &&& ((2 ^ 18 - 2 ^ 1) ^^^ 4294967295)) := by rw [ez, bi_not]
    have l2 : zn &&& ((2 ^ 18 - 2 ^ 1) ^^^ 4294967295) < 2 ^ 32 := Nat.lt_of_le_of_lt Nat.and_le_left ez2
    have mb : ∀ i, i < 32 → (2 ^ 18 - 2 ^ 1 : Nat).testBit i = decide (1 ≤ i ∧ i < 18) := by decide +kernel
    have n2 : zn &&& ((2 ^ 18 - 2 ^ 1) ^^^ 4294967295) = 0 ↔ zn < 2 ^ 18 ∧ zn.testBit 0 = false := by
      rw [nmask ez2]
      have lt32 : ∀ i, zn.testBit i = true → i < 32 := fun i hi => by
        rcases Nat.lt_or_ge i 32 with z | z
        · exact z
        · rw [bt_hi ez2 z] at hi; cases hi
      constructor
      · intro hb
        constructor
        · apply Nat.lt_pow_two_of_testBit
          intro i hi
          cases c : zn.testBit i with
          | false => rfl
          | true =>
            have := hb i c
            rw [mb i (lt32 i c)] at this
            simp at this
            omega
        · cases c : zn.testBit 0 with
          | false => rfl
          | true =>
            have := hb 0 c
            rw [mb 0 (by omega)] at this
            simp at this
      · rintro ⟨h1, h2⟩ i hi
        rw [mb i (lt32 i hi)]
        apply decide_eq_true
        constructor
        · rcases Nat.eq_zero_or_pos i with z | z
          · rw [z, h2] at hi; cases hi
          · exact z
        · rcases Nat.lt_or_ge i 18 with z | z
          · exact z
          · rw [bt_hi h1 z] at hi; cases hi
    rw [e2]
    by_cases c4 : zn < 2 ^ 18 ∧ zn.testBit 0 = false
    · rw [if_pos (by rw [n2.mpr c4]; rfl)]
      have hzi : z.toInt.toNat = zn ∧ z.toInt = (zn : Int) := by omega
      have hyi : y.toInt.toNat = yn ∧ y.toInt = (yn : Int) := by omega
      have hok : stOK x y z = decide (1 ≤ (bl zn).length ∧ (bl zn).length ≤ 8) := by
        unfold stOK
        rw [hzi.1, hx.2.2, c4.2, decide_eq_true (by omega)]
        rfl
      rw [ez]
      refine sp_bitCount (by omega) c4.1 ?_
      simp only [J45_0, J45_1, J45_2, J45_5, J45_6, J45_8, J45_11, J45_13, J45_14, J45_15, J45_16, J45_17, J45_18, J45_19, J45_22, J45_23, J45_24, J45_25, J45_28, J45_30, J45_31, J45_32, J45_33, J45_35, J45_38, J45_39, J45_40, J45_41, J45_44, J45_46, J45_47, J45_48, J45_51, J45_53, J45_55, J45_56, J45_59, J45_61, J45_63, J45_66, J45_68, J45_69, J45_70, J45_71, J45_72, J45_73, J45_76, J45_78, am_gg_c, am_gf_c, am_pf_c, am_af_c, am_sf_c, am_bf_c, am_qf_c, am_ap_c, am_bp_c, am_qp_c, am_lf_c, am_kt_s, am_kt_n, am_wst, am_wstop, am_ns_0, am_ns_1, Bool.not_true, Bool.not_false, Bool.true_and, Bool.false_and, Nat.reduceBEq, ↓reduceIte, am_k2_n, am_k2_i, am_k2_r, am_k2_u, am_k2_f, am_k2_l, Nat.zero_le, true_and, and_true, true_or, or_true, am_cat_0, am_cat_i, am_cat_r, am_cat_l, am_cat_n, Nat.reduceLeDiff, Nat.reduceAdd, Option.isSome_some, List.getElem?_cons_zero, List.getElem?_cons_succ, am_fit_i, am_fit_r, am_fit_a, o1]
      have hbl := bl_le zn
      by_cases c5 : (bl zn).length < 1
      · rw [if_pos (by rw [show (1 : Int32) = nI 1 by rfl, nI_ltI (by omega) (by omega)]; exact c5)]
        exact bad (by rw [hok, decide_eq_false (by omega)])
      rw [if_neg (by rw [show (1 : Int32) = nI 1 by rfl, nI_ltI (by omega) (by omega)]; exact c5)]
      by_cases c6 : 8 < (bl zn).length
      · rw [if_pos (by rw [show (8 : Int32) = nI 8 by rfl, nI_ltI (by omega) (by omega)]; exact c6)]
        exact bad (by rw [hok, decide_eq_false (by omega)])
      rw [if_neg (by rw [show (8 : Int32) = nI 8 by rfl, nI_ltI (by omega) (by omega)]; exact c6)]
      rw [decide_eq_true (by omega)] at hok
      unfold stS stV at hP
      rw [hok] at hP
      simp only [if_true, hx.2.2, hyi.1, hzi.1] at hP
      rw [ex, ey]
      refine sp_pose (by omega) hC hx.1 (by omega) c4.1 (fun G' q1 q2 => ?_)
      simp only [J45_0, J45_1, J45_2, J45_5, J45_6, J45_8, J45_11, J45_13, J45_14, J45_15, J45_16, J45_17, J45_18, J45_19, J45_22, J45_23, J45_24, J45_25, J45_28, J45_30, J45_31, J45_32, J45_33, J45_35, J45_38, J45_39, J45_40, J45_41, J45_44, J45_46, J45_47, J45_48, J45_51, J45_53, J45_55, J45_56, J45_59, J45_61, J45_63, J45_66, J45_68, J45_69, J45_70, J45_71, J45_72, J45_73, J45_76, J45_78, am_gg_c, am_gf_c, am_pf_c, am_af_c, am_sf_c, am_bf_c, am_qf_c, am_ap_c, am_bp_c, am_qp_c, am_lf_c, am_kt_s, am_kt_n, am_wst, am_wstop, am_ns_0, am_ns_1, Bool.not_true, Bool.not_false, Bool.true_and, Bool.false_and, Nat.reduceBEq, ↓reduceIte, am_k2_n, am_k2_i, am_k2_r, am_k2_u, am_k2_f, am_k2_l, Nat.zero_le, true_and, and_true, true_or, or_true, am_cat_0, am_cat_i, am_cat_r, am_cat_l, am_cat_n, Nat.reduceLeDiff, Nat.reduceAdd, Option.isSome_some, List.getElem?_cons_zero, List.getElem?_cons_succ, am_fit_i, am_fit_r, am_fit_a]
      exact hP _ G' q1 q2
    · rw [if_neg (by rw [bi_eq0 l2, n2]; exact c4)]
      refine bad ?_
      unfold stOK
      by_cases c7 : 0 ≤ z.toInt ∧ z.toInt < 262144
      · have : zn < 2 ^ 18 := by omega
        have hzi : z.toInt.toNat = zn := by omega
        have hb : zn.testBit 0 = true := by
          cases c : zn.testBit 0 with
          | true => rfl
          | false => exact absurd ⟨this, c⟩ c4
        rw [hzi, hb]; simp
      · rw [decide_eq_false (by omega)]; rfl
  · rw [if_neg (by rw [bi_eq0 l1, n1]; exact c3)]
    refine bad ?_
    unfold stOK
    rw [hx.2.2, decide_eq_false]
    · rfl
    · intro hh
      omega
theorem sp_clangford {x y : Int32} {b : Bool} (hD : 5 ≤ D) (hC : CSs G l h d f n t s old) (hP : ∀ o' G', CSs G' (lgS x y b (l, h, d, f)).1 (lgS x y b (l, h, d, f)).2.1 (lgS x y b (l, h, d, f)).2.2.1 (lgS x y b (l, h, d, f)).2.2.2 n t s o' → Fr kC G G' → P (some (.int (lgV x y b))) G') : am_CB X D 46 [.ref 0, .int x, .int y, .int (if b = true then 1 else 0)] G P := by
  obtain ⟨D, rfl⟩ : ∃ D0, D = D0 + 1 := ⟨D - 1, by omega⟩
  have o1 := hC.1
  unfold CO at o1
  unfold lgS lgV at hP
  have bad : lgOK x y = false → P (some (.int (-2))) G := fun hb => by
    rw [hb] at hP
    exact hP _ G hC Fr.rf
  have z1 : (1 : Int32).toInt = 1 := rfl
  have z10 : (10 : Int32).toInt = 10 := rfl
  have z8 : (8 : Int32).toInt = 8 := rfl
  refine B46 60 [] ?_
  simp only [J46_0, J46_1, J46_2, J46_5, J46_6, J46_8, J46_11, J46_12, J46_13, J46_16, J46_17, J46_19, J46_22, J46_24, J46_25, J46_26, J46_27, J46_28, J46_29, J46_30, J46_31, J46_32, J46_35, J46_36, J46_39, am_gg_c, am_gf_c, am_pf_c, am_af_c, am_sf_c, am_bf_c, am_qf_c, am_ap_c, am_bp_c, am_qp_c, am_lf_c, am_kt_s, am_kt_n, am_wst, am_wstop, am_ns_0, am_ns_1, Bool.not_true, Bool.not_false, Bool.true_and, Bool.false_and, Nat.reduceBEq, ↓reduceIte, am_k2_n, am_k2_i, am_k2_r, am_k2_u, am_k2_f, am_k2_l, Nat.zero_le, true_and, and_true, true_or, or_true, am_cat_0, am_cat_i, am_cat_r, am_cat_l, am_cat_n, Nat.reduceLeDiff, Nat.reduceAdd, Option.isSome_some, List.getElem?_cons_zero, List.getElem?_cons_succ, am_fit_i, am_fit_r, am_fit_a, o1]
  by_cases c1 : x.toInt < 1
  · rw [if_pos (by rw [bi_lt]; omega)]
    exact bad (decide_eq_false (by omega))
  rw [if_neg (by rw [bi_lt]; omega)]
  by_cases c2 : 10 < x.toInt
  · rw [if_pos (by rw [bi_lt]; omega)]
    exact bad (decide_eq_false (by omega))
  rw [if_neg (by rw [bi_lt]; omega)]
  by_cases c3 : y.toInt < 1
  · rw [if_pos (by rw [bi_lt]; omega)]
    exact bad (decide_eq_false (by omega))
  rw [if_neg (by rw [bi_lt]; omega)]
  by_cases c4 : 8 < y.toInt
  · rw [if_pos (by rw [bi_lt]; omega)]
    exact bad (decide_eq_false (by omega))
  rw [if_neg (by rw [bi_lt]; omega)]
  have hok : lgOK x y = true := decide_eq_true (by omega)
  rw [hok] at hP
  simp only [if_true] at hP
  obtain ⟨ex, ex2⟩ := bi_nat (x := x) (by omega)
  obtain ⟨ey, ey2⟩ := bi_nat (x := y) (by omega)
  obtain ⟨q1, q2, q3, q4⟩ := lgD_ok x.toInt.toNat (by omega) y.toInt.toNat (by omega) (by omega) (by omega)
  have e : 2 ^ (x.toInt.toNat + y.toInt.toNat) - 2 ^ x.toInt.toNat = lgD x y := by
    unfold lgD
    rw [Nat.sub_mul, Nat.one_mul, ← Nat.pow_add, Nat.add_comm x.toInt.toNat]
  generalize lgD x y = dd at *
  have hx1 : 1 ≤ x.toInt.toNat ∧ x.toInt.toNat ≤ 10 ∧ 1 ≤ y.toInt.toNat ∧ y.toInt.toNat ≤ 8 := by omega
  have e3 : x + y - 1 + 1 = nI (x.toInt.toNat + y.toInt.toNat) := by
    rw [Int32.sub_add_cancel, ← nI_add, ← ex, ← ey]
  have q1' : dd < 2 ^ 18 := by rw [← e, Nat.add_comm, Nat.pow_add]; rw [Nat.sub_mul, Nat.one_mul] at q1; exact q1
  have q34 : 1 ≤ (bl dd).length ∧ (bl dd).length ≤ 8 := by
    have : dd = (2 ^ y.toInt.toNat - 1) * 2 ^ x.toInt.toNat := by rw [← e, Nat.sub_mul, Nat.one_mul, ← Nat.pow_add, Nat.add_comm x.toInt.toNat]
    rw [this]
    exact ⟨q3, q4⟩
  generalize hxx : x.toInt.toNat = xn at *
  rw [ex]
  rw [ex] at e3
  refine sp_range (a := xn) (b := xn + y.toInt.toNat) (by omega) (by omega) (by omega) e3 ?_
  rw [e]
  simp only [J46_0, J46_1, J46_2, J46_5, J46_6, J46_8, J46_11, J46_12, J46_13, J46_16, J46_17, J46_19, J46_22, J46_24, J46_25, J46_26, J46_27, J46_28, J46_29, J46_30, J46_31, J46_32, J46_35, J46_36, J46_39, am_gg_c, am_gf_c, am_pf_c, am_af_c, am_sf_c, am_bf_c, am_qf_c, am_ap_c, am_bp_c, am_qp_c, am_lf_c, am_kt_s, am_kt_n, am_wst, am_wstop, am_ns_0, am_ns_1, Bool.not_true, Bool.not_false, Bool.true_and, Bool.false_and, Nat.reduceBEq, ↓reduceIte, am_k2_n, am_k2_i, am_k2_r, am_k2_u, am_k2_f, am_k2_l, Nat.zero_le, true_and, and_true, true_or, or_true, am_cat_0, am_cat_i, am_cat_r, am_cat_l, am_cat_n, Nat.reduceLeDiff, Nat.reduceAdd, Option.isSome_some, List.getElem?_cons_zero, List.getElem?_cons_succ, am_fit_i, am_fit_r, am_fit_a, o1]
  refine sp_poseTight (by omega) hC q1' q34.1 q34.2 (fun G' r1 r2 => ?_)
  simp only [J46_0, J46_1, J46_2, J46_5, J46_6, J46_8, J46_11, J46_12, J46_13, J46_16, J46_17, J46_19, J46_22, J46_24, J46_25, J46_26, J46_27, J46_28, J46_29, J46_30, J46_31, J46_32, J46_35, J46_36, J46_39, am_gg_c, am_gf_c, am_pf_c, am_af_c, am_sf_c, am_bf_c, am_qf_c, am_ap_c, am_bp_c, am_qp_c, am_lf_c, am_kt_s, am_kt_n, am_wst, am_wstop, am_ns_0, am_ns_1, Bool.not_true, Bool.not_false, Bool.true_and, Bool.false_and, Nat.reduceBEq, ↓reduceIte, am_k2_n, am_k2_i, am_k2_r, am_k2_u, am_k2_f, am_k2_l, Nat.zero_le, true_and, and_true, true_or, or_true, am_cat_0, am_cat_i, am_cat_r, am_cat_l, am_cat_n, Nat.reduceLeDiff, Nat.reduceAdd, Option.isSome_some, List.getElem?_cons_zero, List.getElem?_cons_succ, am_fit_i, am_fit_r, am_fit_a]
  exact hP _ G' r1 r2
theorem sp_cnear {x y : Int32} {b : Bool} (hD : 5 ≤ D) (hC : CSs G l h d f n t s old) (hP : ∀ o' G', CSs G' (nrS x y b (l, h, d, f)).1 (nrS x y b (l, h, d, f)).2.1 (nrS x y b (l, h, d, f)).2.2.1 (nrS x y b (l, h, d, f)).2.2.2 n t s o' → Fr kC G G' → P (some (.int (nrV x y b))) G') : am_CB X D 47 [.ref 0, .int x, .int y, .int (if b = true then 1 else 0)] G P := by
  obtain ⟨D, rfl⟩ : ∃ D0, D = D0 + 1 := ⟨D - 1, by omega⟩
  have o1 := hC.1
  unfold CO at o1
  unfold nrS nrV at hP
  have bad : nrOK x y = false → P (some (.int (-2))) G := fun hb => by
    rw [hb] at hP
    exact hP _ G hC Fr.rf
  have z1 : (1 : Int32).toInt = 1 := rfl
  have z2 : (2 : Int32).toInt = 2 := rfl
  have z9 : (9 : Int32).toInt = 9 := rfl
  refine B47 60 [] ?_
  simp only [J47_0, J47_1, J47_2, J47_5, J47_6, J47_8, J47_11, J47_12, J47_13, J47_16, J47_17, J47_18, J47_21, J47_23, J47_24, J47_25, J47_26, J47_27, J47_30, J47_31, J47_32, J47_33, J47_34, J47_35, J47_36, J47_37, J47_40, am_gg_c, am_gf_c, am_pf_c, am_af_c, am_sf_c, am_bf_c, am_qf_c, am_ap_c, am_bp_c, am_qp_c, am_lf_c, am_kt_s, am_kt_n, am_wst, am_wstop, am_ns_0, am_ns_1, Bool.not_true, Bool.not_false, Bool.true_and, Bool.false_and, Nat.reduceBEq, ↓reduceIte, am_k2_n, am_k2_i, am_k2_r, am_k2_u, am_k2_f, am_k2_l, Nat.zero_le, true_and, and_true, true_or, or_true, am_cat_0, am_cat_i, am_cat_r, am_cat_l, am_cat_n, Nat.reduceLeDiff, Nat.reduceAdd, Option.isSome_some, List.getElem?_cons_zero, List.getElem?_cons_succ, am_fit_i, am_fit_r, am_fit_a, o1]
  by_cases c1 : x.toInt < 2
  · rw [if_pos (by rw [bi_lt]; omega)]
    exact bad (decide_eq_false (by omega))
  rw [if_neg (by rw [bi_lt]; omega)]
  by_cases c2 : 9 < x.toInt
  · rw [if_pos (by rw [bi_lt]; omega)]
    exact bad (decide_eq_false (by omega))
  rw [if_neg (by rw [bi_lt]; omega)]
  by_cases c3 : y.toInt < 1
  · rw [if_pos (by rw [bi_lt]; omega)]
    exact bad (decide_eq_false (by omega))
  rw [if_neg (by rw [bi_lt]; omega)]
  by_cases c4 : x.toInt < y.toInt
  · rw [if_pos (by rw [bi_lt]; omega)]
    exact bad (decide_eq_false (by omega))
  rw [if_neg (by rw [bi_lt]; omega)]
  have hok : nrOK x y = true := decide_eq_true (by omega)
  rw [hok] at hP
  simp only [if_true] at hP
  obtain ⟨ex, ex2⟩ := bi_nat (x := x) (by omega)
  obtain ⟨ey, ey2⟩ := bi_nat (x := y) (by omega)
  obtain ⟨q1, q2, q3, q4⟩ := nrD_ok x.toInt.toNat (by omega) y.toInt.toNat (by omega) (by omega) (by omega)
  have e3 : x + 1 = nI (x.toInt.toNat + 1) := by
    conv => lhs; rw [ex]
    exact nI_1 _
  refine sp_range (a := 1) (b := x.toInt.toNat + 1) (by omega) (by omega) (by omega) e3 ?_
  simp only [J47_0, J47_1, J47_2, J47_5, J47_6, J47_8, J47_11, J47_12, J47_13, J47_16, J47_17, J47_18, J47_21, J47_23, J47_24, J47_25, J47_26, J47_27, J47_30, J47_31, J47_32, J47_33, J47_34, J47_35, J47_36, J47_37, J47_40, am_gg_c, am_gf_c, am_pf_c, am_af_c, am_sf_c, am_bf_c, am_qf_c, am_ap_c, am_bp_c, am_qp_c, am_lf_c, am_kt_s, am_kt_n, am_wst, am_wstop, am_ns_0, am_ns_1, Bool.not_true, Bool.not_false, Bool.true_and, Bool.false_and, Nat.reduceBEq, ↓reduceIte, am_k2_n, am_k2_i, am_k2_r, am_k2_u, am_k2_f, am_k2_l, Nat.zero_le, true_and, and_true, true_or, or_true, am_cat_0, am_cat_i, am_cat_r, am_cat_l, am_cat_n, Nat.reduceLeDiff, Nat.reduceAdd, Option.isSome_some, List.getElem?_cons_zero, List.getElem?_cons_succ, am_fit_i, am_fit_r, am_fit_a, o1]
  have e : nI (2 ^ (x.toInt.toNat + 1) - 2 ^ 1) &&& ((1 : Int32) <<< (y &&& 31) ^^^ (-1)) = nI (nrD x y) := by
    unfold nrD
    conv => lhs; rw [ey]
    rw [show (1 : Int32) = nI 1 by rfl, bi_shl (by omega), Nat.one_mul, show (-nI 1 : Int32) = -1 by rfl, bi_not, Nat.pow_succ, Nat.sub_mul]
  rw [e]
  refine sp_poseTight (by omega) hC q1 q3 q4 (fun G' r1 r2 => ?_)
  simp only [J47_0, J47_1, J47_2, J47_5, J47_6, J47_8, J47_11, J47_12, J47_13, J47_16, J47_17, J47_18, J47_21, J47_23, J47_24, J47_25, J47_26, J47_27, J47_30, J47_31, J47_32, J47_33, J47_34, J47_35, J47_36, J47_37, J47_40, am_gg_c, am_gf_c, am_pf_c, am_af_c, am_sf_c, am_bf_c, am_qf_c, am_ap_c, am_bp_c, am_qp_c, am_lf_c, am_kt_s, am_kt_n, am_wst, am_wstop, am_ns_0, am_ns_1, Bool.not_true, Bool.not_false, Bool.true_and, Bool.false_and, Nat.reduceBEq, ↓reduceIte, am_k2_n, am_k2_i, am_k2_r, am_k2_u, am_k2_f, am_k2_l, Nat.zero_le, true_and, and_true, true_or, or_true, am_cat_0, am_cat_i, am_cat_r, am_cat_l, am_cat_n, Nat.reduceLeDiff, Nat.reduceAdd, Option.isSome_some, List.getElem?_cons_zero, List.getElem?_cons_succ, am_fit_i, am_fit_r, am_fit_a]
  exact hP _ G' r1 r2
theorem sp_cpin {x y : Int32} (hw : WF (l, h, d, f)) (hD : 4 ≤ D) (hC : CSs G l h d f n t s old) (hP : ∀ o' G', CSs G' l h d (pnF l f x y) n t s o' → Fr kC G G' → P (some (.int (pnV l f x y))) G') : am_CB X D 48 [.ref 0, .int x, .int y] G P := by
  obtain ⟨D, rfl⟩ : ∃ D0, D = D0 + 1 := ⟨D - 1, by omega⟩
  have o1 := hC.1
  unfold CO at o1
  have c2 := hC.2.1
  have p1 := c2.1
  have w2 : l ≤ 18 := hw.2.1
  have z0 : (0 : Int32).toInt = 0 := rfl
  have z17 : (17 : Int32).toInt = 17 := rfl
  unfold pnV pnF at hP
  refine B48 60 [] ?_
  simp only [J48_0, J48_1, J48_4, J48_5, J48_8, J48_11, J48_12, J48_13, J48_14, J48_17, J48_18, J48_20, J48_23, J48_25, J48_26, J48_27, J48_30, J48_31, J48_34, J48_35, J48_36, J48_39, J48_40, J48_41, J48_44, J48_45, J48_46, J48_49, J48_50, am_gg_c, am_gf_c, am_pf_c, am_af_c, am_sf_c, am_bf_c, am_qf_c, am_ap_c, am_bp_c, am_qp_c, am_lf_c, am_kt_s, am_kt_n, am_wst, am_wstop, am_ns_0, am_ns_1, Bool.not_true, Bool.not_false, Bool.true_and, Bool.false_and, Nat.reduceBEq, ↓reduceIte, am_k2_n, am_k2_i, am_k2_r, am_k2_u, am_k2_f, am_k2_l, Nat.zero_le, true_and, and_true, true_or, or_true, am_cat_0, am_cat_i, am_cat_r, am_cat_l, am_cat_n, Nat.reduceLeDiff, Nat.reduceAdd, Option.isSome_some, List.getElem?_cons_zero, List.getElem?_cons_succ, am_fit_i, am_fit_r, am_fit_a, o1, p1]
  refine sp_hasPosition (by omega) c2 ?_
  simp only [J48_0, J48_1, J48_4, J48_5, J48_8, J48_11, J48_12, J48_13, J48_14, J48_17, J48_18, J48_20, J48_23, J48_25, J48_26, J48_27, J48_30, J48_31, J48_34, J48_35, J48_36, J48_39, J48_40, J48_41, J48_44, J48_45, J48_46, J48_49, J48_50, am_gg_c, am_gf_c, am_pf_c, am_af_c, am_sf_c, am_bf_c, am_qf_c, am_ap_c, am_bp_c, am_qp_c, am_lf_c, am_kt_s, am_kt_n, am_wst, am_wstop, am_ns_0, am_ns_1, Bool.not_true, Bool.not_false, Bool.true_and, Bool.false_and, Nat.reduceBEq, ↓reduceIte, am_k2_n, am_k2_i, am_k2_r, am_k2_u, am_k2_f, am_k2_l, Nat.zero_le, true_and, and_true, true_or, or_true, am_cat_0, am_cat_i, am_cat_r, am_cat_l, am_cat_n, Nat.reduceLeDiff, Nat.reduceAdd, Option.isSome_some, List.getElem?_cons_zero, List.getElem?_cons_succ, am_fit_i, am_fit_r, am_fit_a, o1, p1]
  cases hb : inN x l with
  | false =>
    rw [hb] at hP
    simp only [Bool.false_eq_true, if_false, if_true] at hP ⊢
    exact hP _ G hC Fr.rf
  | true =>
    rw [hb] at hP
    simp only [if_true, if_neg (show ¬ (1 : Int32) = 0 by decide)] at hP ⊢
    by_cases c : 0 ≤ y.toInt ∧ y.toInt ≤ 17
    · rw [if_neg (by rw [bi_lt]; omega), if_neg (by rw [bi_lt]; omega)]
      simp only [if_pos c] at hP
      obtain ⟨e, e2⟩ := bi_nat c.1
      have hk : y.toInt.toNat ≤ 17 := by omega
      generalize y.toInt.toNat = w at *
      subst e
      obtain ⟨q, rfl, hq⟩ := inN_of hb (by omega)
      rw [nI_toInt (by omega), Int.toNat_natCast] at hP
      refine sp_pinAt (by omega) c2 ?_
      rw [hb, if_pos rfl, nI_clamp (by omega)]
      simp only [J48_0, J48_1, J48_4, J48_5, J48_8, J48_11, J48_12, J48_13, J48_14, J48_17, J48_18, J48_20, J48_23, J48_25, J48_26, J48_27, J48_30, J48_31, J48_34, J48_35, J48_36, J48_39, J48_40, J48_41, J48_44, J48_45, J48_46, J48_49, J48_50, am_gg_c, am_gf_c, am_pf_c, am_af_c, am_sf_c, am_bf_c, am_qf_c, am_ap_c, am_bp_c, am_qp_c, am_lf_c, am_kt_s, am_kt_n, am_wst, am_wstop, am_ns_0, am_ns_1, Bool.not_true, Bool.not_false, Bool.true_and, Bool.false_and, Nat.reduceBEq, ↓reduceIte, am_k2_n, am_k2_i, am_k2_r, am_k2_u, am_k2_f, am_k2_l, Nat.zero_le, true_and, and_true, true_or, or_true, am_cat_0, am_cat_i, am_cat_r, am_cat_l, am_cat_n, Nat.reduceLeDiff, Nat.reduceAdd, Option.isSome_some, List.getElem?_cons_zero, List.getElem?_cons_succ, am_fit_i, am_fit_r, am_fit_a, o1, p1]
      refine sp_putPin hk (by omega) c2 (fun G1 b1 b2 => ?_)
      have o2 : am_ob G1 0 4 = some [.ref 1, .ref 3, .ref 7, .ref 10, .ref 12, .ref 14, .ref 18, .int (if old = true then 1 else 0)] := by rw [b2.ob (by decide)]; exact o1
      have k0 := am_ob_lt o2
      simp only [J48_0, J48_1, J48_4, J48_5, J48_8, J48_11, J48_12, J48_13, J48_14, J48_17, J48_18, J48_20, J48_23, J48_25, J48_26, J48_27, J48_30, J48_31, J48_34, J48_35, J48_36, J48_39, J48_40, J48_41, J48_44, J48_45, J48_46, J48_49, J48_50, am_gg_c, am_gf_c, am_pf_c, am_af_c, am_sf_c, am_bf_c, am_qf_c, am_ap_c, am_bp_c, am_qp_c, am_lf_c, am_kt_s, am_kt_n, am_wst, am_wstop, am_ns_0, am_ns_1, Bool.not_true, Bool.not_false, Bool.true_and, Bool.false_and, Nat.reduceBEq, ↓reduceIte, am_k2_n, am_k2_i, am_k2_r, am_k2_u, am_k2_f, am_k2_l, Nat.zero_le, true_and, and_true, true_or, or_true, am_cat_0, am_cat_i, am_cat_r, am_cat_l, am_cat_n, Nat.reduceLeDiff, Nat.reduceAdd, Option.isSome_some, List.getElem?_cons_zero, List.getElem?_cons_succ, am_fit_i, am_fit_r, am_fit_a, o2, am_fit_b, List.length_cons, List.length_nil, Nat.reduceLT, List.set_cons_succ, List.set_cons_zero, am_ob_ss, k0]
      have hF2 : Fr [0] G1 (G1.set 0 (am_o 4 [.ref 1, .ref 3, .ref 7, .ref 10, .ref 12, .ref 14, .ref 18, .int 1])) := Fr.set (by decide)
      have hFF : Fr [0, 1, 2] G (G1.set 0 (am_o 4 [.ref 1, .ref 3, .ref 7, .ref 10, .ref 12, .ref 14, .ref 18, .int 1])) := (b2.up (by decide)).tr (hF2.up (by decide))
      refine hP _ _ (cs_new hC hFF (am_ob_ss k0) ?_) (hFF.up (by decide))
      have b3 := b1.fr hF2 (by decide) (by decide)
      have ef : (fun j => if inN (nI q) l = true ∧ j = (nI q).toNatClampNeg then w else f j) = (fun j => if j = q then w else f j) := by
        funext j
        rw [hb, nI_clamp (by omega)]
        simp
      rw [ef] at b3
      exact b3
    · simp only [if_neg c] at hP
      by_cases c3 : y.toInt < 0
      · rw [if_pos (by rw [bi_lt]; omega)]
        exact hP _ G hC Fr.rf
      · rw [if_neg (by rw [bi_lt]; omega), if_pos (by rw [bi_lt]; omega)]
        exact hP _ G hC Fr.rf
end CSET
