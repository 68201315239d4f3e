section PROB
variable {X : Nat × (Nat → Int32)} {D : Nat} {G : am_H} {P : Option Value → am_H → Prop} {k pk l h d : Nat} {f : Nat → Nat}
def iI (z : Int) : Int32 := Int32.ofInt z
theorem iI_n (n : Nat) : nI n = iI (n : Int) := by
  apply Int32.toBitVec_inj.1
  show BitVec.ofNat 32 n = BitVec.ofInt 32 (n : Int)
  simp
theorem iI_add (a b : Int) : iI a + iI b = iI (a + b) := by
  apply Int32.toBitVec_inj.1
  show BitVec.ofInt 32 a + BitVec.ofInt 32 b = BitVec.ofInt 32 (a + b)
  exact (BitVec.ofInt_add a b).symm
theorem iI_neg (a : Int) : -iI a = iI (-a) := by
  apply Int32.toBitVec_inj.1
  show -BitVec.ofInt 32 a = BitVec.ofInt 32 (-a)
  exact BitVec.ofInt_neg.symm
theorem iI_sub (a b : Int) : iI a - iI b = iI (a - b) := by
  rw [Int32.sub_eq_add_neg, iI_neg, iI_add]; rfl
theorem iI_toInt {z : Int} (h1 : -(2 : Int) ^ 31 ≤ z) (h2 : z < 2 ^ 31) : (iI z).toInt = z := Int32.toInt_ofInt_of_le (by simpa using h1) (by simpa using h2)
def gS (F half : Nat) : Nat → Nat × Int
  | 0 => (0, 0)
  | p + 1 => if F.testBit p = true then ((gS F half p).1 + 1, (gS F half p).2 + (if (gS F half p).1 < half then -(p : Int) else (p : Int))) else gS F half p
theorem gS_le (F half : Nat) : ∀ p, (gS F half p).1 ≤ p
  | 0 => Nat.le_refl _
  | p + 1 => by
    have := gS_le F half p
    unfold gS
    split <;> omega
def shN (l h d : Nat) : Int := (gS (frN l h) ((bl (frN l h)).length / 2) l).2 - (bsm d 0 31 : Nat)
theorem lp_shortfall (hD : 2 ≤ D) (hp : PB G k pk l h d f) (hP : P (some (.int (iI (shN l h d)))) G) : ∀ (n i : Nat) (a b e : Int32), i + n = l → a = nI (gS (frN l h) ((bl (frN l h)).length / 2) i).1 → b = iI (gS (frN l h) ((bl (frN l h)).length / 2) i).2 → e = nI i → am_WP X D 38 20 [some (.ref k), some (.int (nI (frN l h))), some (.int (nI ((bl (frN l h)).length / 2))), some (.int a), some (.int b), some (.int e)] [] G 0 0 P
  | 0, i, a, b, e, hi, ha, hb, he => by
    obtain ⟨h1, h2, hl, hh, hd, hf⟩ := id hp
    refine am_wps 40 [62] ?_
    simp only [J38_0, J38_1, J38_4, J38_5, J38_6, J38_9, J38_10, J38_11, J38_12, J38_13, J38_14, J38_15, J38_17, J38_18, J38_20, J38_22, J38_23, J38_26, J38_29, J38_30, J38_32, J38_35, J38_38, J38_40, J38_41, J38_42, J38_45, J38_47, J38_48, J38_51, J38_53, J38_54, J38_56, J38_59, J38_62, J38_65, J38_67, J38_68, J38_71, J38_74, J38_75, am_gg_c, am_gf_c, am_pf_c, am_af_c, am_sf_c, am_bf_c, am_qf_c, am_ap_c, am_bp_c, am_qp_c, am_lf_c, am_kt_s, am_kt_n, am_wst, am_wstop, am_ns_0, am_ns_1, Bool.not_true, Bool.not_false, Bool.true_and, Bool.false_and, Nat.reduceBEq, ↓reduceIte, am_k2_n, am_k2_i, am_k2_r, am_k2_u, am_k2_f, am_k2_l, Nat.zero_le, true_and, and_true, true_or, or_true, am_cat_0, am_cat_i, am_cat_r, am_cat_l, am_cat_n, Nat.reduceLeDiff, Nat.reduceAdd, Option.isSome_some, List.getElem?_cons_zero, List.getElem?_cons_succ, am_fit_i, am_fit_r, am_fit_a, h1]
    rw [if_neg (by rw [he, nI_ltI (by omega) (by omega)]; omega)]
    refine sp_sumOf (by omega) (by omega) ?_
    simp only [J38_0, J38_1, J38_4, J38_5, J38_6, J38_9, J38_10, J38_11, J38_12, J38_13, J38_14, J38_15, J38_17, J38_18, J38_20, J38_22, J38_23, J38_26, J38_29, J38_30, J38_32, J38_35, J38_38, J38_40, J38_41, J38_42, J38_45, J38_47, J38_48, J38_51, J38_53, J38_54, J38_56, J38_59, J38_62, J38_65, J38_67, J38_68, J38_71, J38_74, J38_75, am_gg_c, am_gf_c, am_pf_c, am_af_c, am_sf_c, am_bf_c, am_qf_c, am_ap_c, am_bp_c, am_qp_c, am_lf_c, am_kt_s, am_kt_n, am_wst, am_wstop, am_ns_0, am_ns_1, Bool.not_true, Bool.not_false, Bool.true_and, Bool.false_and, Nat.reduceBEq, ↓reduceIte, am_k2_n, am_k2_i, am_k2_r, am_k2_u, am_k2_f, am_k2_l, Nat.zero_le, true_and, and_true, true_or, or_true, am_cat_0, am_cat_i, am_cat_r, am_cat_l, am_cat_n, Nat.reduceLeDiff, Nat.reduceAdd, Option.isSome_some, List.getElem?_cons_zero, List.getElem?_cons_succ, am_fit_i, am_fit_r, am_fit_a, h1]
    rw [hb, iI_n, iI_sub, show i = l by omega]
    exact hP
  | n + 1, i, a, b, e, hi, ha, hb, he => by
    obtain ⟨h1, h2, hl, hh, hd, hf⟩ := id hp
    have hfr := frN_lt (h := h) hl
    have hle := gS_le (frN l h) ((bl (frN l h)).length / 2) i
    have hble := bl_le (frN l h)
    refine am_wps 40 [62] ?_
    simp only [J38_0, J38_1, J38_4, J38_5, J38_6, J38_9, J38_10, J38_11, J38_12, J38_13, J38_14, J38_15, J38_17, J38_18, J38_20, J38_22, J38_23, J38_26, J38_29, J38_30, J38_32, J38_35, J38_38, J38_40, J38_41, J38_42, J38_45, J38_47, J38_48, J38_51, J38_53, J38_54, J38_56, J38_59, J38_62, J38_65, J38_67, J38_68, J38_71, J38_74, J38_75, am_gg_c, am_gf_c, am_pf_c, am_af_c, am_sf_c, am_bf_c, am_qf_c, am_ap_c, am_bp_c, am_qp_c, am_lf_c, am_kt_s, am_kt_n, am_wst, am_wstop, am_ns_0, am_ns_1, Bool.not_true, Bool.not_false, Bool.true_and, Bool.false_and, Nat.reduceBEq, ↓reduceIte, am_k2_n, am_k2_i, am_k2_r, am_k2_u, am_k2_f, am_k2_l, Nat.zero_le, true_and, and_true, true_or, or_true, am_cat_0, am_cat_i, am_cat_r, am_cat_l, am_cat_n, Nat.reduceLeDiff, Nat.reduceAdd, Option.isSome_some, List.getElem?_cons_zero, List.getElem?_cons_succ, am_fit_i, am_fit_r, am_fit_a, h1]
    rw [if_pos (by rw [he, nI_ltI (by omega) (by omega)]; omega)]
    refine sp_contains (by omega) (by omega) ?_
    simp only [J38_0, J38_1, J38_4, J38_5, J38_6, J38_9, J38_10, J38_11, J38_12, J38_13, J38_14, J38_15, J38_17, J38_18, J38_20, J38_22, J38_23, J38_26, J38_29, J38_30, J38_32, J38_35, J38_38, J38_40, J38_41, J38_42, J38_45, J38_47, J38_48, J38_51, J38_53, J38_54, J38_56, J38_59, J38_62, J38_65, J38_67, J38_68, J38_71, J38_74, J38_75, am_gg_c, am_gf_c, am_pf_c, am_af_c, am_sf_c, am_bf_c, am_qf_c, am_ap_c, am_bp_c, am_qp_c, am_lf_c, am_kt_s, am_kt_n, am_wst, am_wstop, am_ns_0, am_ns_1, Bool.not_true, Bool.not_false, Bool.true_and, Bool.false_and, Nat.reduceBEq, ↓reduceIte, am_k2_n, am_k2_i, am_k2_r, am_k2_u, am_k2_f, am_k2_l, Nat.zero_le, true_and, and_true, true_or, or_true, am_cat_0, am_cat_i, am_cat_r, am_cat_l, am_cat_n, Nat.reduceLeDiff, Nat.reduceAdd, Option.isSome_some, List.getElem?_cons_zero, List.getElem?_cons_succ, am_fit_i, am_fit_r, am_fit_a, h1]
    rw [show ctn (frN l h) e = (frN l h).testBit i by rw [he, ctn_n (by omega) (by omega)]]
    cases c : (frN l h).testBit i with
    | true =>
      simp only [if_true, if_neg (show ¬ (1 : Int32) = 0 by decide)]
      have g1 : gS (frN l h) ((bl (frN l h)).length / 2) (i + 1) = ((gS (frN l h) ((bl (frN l h)).length / 2) i).1 + 1, (gS (frN l h) ((bl (frN l h)).length / 2) i).2 + (if (gS (frN l h) ((bl (frN l h)).length / 2) i).1 < (bl (frN l h)).length / 2 then -(i : Int) else (i : Int))) := by
        conv => lhs; unfold gS
        rw [if_pos c]
      by_cases c2 : (gS (frN l h) ((bl (frN l h)).length / 2) i).1 < (bl (frN l h)).length / 2
      · rw [if_pos (by rw [ha, nI_ltI (by omega) (by omega)]; exact c2)]
        refine am_goto I38_62 (lp_shortfall hD hp hP n (i + 1) _ _ _ (by omega) ?_ ?_ (by rw [he, nI_1]))
        · rw [g1, ha, nI_1]
        · rw [g1, hb, he, iI_n, iI_neg, iI_add, if_pos c2]
      · rw [if_neg (by rw [ha, nI_ltI (by omega) (by omega)]; exact c2)]
        refine am_goto I38_62 (lp_shortfall hD hp hP n (i + 1) _ _ _ (by omega) ?_ ?_ (by rw [he, nI_1]))
        · rw [g1, ha, nI_1]
        · rw [g1, hb, he, iI_n, iI_add, if_neg c2]
    | false =>
      simp only [Bool.false_eq_true, if_false, if_true]
      have g1 : gS (frN l h) ((bl (frN l h)).length / 2) (i + 1) = gS (frN l h) ((bl (frN l h)).length / 2) i := by
        conv => lhs; unfold gS
        rw [if_neg (by rw [c]; decide)]
      refine am_goto I38_62 (lp_shortfall hD hp hP n (i + 1) _ _ _ (by omega) ?_ ?_ (by rw [he, nI_1]))
      · rw [g1, ha]
      · rw [g1, hb]
theorem sp_shortfall (hD : 3 ≤ D) (hp : PB G k pk l h d f) (hP : P (some (.int (iI (shN l h d)))) G) : am_CB X D 38 [.ref k] G P := by
  obtain ⟨D, rfl⟩ : ∃ D0, D = D0 + 1 := ⟨D - 1, by omega⟩
  obtain ⟨h1, h2, hl, hh, hd, hf⟩ := id hp
  have hble := bl_le (frN l h)
  refine B38 40 [20] ?_
  simp only [J38_0, J38_1, J38_4, J38_5, J38_6, J38_9, J38_10, J38_11, J38_12, J38_13, J38_14, J38_15, J38_17, J38_18, J38_20, J38_22, J38_23, J38_26, J38_29, J38_30, J38_32, J38_35, J38_38, J38_40, J38_41, J38_42, J38_45, J38_47, J38_48, J38_51, J38_53, J38_54, J38_56, J38_59, J38_62, J38_65, J38_67, J38_68, J38_71, J38_74, J38_75, am_gg_c, am_gf_c, am_pf_c, am_af_c, am_sf_c, am_bf_c, am_qf_c, am_ap_c, am_bp_c, am_qp_c, am_lf_c, am_kt_s, am_kt_n, am_wst, am_wstop, am_ns_0, am_ns_1, Bool.not_true, Bool.not_false, Bool.true_and, Bool.false_and, Nat.reduceBEq, ↓reduceIte, am_k2_n, am_k2_i, am_k2_r, am_k2_u, am_k2_f, am_k2_l, Nat.zero_le, true_and, and_true, true_or, or_true, am_cat_0, am_cat_i, am_cat_r, am_cat_l, am_cat_n, Nat.reduceLeDiff, Nat.reduceAdd, Option.isSome_some, List.getElem?_cons_zero, List.getElem?_cons_succ, am_fit_i, am_fit_r, am_fit_a, h1]
  refine sp_free (by omega) hp ?_
  simp only [J38_0, J38_1, J38_4, J38_5, J38_6, J38_9, J38_10, J38_11, J38_12, J38_13, J38_14, J38_15, J38_17, J38_18, J38_20, J38_22, J38_23, J38_26, J38_29, J38_30, J38_32, J38_35, J38_38, J38_40, J38_41, J38_42, J38_45, J38_47, J38_48, J38_51, J38_53, J38_54, J38_56, J38_59, J38_62, J38_65, J38_67, J38_68, J38_71, J38_74, J38_75, am_gg_c, am_gf_c, am_pf_c, am_af_c, am_sf_c, am_bf_c, am_qf_c, am_ap_c, am_bp_c, am_qp_c, am_lf_c, am_kt_s, am_kt_n, am_wst, am_wstop, am_ns_0, am_ns_1, Bool.not_true, Bool.not_false, Bool.true_and, Bool.false_and, Nat.reduceBEq, ↓reduceIte, am_k2_n, am_k2_i, am_k2_r, am_k2_u, am_k2_f, am_k2_l, Nat.zero_le, true_and, and_true, true_or, or_true, am_cat_0, am_cat_i, am_cat_r, am_cat_l, am_cat_n, Nat.reduceLeDiff, Nat.reduceAdd, Option.isSome_some, List.getElem?_cons_zero, List.getElem?_cons_succ, am_fit_i, am_fit_r, am_fit_a, h1]
  refine sp_bitCount (by omega) (frN_lt hl) ?_
  simp only [J38_0, J38_1, J38_4, J38_5, J38_6, J38_9, J38_10, J38_11, J38_12, J38_13, J38_14, J38_15, J38_17, J38_18, J38_20, J38_22, J38_23, J38_26, J38_29, J38_30, J38_32, J38_35, J38_38, J38_40, J38_41, J38_42, J38_45, J38_47, J38_48, J38_51, J38_53, J38_54, J38_56, J38_59, J38_62, J38_65, J38_67, J38_68, J38_71, J38_74, J38_75, am_gg_c, am_gf_c, am_pf_c, am_af_c, am_sf_c, am_bf_c, am_qf_c, am_ap_c, am_bp_c, am_qp_c, am_lf_c, am_kt_s, am_kt_n, am_wst, am_wstop, am_ns_0, am_ns_1, Bool.not_true, Bool.not_false, Bool.true_and, Bool.false_and, Nat.reduceBEq, ↓reduceIte, am_k2_n, am_k2_i, am_k2_r, am_k2_u, am_k2_f, am_k2_l, Nat.zero_le, true_and, and_true, true_or, or_true, am_cat_0, am_cat_i, am_cat_r, am_cat_l, am_cat_n, Nat.reduceLeDiff, Nat.reduceAdd, Option.isSome_some, List.getElem?_cons_zero, List.getElem?_cons_succ, am_fit_i, am_fit_r, am_fit_a, h1]
  refine ⟨by decide, ?_⟩
  rw [show (2 : Int32) = nI 2 by rfl, pk_div (by omega) (by omega) (by omega)]
  exact lp_shortfall (by omega) hp hP l 0 _ _ _ (by omega) nI_0.symm rfl nI_0.symm
def mbsB (l h d : Nat) (f : Nat → Nat) : Bool := filledB l h d && decide ((bsm (frN l h) 0 31 + bsm d 0 31) % 2 = 0) && decide (0 ≤ shN l h d) && decide (mkm (fun q => !(f q == 0)) l &&& h = 0)
theorem bi_sub_par {a b : Nat} (hb : b ≤ 2 ^ 32) : (nI a - nI b) &&& 1 = nI ((a + b) % 2) := by
  have e : nI a - nI b = nI (a + (2 ^ 32 - b)) := by
    have h2 : nI (a + (2 ^ 32 - b)) + nI b = nI a := by
      rw [nI_add]
      apply Int32.toBitVec_inj.1
      show BitVec.ofNat 32 (a + (2 ^ 32 - b) + b) = BitVec.ofNat 32 a
      apply BitVec.eq_of_toNat_eq
      rw [BitVec.toNat_ofNat, BitVec.toNat_ofNat]
      omega
    rw [← h2, Int32.add_sub_cancel]
  rw [e, bi_and1]
  congr 1
  omega
theorem bsm_le (m : Nat) : ∀ (n i : Nat), i + n ≤ 31 → bsm m i n ≤ 31 * n
  | 0, _, _ => by simp [bsm]
  | n + 1, i, h => by
    have := bsm_le m n (i + 1) (by omega)
    unfold bsm
    split <;> omega
theorem gS_abs (F half : Nat) : ∀ p : Nat, p ≤ 18 → -(18 * (p : Int)) ≤ (gS F half p).2 ∧ (gS F half p).2 ≤ 18 * (p : Int)
  | 0, _ => by simp [gS]
  | p + 1, h => by
    have := gS_abs F half p (by omega)
    unfold gS
    split
    · simp only
      split <;> omega
    · omega
theorem sp_mayBe (hD : 4 ≤ D) (hp : PB G k pk l h d f) (hP : P (some (.int (if mbsB l h d f = true then 1 else 0))) G) : am_CB X D 39 [.ref k] G P := by
  obtain ⟨D, rfl⟩ : ∃ D0, D = D0 + 1 := ⟨D - 1, by omega⟩
  obtain ⟨h1, h2, hl, hh, hd, hf⟩ := id hp
  unfold mbsB at hP
  refine B39 40 [] ?_
  simp only [J39_0, J39_1, J39_4, J39_7, J39_8, J39_11, J39_12, J39_13, J39_16, J39_17, J39_20, J39_23, J39_24, J39_27, J39_28, J39_31, J39_32, J39_35, J39_36, J39_39, J39_40, am_gg_c, am_gf_c, am_pf_c, am_af_c, am_sf_c, am_bf_c, am_qf_c, am_ap_c, am_bp_c, am_qp_c, am_lf_c, am_kt_s, am_kt_n, am_wst, am_wstop, am_ns_0, am_ns_1, Bool.not_true, Bool.not_false, Bool.true_and, Bool.false_and, Nat.reduceBEq, ↓reduceIte, am_k2_n, am_k2_i, am_k2_r, am_k2_u, am_k2_f, am_k2_l, Nat.zero_le, true_and, and_true, true_or, or_true, am_cat_0, am_cat_i, am_cat_r, am_cat_l, am_cat_n, Nat.reduceLeDiff, Nat.reduceAdd, Option.isSome_some, List.getElem?_cons_zero, List.getElem?_cons_succ, am_fit_i, am_fit_r, am_fit_a, h1]
  refine sp_isFilled (by omega) hp ?_
  simp only [J39_0, J39_1, J39_4, J39_7, J39_8, J39_11, J39_12, J39_13, J39_16, J39_17, J39_20, J39_23, J39_24, J39_27, J39_28, J39_31, J39_32, J39_35, J39_36, J39_39, J39_40, am_gg_c, am_gf_c, am_pf_c, am_af_c, am_sf_c, am_bf_c, am_qf_c, am_ap_c, am_bp_c, am_qp_c, am_lf_c, am_kt_s, am_kt_n, am_wst, am_wstop, am_ns_0, am_ns_1, Bool.not_true, Bool.not_false, Bool.true_and, Bool.false_and, Nat.reduceBEq, ↓reduceIte, am_k2_n, am_k2_i, am_k2_r, am_k2_u, am_k2_f, am_k2_l, Nat.zero_le, true_and, and_true, true_or, or_true, am_cat_0, am_cat_i, am_cat_r, am_cat_l, am_cat_n, Nat.reduceLeDiff, Nat.reduceAdd, Option.isSome_some, List.getElem?_cons_zero, List.getElem?_cons_succ, am_fit_i, am_fit_r, am_fit_a, h1]
  cases c1 : filledB l h d with
  | false =>
    rw [c1] at hP
    simp only [Bool.false_eq_true, if_false, if_true]
    simpa using hP
  | true =>
    rw [c1] at hP
    simp only [if_true, if_neg (show ¬ (1 : Int32) = 0 by decide)]
    refine sp_twice (by omega) hp ?_
    simp only [J39_0, J39_1, J39_4, J39_7, J39_8, J39_11, J39_12, J39_13, J39_16, J39_17, J39_20, J39_23, J39_24, J39_27, J39_28, J39_31, J39_32, J39_35, J39_36, J39_39, J39_40, am_gg_c, am_gf_c, am_pf_c, am_af_c, am_sf_c, am_bf_c, am_qf_c, am_ap_c, am_bp_c, am_qp_c, am_lf_c, am_kt_s, am_kt_n, am_wst, am_wstop, am_ns_0, am_ns_1, Bool.not_true, Bool.not_false, Bool.true_and, Bool.false_and, Nat.reduceBEq, ↓reduceIte, am_k2_n, am_k2_i, am_k2_r, am_k2_u, am_k2_f, am_k2_l, Nat.zero_le, true_and, and_true, true_or, or_true, am_cat_0, am_cat_i, am_cat_r, am_cat_l, am_cat_n, Nat.reduceLeDiff, Nat.reduceAdd, Option.isSome_some, List.getElem?_cons_zero, List.getElem?_cons_succ, am_fit_i, am_fit_r, am_fit_a, h1]
    have hb := bsm_le d 31 0 (by omega)
    have ga := gS_abs (frN l h) ((bl (frN l h)).length / 2) l hl
    have ei : (iI (shN l h d)).toInt = shN l h d := iI_toInt (by unfold shN; omega) (by unfold shN; omega)
    rw [bi_sub_par (by omega)]
    have hs : ∀ {Q : Option Value → am_H → Prop}, Q (some (.int (iI (shN l h d)))) G → am_CB X D 38 [.ref k] G Q := fun q => sp_shortfall (by omega) hp q
    have hpn : ∀ {Q : Option Value → am_H → Prop}, Q (some (.int (nI (mkm (fun q => !(f q == 0)) l)))) G → am_CB X D 33 [.ref k] G Q := fun q => sp_pinned (by omega) hp q
    have hlt : mkm (fun q => !(f q == 0)) l &&& h < 2 ^ 32 := Nat.lt_of_le_of_lt Nat.and_le_right (by omega)
    clear hb ga
    have hA2 : (bsm (frN l h) 0 31 + bsm d 0 31) % 2 < 2 ^ 32 := by omega
    generalize (bsm (frN l h) 0 31 + bsm d 0 31) % 2 = A at *
    generalize shN l h d = B at *
    generalize mkm (fun q => !(f q == 0)) l = M at *
    by_cases c2 : A = 0
    · subst c2
      rw [if_pos (by rfl)]
      refine hs ?_
      simp only [J39_0, J39_1, J39_4, J39_7, J39_8, J39_11, J39_12, J39_13, J39_16, J39_17, J39_20, J39_23, J39_24, J39_27, J39_28, J39_31, J39_32, J39_35, J39_36, J39_39, J39_40, am_gg_c, am_gf_c, am_pf_c, am_af_c, am_sf_c, am_bf_c, am_qf_c, am_ap_c, am_bp_c, am_qp_c, am_lf_c, am_kt_s, am_kt_n, am_wst, am_wstop, am_ns_0, am_ns_1, Bool.not_true, Bool.not_false, Bool.true_and, Bool.false_and, Nat.reduceBEq, ↓reduceIte, am_k2_n, am_k2_i, am_k2_r, am_k2_u, am_k2_f, am_k2_l, Nat.zero_le, true_and, and_true, true_or, or_true, am_cat_0, am_cat_i, am_cat_r, am_cat_l, am_cat_n, Nat.reduceLeDiff, Nat.reduceAdd, Option.isSome_some, List.getElem?_cons_zero, List.getElem?_cons_succ, am_fit_i, am_fit_r, am_fit_a, h1]
      by_cases c3 : 0 ≤ B
      · rw [if_neg (by rw [bi_lt, ei, show (0 : Int32).toInt = 0 by rfl]; omega)]
        refine hpn ?_
        simp only [J39_0, J39_1, J39_4, J39_7, J39_8, J39_11, J39_12, J39_13, J39_16, J39_17, J39_20, J39_23, J39_24, J39_27, J39_28, J39_31, J39_32, J39_35, J39_36, J39_39, J39_40, am_gg_c, am_gf_c, am_pf_c, am_af_c, am_sf_c, am_bf_c, am_qf_c, am_ap_c, am_bp_c, am_qp_c, am_lf_c, am_kt_s, am_kt_n, am_wst, am_wstop, am_ns_0, am_ns_1, Bool.not_true, Bool.not_false, Bool.true_and, Bool.false_and, Nat.reduceBEq, ↓reduceIte, am_k2_n, am_k2_i, am_k2_r, am_k2_u, am_k2_f, am_k2_l, Nat.zero_le, true_and, and_true, true_or, or_true, am_cat_0, am_cat_i, am_cat_r, am_cat_l, am_cat_n, Nat.reduceLeDiff, Nat.reduceAdd, Option.isSome_some, List.getElem?_cons_zero, List.getElem?_cons_succ, am_fit_i, am_fit_r, am_fit_a, h1]
        rw [bi_and]
        by_cases c4 : M &&& h = 0
        · rw [if_pos (by rw [c4]; rfl)]
          simpa [c3, c4] using hP
        · rw [if_neg (by rw [bi_eq0 hlt]; exact c4)]
          simpa [c3, c4] using hP
      · rw [if_pos (by rw [bi_lt, ei, show (0 : Int32).toInt = 0 by rfl]; omega)]
        simpa [c3] using hP
    · have hA : A < 2 ^ 32 := hA2
      rw [if_neg (by rw [bi_eq0 hA]; exact c2)]
      simpa [c2] using hP
theorem lp_become {l h d : Int32} (hP : ∀ G' p, am_ia G' pk 0 = some (18, p) → (∀ j, j < 18 → p j = 0) → Fr [pk] G G' → P none G') : ∀ (n i : Nat) (e : Int32) (G1 : am_H) (p : Nat → Int32) (fs : List Value), i + n = 18 → e = nI i → Fr [pk] G G1 → am_ob G1 k 2 = some fs → fs[3]? = some (.ref pk) → am_ia G1 pk 0 = some (18, p) → (∀ j, j < i → p j = 0) → am_WP X D 24 18 [some (.ref k), some (.int l), some (.int h), some (.int d), some (.int e)] [] G1 0 0 P
  | 0, i, e, G1, p, fs, hi, he, hF, h1, h1b, h2, h3 => by
    refine am_wps 40 [36] ?_
    simp only [J24_0, J24_1, J24_2, J24_5, J24_6, J24_7, J24_10, J24_11, J24_12, J24_15, J24_16, J24_18, J24_20, J24_22, J24_25, J24_26, J24_29, J24_31, J24_32, J24_33, J24_36, J24_39, am_gg_c, am_gf_c, am_pf_c, am_af_c, am_sf_c, am_bf_c, am_qf_c, am_ap_c, am_bp_c, am_qp_c, am_lf_c, am_kt_s, am_kt_n, am_wst, am_wstop, am_ns_0, am_ns_1, Bool.not_true, Bool.not_false, Bool.true_and, Bool.false_and, Nat.reduceBEq, ↓reduceIte, am_k2_n, am_k2_i, am_k2_r, am_k2_u, am_k2_f, am_k2_l, Nat.zero_le, true_and, and_true, true_or, or_true, am_cat_0, am_cat_i, am_cat_r, am_cat_l, am_cat_n, Nat.reduceLeDiff, Nat.reduceAdd, Option.isSome_some, List.getElem?_cons_zero, List.getElem?_cons_succ, am_fit_i, am_fit_r, am_fit_a]
    rw [if_neg (by rw [he, show i = 18 by omega]; decide)]
    exact hP G1 p h2 (fun j hj => h3 j (by omega)) hF
  | n + 1, i, e, G1, p, fs, hi, he, hF, h1, h1b, h2, h3 => by
    refine am_wps 40 [36] ?_
    simp only [J24_0, J24_1, J24_2, J24_5, J24_6, J24_7, J24_10, J24_11, J24_12, J24_15, J24_16, J24_18, J24_20, J24_22, J24_25, J24_26, J24_29, J24_31, J24_32, J24_33, J24_36, J24_39, am_gg_c, am_gf_c, am_pf_c, am_af_c, am_sf_c, am_bf_c, am_qf_c, am_ap_c, am_bp_c, am_qp_c, am_lf_c, am_kt_s, am_kt_n, am_wst, am_wstop, am_ns_0, am_ns_1, Bool.not_true, Bool.not_false, Bool.true_and, Bool.false_and, Nat.reduceBEq, ↓reduceIte, am_k2_n, am_k2_i, am_k2_r, am_k2_u, am_k2_f, am_k2_l, Nat.zero_le, true_and, and_true, true_or, or_true, am_cat_0, am_cat_i, am_cat_r, am_cat_l, am_cat_n, Nat.reduceLeDiff, Nat.reduceAdd, Option.isSome_some, List.getElem?_cons_zero, List.getElem?_cons_succ, am_fit_i, am_fit_r, am_fit_a, h1, h1b, h2]
    rw [if_pos (by rw [he, show (18 : Int32) = nI 18 by rfl, nI_ltI (by omega) (by omega)]; omega)]
    refine ⟨by rw [he]; exact vp_in_n (by omega) (by omega), am_goto I24_36 (lp_become hP n (i + 1) _ _ (upd p i 0) fs (by omega) (by rw [he, nI_1]) (hF.tr (Fr.set List.mem_cons_self)) ?_ h1b ?_ ?_)⟩
    · rw [am_ob_sn (Ne.symm (am_ob_ne_ia h1 h2))]; exact h1
    · rw [he, nI_clamp (by omega)]; exact am_ia_ss (am_ia_lt h2)
    · intro j hj
      rw [upd_at]
      by_cases z : j = i
      · simp [z]
      · simp [z, h3 j (by omega)]
theorem sp_become {l h d : Nat} {v0 v1 v2 : Value} {p0 : Nat → Int32} (hD : 1 ≤ D) (h1 : am_ob G k 2 = some [v0, v1, v2, .ref pk]) (h2 : am_ia G pk 0 = some (18, p0)) (hl : l ≤ 18) (hh : h < 2 ^ 18) (hd : d < 2 ^ 18) (hP : ∀ G', PB G' k pk l h d (fun _ => 0) → Fr [k, pk] G G' → P none G') : am_CB X D 24 [.ref k, .int (nI l), .int (nI h), .int (nI d)] G P := by
  obtain ⟨D, rfl⟩ : ∃ D0, D = D0 + 1 := ⟨D - 1, by omega⟩
  have hk := am_ob_lt h1
  have hne := am_ob_ne_ia h1 h2
  refine B24 40 [18] ?_
  simp only [J24_0, J24_1, J24_2, J24_5, J24_6, J24_7, J24_10, J24_11, J24_12, J24_15, J24_16, J24_18, J24_20, J24_22, J24_25, J24_26, J24_29, J24_31, J24_32, J24_33, J24_36, J24_39, am_gg_c, am_gf_c, am_pf_c, am_af_c, am_sf_c, am_bf_c, am_qf_c, am_ap_c, am_bp_c, am_qp_c, am_lf_c, am_kt_s, am_kt_n, am_wst, am_wstop, am_ns_0, am_ns_1, Bool.not_true, Bool.not_false, Bool.true_and, Bool.false_and, Nat.reduceBEq, ↓reduceIte, am_k2_n, am_k2_i, am_k2_r, am_k2_u, am_k2_f, am_k2_l, Nat.zero_le, true_and, and_true, true_or, or_true, am_cat_0, am_cat_i, am_cat_r, am_cat_l, am_cat_n, Nat.reduceLeDiff, Nat.reduceAdd, Option.isSome_some, List.getElem?_cons_zero, List.getElem?_cons_succ, am_fit_i, am_fit_r, am_fit_a, h1, am_ob_ss, List.length_set, hk, List.length_cons, List.length_nil, List.set_cons_zero, List.set_cons_succ, Nat.reduceLT]
  refine lp_become (k := k) (pk := pk) (fun G' p a b c => ?_) 18 0 _ _ p0 _ rfl nI_0.symm Fr.rf (am_ob_ss (by simp only [List.length_set]; exact hk)) rfl (by rw [am_ia_sn hne, am_ia_sn hne, am_ia_sn hne]; exact h2) (fun j hj => by omega)
  refine hP G' ⟨?_, ⟨p, a, fun j hj => by rw [b j hj]; rfl⟩, hl, hh, hd, fun _ => Nat.zero_le _⟩ ?_
  · rw [c.ob (by simpa using hne)]
    exact am_ob_ss (by simp only [List.length_set]; exact hk)
  · exact ((Fr.set (by simp)).tr ((Fr.set (by simp)).tr (Fr.set (by simp)))).tr (c.up (by simp))
end PROB
