/-! the reference: free, isEven, differenceSum, startSum, slack, problem, pin -/
def psm (m : Nat) : Nat → Nat
  | 0 => 0
  | k + 1 => psm m k + (if m.testBit k = true then k else 0)
theorem psm_bsm (m : Nat) : ∀ (n i : Nat), psm m (i + n) = psm m i + bsm m i n
  | 0, i => rfl
  | n + 1, i => by
    have h := psm_bsm m n (i + 1)
    rw [show i + (n + 1) = i + 1 + n by omega, h]
    show psm m i + _ + bsm m (i + 1) n = psm m i + (_ + bsm m (i + 1) n)
    rw [Nat.add_assoc]
theorem psm_hi {m k : Nat} (h : ∀ q, k ≤ q → m.testBit q = false) : ∀ n, psm m (k + n) = psm m k
  | 0 => rfl
  | n + 1 => by
    show psm m (k + n) + (if m.testBit (k + n) = true then k + n else 0) = psm m k
    rw [psm_hi h n, h (k + n) (by omega)]
    simp
theorem psm_eq {m k : Nat} (hk : k ≤ 31) (h : ∀ q, k ≤ q → m.testBit q = false) : psm m k = bsm m 0 31 := by
  have h1 := psm_bsm m 31 0
  have h2 := psm_hi h (31 - k)
  rw [show k + (31 - k) = 0 + 31 by omega] at h2
  rw [← h2, h1]
  show 0 + bsm m 0 31 = _
  rw [Nat.zero_add]
theorem psm_le (m : Nat) : ∀ k, k ≤ 31 → psm m k ≤ 31 * k
  | 0, _ => Nat.le_refl _
  | k + 1, h => by
    have := psm_le m k (by omega)
    unfold psm
    split <;> omega
/-- parity of a difference of numbers as the machine tells it -/
theorem bi_rem2 {a b : Nat} (ha : a < 2 ^ 20) (hb : b < 2 ^ 20) : (nI a - nI b) - (nI a - nI b) / 2 * 2 = 0 ↔ (a + b) % 2 = 0 := by
  have e0 : nI a - nI b = iI ((a : Int) - b) := by rw [iI_n, iI_n, iI_sub]
  have e1 : (iI ((a : Int) - b)).toInt = (a : Int) - b := iI_toInt (by omega) (by omega)
  have e2 : iI ((a : Int) - b) / 2 = iI (((a : Int) - b).tdiv 2) := by
    apply Int32.toInt_inj.mp
    have h2 : ((2 : Int32)).toInt = 2 := rfl
    have ht : (((a : Int) - b).tdiv 2) * 2 + ((a : Int) - b).tmod 2 = (a : Int) - b := Int.tdiv_mul_add_tmod _ _
    have hm1 : ((a : Int) - b).tmod 2 < 2 := Int.tmod_lt_of_pos _ (by omega)
    have hm2 : -2 < ((a : Int) - b).tmod 2 := by
      have := Int.lt_tmod_of_pos ((a : Int) - b) (show (0 : Int) < 2 by omega)
      omega
    rw [iI_toInt (by omega) (by omega), Int32.toInt_div_of_ne_right _ _ (by decide), e1, h2]
  have ht : (((a : Int) - b).tdiv 2) * 2 + ((a : Int) - b).tmod 2 = (a : Int) - b := Int.tdiv_mul_add_tmod _ _
  have hm1 : ((a : Int) - b).tmod 2 < 2 := Int.tmod_lt_of_pos _ (by omega)
  have hm2 : -2 < ((a : Int) - b).tmod 2 := by
    have := Int.lt_tmod_of_pos ((a : Int) - b) (show (0 : Int) < 2 by omega)
    omega
  have e3 : iI (((a : Int) - b).tdiv 2) * 2 = iI ((((a : Int) - b).tdiv 2) + (((a : Int) - b).tdiv 2)) := by
    rw [← iI_add, show (2 : Int32) = 1 + 1 by rfl, Int32.mul_add, Int32.mul_one]
  rw [e0, e2, e3, iI_sub]
  generalize ((a : Int) - b).tdiv 2 = q at *
  generalize ((a : Int) - b).tmod 2 = r at *
  constructor
  · intro h
    have h1 := congrArg Int32.toInt h
    rw [iI_toInt (by omega) (by omega), show (0 : Int32).toInt = 0 by rfl] at h1
    omega
  · intro h
    have : (a : Int) - b - (q + q) = 0 := by omega
    rw [this]; rfl
theorem iI_mv (x y z : Nat) : nI x - nI z + nI y = nI (x + y) - nI z := by
  rw [iI_n, iI_n, iI_n, iI_n, iI_sub, iI_add, iI_sub]
  congr 1
  omega
section CD
variable {X : Nat × (Nat → Int32)} {D : Nat} {G : am_H} {P : Option Value → am_H → Prop} {pm len T m ip due dep vp : Int32} {l h d : Nat} {f : Nat → Nat}
theorem sp_mfree (hD : 2 ≤ D) (h1 : am_ob G 23 5 = some (moL pm len T m ip due dep vp)) (hm : MA G l h d f) (hP : P (some (.int (nI (bl (frN l h)).length))) G) : am_CB X D 106 [.ref 23] G P := by
  obtain ⟨D, rfl⟩ : ∃ D0, D = D0 + 1 := ⟨D - 1, by omega⟩
  obtain ⟨⟨af, a1, a2, a3, a4, a5⟩, hl1, hl, hh, hd, hd0, hf⟩ := id hm
  have h0 : af (0 : Int32).toNatClampNeg = nI l := a2
  have has1 : af (1 : Int32).toNatClampNeg = nI h := a3
  have hh18 : h < 2 ^ 18 := Nat.lt_of_lt_of_le hh (Nat.pow_le_pow_right (by omega) hl)
  have hfl := fr_len hl hh
  refine B106 40 [] ?_
  simp only [J106_0, J106_1, J106_4, J106_5, J106_6, J106_7, J106_10, J106_11, J106_12, J106_15, J106_16, am_gg_c, am_gf_c, am_pf_c, am_af_c, am_sf_c, am_bf_c, am_qf_c, am_ap_c, am_bp_c, am_qp_c, am_lf_c, am_kt_s, am_kt_n, am_wst, am_wstop, am_ns_0, am_ns_1, Bool.not_true, Bool.not_false, Bool.true_and, Bool.false_and, Nat.reduceBEq, ↓reduceIte, am_k2_n, am_k2_i, am_k2_r, am_k2_u, am_k2_f, am_k2_l, Nat.zero_le, true_and, and_true, true_or, or_true, am_cat_0, am_cat_i, am_cat_r, am_cat_l, am_cat_n, Nat.reduceLeDiff, Nat.reduceAdd, Option.isSome_some, List.getElem?_cons_zero, List.getElem?_cons_succ, am_fit_i, am_fit_r, am_fit_a, h1, a1, h0, has1]
  refine ⟨vp_lit (k := 0) rfl (by omega) (by omega), vp_lit (k := 1) rfl (by omega) (by omega), ?_⟩
  refine sp_sizeOf (by omega) (by omega) ?_
  simp only [J106_0, J106_1, J106_4, J106_5, J106_6, J106_7, J106_10, J106_11, J106_12, J106_15, J106_16, am_gg_c, am_gf_c, am_pf_c, am_af_c, am_sf_c, am_bf_c, am_qf_c, am_ap_c, am_bp_c, am_qp_c, am_lf_c, am_kt_s, am_kt_n, am_wst, am_wstop, am_ns_0, am_ns_1, Bool.not_true, Bool.not_false, Bool.true_and, Bool.false_and, Nat.reduceBEq, ↓reduceIte, am_k2_n, am_k2_i, am_k2_r, am_k2_u, am_k2_f, am_k2_l, Nat.zero_le, true_and, and_true, true_or, or_true, am_cat_0, am_cat_i, am_cat_r, am_cat_l, am_cat_n, Nat.reduceLeDiff, Nat.reduceAdd, Option.isSome_some, List.getElem?_cons_zero, List.getElem?_cons_succ, am_fit_i, am_fit_r, am_fit_a]
  rw [pk_sub (by omega), show l - (bl h).length = (bl (frN l h)).length by omega]
  exact hP
theorem sp_isEven (hD : 3 ≤ D) (h1 : am_ob G 23 5 = some (moL pm len T m ip due dep vp)) (hm : MA G l h d f) (hP : P (some (.int (if filledB l h d = true then 1 else 0))) G) : am_CB X D 108 [.ref 23] G P := by
  obtain ⟨D, rfl⟩ : ∃ D0, D = D0 + 1 := ⟨D - 1, by omega⟩
  obtain ⟨⟨af, a1, a2, a3, a4, a5⟩, hl1, hl, hh, hd, hd0, hf⟩ := id hm
  have h2 : af (2 : Int32).toNatClampNeg = nI d := a4
  have b1 := bl_le (frN l h)
  have b2 := bl_le d
  refine B108 40 [] ?_
  simp only [J108_0, J108_1, J108_4, J108_5, J108_6, J108_9, J108_10, J108_11, J108_14, J108_15, J108_18, J108_19, J108_22, J108_23, am_gg_c, am_gf_c, am_pf_c, am_af_c, am_sf_c, am_bf_c, am_qf_c, am_ap_c, am_bp_c, am_qp_c, am_lf_c, am_kt_s, am_kt_n, am_wst, am_wstop, am_ns_0, am_ns_1, Bool.not_true, Bool.not_false, Bool.true_and, Bool.false_and, Nat.reduceBEq, ↓reduceIte, am_k2_n, am_k2_i, am_k2_r, am_k2_u, am_k2_f, am_k2_l, Nat.zero_le, true_and, and_true, true_or, or_true, am_cat_0, am_cat_i, am_cat_r, am_cat_l, am_cat_n, Nat.reduceLeDiff, Nat.reduceAdd, Option.isSome_some, List.getElem?_cons_zero, List.getElem?_cons_succ, am_fit_i, am_fit_r, am_fit_a, h1]
  refine sp_mfree (by omega) h1 hm ?_
  simp only [J108_0, J108_1, J108_4, J108_5, J108_6, J108_9, J108_10, J108_11, J108_14, J108_15, J108_18, J108_19, J108_22, J108_23, am_gg_c, am_gf_c, am_pf_c, am_af_c, am_sf_c, am_bf_c, am_qf_c, am_ap_c, am_bp_c, am_qp_c, am_lf_c, am_kt_s, am_kt_n, am_wst, am_wstop, am_ns_0, am_ns_1, Bool.not_true, Bool.not_false, Bool.true_and, Bool.false_and, Nat.reduceBEq, ↓reduceIte, am_k2_n, am_k2_i, am_k2_r, am_k2_u, am_k2_f, am_k2_l, Nat.zero_le, true_and, and_true, true_or, or_true, am_cat_0, am_cat_i, am_cat_r, am_cat_l, am_cat_n, Nat.reduceLeDiff, Nat.reduceAdd, Option.isSome_some, List.getElem?_cons_zero, List.getElem?_cons_succ, am_fit_i, am_fit_r, am_fit_a, h1, a1, h2]
  refine ⟨vp_lit (k := 2) rfl (by omega) (by omega), ?_⟩
  refine sp_sizeOf (by omega) (by omega) ?_
  simp only [J108_0, J108_1, J108_4, J108_5, J108_6, J108_9, J108_10, J108_11, J108_14, J108_15, J108_18, J108_19, J108_22, J108_23, am_gg_c, am_gf_c, am_pf_c, am_af_c, am_sf_c, am_bf_c, am_qf_c, am_ap_c, am_bp_c, am_qp_c, am_lf_c, am_kt_s, am_kt_n, am_wst, am_wstop, am_ns_0, am_ns_1, Bool.not_true, Bool.not_false, Bool.true_and, Bool.false_and, Nat.reduceBEq, ↓reduceIte, am_k2_n, am_k2_i, am_k2_r, am_k2_u, am_k2_f, am_k2_l, Nat.zero_le, true_and, and_true, true_or, or_true, am_cat_0, am_cat_i, am_cat_r, am_cat_l, am_cat_n, Nat.reduceLeDiff, Nat.reduceAdd, Option.isSome_some, List.getElem?_cons_zero, List.getElem?_cons_succ, am_fit_i, am_fit_r, am_fit_a]
  rw [show (2 : Int32) = nI 2 by rfl, pk_mul]
  by_cases c : (bl (frN l h)).length = 2 * (bl d).length
  · rw [show filledB l h d = true from decide_eq_true c] at hP
    rw [if_pos (by rw [c])]
    simpa using hP
  · rw [show filledB l h d = false from decide_eq_false c] at hP
    rw [if_neg (by rw [nI_eq (by omega) (by omega)]; exact c)]
    simpa using hP
theorem lp_dsum (hD : 1 ≤ D) (h1 : am_ob G 23 5 = some (moL pm len T m ip due dep vp)) (hm : MA G l h d f) (hP : P (some (.int (nI (psm d 18)))) G) : ∀ (k i : Nat), i + k = 18 → am_WP X D 109 4 [some (.ref 23), some (.int (nI (psm d i))), some (.int (nI i))] [] G 0 0 P := by
  obtain ⟨⟨af, a1, a2, a3, a4, a5⟩, hl1, hl, hh, hd, hd0, hf⟩ := id hm
  have h2 : af (2 : Int32).toNatClampNeg = nI d := a4
  intro k
  induction k with
  | zero =>
    intro i hi
    refine am_wps 40 [34] ?_
    simp only [J109_0, J109_1, J109_2, J109_3, J109_4, J109_5, J109_7, J109_10, J109_11, J109_12, J109_15, J109_16, J109_17, J109_18, J109_21, J109_24, J109_25, J109_28, J109_29, J109_30, J109_31, J109_34, J109_37, J109_38, am_gg_c, am_gf_c, am_pf_c, am_af_c, am_sf_c, am_bf_c, am_qf_c, am_ap_c, am_bp_c, am_qp_c, am_lf_c, am_kt_s, am_kt_n, am_wst, am_wstop, am_ns_0, am_ns_1, Bool.not_true, Bool.not_false, Bool.true_and, Bool.false_and, Nat.reduceBEq, ↓reduceIte, am_k2_n, am_k2_i, am_k2_r, am_k2_u, am_k2_f, am_k2_l, Nat.zero_le, true_and, and_true, true_or, or_true, am_cat_0, am_cat_i, am_cat_r, am_cat_l, am_cat_n, Nat.reduceLeDiff, Nat.reduceAdd, Option.isSome_some, List.getElem?_cons_zero, List.getElem?_cons_succ, am_fit_i, am_fit_r, am_fit_a]
    rw [if_pos (by rw [show i = 18 by omega]; decide), show i = 18 by omega]
    exact hP
  | succ k ih =>
    intro i hi
    have hn := ih (i + 1) (by omega)
    have hs : psm d (i + 1) = psm d i + (if d.testBit i = true then i else 0) := rfl
    rw [hs] at hn
    refine am_wps 40 [34] ?_
    simp only [J109_0, J109_1, J109_2, J109_3, J109_4, J109_5, J109_7, J109_10, J109_11, J109_12, J109_15, J109_16, J109_17, J109_18, J109_21, J109_24, J109_25, J109_28, J109_29, J109_30, J109_31, J109_34, J109_37, J109_38, am_gg_c, am_gf_c, am_pf_c, am_af_c, am_sf_c, am_bf_c, am_qf_c, am_ap_c, am_bp_c, am_qp_c, am_lf_c, am_kt_s, am_kt_n, am_wst, am_wstop, am_ns_0, am_ns_1, Bool.not_true, Bool.not_false, Bool.true_and, Bool.false_and, Nat.reduceBEq, ↓reduceIte, am_k2_n, am_k2_i, am_k2_r, am_k2_u, am_k2_f, am_k2_l, Nat.zero_le, true_and, and_true, true_or, or_true, am_cat_0, am_cat_i, am_cat_r, am_cat_l, am_cat_n, Nat.reduceLeDiff, Nat.reduceAdd, Option.isSome_some, List.getElem?_cons_zero, List.getElem?_cons_succ, am_fit_i, am_fit_r, am_fit_a, h1, a1, h2]
    rw [if_neg (by rw [bi_lt, nI_toInt (by omega)]; show ¬ (17 : Int) < _; omega)]
    refine ⟨vp_lit (k := 2) rfl (by omega) (by omega), sp_has (by omega) (by omega) (by omega) ?_⟩
    simp only [J109_0, J109_1, J109_2, J109_3, J109_4, J109_5, J109_7, J109_10, J109_11, J109_12, J109_15, J109_16, J109_17, J109_18, J109_21, J109_24, J109_25, J109_28, J109_29, J109_30, J109_31, J109_34, J109_37, J109_38, am_gg_c, am_gf_c, am_pf_c, am_af_c, am_sf_c, am_bf_c, am_qf_c, am_ap_c, am_bp_c, am_qp_c, am_lf_c, am_kt_s, am_kt_n, am_wst, am_wstop, am_ns_0, am_ns_1, Bool.not_true, Bool.not_false, Bool.true_and, Bool.false_and, Nat.reduceBEq, ↓reduceIte, am_k2_n, am_k2_i, am_k2_r, am_k2_u, am_k2_f, am_k2_l, Nat.zero_le, true_and, and_true, true_or, or_true, am_cat_0, am_cat_i, am_cat_r, am_cat_l, am_cat_n, Nat.reduceLeDiff, Nat.reduceAdd, Option.isSome_some, List.getElem?_cons_zero, List.getElem?_cons_succ, am_fit_i, am_fit_r, am_fit_a]
    cases c : d.testBit i with
    | true =>
      rw [c] at hn
      simp only [if_true, if_neg (show ¬ (1 : Int32) = 0 by decide)]
      refine am_goto I109_34 ?_
      rw [nI_1, nI_add]
      exact hn
    | false =>
      rw [c] at hn
      simp only [Bool.false_eq_true, if_false, if_true]
      refine am_goto I109_34 ?_
      rw [nI_1, show (0 : Int32) = nI 0 by rfl, nI_add]
      exact hn
theorem sp_dsum (hD : 2 ≤ D) (h1 : am_ob G 23 5 = some (moL pm len T m ip due dep vp)) (hm : MA G l h d f) (hP : P (some (.int (nI (bsm d 0 31)))) G) : am_CB X D 109 [.ref 23] G P := by
  obtain ⟨D, rfl⟩ : ∃ D0, D = D0 + 1 := ⟨D - 1, by omega⟩
  have hd := hm.2.2.2.2.1
  have hd0 := hm.2.2.2.2.2.1
  rw [← psm_eq (k := 18) (by omega) (fun q hq => bt_hi hd hq)] at hP
  refine B109 40 [4] ?_
  simp only [J109_0, J109_1, J109_2, J109_3, J109_4, J109_5, J109_7, J109_10, J109_11, J109_12, J109_15, J109_16, J109_17, J109_18, J109_21, J109_24, J109_25, J109_28, J109_29, J109_30, J109_31, J109_34, J109_37, J109_38, am_gg_c, am_gf_c, am_pf_c, am_af_c, am_sf_c, am_bf_c, am_qf_c, am_ap_c, am_bp_c, am_qp_c, am_lf_c, am_kt_s, am_kt_n, am_wst, am_wstop, am_ns_0, am_ns_1, Bool.not_true, Bool.not_false, Bool.true_and, Bool.false_and, Nat.reduceBEq, ↓reduceIte, am_k2_n, am_k2_i, am_k2_r, am_k2_u, am_k2_f, am_k2_l, Nat.zero_le, true_and, and_true, true_or, or_true, am_cat_0, am_cat_i, am_cat_r, am_cat_l, am_cat_n, Nat.reduceLeDiff, Nat.reduceAdd, Option.isSome_some, List.getElem?_cons_zero, List.getElem?_cons_succ, am_fit_i, am_fit_r, am_fit_a]
  have hgo := lp_dsum (X := X) (D := D) (by omega) h1 hm hP 17 1 (by omega)
  have e : psm d 1 = 0 := by show 0 + (if d.testBit 0 = true then 0 else 0) = 0; split <;> rfl
  rw [e] at hgo
  exact hgo
def ssI (l h d : Nat) : Int32 := if filledB l h d = true then (if (bsm (frN l h) 0 31 + bsm d 0 31) % 2 = 0 then (nI (bsm (frN l h) 0 31) - nI (bsm d 0 31)) / 2 else -6) else -6
theorem lp_ssum (hD : 3 ≤ D) (h1 : am_ob G 23 5 = some (moL pm len T m ip due dep vp)) (hm : MA G l h d f) (hP : am_WP X D 110 40 [some (.ref 23), some (.int (nI (psm (frN l h) l) - nI (bsm d 0 31))), none] [] G 0 0 P) : ∀ (k i : Nat), i + k = l → am_WP X D 110 8 [some (.ref 23), some (.int (nI (psm (frN l h) i) - nI (bsm d 0 31))), some (.int (nI i))] [] G 0 0 P := by
  obtain ⟨⟨af, a1, a2, a3, a4, a5⟩, hl1, hl, hh, hd, hd0, hf⟩ := id hm
  have h0 : af (0 : Int32).toNatClampNeg = nI l := a2
  intro k
  induction k with
  | zero =>
    intro i hi
    refine am_wps 40 [37, 40] ?_
    simp only [J110_0, J110_1, J110_4, J110_5, J110_6, J110_7, J110_8, J110_9, J110_10, J110_13, J110_14, J110_15, J110_18, J110_19, J110_20, J110_21, J110_24, J110_27, J110_28, J110_31, J110_32, J110_33, J110_34, J110_37, J110_40, J110_41, J110_44, J110_47, J110_48, J110_49, J110_50, J110_53, J110_54, J110_55, J110_56, J110_59, J110_61, am_gg_c, am_gf_c, am_pf_c, am_af_c, am_sf_c, am_bf_c, am_qf_c, am_ap_c, am_bp_c, am_qp_c, am_lf_c, am_kt_s, am_kt_n, am_wst, am_wstop, am_ns_0, am_ns_1, Bool.not_true, Bool.not_false, Bool.true_and, Bool.false_and, Nat.reduceBEq, ↓reduceIte, am_k2_n, am_k2_i, am_k2_r, am_k2_u, am_k2_f, am_k2_l, Nat.zero_le, true_and, and_true, true_or, or_true, am_cat_0, am_cat_i, am_cat_r, am_cat_l, am_cat_n, Nat.reduceLeDiff, Nat.reduceAdd, Option.isSome_some, List.getElem?_cons_zero, List.getElem?_cons_succ, am_fit_i, am_fit_r, am_fit_a, h1, a1, h0]
    refine ⟨vp_lit (k := 0) rfl (by omega) (by omega), ?_⟩
    rw [if_neg (by rw [nI_ltI (by omega) (by omega)]; omega), show i = l by omega]
    exact am_WP.fg hP (by simp [am_le])
  | succ k ih =>
    intro i hi
    have hn := ih (i + 1) (by omega)
    have hs : psm (frN l h) (i + 1) = psm (frN l h) i + (if (frN l h).testBit i = true then i else 0) := rfl
    rw [hs] at hn
    refine am_wps 40 [37, 40] ?_
    simp only [J110_0, J110_1, J110_4, J110_5, J110_6, J110_7, J110_8, J110_9, J110_10, J110_13, J110_14, J110_15, J110_18, J110_19, J110_20, J110_21, J110_24, J110_27, J110_28, J110_31, J110_32, J110_33, J110_34, J110_37, J110_40, J110_41, J110_44, J110_47, J110_48, J110_49, J110_50, J110_53, J110_54, J110_55, J110_56, J110_59, J110_61, am_gg_c, am_gf_c, am_pf_c, am_af_c, am_sf_c, am_bf_c, am_qf_c, am_ap_c, am_bp_c, am_qp_c, am_lf_c, am_kt_s, am_kt_n, am_wst, am_wstop, am_ns_0, am_ns_1, Bool.not_true, Bool.not_false, Bool.true_and, Bool.false_and, Nat.reduceBEq, ↓reduceIte, am_k2_n, am_k2_i, am_k2_r, am_k2_u, am_k2_f, am_k2_l, Nat.zero_le, true_and, and_true, true_or, or_true, am_cat_0, am_cat_i, am_cat_r, am_cat_l, am_cat_n, Nat.reduceLeDiff, Nat.reduceAdd, Option.isSome_some, List.getElem?_cons_zero, List.getElem?_cons_succ, am_fit_i, am_fit_r, am_fit_a, h1, a1, h0]
    refine ⟨vp_lit (k := 0) rfl (by omega) (by omega), ?_⟩
    rw [if_pos (by rw [nI_ltI (by omega) (by omega)]; omega)]
    refine sp_mFree (by omega) h1 hm (by omega) ?_
    simp only [J110_0, J110_1, J110_4, J110_5, J110_6, J110_7, J110_8, J110_9, J110_10, J110_13, J110_14, J110_15, J110_18, J110_19, J110_20, J110_21, J110_24, J110_27, J110_28, J110_31, J110_32, J110_33, J110_34, J110_37, J110_40, J110_41, J110_44, J110_47, J110_48, J110_49, J110_50, J110_53, J110_54, J110_55, J110_56, J110_59, J110_61, am_gg_c, am_gf_c, am_pf_c, am_af_c, am_sf_c, am_bf_c, am_qf_c, am_ap_c, am_bp_c, am_qp_c, am_lf_c, am_kt_s, am_kt_n, am_wst, am_wstop, am_ns_0, am_ns_1, Bool.not_true, Bool.not_false, Bool.true_and, Bool.false_and, Nat.reduceBEq, ↓reduceIte, am_k2_n, am_k2_i, am_k2_r, am_k2_u, am_k2_f, am_k2_l, Nat.zero_le, true_and, and_true, true_or, or_true, am_cat_0, am_cat_i, am_cat_r, am_cat_l, am_cat_n, Nat.reduceLeDiff, Nat.reduceAdd, Option.isSome_some, List.getElem?_cons_zero, List.getElem?_cons_succ, am_fit_i, am_fit_r, am_fit_a]
    have ee : ∀ x y : Nat, nI x - nI (bsm d 0 31) + nI y = nI (x + y) - nI (bsm d 0 31) := fun x y => iI_mv x y _
    cases c : (frN l h).testBit i with
    | true =>
      rw [c] at hn
      simp only [if_true, if_neg (show ¬ (1 : Int32) = 0 by decide)]
      refine am_goto I110_37 ?_
      rw [nI_1, ee]
      exact hn
    | false =>
      rw [c] at hn
      simp only [Bool.false_eq_true, if_false, if_true]
      refine am_goto I110_37 ?_
      rw [nI_1, show (0 : Int32) = nI 0 by rfl, ee]
      exact hn
theorem sp_mstartSum (hD : 4 ≤ D) (h1 : am_ob G 23 5 = some (moL pm len T m ip due dep vp)) (hm : MA G l h d f) (hP : P (some (.int (ssI l h d))) G) : am_CB X D 110 [.ref 23] G P := by
  obtain ⟨D, rfl⟩ : ∃ D0, D = D0 + 1 := ⟨D - 1, by omega⟩
  have hl := hm.2.2.1
  have hq := bsm_le (frN l h) 31 0 (by omega)
  have hq2 := bsm_le d 31 0 (by omega)
  unfold ssI at hP
  refine B110 40 [8] ?_
  simp only [J110_0, J110_1, J110_4, J110_5, J110_6, J110_7, J110_8, J110_9, J110_10, J110_13, J110_14, J110_15, J110_18, J110_19, J110_20, J110_21, J110_24, J110_27, J110_28, J110_31, J110_32, J110_33, J110_34, J110_37, J110_40, J110_41, J110_44, J110_47, J110_48, J110_49, J110_50, J110_53, J110_54, J110_55, J110_56, J110_59, J110_61, am_gg_c, am_gf_c, am_pf_c, am_af_c, am_sf_c, am_bf_c, am_qf_c, am_ap_c, am_bp_c, am_qp_c, am_lf_c, am_kt_s, am_kt_n, am_wst, am_wstop, am_ns_0, am_ns_1, Bool.not_true, Bool.not_false, Bool.true_and, Bool.false_and, Nat.reduceBEq, ↓reduceIte, am_k2_n, am_k2_i, am_k2_r, am_k2_u, am_k2_f, am_k2_l, Nat.zero_le, true_and, and_true, true_or, or_true, am_cat_0, am_cat_i, am_cat_r, am_cat_l, am_cat_n, Nat.reduceLeDiff, Nat.reduceAdd, Option.isSome_some, List.getElem?_cons_zero, List.getElem?_cons_succ, am_fit_i, am_fit_r, am_fit_a, h1]
  refine sp_dsum (by omega) h1 hm ?_
  simp only [J110_0, J110_1, J110_4, J110_5, J110_6, J110_7, J110_8, J110_9, J110_10, J110_13, J110_14, J110_15, J110_18, J110_19, J110_20, J110_21, J110_24, J110_27, J110_28, J110_31, J110_32, J110_33, J110_34, J110_37, J110_40, J110_41, J110_44, J110_47, J110_48, J110_49, J110_50, J110_53, J110_54, J110_55, J110_56, J110_59, J110_61, am_gg_c, am_gf_c, am_pf_c, am_af_c, am_sf_c, am_bf_c, am_qf_c, am_ap_c, am_bp_c, am_qp_c, am_lf_c, am_kt_s, am_kt_n, am_wst, am_wstop, am_ns_0, am_ns_1, Bool.not_true, Bool.not_false, Bool.true_and, Bool.false_and, Nat.reduceBEq, ↓reduceIte, am_k2_n, am_k2_i, am_k2_r, am_k2_u, am_k2_f, am_k2_l, Nat.zero_le, true_and, and_true, true_or, or_true, am_cat_0, am_cat_i, am_cat_r, am_cat_l, am_cat_n, Nat.reduceLeDiff, Nat.reduceAdd, Option.isSome_some, List.getElem?_cons_zero, List.getElem?_cons_succ, am_fit_i, am_fit_r, am_fit_a, h1]
  have e0 : -nI (bsm d 0 31) = nI (psm (frN l h) 0) - nI (bsm d 0 31) := by
    show _ = nI 0 - _
    rw [show nI 0 = (0 : Int32) by rfl, Int32.zero_sub]
  rw [e0]
  refine lp_ssum (by omega) h1 hm ?_ l 0 (by omega)
  rw [psm_eq (by omega) (fun q hq => by rw [frN_bit hl, decide_eq_false (by omega)]; rfl)]
  generalize bsm (frN l h) 0 31 = A at *
  generalize bsm d 0 31 = B at *
  refine am_wps 60 [] ?_
  simp only [J110_0, J110_1, J110_4, J110_5, J110_6, J110_7, J110_8, J110_9, J110_10, J110_13, J110_14, J110_15, J110_18, J110_19, J110_20, J110_21, J110_24, J110_27, J110_28, J110_31, J110_32, J110_33, J110_34, J110_37, J110_40, J110_41, J110_44, J110_47, J110_48, J110_49, J110_50, J110_53, J110_54, J110_55, J110_56, J110_59, J110_61, am_gg_c, am_gf_c, am_pf_c, am_af_c, am_sf_c, am_bf_c, am_qf_c, am_ap_c, am_bp_c, am_qp_c, am_lf_c, am_kt_s, am_kt_n, am_wst, am_wstop, am_ns_0, am_ns_1, Bool.not_true, Bool.not_false, Bool.true_and, Bool.false_and, Nat.reduceBEq, ↓reduceIte, am_k2_n, am_k2_i, am_k2_r, am_k2_u, am_k2_f, am_k2_l, Nat.zero_le, true_and, and_true, true_or, or_true, am_cat_0, am_cat_i, am_cat_r, am_cat_l, am_cat_n, Nat.reduceLeDiff, Nat.reduceAdd, Option.isSome_some, List.getElem?_cons_zero, List.getElem?_cons_succ, am_fit_i, am_fit_r, am_fit_a, h1]
  refine sp_isEven (by omega) h1 hm ?_
  simp only [J110_0, J110_1, J110_4, J110_5, J110_6, J110_7, J110_8, J110_9, J110_10, J110_13, J110_14, J110_15, J110_18, J110_19, J110_20, J110_21, J110_24, J110_27, J110_28, J110_31, J110_32, J110_33, J110_34, J110_37, J110_40, J110_41, J110_44, J110_47, J110_48, J110_49, J110_50, J110_53, J110_54, J110_55, J110_56, J110_59, J110_61, am_gg_c, am_gf_c, am_pf_c, am_af_c, am_sf_c, am_bf_c, am_qf_c, am_ap_c, am_bp_c, am_qp_c, am_lf_c, am_kt_s, am_kt_n, am_wst, am_wstop, am_ns_0, am_ns_1, Bool.not_true, Bool.not_false, Bool.true_and, Bool.false_and, Nat.reduceBEq, ↓reduceIte, am_k2_n, am_k2_i, am_k2_r, am_k2_u, am_k2_f, am_k2_l, Nat.zero_le, true_and, and_true, true_or, or_true, am_cat_0, am_cat_i, am_cat_r, am_cat_l, am_cat_n, Nat.reduceLeDiff, Nat.reduceAdd, Option.isSome_some, List.getElem?_cons_zero, List.getElem?_cons_succ, am_fit_i, am_fit_r, am_fit_a, h1]
  cases c : filledB l h d with
  | false =>
    rw [c] at hP
    simp only [Bool.false_eq_true, if_false, if_true]
    simpa using hP
  | true =>
    rw [c] at hP
    simp only [if_true, if_neg (show ¬ (1 : Int32) = 0 by decide)]
    simp only [if_true] at hP
    refine ⟨by decide, ?_⟩
    have hr := bi_rem2 (a := A) (b := B) (by omega) (by omega)
    by_cases c2 : (A + B) % 2 = 0
    · rw [if_pos c2] at hP
      rw [if_pos (hr.mpr c2)]
      exact ⟨by decide, hP⟩
    · rw [if_neg c2] at hP
      rw [if_neg (fun z => c2 (hr.mp z))]
      exact hP
def slI (l h d : Nat) : Int32 := if filledB l h d = true then iI (shN l h d) + 1000 else -6
theorem lp_slack (hD : 3 ≤ D) (h1 : am_ob G 23 5 = some (moL pm len T m ip due dep vp)) (hm : MA G l h d f) (hc : filledB l h d = true) (hP : P (some (.int (iI (shN l h d) + 1000))) G) : ∀ (k i : Nat), i + k = l → am_WP X D 111 20 [some (.ref 23), some (.int (iI ((gS (frN l h) ((bl (frN l h)).length / 2) i).2 - (bsm d 0 31 : Nat)))), some (.int (nI (gS (frN l h) ((bl (frN l h)).length / 2) i).1)), some (.int (nI i))] [] G 0 0 P := by
  obtain ⟨⟨af, a1, a2, a3, a4, a5⟩, hl1, hl, hh, hd, hd0, hf⟩ := id hm
  have h0 : af (0 : Int32).toNatClampNeg = nI l := a2
  have hble := bl_le (frN l h)
  have hfe : (bl (frN l h)).length = 2 * (bl d).length := by simpa [filledB] using hc
  intro k
  induction k with
  | zero =>
    intro i hi
    refine am_wps 60 [63] ?_
    simp only [J111_0, J111_1, J111_4, J111_7, J111_9, J111_10, J111_11, J111_14, J111_15, J111_16, J111_17, J111_18, J111_19, J111_20, J111_21, J111_22, J111_25, J111_26, J111_27, J111_30, J111_31, J111_32, J111_35, J111_38, J111_39, J111_40, J111_41, J111_42, J111_43, J111_46, J111_49, J111_50, J111_51, J111_54, J111_55, J111_56, J111_57, J111_60, J111_63, J111_66, J111_67, J111_70, J111_71, am_gg_c, am_gf_c, am_pf_c, am_af_c, am_sf_c, am_bf_c, am_qf_c, am_ap_c, am_bp_c, am_qp_c, am_lf_c, am_kt_s, am_kt_n, am_wst, am_wstop, am_ns_0, am_ns_1, Bool.not_true, Bool.not_false, Bool.true_and, Bool.false_and, Nat.reduceBEq, ↓reduceIte, am_k2_n, am_k2_i, am_k2_r, am_k2_u, am_k2_f, am_k2_l, Nat.zero_le, true_and, and_true, true_or, or_true, am_cat_0, am_cat_i, am_cat_r, am_cat_l, am_cat_n, Nat.reduceLeDiff, Nat.reduceAdd, Option.isSome_some, List.getElem?_cons_zero, List.getElem?_cons_succ, am_fit_i, am_fit_r, am_fit_a, h1, a1, h0]
    refine ⟨vp_lit (k := 0) rfl (by omega) (by omega), ?_⟩
    rw [if_neg (by rw [nI_ltI (by omega) (by omega)]; omega), show i = l by omega]
    exact hP
  | succ k ih =>
    intro i hi
    have hn := ih (i + 1) (by omega)
    have hle := gS_le (frN l h) ((bl (frN l h)).length / 2) i
    have hs : gS (frN l h) ((bl (frN l h)).length / 2) (i + 1) = if (frN l h).testBit i = true then ((gS (frN l h) ((bl (frN l h)).length / 2) i).1 + 1, (gS (frN l h) ((bl (frN l h)).length / 2) i).2 + (if (gS (frN l h) ((bl (frN l h)).length / 2) i).1 < (bl (frN l h)).length / 2 then -(i : Int) else (i : Int))) else gS (frN l h) ((bl (frN l h)).length / 2) i := rfl
    rw [hs] at hn
    refine am_wps 60 [63] ?_
    simp only [J111_0, J111_1, J111_4, J111_7, J111_9, J111_10, J111_11, J111_14, J111_15, J111_16, J111_17, J111_18, J111_19, J111_20, J111_21, J111_22, J111_25, J111_26, J111_27, J111_30, J111_31, J111_32, J111_35, J111_38, J111_39, J111_40, J111_41, J111_42, J111_43, J111_46, J111_49, J111_50, J111_51, J111_54, J111_55, J111_56, J111_57, J111_60, J111_63, J111_66, J111_67, J111_70, J111_71, am_gg_c, am_gf_c, am_pf_c, am_af_c, am_sf_c, am_bf_c, am_qf_c, am_ap_c, am_bp_c, am_qp_c, am_lf_c, am_kt_s, am_kt_n, am_wst, am_wstop, am_ns_0, am_ns_1, Bool.not_true, Bool.not_false, Bool.true_and, Bool.false_and, Nat.reduceBEq, ↓reduceIte, am_k2_n, am_k2_i, am_k2_r, am_k2_u, am_k2_f, am_k2_l, Nat.zero_le, true_and, and_true, true_or, or_true, am_cat_0, am_cat_i, am_cat_r, am_cat_l, am_cat_n, Nat.reduceLeDiff, Nat.reduceAdd, Option.isSome_some, List.getElem?_cons_zero, List.getElem?_cons_succ, am_fit_i, am_fit_r, am_fit_a, h1, a1, h0]
    refine ⟨vp_lit (k := 0) rfl (by omega) (by omega), ?_⟩
    rw [if_pos (by rw [nI_ltI (by omega) (by omega)]; omega)]
    refine sp_mFree (by omega) h1 hm (by omega) ?_
    simp only [J111_0, J111_1, J111_4, J111_7, J111_9, J111_10, J111_11, J111_14, J111_15, J111_16, J111_17, J111_18, J111_19, J111_20, J111_21, J111_22, J111_25, J111_26, J111_27, J111_30, J111_31, J111_32, J111_35, J111_38, J111_39, J111_40, J111_41, J111_42, J111_43, J111_46, J111_49, J111_50, J111_51, J111_54, J111_55, J111_56, J111_57, J111_60, J111_63, J111_66, J111_67, J111_70, J111_71, am_gg_c, am_gf_c, am_pf_c, am_af_c, am_sf_c, am_bf_c, am_qf_c, am_ap_c, am_bp_c, am_qp_c, am_lf_c, am_kt_s, am_kt_n, am_wst, am_wstop, am_ns_0, am_ns_1, Bool.not_true, Bool.not_false, Bool.true_and, Bool.false_and, Nat.reduceBEq, ↓reduceIte, am_k2_n, am_k2_i, am_k2_r, am_k2_u, am_k2_f, am_k2_l, Nat.zero_le, true_and, and_true, true_or, or_true, am_cat_0, am_cat_i, am_cat_r, am_cat_l, am_cat_n, Nat.reduceLeDiff, Nat.reduceAdd, Option.isSome_some, List.getElem?_cons_zero, List.getElem?_cons_succ, am_fit_i, am_fit_r, am_fit_a, h1]
    cases c : (frN l h).testBit i with
    | true =>
      rw [c] at hn
      simp only [if_true, if_neg (show ¬ (1 : Int32) = 0 by decide)]
      simp only [if_true] at hn
      refine sp_mfree (by omega) h1 hm ?_
      simp only [J111_0, J111_1, J111_4, J111_7, J111_9, J111_10, J111_11, J111_14, J111_15, J111_16, J111_17, J111_18, J111_19, J111_20, J111_21, J111_22, J111_25, J111_26, J111_27, J111_30, J111_31, J111_32, J111_35, J111_38, J111_39, J111_40, J111_41, J111_42, J111_43, J111_46, J111_49, J111_50, J111_51, J111_54, J111_55, J111_56, J111_57, J111_60, J111_63, J111_66, J111_67, J111_70, J111_71, am_gg_c, am_gf_c, am_pf_c, am_af_c, am_sf_c, am_bf_c, am_qf_c, am_ap_c, am_bp_c, am_qp_c, am_lf_c, am_kt_s, am_kt_n, am_wst, am_wstop, am_ns_0, am_ns_1, Bool.not_true, Bool.not_false, Bool.true_and, Bool.false_and, Nat.reduceBEq, ↓reduceIte, am_k2_n, am_k2_i, am_k2_r, am_k2_u, am_k2_f, am_k2_l, Nat.zero_le, true_and, and_true, true_or, or_true, am_cat_0, am_cat_i, am_cat_r, am_cat_l, am_cat_n, Nat.reduceLeDiff, Nat.reduceAdd, Option.isSome_some, List.getElem?_cons_zero, List.getElem?_cons_succ, am_fit_i, am_fit_r, am_fit_a, h1]
      rw [show (2 : Int32) = nI 2 by rfl, pk_mul]
      by_cases c2 : (gS (frN l h) ((bl (frN l h)).length / 2) i).1 < (bl (frN l h)).length / 2
      · rw [if_pos c2] at hn
        rw [if_pos (by rw [nI_ltI (by omega) (by omega)]; omega)]
        refine am_goto I111_63 ?_
        rw [nI_1, nI_1, iI_n i, iI_neg, iI_add]
        rw [show (gS (frN l h) ((bl (frN l h)).length / 2) i).2 - (bsm d 0 31 : Nat) + -(i : Int) = (gS (frN l h) ((bl (frN l h)).length / 2) i).2 + -(i : Int) - (bsm d 0 31 : Nat) by omega]
        exact hn
      · rw [if_neg c2] at hn
        rw [if_neg (by rw [nI_ltI (by omega) (by omega)]; omega)]
        refine am_goto I111_63 ?_
        rw [nI_1, nI_1, iI_n i, iI_add]
        rw [show (gS (frN l h) ((bl (frN l h)).length / 2) i).2 - (bsm d 0 31 : Nat) + (i : Int) = (gS (frN l h) ((bl (frN l h)).length / 2) i).2 + (i : Int) - (bsm d 0 31 : Nat) by omega]
        exact hn
    | false =>
      rw [c] at hn
      simp only [Bool.false_eq_true, if_false, if_true]
      refine am_goto I111_63 ?_
      rw [nI_1]
      exact hn
theorem sp_mslack (hD : 4 ≤ D) (h1 : am_ob G 23 5 = some (moL pm len T m ip due dep vp)) (hm : MA G l h d f) (hP : P (some (.int (slI l h d))) G) : am_CB X D 111 [.ref 23] G P := by
  obtain ⟨D, rfl⟩ : ∃ D0, D = D0 + 1 := ⟨D - 1, by omega⟩
  unfold slI at hP
  refine B111 60 [20] ?_
  simp only [J111_0, J111_1, J111_4, J111_7, J111_9, J111_10, J111_11, J111_14, J111_15, J111_16, J111_17, J111_18, J111_19, J111_20, J111_21, J111_22, J111_25, J111_26, J111_27, J111_30, J111_31, J111_32, J111_35, J111_38, J111_39, J111_40, J111_41, J111_42, J111_43, J111_46, J111_49, J111_50, J111_51, J111_54, J111_55, J111_56, J111_57, J111_60, J111_63, J111_66, J111_67, J111_70, J111_71, am_gg_c, am_gf_c, am_pf_c, am_af_c, am_sf_c, am_bf_c, am_qf_c, am_ap_c, am_bp_c, am_qp_c, am_lf_c, am_kt_s, am_kt_n, am_wst, am_wstop, am_ns_0, am_ns_1, Bool.not_true, Bool.not_false, Bool.true_and, Bool.false_and, Nat.reduceBEq, ↓reduceIte, am_k2_n, am_k2_i, am_k2_r, am_k2_u, am_k2_f, am_k2_l, Nat.zero_le, true_and, and_true, true_or, or_true, am_cat_0, am_cat_i, am_cat_r, am_cat_l, am_cat_n, Nat.reduceLeDiff, Nat.reduceAdd, Option.isSome_some, List.getElem?_cons_zero, List.getElem?_cons_succ, am_fit_i, am_fit_r, am_fit_a, h1]
  refine sp_isEven (by omega) h1 hm ?_
  simp only [J111_0, J111_1, J111_4, J111_7, J111_9, J111_10, J111_11, J111_14, J111_15, J111_16, J111_17, J111_18, J111_19, J111_20, J111_21, J111_22, J111_25, J111_26, J111_27, J111_30, J111_31, J111_32, J111_35, J111_38, J111_39, J111_40, J111_41, J111_42, J111_43, J111_46, J111_49, J111_50, J111_51, J111_54, J111_55, J111_56, J111_57, J111_60, J111_63, J111_66, J111_67, J111_70, J111_71, am_gg_c, am_gf_c, am_pf_c, am_af_c, am_sf_c, am_bf_c, am_qf_c, am_ap_c, am_bp_c, am_qp_c, am_lf_c, am_kt_s, am_kt_n, am_wst, am_wstop, am_ns_0, am_ns_1, Bool.not_true, Bool.not_false, Bool.true_and, Bool.false_and, Nat.reduceBEq, ↓reduceIte, am_k2_n, am_k2_i, am_k2_r, am_k2_u, am_k2_f, am_k2_l, Nat.zero_le, true_and, and_true, true_or, or_true, am_cat_0, am_cat_i, am_cat_r, am_cat_l, am_cat_n, Nat.reduceLeDiff, Nat.reduceAdd, Option.isSome_some, List.getElem?_cons_zero, List.getElem?_cons_succ, am_fit_i, am_fit_r, am_fit_a, h1]
  cases c : filledB l h d with
  | false =>
    rw [c] at hP
    simp only [Bool.false_eq_true, if_false, if_true]
    simpa using hP
  | true =>
    rw [c] at hP
    simp only [if_true, if_neg (show ¬ (1 : Int32) = 0 by decide)]
    refine sp_dsum (by omega) h1 hm ?_
    simp only [J111_0, J111_1, J111_4, J111_7, J111_9, J111_10, J111_11, J111_14, J111_15, J111_16, J111_17, J111_18, J111_19, J111_20, J111_21, J111_22, J111_25, J111_26, J111_27, J111_30, J111_31, J111_32, J111_35, J111_38, J111_39, J111_40, J111_41, J111_42, J111_43, J111_46, J111_49, J111_50, J111_51, J111_54, J111_55, J111_56, J111_57, J111_60, J111_63, J111_66, J111_67, J111_70, J111_71, am_gg_c, am_gf_c, am_pf_c, am_af_c, am_sf_c, am_bf_c, am_qf_c, am_ap_c, am_bp_c, am_qp_c, am_lf_c, am_kt_s, am_kt_n, am_wst, am_wstop, am_ns_0, am_ns_1, Bool.not_true, Bool.not_false, Bool.true_and, Bool.false_and, Nat.reduceBEq, ↓reduceIte, am_k2_n, am_k2_i, am_k2_r, am_k2_u, am_k2_f, am_k2_l, Nat.zero_le, true_and, and_true, true_or, or_true, am_cat_0, am_cat_i, am_cat_r, am_cat_l, am_cat_n, Nat.reduceLeDiff, Nat.reduceAdd, Option.isSome_some, List.getElem?_cons_zero, List.getElem?_cons_succ, am_fit_i, am_fit_r, am_fit_a, h1]
    have hgo := lp_slack (X := X) (D := D) (by omega) h1 hm c (by simpa using hP) l 0 (by omega)
    rw [iI_n (bsm d 0 31), iI_neg]
    have e : (gS (frN l h) ((bl (frN l h)).length / 2) 0).2 - (bsm d 0 31 : Nat) = -((bsm d 0 31 : Nat) : Int) := by show (0 : Int) - _ = _; omega
    rw [e] at hgo
    exact hgo
/-- what problem answers -/
def pbI (l h d : Nat) (f : Nat → Nat) (n : Nat) (x : Int32) : Int32 := if x = 0 then nI l else if x = 1 then nI h else if x = 2 then nI d else if x = 3 then nI (mkm (fun q => !(f q == 0)) l) else if x = 4 then nI (bl (frN l h)).length else if x = 5 then nI n else -2
theorem sp_mproblem {n : Nat} {x : Int32} (hD : 3 ≤ D) (h1 : am_ob G 23 5 = some (moL (nI n) len T m ip due dep vp)) (hm : MA G l h d f) (hP : P (some (.int (pbI l h d f n x))) G) : am_CB X D 107 [.ref 23, .int x] G P := by
  obtain ⟨D, rfl⟩ : ∃ D0, D = D0 + 1 := ⟨D - 1, by omega⟩
  obtain ⟨⟨af, a1, a2, a3, a4, a5⟩, hl1, hl, hh, hd, hd0, hf⟩ := id hm
  unfold pbI at hP
  refine B107 60 [40, 47, 52, 57, 62] ?_
  simp only [J107_0, J107_1, J107_40, J107_41, J107_44, J107_45, J107_46, J107_47, J107_48, J107_51, J107_52, J107_53, J107_56, J107_57, J107_58, J107_61, J107_62, J107_64, am_gg_c, am_gf_c, am_pf_c, am_af_c, am_sf_c, am_bf_c, am_qf_c, am_ap_c, am_bp_c, am_qp_c, am_lf_c, am_kt_s, am_kt_n, am_wst, am_wstop, am_ns_0, am_ns_1, Bool.not_true, Bool.not_false, Bool.true_and, Bool.false_and, Nat.reduceBEq, ↓reduceIte, am_k2_n, am_k2_i, am_k2_r, am_k2_u, am_k2_f, am_k2_l, Nat.zero_le, true_and, and_true, true_or, or_true, am_cat_0, am_cat_i, am_cat_r, am_cat_l, am_cat_n, Nat.reduceLeDiff, Nat.reduceAdd, Option.isSome_some, List.getElem?_cons_zero, List.getElem?_cons_succ, am_fit_i, am_fit_r, am_fit_a, h1]
  by_cases c0 : x = 0
  · subst c0
    rw [if_pos rfl] at hP ⊢
    refine am_wps 60 [] ?_
    simp only [J107_0, J107_1, J107_40, J107_41, J107_44, J107_45, J107_46, J107_47, J107_48, J107_51, J107_52, J107_53, J107_56, J107_57, J107_58, J107_61, J107_62, J107_64, am_gg_c, am_gf_c, am_pf_c, am_af_c, am_sf_c, am_bf_c, am_qf_c, am_ap_c, am_bp_c, am_qp_c, am_lf_c, am_kt_s, am_kt_n, am_wst, am_wstop, am_ns_0, am_ns_1, Bool.not_true, Bool.not_false, Bool.true_and, Bool.false_and, Nat.reduceBEq, ↓reduceIte, am_k2_n, am_k2_i, am_k2_r, am_k2_u, am_k2_f, am_k2_l, Nat.zero_le, true_and, and_true, true_or, or_true, am_cat_0, am_cat_i, am_cat_r, am_cat_l, am_cat_n, Nat.reduceLeDiff, Nat.reduceAdd, Option.isSome_some, List.getElem?_cons_zero, List.getElem?_cons_succ, am_fit_i, am_fit_r, am_fit_a, h1, a1]
    refine ⟨vp_lit (k := 0) rfl (by omega) (by omega), ?_⟩
    rw [show af (0 : Int32).toNatClampNeg = nI l from a2]
    exact hP
  rw [if_neg c0] at hP ⊢
  by_cases c1 : x = 1
  · subst c1
    rw [if_pos rfl] at hP ⊢
    refine am_wps 60 [] ?_
    simp only [J107_0, J107_1, J107_40, J107_41, J107_44, J107_45, J107_46, J107_47, J107_48, J107_51, J107_52, J107_53, J107_56, J107_57, J107_58, J107_61, J107_62, J107_64, am_gg_c, am_gf_c, am_pf_c, am_af_c, am_sf_c, am_bf_c, am_qf_c, am_ap_c, am_bp_c, am_qp_c, am_lf_c, am_kt_s, am_kt_n, am_wst, am_wstop, am_ns_0, am_ns_1, Bool.not_true, Bool.not_false, Bool.true_and, Bool.false_and, Nat.reduceBEq, ↓reduceIte, am_k2_n, am_k2_i, am_k2_r, am_k2_u, am_k2_f, am_k2_l, Nat.zero_le, true_and, and_true, true_or, or_true, am_cat_0, am_cat_i, am_cat_r, am_cat_l, am_cat_n, Nat.reduceLeDiff, Nat.reduceAdd, Option.isSome_some, List.getElem?_cons_zero, List.getElem?_cons_succ, am_fit_i, am_fit_r, am_fit_a, h1, a1]
    refine ⟨vp_lit (k := 1) rfl (by omega) (by omega), ?_⟩
    rw [show af (1 : Int32).toNatClampNeg = nI h from a3]
    exact hP
  rw [if_neg c1] at hP
  rw [if_neg (by simpa using c1)]
  by_cases c2 : x = 2
  · subst c2
    rw [if_pos rfl] at hP ⊢
    refine am_wps 60 [] ?_
    simp only [J107_0, J107_1, J107_40, J107_41, J107_44, J107_45, J107_46, J107_47, J107_48, J107_51, J107_52, J107_53, J107_56, J107_57, J107_58, J107_61, J107_62, J107_64, am_gg_c, am_gf_c, am_pf_c, am_af_c, am_sf_c, am_bf_c, am_qf_c, am_ap_c, am_bp_c, am_qp_c, am_lf_c, am_kt_s, am_kt_n, am_wst, am_wstop, am_ns_0, am_ns_1, Bool.not_true, Bool.not_false, Bool.true_and, Bool.false_and, Nat.reduceBEq, ↓reduceIte, am_k2_n, am_k2_i, am_k2_r, am_k2_u, am_k2_f, am_k2_l, Nat.zero_le, true_and, and_true, true_or, or_true, am_cat_0, am_cat_i, am_cat_r, am_cat_l, am_cat_n, Nat.reduceLeDiff, Nat.reduceAdd, Option.isSome_some, List.getElem?_cons_zero, List.getElem?_cons_succ, am_fit_i, am_fit_r, am_fit_a, h1, a1]
    refine ⟨vp_lit (k := 2) rfl (by omega) (by omega), ?_⟩
    rw [show af (2 : Int32).toNatClampNeg = nI d from a4]
    exact hP
  rw [if_neg c2] at hP
  rw [if_neg (by simpa using c2)]
  by_cases c3 : x = 3
  · subst c3
    rw [if_pos rfl] at hP ⊢
    refine am_wps 60 [] ?_
    simp only [J107_0, J107_1, J107_40, J107_41, J107_44, J107_45, J107_46, J107_47, J107_48, J107_51, J107_52, J107_53, J107_56, J107_57, J107_58, J107_61, J107_62, J107_64, am_gg_c, am_gf_c, am_pf_c, am_af_c, am_sf_c, am_bf_c, am_qf_c, am_ap_c, am_bp_c, am_qp_c, am_lf_c, am_kt_s, am_kt_n, am_wst, am_wstop, am_ns_0, am_ns_1, Bool.not_true, Bool.not_false, Bool.true_and, Bool.false_and, Nat.reduceBEq, ↓reduceIte, am_k2_n, am_k2_i, am_k2_r, am_k2_u, am_k2_f, am_k2_l, Nat.zero_le, true_and, and_true, true_or, or_true, am_cat_0, am_cat_i, am_cat_r, am_cat_l, am_cat_n, Nat.reduceLeDiff, Nat.reduceAdd, Option.isSome_some, List.getElem?_cons_zero, List.getElem?_cons_succ, am_fit_i, am_fit_r, am_fit_a, h1]
    refine sp_mpinned (by omega) h1 hm ?_
    simp only [J107_0, J107_1, J107_40, J107_41, J107_44, J107_45, J107_46, J107_47, J107_48, J107_51, J107_52, J107_53, J107_56, J107_57, J107_58, J107_61, J107_62, J107_64, am_gg_c, am_gf_c, am_pf_c, am_af_c, am_sf_c, am_bf_c, am_qf_c, am_ap_c, am_bp_c, am_qp_c, am_lf_c, am_kt_s, am_kt_n, am_wst, am_wstop, am_ns_0, am_ns_1, Bool.not_true, Bool.not_false, Bool.true_and, Bool.false_and, Nat.reduceBEq, ↓reduceIte, am_k2_n, am_k2_i, am_k2_r, am_k2_u, am_k2_f, am_k2_l, Nat.zero_le, true_and, and_true, true_or, or_true, am_cat_0, am_cat_i, am_cat_r, am_cat_l, am_cat_n, Nat.reduceLeDiff, Nat.reduceAdd, Option.isSome_some, List.getElem?_cons_zero, List.getElem?_cons_succ, am_fit_i, am_fit_r, am_fit_a]
    exact hP
  rw [if_neg c3] at hP
  rw [if_neg (by simpa using c3)]
  by_cases c4 : x = 4
  · subst c4
    rw [if_pos rfl] at hP ⊢
    refine am_wps 60 [] ?_
    simp only [J107_0, J107_1, J107_40, J107_41, J107_44, J107_45, J107_46, J107_47, J107_48, J107_51, J107_52, J107_53, J107_56, J107_57, J107_58, J107_61, J107_62, J107_64, am_gg_c, am_gf_c, am_pf_c, am_af_c, am_sf_c, am_bf_c, am_qf_c, am_ap_c, am_bp_c, am_qp_c, am_lf_c, am_kt_s, am_kt_n, am_wst, am_wstop, am_ns_0, am_ns_1, Bool.not_true, Bool.not_false, Bool.true_and, Bool.false_and, Nat.reduceBEq, ↓reduceIte, am_k2_n, am_k2_i, am_k2_r, am_k2_u, am_k2_f, am_k2_l, Nat.zero_le, true_and, and_true, true_or, or_true, am_cat_0, am_cat_i, am_cat_r, am_cat_l, am_cat_n, Nat.reduceLeDiff, Nat.reduceAdd, Option.isSome_some, List.getElem?_cons_zero, List.getElem?_cons_succ, am_fit_i, am_fit_r, am_fit_a, h1]
    refine sp_mfree (by omega) h1 hm ?_
    simp only [J107_0, J107_1, J107_40, J107_41, J107_44, J107_45, J107_46, J107_47, J107_48, J107_51, J107_52, J107_53, J107_56, J107_57, J107_58, J107_61, J107_62, J107_64, am_gg_c, am_gf_c, am_pf_c, am_af_c, am_sf_c, am_bf_c, am_qf_c, am_ap_c, am_bp_c, am_qp_c, am_lf_c, am_kt_s, am_kt_n, am_wst, am_wstop, am_ns_0, am_ns_1, Bool.not_true, Bool.not_false, Bool.true_and, Bool.false_and, Nat.reduceBEq, ↓reduceIte, am_k2_n, am_k2_i, am_k2_r, am_k2_u, am_k2_f, am_k2_l, Nat.zero_le, true_and, and_true, true_or, or_true, am_cat_0, am_cat_i, am_cat_r, am_cat_l, am_cat_n, Nat.reduceLeDiff, Nat.reduceAdd, Option.isSome_some, List.getElem?_cons_zero, List.getElem?_cons_succ, am_fit_i, am_fit_r, am_fit_a]
    exact hP
  rw [if_neg c4] at hP
  rw [if_neg (by simpa using c4)]
  by_cases c5 : x = 5
  · subst c5
    rw [if_pos rfl] at hP ⊢
    refine am_wps 60 [] ?_
    simp only [J107_0, J107_1, J107_40, J107_41, J107_44, J107_45, J107_46, J107_47, J107_48, J107_51, J107_52, J107_53, J107_56, J107_57, J107_58, J107_61, J107_62, J107_64, am_gg_c, am_gf_c, am_pf_c, am_af_c, am_sf_c, am_bf_c, am_qf_c, am_ap_c, am_bp_c, am_qp_c, am_lf_c, am_kt_s, am_kt_n, am_wst, am_wstop, am_ns_0, am_ns_1, Bool.not_true, Bool.not_false, Bool.true_and, Bool.false_and, Nat.reduceBEq, ↓reduceIte, am_k2_n, am_k2_i, am_k2_r, am_k2_u, am_k2_f, am_k2_l, Nat.zero_le, true_and, and_true, true_or, or_true, am_cat_0, am_cat_i, am_cat_r, am_cat_l, am_cat_n, Nat.reduceLeDiff, Nat.reduceAdd, Option.isSome_some, List.getElem?_cons_zero, List.getElem?_cons_succ, am_fit_i, am_fit_r, am_fit_a, h1]
    exact hP
  rw [if_neg c5] at hP
  rw [if_neg (by simpa using c5)]
  refine am_wps 60 [] ?_
  simp only [J107_0, J107_1, J107_40, J107_41, J107_44, J107_45, J107_46, J107_47, J107_48, J107_51, J107_52, J107_53, J107_56, J107_57, J107_58, J107_61, J107_62, J107_64, am_gg_c, am_gf_c, am_pf_c, am_af_c, am_sf_c, am_bf_c, am_qf_c, am_ap_c, am_bp_c, am_qp_c, am_lf_c, am_kt_s, am_kt_n, am_wst, am_wstop, am_ns_0, am_ns_1, Bool.not_true, Bool.not_false, Bool.true_and, Bool.false_and, Nat.reduceBEq, ↓reduceIte, am_k2_n, am_k2_i, am_k2_r, am_k2_u, am_k2_f, am_k2_l, Nat.zero_le, true_and, and_true, true_or, or_true, am_cat_0, am_cat_i, am_cat_r, am_cat_l, am_cat_n, Nat.reduceLeDiff, Nat.reduceAdd, Option.isSome_some, List.getElem?_cons_zero, List.getElem?_cons_succ, am_fit_i, am_fit_r, am_fit_a]
  exact hP
/-- what pin answers, and the pins then -/
def pnV (l : Nat) (f : Nat → Nat) (x y : Int32) : Int32 := if inN x l = true then (if 0 ≤ y.toInt ∧ y.toInt ≤ 17 then nI (f x.toInt.toNat) else -2) else -1
def pnF (l : Nat) (f : Nat → Nat) (x y : Int32) : Nat → Nat := if inN x l = true then (if 0 ≤ y.toInt ∧ y.toInt ≤ 17 then (fun q => if q = x.toInt.toNat then y.toInt.toNat else f q) else f) else f
theorem sp_mpin {x y : Int32} (hD : 3 ≤ D) (h1 : am_ob G 23 5 = some (moL pm len T m ip due dep vp)) (hm : MA G l h d f) (hP : ∀ G', MA G' l h d (pnF l f x y) → Fr [24] G G' → P (some (.int (pnV l f x y))) G') : am_CB X D 104 [.ref 23, .int x, .int y] G P := by
  obtain ⟨D, rfl⟩ : ∃ D0, D = D0 + 1 := ⟨D - 1, by omega⟩
  obtain ⟨⟨af, a1, a2, a3, a4, a5⟩, hl1, hl, hh, hd, hd0, hf⟩ := id hm
  have k24 := am_ia_lt a1
  unfold pnV pnF at hP
  refine B104 60 [] ?_
  simp only [J104_0, J104_1, J104_2, J104_5, J104_8, J104_9, J104_10, J104_11, J104_12, J104_14, J104_17, J104_20, J104_22, J104_23, J104_24, J104_27, J104_28, J104_29, J104_30, J104_31, J104_32, J104_33, J104_36, J104_37, J104_38, J104_39, J104_40, J104_41, J104_42, am_gg_c, am_gf_c, am_pf_c, am_af_c, am_sf_c, am_bf_c, am_qf_c, am_ap_c, am_bp_c, am_qp_c, am_lf_c, am_kt_s, am_kt_n, am_wst, am_wstop, am_ns_0, am_ns_1, Bool.not_true, Bool.not_false, Bool.true_and, Bool.false_and, Nat.reduceBEq, ↓reduceIte, am_k2_n, am_k2_i, am_k2_r, am_k2_u, am_k2_f, am_k2_l, Nat.zero_le, true_and, and_true, true_or, or_true, am_cat_0, am_cat_i, am_cat_r, am_cat_l, am_cat_n, Nat.reduceLeDiff, Nat.reduceAdd, Option.isSome_some, List.getElem?_cons_zero, List.getElem?_cons_succ, am_fit_i, am_fit_r, am_fit_a, h1]
  refine sp_mPosition (by omega) h1 hm ?_
  simp only [J104_0, J104_1, J104_2, J104_5, J104_8, J104_9, J104_10, J104_11, J104_12, J104_14, J104_17, J104_20, J104_22, J104_23, J104_24, J104_27, J104_28, J104_29, J104_30, J104_31, J104_32, J104_33, J104_36, J104_37, J104_38, J104_39, J104_40, J104_41, J104_42, am_gg_c, am_gf_c, am_pf_c, am_af_c, am_sf_c, am_bf_c, am_qf_c, am_ap_c, am_bp_c, am_qp_c, am_lf_c, am_kt_s, am_kt_n, am_wst, am_wstop, am_ns_0, am_ns_1, Bool.not_true, Bool.not_false, Bool.true_and, Bool.false_and, Nat.reduceBEq, ↓reduceIte, am_k2_n, am_k2_i, am_k2_r, am_k2_u, am_k2_f, am_k2_l, Nat.zero_le, true_and, and_true, true_or, or_true, am_cat_0, am_cat_i, am_cat_r, am_cat_l, am_cat_n, Nat.reduceLeDiff, Nat.reduceAdd, Option.isSome_some, List.getElem?_cons_zero, List.getElem?_cons_succ, am_fit_i, am_fit_r, am_fit_a, h1]
  cases hb : inN x l with
  | false =>
    rw [hb] at hP
    simp only [Bool.false_eq_true, if_false, if_true]
    simp only [Bool.false_eq_true, if_false] at hP
    exact hP G hm Fr.rf
  | true =>
    rw [hb] at hP
    simp only [if_true] at hP
    obtain ⟨q, rfl, hq⟩ := inN_of hb (by omega)
    rw [nI_toInt (by omega), Int.toNat_natCast] at hP
    simp only [if_true, if_neg (show ¬ (1 : Int32) = 0 by decide)]
    refine sp_in (by omega) ?_
    simp only [J104_0, J104_1, J104_2, J104_5, J104_8, J104_9, J104_10, J104_11, J104_12, J104_14, J104_17, J104_20, J104_22, J104_23, J104_24, J104_27, J104_28, J104_29, J104_30, J104_31, J104_32, J104_33, J104_36, J104_37, J104_38, J104_39, J104_40, J104_41, J104_42, am_gg_c, am_gf_c, am_pf_c, am_af_c, am_sf_c, am_bf_c, am_qf_c, am_ap_c, am_bp_c, am_qp_c, am_lf_c, am_kt_s, am_kt_n, am_wst, am_wstop, am_ns_0, am_ns_1, Bool.not_true, Bool.not_false, Bool.true_and, Bool.false_and, Nat.reduceBEq, ↓reduceIte, am_k2_n, am_k2_i, am_k2_r, am_k2_u, am_k2_f, am_k2_l, Nat.zero_le, true_and, and_true, true_or, or_true, am_cat_0, am_cat_i, am_cat_r, am_cat_l, am_cat_n, Nat.reduceLeDiff, Nat.reduceAdd, Option.isSome_some, List.getElem?_cons_zero, List.getElem?_cons_succ, am_fit_i, am_fit_r, am_fit_a, h1, a1]
    rw [show (0 : Int32).toInt = 0 by rfl, show (17 : Int32).toInt = 17 by rfl]
    by_cases c : 0 ≤ y.toInt ∧ y.toInt ≤ 17
    · simp only [if_pos c] at hP
      rw [if_pos c, if_neg (by decide)]
      obtain ⟨e, e2⟩ := bi_nat c.1
      have hk : y.toInt.toNat ≤ 17 := by omega
      generalize y.toInt.toNat = w at *
      subst e
      have hin : vp_in (3 + nI q) 21 := vp_lit (k := 3 + q) (by rw [show (3 : Int32) = nI 3 by rfl, nI_add]) (by omega) (by omega)
      have ec : (3 + nI q).toNatClampNeg = 3 + q := by rw [show (3 : Int32) = nI 3 by rfl, nI_add, nI_clamp (by omega)]
      refine ⟨hin, hin, ?_⟩
      rw [ec, a5 q (by omega)]
      refine hP _ ⟨⟨_, am_ia_ss k24, ?_, ?_, ?_, fun j hj => ?_⟩, hl1, hl, hh, hd, hd0, fun j => ?_⟩ (Fr.set (by decide))
      · rw [upd_at, if_neg (by omega)]; exact a2
      · rw [upd_at, if_neg (by omega)]; exact a3
      · rw [upd_at, if_neg (by omega)]; exact a4
      · rw [upd_at]
        by_cases z : j = q
        · subst z; simp
        · rw [if_neg (by omega)]
          simp only [if_neg z]
          exact a5 j hj
      · show (if j = q then w else f j) ≤ 17
        split
        · exact hk
        · exact hf j
    · simp only [if_neg c] at hP
      rw [if_neg c, if_pos rfl]
      exact hP G hm Fr.rf
end CD
