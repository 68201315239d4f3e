/-! the values of the calls at small numbers; the law's leaves -/
theorem go_n {A : List (List (Nat × Nat))} {k : Nat} (hk : k < 2 ^ 31) : goA A (nI k) = A[k]? := by
  unfold goA
  rw [if_neg (nI_pos hk), nI_toInt hk, Int.toNat_natCast]
theorem own_n {d w : Nat} (hw : w < 2 ^ 31) : ownB d (nI w) = (decide (1 ≤ w ∧ w ≤ 17) && d.testBit w) := by
  unfold ownB
  rw [nI_toInt hw, Int.toNat_natCast]
  congr 1
  apply decide_eq_decide.mpr
  omega
section VAL
variable {l h d : Nat} {f : Nat → Nat} {A : List (List (Nat × Nat))} {a b : List (Nat × Nat)} {k q w : Nat}
theorem lt_of_get (hk : A[k]? = some a) : k < A.length := (List.getElem?_eq_some_iff.mp hk).1
theorem v_at (hq : q < l) (hl : l ≤ 18) (hA : A.length ≤ 512) (hk : A[k]? = some a) : (if inN (nI q) l = true then atA A (nI k) (nI q).toInt.toNat else -1) = nI (rwN a q) := by
  have := lt_of_get hk
  rw [inN_n (by omega), decide_eq_true hq, if_pos rfl, nI_toInt (by omega), Int.toNat_natCast]
  unfold atA
  rw [go_n (by omega), hk]
theorem v_atN (hq : q < l) (hl : l ≤ 18) (hk : A.length ≤ k) (hk2 : k < 2 ^ 31) : (if inN (nI q) l = true then atA A (nI k) (nI q).toInt.toNat else -1) = -6 := by
  rw [inN_n (by omega), decide_eq_true hq, if_pos rfl]
  unfold atA
  rw [go_n hk2, List.getElem?_eq_none hk]
theorem v_st (hd : d < 2 ^ 18) (hd0 : d.testBit 0 = false) (hw : d.testBit w = true) (hA : A.length ≤ 512) (hk : A[k]? = some a) : (if ownB d (nI w) = true then stA A (nI k) (nI w).toInt.toNat else -1) = nI (bgN a w) := by
  have := lt_of_get hk
  have h18 : w < 18 := by
    rcases Nat.lt_or_ge w 18 with z | z
    · exact z
    · rw [bt_hi hd z] at hw; cases hw
  have h0 : w ≠ 0 := fun e => by rw [e, hd0] at hw; cases hw
  rw [own_n (by omega), hw, decide_eq_true (by omega), Bool.true_and, if_pos rfl, nI_toInt (by omega), Int.toNat_natCast]
  unfold stA
  rw [go_n (by omega), hk]
theorem v_stN {z : Int32} (hw : d.testBit w = false) (hw2 : w < 2 ^ 31) : (if ownB d (nI w) = true then stA A z (nI w).toInt.toNat else -1) = -1 := by
  rw [own_n hw2, hw, Bool.and_false, if_neg (by decide)]
theorem v_fq (hq : q < l) (hl : l ≤ 18) (hw : w ≤ 17) : (if inN (nI q) l = true then (if 0 ≤ (nI w).toInt ∧ (nI w).toInt ≤ 17 then nI (fqA A (nI q).toInt.toNat (nI w).toInt.toNat) else -2) else -1) = nI (fqA A q w) := by
  rw [inN_n (by omega), decide_eq_true hq, if_pos rfl, nI_toInt (by omega), nI_toInt (by omega), if_pos (by omega), Int.toNat_natCast, Int.toNat_natCast]
theorem v_op (hq : q < l) (hl : l ≤ 18) : (if inN (nI q) l = true then nI (opA (nI q).toInt.toNat A 0) else -1) = nI (opA q A 0) := by
  rw [inN_n (by omega), decide_eq_true hq, if_pos rfl, nI_toInt (by omega), Int.toNat_natCast]
theorem v_sts (hd : d < 2 ^ 18) (hd0 : d.testBit 0 = false) (hw : d.testBit w = true) : (if ownB d (nI w) = true then nI (mkm (sbN l h (nI w).toInt.toNat f) l) else -1) = nI (mkm (sbN l h w f) l) := by
  have h18 : w < 18 := by
    rcases Nat.lt_or_ge w 18 with z | z
    · exact z
    · rw [bt_hi hd z] at hw; cases hw
  have h0 : w ≠ 0 := fun e => by rw [e, hd0] at hw; cases hw
  rw [own_n (by omega), hw, decide_eq_true (by omega), Bool.true_and, if_pos rfl, nI_toInt (by omega), Int.toNat_natCast]
theorem v_tp {x : Nat} (hd : d < 2 ^ 18) (hd0 : d.testBit 0 = false) (hw : d.testBit w = true) (hA : A.length ≤ 512) (hk : A[k]? = some a) (hx : x ≤ 2) : tpI A d (nI k) (nI w) (nI x) = nI (trN (bl d).length a w x) := by
  have := lt_of_get hk
  have h18 : w < 18 := by
    rcases Nat.lt_or_ge w 18 with z | z
    · exact z
    · rw [bt_hi hd z] at hw; cases hw
  have h0 : w ≠ 0 := fun e => by rw [e, hd0] at hw; cases hw
  unfold tpI
  rw [own_n (by omega), hw, decide_eq_true (by omega), Bool.true_and, if_pos rfl, go_n (by omega), hk, nI_toInt (by omega), nI_toInt (by omega), Int.toNat_natCast, Int.toNat_natCast]
  show (if 0 ≤ (x : Int) ∧ (x : Int) ≤ 2 then nI (trN (bl d).length a w x) else -2) = _
  rw [if_pos (by omega)]
theorem v_ds {i j : Nat} (hA : A.length ≤ 512) (hi : A[i]? = some a) (hj : A[j]? = some b) : dsI A d (nI i) (nI j) = nI (dsN d a b) := by
  have := lt_of_get hi
  have := lt_of_get hj
  unfold dsI
  rw [go_n (by omega), go_n (by omega), hi, hj]
theorem v_nb {z : Int32} (hA : A.length ≤ 512) (hk : A[k]? = some a) : nbI A d (nI k) z = nbF (fun c => dsN d a c == 3) z A 0 0 := by
  have := lt_of_get hk
  unfold nbI
  rw [go_n (by omega), hk]
theorem v_nbN {z : Int32} (hk : A.length ≤ k) (hk2 : k < 2 ^ 31) : nbI A d (nI k) z = -1 := by
  unfold nbI
  rw [go_n hk2, List.getElem?_eq_none hk]
theorem v_spN {t : Nat → Int32} {n : Nat} (hk : A.length ≤ k) (hk2 : k < 2 ^ 31) : spN A (nI k) l n = n ∧ spF A (nI k) t = t ∧ spV A (nI k) l = -1 := by
  unfold spN spF spV
  rw [go_n hk2, List.getElem?_eq_none hk]
  exact ⟨rfl, rfl, rfl⟩
theorem v_sp {t : Nat → Int32} {n : Nat} (hA : A.length ≤ 512) (hk : A[k]? = some a) : spN A (nI k) l n = l ∧ spF A (nI k) t = (fun i => sgI (nI (rwN a i))) ∧ spV A (nI k) l = nI l := by
  have := lt_of_get hk
  unfold spN spF spV
  rw [go_n (by omega), hk]
  exact ⟨rfl, rfl, rfl⟩
theorem v_rvN (hk : (arrs true l h d f).length ≤ k) (hk2 : k < 2 ^ 31) : rvI l h d f (nI k) = -1 := by
  unfold rvI
  rw [go_n hk2, List.getElem?_eq_none hk]
theorem v_rv (hA : (arrs true l h d f).length ≤ 512) (hk : (arrs true l h d f)[k]? = some a) : rvI l h d f (nI k) = if vdI (bkN l h d f (rvN l a)) l = 0 then nlF (fun b => eqR (rwN b) (rvN l a) l) (arrs true l h d f) 0 else -6 := by
  have := lt_of_get hk
  unfold rvI
  rw [go_n (by omega), hk]
theorem v_cvN (hk : A.length ≤ k) (hk2 : k < 2 ^ 31) : cvI A d (nI k) = -1 := by
  unfold cvI
  rw [go_n hk2, List.getElem?_eq_none hk]
theorem v_stsN {z : Int32} (hk : A.length ≤ k) (hk2 : k < 2 ^ 31) : stI A d (nI k) z = -1 := by
  unfold stI
  rw [go_n hk2, List.getElem?_eq_none hk]
theorem v_steps {i j : Nat} (hA : A.length ≤ 512) (hi : A[i]? = some a) (hj : A[j]? = some b) : stI A d (nI i) (nI j) = if i < 300 ∧ j < 300 then svI ((bfO (nbB A d) (min 300 A.length) 301 0 (bf0 i)).1 j) else -2 := by
  have := lt_of_get hi
  have := lt_of_get hj
  unfold stI
  rw [go_n (by omega), go_n (by omega), hi, hj, nI_toInt (by omega), nI_toInt (by omega), Int.toNat_natCast, Int.toNat_natCast]
  by_cases c : i < 300 ∧ j < 300
  · rw [if_pos c]; exact if_pos (by omega)
  · rw [if_neg c]; exact if_neg (by omega)
theorem v_p0 {n : Nat} : pbI l h d f n 0 = nI l := rfl
theorem v_p1 {n : Nat} : pbI l h d f n 1 = nI h := rfl
theorem v_p2 {n : Nat} : pbI l h d f n 2 = nI d := rfl
theorem v_p3 {n : Nat} : pbI l h d f n 3 = nI (mkm (fun q => !(f q == 0)) l) := rfl
theorem v_p4 {n : Nat} : pbI l h d f n 4 = nI (bl (frN l h)).length := rfl
end VAL
section LEAF
variable {X : Nat × (Nat → Int32)} {D : Nat} {G : am_H} {P : Option Value → am_H → Prop}
theorem sp_up {x : Int32} {M : Nat} (hD : 1 ≤ D) (h0 : 0 < M) (hM : M < 2 ^ 31) (hP : ∀ r, r < M → P (some (.int (nI r))) G) : am_CB X D 95 [.int x, .int (nI M)] G P := by
  obtain ⟨D, rfl⟩ : ∃ D0, D = D0 + 1 := ⟨D - 1, by omega⟩
  obtain ⟨m, rfl, hm, _⟩ := i_un x
  refine B95 40 [] ?_
  simp only [J95_0, J95_1, J95_3, J95_4, J95_5, J95_6, am_gg_c, am_gf_c, am_pf_c, am_af_c, am_sf_c, am_bf_c, am_qf_c, am_ap_c, am_bp_c, am_qp_c, am_lf_c, am_kt_s, am_kt_n, am_wst, am_wstop, am_ns_0, am_ns_1, Bool.not_true, Bool.not_false, Bool.true_and, Bool.false_and, Nat.reduceBEq, ↓reduceIte, am_k2_n, am_k2_i, am_k2_r, am_k2_u, am_k2_f, am_k2_l, Nat.zero_le, true_and, and_true, true_or, or_true, am_cat_0, am_cat_i, am_cat_r, am_cat_l, am_cat_n, Nat.reduceLeDiff, Nat.reduceAdd, Option.isSome_some, List.getElem?_cons_zero, List.getElem?_cons_succ, am_fit_i, am_fit_r, am_fit_a]
  have hz : ¬ nI M = 0 := nI_ne0 h0 hM
  refine ⟨hz, ?_⟩
  rw [show (2147483647 : Int32) = nI 2147483647 by rfl, bi_and, pk_rem (by have : m &&& 2147483647 ≤ 2147483647 := Nat.and_le_right; omega) h0 hM]
  exact hP _ (Nat.mod_lt _ h0)
theorem sp_cell {z : UInt32} {k : Nat} (hD : 1 ≤ D) (hk : k < 2 ^ 31) (hX : X.1 < 2 ^ 31) (hP : ∀ v, P (some (.int v)) G) : am_CB X D 94 [.float z, .int (nI k)] G P := by
  obtain ⟨D, rfl⟩ : ∃ D0, D = D0 + 1 := ⟨D - 1, by omega⟩
  refine B94 40 [] ?_
  simp only [J94_0, J94_1, J94_1f, J94_2, J94_3, J94_6, J94_6f, J94_7, J94_8, J94_9, J94_12, J94_14, J94_15, J94_18, J94_19, J94_20, am_gg_c, am_gf_c, am_pf_c, am_af_c, am_sf_c, am_bf_c, am_qf_c, am_ap_c, am_bp_c, am_qp_c, am_lf_c, am_kt_s, am_kt_n, am_wst, am_wstop, am_ns_0, am_ns_1, Bool.not_true, Bool.not_false, Bool.true_and, Bool.false_and, Nat.reduceBEq, ↓reduceIte, am_k2_n, am_k2_i, am_k2_r, am_k2_u, am_k2_f, am_k2_l, Nat.zero_le, true_and, and_true, true_or, or_true, am_cat_0, am_cat_i, am_cat_r, am_cat_l, am_cat_n, Nat.reduceLeDiff, Nat.reduceAdd, Option.isSome_some, List.getElem?_cons_zero, List.getElem?_cons_succ, am_fit_i, am_fit_r, am_fit_a]
  split
  · next c =>
    have c : nI k < nI X.1 := c
    rw [nI_ltI hk hX] at c
    refine ⟨?_, hP _⟩
    unfold vp_in
    exact nI_in c hX
  · exact hP _
theorem lp_bits {m : Nat} (hm : m < 2 ^ 18) (hP : P (some (.int (nI (bl m).length))) G) : ∀ (k i : Nat), i + k = 31 → am_WP X D 96 4 [some (.int (nI m)), some (.int (nI (blb m i).length)), some (.int (nI i))] [] G 0 0 P
  | 0, i, hi => by
    refine am_wps 40 [21] ?_
    simp only [J96_0, J96_1, J96_2, J96_3, J96_4, J96_5, J96_7, J96_10, J96_11, J96_12, J96_13, J96_14, J96_15, J96_16, J96_17, J96_18, J96_21, J96_24, J96_25, am_gg_c, am_gf_c, am_pf_c, am_af_c, am_sf_c, am_bf_c, am_qf_c, am_ap_c, am_bp_c, am_qp_c, am_lf_c, am_kt_s, am_kt_n, am_wst, am_wstop, am_ns_0, am_ns_1, Bool.not_true, Bool.not_false, Bool.true_and, Bool.false_and, Nat.reduceBEq, ↓reduceIte, am_k2_n, am_k2_i, am_k2_r, am_k2_u, am_k2_f, am_k2_l, Nat.zero_le, true_and, and_true, true_or, or_true, am_cat_0, am_cat_i, am_cat_r, am_cat_l, am_cat_n, Nat.reduceLeDiff, Nat.reduceAdd, Option.isSome_some, List.getElem?_cons_zero, List.getElem?_cons_succ, am_fit_i, am_fit_r, am_fit_a]
    rw [if_neg (by rw [show (31 : Int32) = nI 31 by rfl, nI_ltI (by omega) (by omega)]; omega)]
    have e : i = 31 := by omega
    subst e
    rw [show (31 : Nat) = 18 + 13 by rfl, blb_hi hm 13]
    exact hP
  | k + 1, i, hi => by
    refine am_wps 40 [21] ?_
    simp only [J96_0, J96_1, J96_2, J96_3, J96_4, J96_5, J96_7, J96_10, J96_11, J96_12, J96_13, J96_14, J96_15, J96_16, J96_17, J96_18, J96_21, J96_24, J96_25, am_gg_c, am_gf_c, am_pf_c, am_af_c, am_sf_c, am_bf_c, am_qf_c, am_ap_c, am_bp_c, am_qp_c, am_lf_c, am_kt_s, am_kt_n, am_wst, am_wstop, am_ns_0, am_ns_1, Bool.not_true, Bool.not_false, Bool.true_and, Bool.false_and, Nat.reduceBEq, ↓reduceIte, am_k2_n, am_k2_i, am_k2_r, am_k2_u, am_k2_f, am_k2_l, Nat.zero_le, true_and, and_true, true_or, or_true, am_cat_0, am_cat_i, am_cat_r, am_cat_l, am_cat_n, Nat.reduceLeDiff, Nat.reduceAdd, Option.isSome_some, List.getElem?_cons_zero, List.getElem?_cons_succ, am_fit_i, am_fit_r, am_fit_a]
    rw [if_pos (by rw [show (31 : Int32) = nI 31 by rfl, nI_ltI (by omega) (by omega)]; omega)]
    rw [bi_shr (by omega) (by omega), bi_and1, nI_add, nI_1]
    have e : (blb m i).length + m / 2 ^ i % 2 = (blb m (i + 1)).length := by
      rw [blb_len]
      congr 1
      cases hb : m.testBit i with
      | true => rw [Nat.testBit_eq_decide_div_mod_eq] at hb; simpa using hb
      | false => rw [Nat.testBit_eq_decide_div_mod_eq] at hb; simp at hb ⊢; omega
    rw [e]
    exact am_goto I96_21 (lp_bits hm hP k (i + 1) (by omega))
theorem sp_bits {m : Nat} (hD : 1 ≤ D) (hm : m < 2 ^ 18) (hP : P (some (.int (nI (bl m).length))) G) : am_CB X D 96 [.int (nI m)] G P := by
  obtain ⟨D, rfl⟩ : ∃ D0, D = D0 + 1 := ⟨D - 1, by omega⟩
  refine B96 40 [4] ?_
  simp only [J96_0, J96_1, J96_2, J96_3, J96_4, J96_5, J96_7, J96_10, J96_11, J96_12, J96_13, J96_14, J96_15, J96_16, J96_17, J96_18, J96_21, J96_24, J96_25, am_gg_c, am_gf_c, am_pf_c, am_af_c, am_sf_c, am_bf_c, am_qf_c, am_ap_c, am_bp_c, am_qp_c, am_lf_c, am_kt_s, am_kt_n, am_wst, am_wstop, am_ns_0, am_ns_1, Bool.not_true, Bool.not_false, Bool.true_and, Bool.false_and, Nat.reduceBEq, ↓reduceIte, am_k2_n, am_k2_i, am_k2_r, am_k2_u, am_k2_f, am_k2_l, Nat.zero_le, true_and, and_true, true_or, or_true, am_cat_0, am_cat_i, am_cat_r, am_cat_l, am_cat_n, Nat.reduceLeDiff, Nat.reduceAdd, Option.isSome_some, List.getElem?_cons_zero, List.getElem?_cons_succ, am_fit_i, am_fit_r, am_fit_a]
  exact lp_bits hm hP 31 0 (by omega)
end LEAF
