theorem lN_or (a b : Nat) : lN a ||| lN b = lN (a ||| b) := by
  apply Int64.toBitVec_inj.1
  show BitVec.ofNat 64 a ||| BitVec.ofNat 64 b = BitVec.ofNat 64 (a ||| b)
  apply BitVec.eq_of_getLsbD_eq
  intro i hi
  simp [hi]
theorem lN_and (a b : Nat) : lN a &&& lN b = lN (a &&& b) := by
  apply Int64.toBitVec_inj.1
  show BitVec.ofNat 64 a &&& BitVec.ofNat 64 b = BitVec.ofNat 64 (a &&& b)
  apply BitVec.eq_of_getLsbD_eq
  intro i hi
  simp [hi]
theorem lN_xor (a b : Nat) : lN a ^^^ lN b = lN (a ^^^ b) := by
  apply Int64.toBitVec_inj.1
  show BitVec.ofNat 64 a ^^^ BitVec.ofNat 64 b = BitVec.ofNat 64 (a ^^^ b)
  apply BitVec.eq_of_getLsbD_eq
  intro i hi
  simp [hi]
theorem lN_sl : ∀ n, n < 64 → (((nI n).toInt64 &&& 63).toBitVec.smod 64).toNat = n := by decide +kernel
theorem lN_su : ∀ n, n < 64 → (((nI n).toInt64.toUInt64 &&& Int64.toUInt64 63).toBitVec % 64).toNat = n := by decide +kernel
theorem lN_shl {a k : Nat} (hk : k < 64) : lN a <<< ((nI k).toInt64 &&& 63) = lN (a * 2 ^ k) := by
  apply Int64.toBitVec_inj.1
  apply BitVec.eq_of_toNat_eq
  rw [Int64.toBitVec_shiftLeft]
  show ((lN a).toBitVec <<< (((nI k).toInt64 &&& 63).toBitVec.smod 64).toNat).toNat = _
  rw [lN_sl k hk, BitVec.toNat_shiftLeft]
  show (BitVec.ofNat 64 a).toNat <<< k % 2 ^ 64 = (BitVec.ofNat 64 (a * 2 ^ k)).toNat
  rw [BitVec.toNat_ofNat, BitVec.toNat_ofNat, Nat.shiftLeft_eq, Nat.mod_mul_mod]
theorem lN_tn {n : Nat} (h : n < 2 ^ 64) : (lN n).toBitVec.toNat = n := by
  show (BitVec.ofNat 64 n).toNat = n
  rw [BitVec.toNat_ofNat]
  exact Nat.mod_eq_of_lt h
theorem lN_ushr {a k : Nat} (ha : a < 2 ^ 64) (hk : k < 64) : ((lN a).toUInt64 >>> ((nI k).toInt64.toUInt64 &&& Int64.toUInt64 63)).toInt64 = lN (a / 2 ^ k) := by
  apply Int64.toBitVec_inj.1
  apply BitVec.eq_of_toNat_eq
  show ((lN a).toUInt64 >>> ((nI k).toInt64.toUInt64 &&& Int64.toUInt64 63)).toBitVec.toNat = _
  rw [UInt64.toBitVec_shiftRight]
  show ((lN a).toBitVec >>> (((nI k).toInt64.toUInt64 &&& Int64.toUInt64 63).toBitVec % 64).toNat).toNat = _
  rw [lN_su k hk, BitVec.toNat_ushiftRight, lN_tn ha, Nat.shiftRight_eq_div_pow, lN_tn (Nat.lt_of_le_of_lt (Nat.div_le_self _ _) ha)]
theorem bi_not_two {a s t : Nat} (ha : a < 2 ^ 32) (h1 : a.testBit s = true) (h2 : a.testBit t = true) (hst : s ≠ t) : a &&& ((2 ^ s ||| 2 ^ t) ^^^ 4294967295) = a - (2 ^ s + 2 ^ t) := by
  apply Nat.eq_of_testBit_eq
  intro i
  rw [Nat.testBit_and, Nat.testBit_xor, Nat.testBit_or, (bt_two_s h1 h2 hst).2, Nat.testBit_two_pow, Nat.testBit_two_pow, show (4294967295 : Nat) = 2 ^ 32 - 1 by rfl, Nat.testBit_two_pow_sub_one]
  by_cases hi : i < 32
  · by_cases e : s = i
    · subst e; simp [hi]
    · by_cases e2 : t = i
      · subst e2; simp [hi]
      · simp [hi, e, e2, Ne.symm e, Ne.symm e2]
  · rw [bt_hi ha (by omega)]; simp
def AR (G : am_H) (k pa da sa room : Nat) (ln pr : Int32) (df sf : Nat → Int32) (Ls : List Nat) : Prop :=
  am_ob G k 0 = some [.ref pa, .int ln, .int pr, .ref da, .ref sa, .int (nI Ls.length)] ∧ (∃ q, am_la G pa = some (room, q) ∧ ∀ j v, Ls[j]? = some v → q j = lN v) ∧ am_ia G da 0 = some (8, df) ∧ am_ia G sa 0 = some (8, sf) ∧ Ls.length ≤ room ∧ room ≤ 512
theorem am_alen_la {G : am_H} {k n : Nat} {q : Nat → Int64} (h : am_la G k = some (n, q)) : am_alen G k = some n := by simp [am_alen, am_la_s h]
theorem am_ob_ne_la {G : am_H} {k j ci n : Nat} {fs : List Value} {q : Nat → Int64} (h : am_ob G k ci = some fs) (h2 : am_la G j = some (n, q)) : k ≠ j := by
  intro e; subst e
  have a := am_ob_s h; have b := am_la_s h2
  rw [a] at b; cases b
theorem am_ia_ne_la {G : am_H} {k j kd n m : Nat} {p : Nat → Int32} {q : Nat → Int64} (h : am_ia G k kd = some (m, p)) (h2 : am_la G j = some (n, q)) : k ≠ j := by
  intro e; subst e
  have a := am_ia_s h; have b := am_la_s h2
  rw [a] at b; cases b
section ARR
variable {X : Nat × (Nat → Int32)} {D : Nat} {G : am_H} {P : Option Value → am_H → Prop} {k pa da sa room : Nat} {ln pr : Int32} {df sf : Nat → Int32} {Ls : List Nat}
theorem sp_isFull (hD : 1 ≤ D) (ha : AR G k pa da sa room ln pr df sf Ls) (hP : P (some (.int (if Ls.length < room then 0 else 1))) G) : am_CB X D 3 [.ref k] G P := by
  obtain ⟨D, rfl⟩ : ∃ D0, D = D0 + 1 := ⟨D - 1, by omega⟩
  obtain ⟨h1, ⟨q, h2, h3⟩, h4, h5, h6, h7⟩ := ha
  refine B3 40 [] ?_
  simp only [J3_0, J3_1, J3_4, J3_7, J3_8, J3_11, J3_12, J3_15, J3_16, J3_19, J3_20, J3_23, J3_24, am_gg_c, am_gf_c, am_pf_c, am_af_c, am_sf_c, am_bf_c, am_qf_c, am_ap_c, am_bp_c, am_qp_c, am_lf_c, am_kt_s, am_kt_n, am_wst, am_wstop, am_ns_0, am_ns_1, Bool.not_true, Bool.not_false, Bool.true_and, Bool.false_and, Nat.reduceBEq, ↓reduceIte, am_k2_n, am_k2_i, am_k2_r, am_k2_u, am_k2_f, am_k2_l, Nat.zero_le, true_and, and_true, true_or, or_true, am_cat_0, am_cat_i, am_cat_r, am_cat_l, am_cat_n, Nat.reduceLeDiff, Nat.reduceAdd, Option.isSome_some, List.getElem?_cons_zero, List.getElem?_cons_succ, am_fit_i, am_fit_r, am_fit_a, h1, am_alen_la h2]
  rw [if_neg (by rw [bi_lt, nI_toInt (by omega)]; show ¬ (_ : Int) < 0; omega)]
  show if nI Ls.length < nI room then _ else _
  by_cases c : Ls.length < room
  · rw [if_pos c] at hP
    rw [if_pos (by rw [nI_ltI (by omega) (by omega)]; exact c)]
    exact hP
  · rw [if_neg c] at hP
    rw [if_neg (by rw [nI_ltI (by omega) (by omega)]; exact c)]
    exact hP
theorem sp_add {v : Nat} (hD : 2 ≤ D) (ha : AR G k pa da sa room ln pr df sf Ls) (hP : ∀ G', AR G' k pa da sa room ln pr df sf ((Ls ++ [v]).take room) → Fr [k, pa] G G' → P none G') : am_CB X D 4 [.ref k, .long (lN v)] G P := by
  obtain ⟨D, rfl⟩ : ∃ D0, D = D0 + 1 := ⟨D - 1, by omega⟩
  obtain ⟨h1, ⟨q, h2, h3⟩, h4, h5, h6, h7⟩ := id ha
  refine B4 40 [] ?_
  simp only [J4_0, J4_1, J4_4, J4_7, J4_8, J4_11, J4_12, J4_15, J4_16, J4_17, J4_18, J4_19, J4_22, J4_23, J4_24, J4_27, am_gg_c, am_gf_c, am_pf_c, am_af_c, am_sf_c, am_bf_c, am_qf_c, am_ap_c, am_bp_c, am_qp_c, am_lf_c, am_kt_s, am_kt_n, am_wst, am_wstop, am_ns_0, am_ns_1, Bool.not_true, Bool.not_false, Bool.true_and, Bool.false_and, Nat.reduceBEq, ↓reduceIte, am_k2_n, am_k2_i, am_k2_r, am_k2_u, am_k2_f, am_k2_l, Nat.zero_le, true_and, and_true, true_or, or_true, am_cat_0, am_cat_i, am_cat_r, am_cat_l, am_cat_n, Nat.reduceLeDiff, Nat.reduceAdd, Option.isSome_some, List.getElem?_cons_zero, List.getElem?_cons_succ, am_fit_i, am_fit_r, am_fit_a, h1]
  refine sp_isFull (by omega) ha ?_
  simp only [J4_0, J4_1, J4_4, J4_7, J4_8, J4_11, J4_12, J4_15, J4_16, J4_17, J4_18, J4_19, J4_22, J4_23, J4_24, J4_27, am_gg_c, am_gf_c, am_pf_c, am_af_c, am_sf_c, am_bf_c, am_qf_c, am_ap_c, am_bp_c, am_qp_c, am_lf_c, am_kt_s, am_kt_n, am_wst, am_wstop, am_ns_0, am_ns_1, Bool.not_true, Bool.not_false, Bool.true_and, Bool.false_and, Nat.reduceBEq, ↓reduceIte, am_k2_n, am_k2_i, am_k2_r, am_k2_u, am_k2_f, am_k2_l, Nat.zero_le, true_and, and_true, true_or, or_true, am_cat_0, am_cat_i, am_cat_r, am_cat_l, am_cat_n, Nat.reduceLeDiff, Nat.reduceAdd, Option.isSome_some, List.getElem?_cons_zero, List.getElem?_cons_succ, am_fit_i, am_fit_r, am_fit_a, h1]
  have hk := am_ob_lt h1
  have hne := am_ob_ne_la h1 h2
  have hd := am_ia_ne_la h4 h2
  have hs := am_ia_ne_la h5 h2
  have hkd := am_ob_ne_ia h1 h4
  have hks := am_ob_ne_ia h1 h5
  by_cases c : Ls.length < room
  · rw [if_pos c]
    simp only [if_true, J4_0, J4_1, J4_4, J4_7, J4_8, J4_11, J4_12, J4_15, J4_16, J4_17, J4_18, J4_19, J4_22, J4_23, J4_24, J4_27, am_gg_c, am_gf_c, am_pf_c, am_af_c, am_sf_c, am_bf_c, am_qf_c, am_ap_c, am_bp_c, am_qp_c, am_lf_c, am_kt_s, am_kt_n, am_wst, am_wstop, am_ns_0, am_ns_1, Bool.not_true, Bool.not_false, Bool.true_and, Bool.false_and, Nat.reduceBEq, ↓reduceIte, am_k2_n, am_k2_i, am_k2_r, am_k2_u, am_k2_f, am_k2_l, Nat.zero_le, true_and, and_true, true_or, or_true, am_cat_0, am_cat_i, am_cat_r, am_cat_l, am_cat_n, Nat.reduceLeDiff, Nat.reduceAdd, Option.isSome_some, List.getElem?_cons_zero, List.getElem?_cons_succ, am_fit_i, am_fit_r, am_fit_a, h1, h2, am_ob_sn (Ne.symm hne), Value.category, List.length_cons, List.length_nil, Nat.reduceLT, List.set_cons_succ, List.set_cons_zero]
    refine ⟨vp_in_n c (by omega), hP _ ?_ ((Fr.set (by simp)).tr (Fr.set (by simp)))⟩
    have et : (Ls ++ [v]).take room = Ls ++ [v] := List.take_of_length_le (by simp; omega)
    rw [et]
    refine ⟨?_, ⟨_, by rw [am_la_sn hne]; exact am_la_ss (am_la_lt h2), fun j w hj => ?_⟩, ?_, ?_, by simp; omega, h7⟩
    · rw [am_ob_ss (by rw [List.length_set]; exact hk), List.length_append, nI_1]; rfl
    · rw [nI_clamp (by omega)]
      show (if j = Ls.length then lN v else q j) = lN w
      by_cases e : j = Ls.length
      · subst e
        simp at hj
        simp [hj]
      · rw [if_neg e]
        have hj2 : j < (Ls ++ [v]).length := (List.getElem?_eq_some_iff.mp hj).1
        simp at hj2
        rw [List.getElem?_append_left (by omega)] at hj
        exact h3 j w hj
    · rw [am_ia_sn hkd, am_ia_sn (Ne.symm hd)]; exact h4
    · rw [am_ia_sn hks, am_ia_sn (Ne.symm hs)]; exact h5
  · rw [if_neg c]
    simp only [if_neg (show ¬ (1 : Int32) = 0 by decide)]
    refine hP G ?_ Fr.rf
    have et : (Ls ++ [v]).take room = Ls := by
      rw [List.take_append_of_le_length (by omega), List.take_of_length_le (by omega)]
    rw [et]
    exact ha
def osN (dd sm : Nat → Nat) (O i : Nat) : Nat := (sm i &&& O) &&& (O / 2 ^ dd i)
theorem sp_openStarts {dd sm : Nat → Nat} {O i : Nat} (hD : 1 ≤ D) (ha : AR G k pa da sa room ln pr df sf Ls) (hdf : ∀ j, j < 8 → df j = nI (dd j) ∧ dd j < 32) (hsf : ∀ j, j < 8 → sf j = nI (sm j)) (hO : O < 2 ^ 18) (hi : i < 8) (hP : P (some (.int (nI (osN dd sm O i)))) G) : am_CB X D 6 [.ref k, .int (nI O), .int (nI i)] G P := by
  obtain ⟨D, rfl⟩ : ∃ D0, D = D0 + 1 := ⟨D - 1, by omega⟩
  obtain ⟨h1, ⟨q, h2, h3⟩, h4, h5, h6, h7⟩ := id ha
  refine B6 40 [] ?_
  simp only [J6_0, J6_1, J6_4, J6_5, J6_7, J6_10, J6_11, J6_12, J6_13, J6_16, J6_17, J6_18, J6_19, J6_20, J6_21, J6_22, J6_25, J6_26, J6_27, J6_28, J6_29, am_gg_c, am_gf_c, am_pf_c, am_af_c, am_sf_c, am_bf_c, am_qf_c, am_ap_c, am_bp_c, am_qp_c, am_lf_c, am_kt_s, am_kt_n, am_wst, am_wstop, am_ns_0, am_ns_1, Bool.not_true, Bool.not_false, Bool.true_and, Bool.false_and, Nat.reduceBEq, ↓reduceIte, am_k2_n, am_k2_i, am_k2_r, am_k2_u, am_k2_f, am_k2_l, Nat.zero_le, true_and, and_true, true_or, or_true, am_cat_0, am_cat_i, am_cat_r, am_cat_l, am_cat_n, Nat.reduceLeDiff, Nat.reduceAdd, Option.isSome_some, List.getElem?_cons_zero, List.getElem?_cons_succ, am_fit_i, am_fit_r, am_fit_a, h1, h4, h5]
  rw [if_neg (nI_pos (by omega)), if_pos (by rw [show (8 : Int32) = nI 8 by rfl, nI_ltI (by omega) (by omega)]; exact hi)]
  refine ⟨vp_in_n hi (by omega), vp_in_n hi (by omega), ?_⟩
  rw [nI_clamp (by omega), (hdf i hi).1, hsf i hi, bi_and, bi_shr (by omega) (hdf i hi).2, bi_and]
  exact hP
theorem osN_lt {dd sm : Nat → Nat} {O i : Nat} (hO : O < 2 ^ 18) : osN dd sm O i < 2 ^ 18 := Nat.lt_of_le_of_lt (Nat.le_trans Nat.and_le_left Nat.and_le_right) hO
def acB (dd sm : Nat → Nat) (O left n : Nat) : Bool := (List.range n).all (fun i => !left.testBit i || !(osN dd sm O i == 0))
theorem acB_s (dd sm : Nat → Nat) (O left n : Nat) : acB dd sm O left (n + 1) = (acB dd sm O left n && (!left.testBit n || !(osN dd sm O n == 0))) := by
  unfold acB
  rw [List.range_succ, List.all_append]
  simp
theorem acB_le {dd sm : Nat → Nat} {O left n m : Nat} (h : n ≤ m) (h2 : acB dd sm O left n = false) : acB dd sm O left m = false := by
  induction m with
  | zero => rw [show n = 0 by omega] at h2; exact h2
  | succ m ih =>
    by_cases e : n = m + 1
    · rw [← e]; exact h2
    · rw [acB_s, ih (by omega)]; rfl
theorem lp_all {dd sm : Nat → Nat} {O left : Nat} (hD : 1 ≤ D) (ha : AR G k pa da sa room ln pr df sf Ls) (hdf : ∀ j, j < 8 → df j = nI (dd j) ∧ dd j < 32) (hsf : ∀ j, j < 8 → sf j = nI (sm j)) (hO : O < 2 ^ 18) (hl : left < 2 ^ 8) (hP : P (some (.int (if acB dd sm O left 8 = true then 1 else 0))) G) : ∀ (n i : Nat) (e : Int32), i + n = 8 → e = nI i → acB dd sm O left i = true → am_WP X D 5 2 [some (.ref k), some (.int (nI O)), some (.int (nI left)), some (.int e)] [] G 0 0 P
  | 0, i, e, hi, he, hac => by
    refine am_wps 40 [30] ?_
    simp only [J5_0, J5_1, J5_2, J5_3, J5_5, J5_8, J5_9, J5_10, J5_13, J5_16, J5_17, J5_18, J5_19, J5_22, J5_25, J5_26, J5_27, J5_30, J5_33, J5_34, am_gg_c, am_gf_c, am_pf_c, am_af_c, am_sf_c, am_bf_c, am_qf_c, am_ap_c, am_bp_c, am_qp_c, am_lf_c, am_kt_s, am_kt_n, am_wst, am_wstop, am_ns_0, am_ns_1, Bool.not_true, Bool.not_false, Bool.true_and, Bool.false_and, Nat.reduceBEq, ↓reduceIte, am_k2_n, am_k2_i, am_k2_r, am_k2_u, am_k2_f, am_k2_l, Nat.zero_le, true_and, and_true, true_or, or_true, am_cat_0, am_cat_i, am_cat_r, am_cat_l, am_cat_n, Nat.reduceLeDiff, Nat.reduceAdd, Option.isSome_some, List.getElem?_cons_zero, List.getElem?_cons_succ, am_fit_i, am_fit_r, am_fit_a]
    rw [if_neg (by rw [he, show i = 8 by omega]; decide)]
    rw [show i = 8 by omega] at hac
    rw [hac] at hP
    exact hP
  | n + 1, i, e, hi, he, hac => by
    have h1 := ha.1
    refine am_wps 40 [30] ?_
    simp only [J5_0, J5_1, J5_2, J5_3, J5_5, J5_8, J5_9, J5_10, J5_13, J5_16, J5_17, J5_18, J5_19, J5_22, J5_25, J5_26, J5_27, J5_30, J5_33, J5_34, am_gg_c, am_gf_c, am_pf_c, am_af_c, am_sf_c, am_bf_c, am_qf_c, am_ap_c, am_bp_c, am_qp_c, am_lf_c, am_kt_s, am_kt_n, am_wst, am_wstop, am_ns_0, am_ns_1, Bool.not_true, Bool.not_false, Bool.true_and, Bool.false_and, Nat.reduceBEq, ↓reduceIte, am_k2_n, am_k2_i, am_k2_r, am_k2_u, am_k2_f, am_k2_l, Nat.zero_le, true_and, and_true, true_or, or_true, am_cat_0, am_cat_i, am_cat_r, am_cat_l, am_cat_n, Nat.reduceLeDiff, Nat.reduceAdd, Option.isSome_some, List.getElem?_cons_zero, List.getElem?_cons_succ, am_fit_i, am_fit_r, am_fit_a]
    rw [if_pos (by rw [he, show (8 : Int32) = nI 8 by rfl, nI_ltI (by omega) (by omega)]; omega)]
    refine sp_contains hD (by omega) ?_
    simp only [J5_0, J5_1, J5_2, J5_3, J5_5, J5_8, J5_9, J5_10, J5_13, J5_16, J5_17, J5_18, J5_19, J5_22, J5_25, J5_26, J5_27, J5_30, J5_33, J5_34, am_gg_c, am_gf_c, am_pf_c, am_af_c, am_sf_c, am_bf_c, am_qf_c, am_ap_c, am_bp_c, am_qp_c, am_lf_c, am_kt_s, am_kt_n, am_wst, am_wstop, am_ns_0, am_ns_1, Bool.not_true, Bool.not_false, Bool.true_and, Bool.false_and, Nat.reduceBEq, ↓reduceIte, am_k2_n, am_k2_i, am_k2_r, am_k2_u, am_k2_f, am_k2_l, Nat.zero_le, true_and, and_true, true_or, or_true, am_cat_0, am_cat_i, am_cat_r, am_cat_l, am_cat_n, Nat.reduceLeDiff, Nat.reduceAdd, Option.isSome_some, List.getElem?_cons_zero, List.getElem?_cons_succ, am_fit_i, am_fit_r, am_fit_a, h1]
    rw [show ctn left e = left.testBit i by rw [he, ctn_n (by omega) (by omega)]]
    have hs := acB_s dd sm O left i
    cases c : left.testBit i with
    | false =>
      simp only [Bool.false_eq_true, if_false, if_true]
      exact am_goto I5_30 (lp_all hD ha hdf hsf hO hl hP n (i + 1) _ (by omega) (by rw [he, nI_1]) (by rw [hs, hac, c]; rfl))
    | true =>
      simp only [if_true, if_neg (show ¬ (1 : Int32) = 0 by decide)]
      subst he
      refine sp_openStarts hD ha hdf hsf hO (show i < 8 by omega) ?_
      simp only [J5_0, J5_1, J5_2, J5_3, J5_5, J5_8, J5_9, J5_10, J5_13, J5_16, J5_17, J5_18, J5_19, J5_22, J5_25, J5_26, J5_27, J5_30, J5_33, J5_34, am_gg_c, am_gf_c, am_pf_c, am_af_c, am_sf_c, am_bf_c, am_qf_c, am_ap_c, am_bp_c, am_qp_c, am_lf_c, am_kt_s, am_kt_n, am_wst, am_wstop, am_ns_0, am_ns_1, Bool.not_true, Bool.not_false, Bool.true_and, Bool.false_and, Nat.reduceBEq, ↓reduceIte, am_k2_n, am_k2_i, am_k2_r, am_k2_u, am_k2_f, am_k2_l, Nat.zero_le, true_and, and_true, true_or, or_true, am_cat_0, am_cat_i, am_cat_r, am_cat_l, am_cat_n, Nat.reduceLeDiff, Nat.reduceAdd, Option.isSome_some, List.getElem?_cons_zero, List.getElem?_cons_succ, am_fit_i, am_fit_r, am_fit_a, h1]
      have hlt := osN_lt (dd := dd) (sm := sm) (i := i) hO
      by_cases c2 : osN dd sm O i = 0
      · rw [if_pos (by rw [c2]; rfl)]
        rw [acB_le (n := i + 1) (by omega) (by rw [hs, c, c2]; simp)] at hP
        exact hP
      · rw [if_neg (by rw [bi_eq0 (by omega)]; exact c2)]
        exact am_goto I5_30 (lp_all hD ha hdf hsf hO hl hP n (i + 1) _ (by omega) (by rw [nI_1]) (by rw [hs, hac, c]; simp [c2]))
theorem sp_all {dd sm : Nat → Nat} {O left : Nat} (hD : 2 ≤ D) (ha : AR G k pa da sa room ln pr df sf Ls) (hdf : ∀ j, j < 8 → df j = nI (dd j) ∧ dd j < 32) (hsf : ∀ j, j < 8 → sf j = nI (sm j)) (hO : O < 2 ^ 18) (hl : left < 2 ^ 8) (hP : P (some (.int (if acB dd sm O left 8 = true then 1 else 0))) G) : am_CB X D 5 [.ref k, .int (nI O), .int (nI left)] G P := by
  obtain ⟨D, rfl⟩ : ∃ D0, D = D0 + 1 := ⟨D - 1, by omega⟩
  refine B5 40 [2] ?_
  simp only [J5_0, J5_1, J5_2, J5_3, J5_5, J5_8, J5_9, J5_10, J5_13, J5_16, J5_17, J5_18, J5_19, J5_22, J5_25, J5_26, J5_27, J5_30, J5_33, J5_34, am_gg_c, am_gf_c, am_pf_c, am_af_c, am_sf_c, am_bf_c, am_qf_c, am_ap_c, am_bp_c, am_qp_c, am_lf_c, am_kt_s, am_kt_n, am_wst, am_wstop, am_ns_0, am_ns_1, Bool.not_true, Bool.not_false, Bool.true_and, Bool.false_and, Nat.reduceBEq, ↓reduceIte, am_k2_n, am_k2_i, am_k2_r, am_k2_u, am_k2_f, am_k2_l, Nat.zero_le, true_and, and_true, true_or, or_true, am_cat_0, am_cat_i, am_cat_r, am_cat_l, am_cat_n, Nat.reduceLeDiff, Nat.reduceAdd, Option.isSome_some, List.getElem?_cons_zero, List.getElem?_cons_succ, am_fit_i, am_fit_r, am_fit_a]
  exact lp_all (by omega) ha hdf hsf hO hl hP 8 0 _ (by omega) nI_0.symm rfl
end ARR
