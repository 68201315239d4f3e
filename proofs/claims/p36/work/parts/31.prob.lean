def mkm (c : Nat → Bool) : Nat → Nat
  | 0 => 0
  | n + 1 => mkm c n + (if c n = true then 2 ^ n else 0)
theorem mkm_lt (c : Nat → Bool) : ∀ n, mkm c n < 2 ^ n
  | 0 => by simp [mkm]
  | n + 1 => by
    have := mkm_lt c n
    show mkm c n + _ < _
    rw [Nat.pow_succ]
    split <;> omega
theorem mkm_bit (c : Nat → Bool) : ∀ (n q : Nat), (mkm c n).testBit q = (decide (q < n) && c q)
  | 0, q => by simp [mkm]
  | n + 1, q => by
    have h0 : (mkm c n).testBit n = false := Nat.testBit_lt_two_pow (mkm_lt c n)
    show (mkm c n + _).testBit q = _
    split
    · next h =>
      rw [bt_add h0, mkm_bit c n q]
      by_cases e : q = n
      · subst e; simp [h]
      · simp only [e, decide_false, Bool.or_false]
        congr 1
        exact decide_eq_decide.mpr (by omega)
    · next h =>
      rw [Nat.add_zero, mkm_bit c n q]
      by_cases e : q = n
      · subst e; simp at h; simp [h]
      · congr 1
        exact decide_eq_decide.mpr (by omega)
theorem bi_orbit {a p : Nat} (ha : a < 2 ^ p) (hp : p < 32) : nI a ||| nI 1 <<< (nI p &&& 31) = nI (a + 2 ^ p) := by
  rw [bi_shl hp, Nat.one_mul, bi_or]
  congr 1
  apply Nat.eq_of_testBit_eq
  intro i
  rw [Nat.testBit_or, Nat.testBit_two_pow, bt_add (Nat.testBit_lt_two_pow ha)]
  congr 1
  exact decide_eq_decide.mpr ⟨Eq.symm, Eq.symm⟩
theorem bi_orbit_l {a p : Nat} (ha : a < 2 ^ p) (hp : p < 32) : nI a ||| 1 <<< (nI p &&& 31) = nI (a + 2 ^ p) := bi_orbit ha hp
def frN (l h : Nat) : Nat := (2 ^ l - 2 ^ 0) &&& (h ^^^ 4294967295)
theorem frN_bit {l h : Nat} (hl : l ≤ 18) (q : Nat) : (frN l h).testBit q = (decide (q < l) && !h.testBit q) := by
  unfold frN
  rw [Nat.testBit_and, Nat.testBit_xor, show (2 : Nat) ^ 0 = 1 by rfl, Nat.testBit_two_pow_sub_one, show (4294967295 : Nat) = 2 ^ 32 - 1 by rfl, Nat.testBit_two_pow_sub_one]
  by_cases e : q < l
  · rw [decide_eq_true e, decide_eq_true (show q < 32 by omega)]; simp
  · rw [decide_eq_false e]; simp
theorem frN_lt {l h : Nat} (hl : l ≤ 18) : frN l h < 2 ^ 18 := by
  apply Nat.lt_pow_two_of_testBit
  intro i hi
  rw [frN_bit hl, decide_eq_false (by omega)]; rfl
def PB (G : am_H) (k pk l h d : Nat) (f : Nat → Nat) : Prop := am_ob G k 2 = some [.int (nI l), .int (nI h), .int (nI d), .ref pk] ∧ (∃ p, am_ia G pk 0 = some (18, p) ∧ ∀ j, j < 18 → p j = nI (f j)) ∧ l ≤ 18 ∧ h < 2 ^ 18 ∧ d < 2 ^ 18 ∧ ∀ j, f j ≤ 17
def inN (x : Int32) (n : Nat) : Bool := decide (0 ≤ x.toInt ∧ x.toInt < (n : Int))
theorem inN_n {q n : Nat} (hq : q < 2 ^ 31) : inN (nI q) n = decide (q < n) := by
  unfold inN
  rw [nI_toInt hq]
  exact decide_eq_decide.mpr (by omega)
theorem inN_of {x : Int32} {n : Nat} (h : inN x n = true) (hn : n < 2 ^ 31) : ∃ q, x = nI q ∧ q < n := by
  unfold inN at h
  simp only [decide_eq_true_eq] at h
  obtain ⟨e, _⟩ := bi_nat h.1
  exact ⟨x.toInt.toNat, e, by omega⟩
theorem vp_in_n {q n : Nat} (h : q < n) (hn : n < 2 ^ 31) : vp_in (nI q) n := vp_in_nI h hn
section PROB
variable {X : Nat × (Nat → Int32)} {D : Nat} {G : am_H} {P : Option Value → am_H → Prop} {k pk l h d : Nat} {f : Nat → Nat}
theorem sp_hasPosition {x : Int32} (hD : 1 ≤ D) (hp : PB G k pk l h d f) (hP : P (some (.int (if inN x l = true then 1 else 0))) G) : am_CB X D 26 [.ref k, .int x] G P := by
  obtain ⟨D, rfl⟩ : ∃ D0, D = D0 + 1 := ⟨D - 1, by omega⟩
  obtain ⟨h1, h2, hl, -⟩ := hp
  refine B26 40 [] ?_
  simp only [J26_0, J26_1, J26_4, J26_5, J26_6, J26_9, J26_12, J26_13, J26_15, J26_18, J26_19, J26_22, J26_23, am_gg_c, am_gf_c, am_pf_c, am_af_c, am_sf_c, am_bf_c, am_qf_c, am_ap_c, am_bp_c, am_qp_c, am_lf_c, am_kt_s, am_kt_n, am_wst, am_wstop, am_ns_0, am_ns_1, Bool.not_true, Bool.not_false, Bool.true_and, Bool.false_and, Nat.reduceBEq, ↓reduceIte, am_k2_n, am_k2_i, am_k2_r, am_k2_u, am_k2_f, am_k2_l, Nat.zero_le, true_and, and_true, true_or, or_true, am_cat_0, am_cat_i, am_cat_r, am_cat_l, am_cat_n, Nat.reduceLeDiff, Nat.reduceAdd, Option.isSome_some, List.getElem?_cons_zero, List.getElem?_cons_succ, am_fit_i, am_fit_r, am_fit_a, h1]
  have z0 : (0 : Int32).toInt = 0 := rfl
  have z18 : (18 : Int32).toInt = 18 := rfl
  have zl := nI_toInt (n := l) (by omega)
  have hn : ∀ q : Prop, ¬ (0 ≤ x.toInt ∧ x.toInt < (l : Int)) → inN x l = false := fun _ q => decide_eq_false q
  split
  · next c =>
    rw [bi_lt] at c
    rw [hn True (by omega)] at hP
    exact hP
  · next c =>
    rw [bi_lt] at c
    split
    · next c2 =>
      rw [bi_lt] at c2
      rw [if_pos (by rw [bi_lt]; omega)]
      rw [show inN x l = true from decide_eq_true (by omega)] at hP
      exact hP
    · next c2 =>
      rw [bi_lt] at c2
      rw [hn True (by omega)] at hP
      exact hP
theorem sp_hasDifference {x : Int32} (hD : 2 ≤ D) (hp : PB G k pk l h d f) (hP : P (some (.int (if ctn d x = true then 1 else 0))) G) : am_CB X D 27 [.ref k, .int x] G P := by
  obtain ⟨D, rfl⟩ : ∃ D0, D = D0 + 1 := ⟨D - 1, by omega⟩
  obtain ⟨h1, h2, hl, hh, hd, hf⟩ := hp
  refine B27 40 [] ?_
  simp only [J27_0, J27_1, J27_4, J27_5, J27_8, am_gg_c, am_gf_c, am_pf_c, am_af_c, am_sf_c, am_bf_c, am_qf_c, am_ap_c, am_bp_c, am_qp_c, am_lf_c, am_kt_s, am_kt_n, am_wst, am_wstop, am_ns_0, am_ns_1, Bool.not_true, Bool.not_false, Bool.true_and, Bool.false_and, Nat.reduceBEq, ↓reduceIte, am_k2_n, am_k2_i, am_k2_r, am_k2_u, am_k2_f, am_k2_l, Nat.zero_le, true_and, and_true, true_or, or_true, am_cat_0, am_cat_i, am_cat_r, am_cat_l, am_cat_n, Nat.reduceLeDiff, Nat.reduceAdd, Option.isSome_some, List.getElem?_cons_zero, List.getElem?_cons_succ, am_fit_i, am_fit_r, am_fit_a, h1]
  refine sp_contains (by omega) (by omega) ?_
  simp only [J27_0, J27_1, J27_4, J27_5, J27_8, am_gg_c, am_gf_c, am_pf_c, am_af_c, am_sf_c, am_bf_c, am_qf_c, am_ap_c, am_bp_c, am_qp_c, am_lf_c, am_kt_s, am_kt_n, am_wst, am_wstop, am_ns_0, am_ns_1, Bool.not_true, Bool.not_false, Bool.true_and, Bool.false_and, Nat.reduceBEq, ↓reduceIte, am_k2_n, am_k2_i, am_k2_r, am_k2_u, am_k2_f, am_k2_l, Nat.zero_le, true_and, and_true, true_or, or_true, am_cat_0, am_cat_i, am_cat_r, am_cat_l, am_cat_n, Nat.reduceLeDiff, Nat.reduceAdd, Option.isSome_some, List.getElem?_cons_zero, List.getElem?_cons_succ, am_fit_i, am_fit_r, am_fit_a]
  refine ⟨?_, hP⟩
  split <;> simp
theorem sp_pairs (hD : 2 ≤ D) (hp : PB G k pk l h d f) (hP : P (some (.int (nI (bl d).length))) G) : am_CB X D 28 [.ref k] G P := by
  obtain ⟨D, rfl⟩ : ∃ D0, D = D0 + 1 := ⟨D - 1, by omega⟩
  obtain ⟨h1, h2, hl, hh, hd, hf⟩ := hp
  refine B28 40 [] ?_
  simp only [J28_0, J28_1, J28_4, J28_7, am_gg_c, am_gf_c, am_pf_c, am_af_c, am_sf_c, am_bf_c, am_qf_c, am_ap_c, am_bp_c, am_qp_c, am_lf_c, am_kt_s, am_kt_n, am_wst, am_wstop, am_ns_0, am_ns_1, Bool.not_true, Bool.not_false, Bool.true_and, Bool.false_and, Nat.reduceBEq, ↓reduceIte, am_k2_n, am_k2_i, am_k2_r, am_k2_u, am_k2_f, am_k2_l, Nat.zero_le, true_and, and_true, true_or, or_true, am_cat_0, am_cat_i, am_cat_r, am_cat_l, am_cat_n, Nat.reduceLeDiff, Nat.reduceAdd, Option.isSome_some, List.getElem?_cons_zero, List.getElem?_cons_succ, am_fit_i, am_fit_r, am_fit_a, h1]
  refine sp_bitCount (by omega) hd ?_
  simp only [J28_0, J28_1, J28_4, J28_7, am_gg_c, am_gf_c, am_pf_c, am_af_c, am_sf_c, am_bf_c, am_qf_c, am_ap_c, am_bp_c, am_qp_c, am_lf_c, am_kt_s, am_kt_n, am_wst, am_wstop, am_ns_0, am_ns_1, Bool.not_true, Bool.not_false, Bool.true_and, Bool.false_and, Nat.reduceBEq, ↓reduceIte, am_k2_n, am_k2_i, am_k2_r, am_k2_u, am_k2_f, am_k2_l, Nat.zero_le, true_and, and_true, true_or, or_true, am_cat_0, am_cat_i, am_cat_r, am_cat_l, am_cat_n, Nat.reduceLeDiff, Nat.reduceAdd, Option.isSome_some, List.getElem?_cons_zero, List.getElem?_cons_succ, am_fit_i, am_fit_r, am_fit_a]
  exact hP
theorem sp_free (hD : 2 ≤ D) (hp : PB G k pk l h d f) (hP : P (some (.int (nI (frN l h)))) G) : am_CB X D 29 [.ref k] G P := by
  obtain ⟨D, rfl⟩ : ∃ D0, D = D0 + 1 := ⟨D - 1, by omega⟩
  obtain ⟨h1, h2, hl, hh, hd, hf⟩ := hp
  refine B29 40 [] ?_
  simp only [J29_0, J29_1, J29_2, J29_5, J29_6, J29_7, J29_10, J29_11, J29_14, J29_15, J29_16, J29_17, am_gg_c, am_gf_c, am_pf_c, am_af_c, am_sf_c, am_bf_c, am_qf_c, am_ap_c, am_bp_c, am_qp_c, am_lf_c, am_kt_s, am_kt_n, am_wst, am_wstop, am_ns_0, am_ns_1, Bool.not_true, Bool.not_false, Bool.true_and, Bool.false_and, Nat.reduceBEq, ↓reduceIte, am_k2_n, am_k2_i, am_k2_r, am_k2_u, am_k2_f, am_k2_l, Nat.zero_le, true_and, and_true, true_or, or_true, am_cat_0, am_cat_i, am_cat_r, am_cat_l, am_cat_n, Nat.reduceLeDiff, Nat.reduceAdd, Option.isSome_some, List.getElem?_cons_zero, List.getElem?_cons_succ, am_fit_i, am_fit_r, am_fit_a, h1]
  refine sp_range (a := 0) (b := l) (by omega) (by omega) (by omega) ?_ ?_
  · rw [Int32.sub_add_cancel]
  · simp only [J29_0, J29_1, J29_2, J29_5, J29_6, J29_7, J29_10, J29_11, J29_14, J29_15, J29_16, J29_17, am_gg_c, am_gf_c, am_pf_c, am_af_c, am_sf_c, am_bf_c, am_qf_c, am_ap_c, am_bp_c, am_qp_c, am_lf_c, am_kt_s, am_kt_n, am_wst, am_wstop, am_ns_0, am_ns_1, Bool.not_true, Bool.not_false, Bool.true_and, Bool.false_and, Nat.reduceBEq, ↓reduceIte, am_k2_n, am_k2_i, am_k2_r, am_k2_u, am_k2_f, am_k2_l, Nat.zero_le, true_and, and_true, true_or, or_true, am_cat_0, am_cat_i, am_cat_r, am_cat_l, am_cat_n, Nat.reduceLeDiff, Nat.reduceAdd, Option.isSome_some, List.getElem?_cons_zero, List.getElem?_cons_succ, am_fit_i, am_fit_r, am_fit_a, h1]
    rw [bi_not]
    exact hP
theorem sp_isFree {x : Int32} (hD : 3 ≤ D) (hp : PB G k pk l h d f) (hP : P (some (.int (if ctn (frN l h) x = true then 1 else 0))) G) : am_CB X D 30 [.ref k, .int x] G P := by
  obtain ⟨D, rfl⟩ : ∃ D0, D = D0 + 1 := ⟨D - 1, by omega⟩
  have hl := hp.2.2.1
  have hob := hp.1
  refine B30 40 [] ?_
  simp only [J30_0, J30_1, J30_4, J30_5, J30_8, am_gg_c, am_gf_c, am_pf_c, am_af_c, am_sf_c, am_bf_c, am_qf_c, am_ap_c, am_bp_c, am_qp_c, am_lf_c, am_kt_s, am_kt_n, am_wst, am_wstop, am_ns_0, am_ns_1, Bool.not_true, Bool.not_false, Bool.true_and, Bool.false_and, Nat.reduceBEq, ↓reduceIte, am_k2_n, am_k2_i, am_k2_r, am_k2_u, am_k2_f, am_k2_l, Nat.zero_le, true_and, and_true, true_or, or_true, am_cat_0, am_cat_i, am_cat_r, am_cat_l, am_cat_n, Nat.reduceLeDiff, Nat.reduceAdd, Option.isSome_some, List.getElem?_cons_zero, List.getElem?_cons_succ, am_fit_i, am_fit_r, am_fit_a, hob]
  refine sp_free (by omega) hp ?_
  simp only [J30_0, J30_1, J30_4, J30_5, J30_8, am_gg_c, am_gf_c, am_pf_c, am_af_c, am_sf_c, am_bf_c, am_qf_c, am_ap_c, am_bp_c, am_qp_c, am_lf_c, am_kt_s, am_kt_n, am_wst, am_wstop, am_ns_0, am_ns_1, Bool.not_true, Bool.not_false, Bool.true_and, Bool.false_and, Nat.reduceBEq, ↓reduceIte, am_k2_n, am_k2_i, am_k2_r, am_k2_u, am_k2_f, am_k2_l, Nat.zero_le, true_and, and_true, true_or, or_true, am_cat_0, am_cat_i, am_cat_r, am_cat_l, am_cat_n, Nat.reduceLeDiff, Nat.reduceAdd, Option.isSome_some, List.getElem?_cons_zero, List.getElem?_cons_succ, am_fit_i, am_fit_r, am_fit_a, hob]
  have := frN_lt (h := h) hl
  refine sp_contains (by omega) (by omega) ?_
  simp only [J30_0, J30_1, J30_4, J30_5, J30_8, am_gg_c, am_gf_c, am_pf_c, am_af_c, am_sf_c, am_bf_c, am_qf_c, am_ap_c, am_bp_c, am_qp_c, am_lf_c, am_kt_s, am_kt_n, am_wst, am_wstop, am_ns_0, am_ns_1, Bool.not_true, Bool.not_false, Bool.true_and, Bool.false_and, Nat.reduceBEq, ↓reduceIte, am_k2_n, am_k2_i, am_k2_r, am_k2_u, am_k2_f, am_k2_l, Nat.zero_le, true_and, and_true, true_or, or_true, am_cat_0, am_cat_i, am_cat_r, am_cat_l, am_cat_n, Nat.reduceLeDiff, Nat.reduceAdd, Option.isSome_some, List.getElem?_cons_zero, List.getElem?_cons_succ, am_fit_i, am_fit_r, am_fit_a, hob]
  refine ⟨?_, hP⟩
  split <;> simp
theorem sp_pinAt {x : Int32} (hD : 2 ≤ D) (hp : PB G k pk l h d f) (hP : P (some (.int (if inN x l = true then nI (f x.toNatClampNeg) else 0))) G) : am_CB X D 31 [.ref k, .int x] G P := by
  obtain ⟨D, rfl⟩ : ∃ D0, D = D0 + 1 := ⟨D - 1, by omega⟩
  obtain ⟨h1, h2, hl, -⟩ := id hp
  refine B31 40 [] ?_
  simp only [J31_0, J31_1, J31_2, J31_5, J31_8, J31_9, J31_12, J31_13, J31_14, J31_17, J31_18, am_gg_c, am_gf_c, am_pf_c, am_af_c, am_sf_c, am_bf_c, am_qf_c, am_ap_c, am_bp_c, am_qp_c, am_lf_c, am_kt_s, am_kt_n, am_wst, am_wstop, am_ns_0, am_ns_1, Bool.not_true, Bool.not_false, Bool.true_and, Bool.false_and, Nat.reduceBEq, ↓reduceIte, am_k2_n, am_k2_i, am_k2_r, am_k2_u, am_k2_f, am_k2_l, Nat.zero_le, true_and, and_true, true_or, or_true, am_cat_0, am_cat_i, am_cat_r, am_cat_l, am_cat_n, Nat.reduceLeDiff, Nat.reduceAdd, Option.isSome_some, List.getElem?_cons_zero, List.getElem?_cons_succ, am_fit_i, am_fit_r, am_fit_a, h1]
  refine sp_hasPosition (by omega) hp ?_
  simp only [J31_0, J31_1, J31_2, J31_5, J31_8, J31_9, J31_12, J31_13, J31_14, J31_17, J31_18, am_gg_c, am_gf_c, am_pf_c, am_af_c, am_sf_c, am_bf_c, am_qf_c, am_ap_c, am_bp_c, am_qp_c, am_lf_c, am_kt_s, am_kt_n, am_wst, am_wstop, am_ns_0, am_ns_1, Bool.not_true, Bool.not_false, Bool.true_and, Bool.false_and, Nat.reduceBEq, ↓reduceIte, am_k2_n, am_k2_i, am_k2_r, am_k2_u, am_k2_f, am_k2_l, Nat.zero_le, true_and, and_true, true_or, or_true, am_cat_0, am_cat_i, am_cat_r, am_cat_l, am_cat_n, Nat.reduceLeDiff, Nat.reduceAdd, Option.isSome_some, List.getElem?_cons_zero, List.getElem?_cons_succ, am_fit_i, am_fit_r, am_fit_a, h1]
  cases hb : inN x l with
  | true =>
    rw [hb] at hP
    obtain ⟨q, rfl, hq⟩ := inN_of hb (by omega)
    obtain ⟨p, h2, h3⟩ := h2
    simp only [if_true, if_neg (show ¬ (1 : Int32) = 0 by decide), J31_0, J31_1, J31_2, J31_5, J31_8, J31_9, J31_12, J31_13, J31_14, J31_17, J31_18, am_gg_c, am_gf_c, am_pf_c, am_af_c, am_sf_c, am_bf_c, am_qf_c, am_ap_c, am_bp_c, am_qp_c, am_lf_c, am_kt_s, am_kt_n, am_wst, am_wstop, am_ns_0, am_ns_1, Bool.not_true, Bool.not_false, Bool.true_and, Bool.false_and, Nat.reduceBEq, ↓reduceIte, am_k2_n, am_k2_i, am_k2_r, am_k2_u, am_k2_f, am_k2_l, Nat.zero_le, true_and, and_true, true_or, or_true, am_cat_0, am_cat_i, am_cat_r, am_cat_l, am_cat_n, Nat.reduceLeDiff, Nat.reduceAdd, Option.isSome_some, List.getElem?_cons_zero, List.getElem?_cons_succ, am_fit_i, am_fit_r, am_fit_a, h1, h2]
    rw [nI_clamp (by omega), h3 q (by omega)]
    rw [nI_clamp (by omega)] at hP
    exact ⟨vp_in_n (by omega) (by omega), hP⟩
  | false =>
    rw [hb] at hP
    simp only [Bool.false_eq_true, if_false, if_true]
    simpa using hP
theorem sp_putPin {x : Int32} {w : Nat} (hw : w ≤ 17) (hD : 2 ≤ D) (hp : PB G k pk l h d f) (hP : ∀ G', PB G' k pk l h d (fun q => if inN x l = true ∧ q = x.toNatClampNeg then w else f q) → Fr [pk] G G' → P none G') : am_CB X D 32 [.ref k, .int x, .int (nI w)] G P := by
  obtain ⟨D, rfl⟩ : ∃ D0, D = D0 + 1 := ⟨D - 1, by omega⟩
  obtain ⟨h1, ⟨p, h2, h3⟩, hl, hh, hd, hf⟩ := id hp
  refine B32 40 [] ?_
  simp only [J32_0, J32_1, J32_2, J32_5, J32_8, J32_9, J32_12, J32_13, J32_14, J32_15, am_gg_c, am_gf_c, am_pf_c, am_af_c, am_sf_c, am_bf_c, am_qf_c, am_ap_c, am_bp_c, am_qp_c, am_lf_c, am_kt_s, am_kt_n, am_wst, am_wstop, am_ns_0, am_ns_1, Bool.not_true, Bool.not_false, Bool.true_and, Bool.false_and, Nat.reduceBEq, ↓reduceIte, am_k2_n, am_k2_i, am_k2_r, am_k2_u, am_k2_f, am_k2_l, Nat.zero_le, true_and, and_true, true_or, or_true, am_cat_0, am_cat_i, am_cat_r, am_cat_l, am_cat_n, Nat.reduceLeDiff, Nat.reduceAdd, Option.isSome_some, List.getElem?_cons_zero, List.getElem?_cons_succ, am_fit_i, am_fit_r, am_fit_a, h1]
  refine sp_hasPosition (by omega) hp ?_
  simp only [J32_0, J32_1, J32_2, J32_5, J32_8, J32_9, J32_12, J32_13, J32_14, J32_15, am_gg_c, am_gf_c, am_pf_c, am_af_c, am_sf_c, am_bf_c, am_qf_c, am_ap_c, am_bp_c, am_qp_c, am_lf_c, am_kt_s, am_kt_n, am_wst, am_wstop, am_ns_0, am_ns_1, Bool.not_true, Bool.not_false, Bool.true_and, Bool.false_and, Nat.reduceBEq, ↓reduceIte, am_k2_n, am_k2_i, am_k2_r, am_k2_u, am_k2_f, am_k2_l, Nat.zero_le, true_and, and_true, true_or, or_true, am_cat_0, am_cat_i, am_cat_r, am_cat_l, am_cat_n, Nat.reduceLeDiff, Nat.reduceAdd, Option.isSome_some, List.getElem?_cons_zero, List.getElem?_cons_succ, am_fit_i, am_fit_r, am_fit_a]
  cases hb : inN x l with
  | true =>
    rw [hb] at hP
    obtain ⟨q, rfl, hq⟩ := inN_of hb (by omega)
    rw [nI_clamp (by omega)] at hP
    simp only [if_true, if_neg (show ¬ (1 : Int32) = 0 by decide), J32_0, J32_1, J32_2, J32_5, J32_8, J32_9, J32_12, J32_13, J32_14, J32_15, am_gg_c, am_gf_c, am_pf_c, am_af_c, am_sf_c, am_bf_c, am_qf_c, am_ap_c, am_bp_c, am_qp_c, am_lf_c, am_kt_s, am_kt_n, am_wst, am_wstop, am_ns_0, am_ns_1, Bool.not_true, Bool.not_false, Bool.true_and, Bool.false_and, Nat.reduceBEq, ↓reduceIte, am_k2_n, am_k2_i, am_k2_r, am_k2_u, am_k2_f, am_k2_l, Nat.zero_le, true_and, and_true, true_or, or_true, am_cat_0, am_cat_i, am_cat_r, am_cat_l, am_cat_n, Nat.reduceLeDiff, Nat.reduceAdd, Option.isSome_some, List.getElem?_cons_zero, List.getElem?_cons_succ, am_fit_i, am_fit_r, am_fit_a, h1, h2]
    refine ⟨vp_in_n (by omega) (by omega), hP _ ⟨?_, ⟨_, am_ia_ss (am_ia_lt h2), fun j hj => ?_⟩, hl, hh, hd, fun j => ?_⟩ (Fr.set List.mem_cons_self)⟩
    · rw [am_ob_sn (Ne.symm (am_ob_ne_ia h1 h2))]; exact h1
    · rw [upd_at, nI_clamp (by omega)]
      by_cases e : j = q
      · simp [e]
      · simp [e, h3 j hj]
    · by_cases e : j = q
      · simp [e, hw]
      · simp [e, hf j]
  | false =>
    rw [hb] at hP
    simp only [Bool.false_eq_true, if_false, if_true]
    exact hP G (by simpa using hp) Fr.rf
theorem lp_pinned (hD : 2 ≤ D) (hp : PB G k pk l h d f) (hP : P (some (.int (nI (mkm (fun q => !(f q == 0)) l)))) G) : ∀ (n i : Nat) (a e : Int32), i + n = l → a = nI (mkm (fun q => !(f q == 0)) i) → e = nI i → am_WP X D 33 4 [some (.ref k), some (.int a), some (.int e)] [] G 0 0 P
  | 0, i, a, e, hi, ha, he => by
    obtain ⟨h1, h2, hl, -⟩ := id hp
    refine am_wps 40 [29] ?_
    simp only [J33_0, J33_1, J33_2, J33_3, J33_4, J33_5, J33_6, J33_9, J33_12, J33_13, J33_14, J33_17, J33_20, J33_21, J33_22, J33_23, J33_24, J33_25, J33_26, J33_29, J33_32, J33_33, am_gg_c, am_gf_c, am_pf_c, am_af_c, am_sf_c, am_bf_c, am_qf_c, am_ap_c, am_bp_c, am_qp_c, am_lf_c, am_kt_s, am_kt_n, am_wst, am_wstop, am_ns_0, am_ns_1, Bool.not_true, Bool.not_false, Bool.true_and, Bool.false_and, Nat.reduceBEq, ↓reduceIte, am_k2_n, am_k2_i, am_k2_r, am_k2_u, am_k2_f, am_k2_l, Nat.zero_le, true_and, and_true, true_or, or_true, am_cat_0, am_cat_i, am_cat_r, am_cat_l, am_cat_n, Nat.reduceLeDiff, Nat.reduceAdd, Option.isSome_some, List.getElem?_cons_zero, List.getElem?_cons_succ, am_fit_i, am_fit_r, am_fit_a, h1]
    rw [if_neg (by rw [he, nI_ltI (by omega) (by omega)]; omega), ha]
    rw [show i = l by omega]
    exact hP
  | n + 1, i, a, e, hi, ha, he => by
    obtain ⟨h1, h2, hl, hh, hd, hf⟩ := id hp
    refine am_wps 40 [29] ?_
    simp only [J33_0, J33_1, J33_2, J33_3, J33_4, J33_5, J33_6, J33_9, J33_12, J33_13, J33_14, J33_17, J33_20, J33_21, J33_22, J33_23, J33_24, J33_25, J33_26, J33_29, J33_32, J33_33, am_gg_c, am_gf_c, am_pf_c, am_af_c, am_sf_c, am_bf_c, am_qf_c, am_ap_c, am_bp_c, am_qp_c, am_lf_c, am_kt_s, am_kt_n, am_wst, am_wstop, am_ns_0, am_ns_1, Bool.not_true, Bool.not_false, Bool.true_and, Bool.false_and, Nat.reduceBEq, ↓reduceIte, am_k2_n, am_k2_i, am_k2_r, am_k2_u, am_k2_f, am_k2_l, Nat.zero_le, true_and, and_true, true_or, or_true, am_cat_0, am_cat_i, am_cat_r, am_cat_l, am_cat_n, Nat.reduceLeDiff, Nat.reduceAdd, Option.isSome_some, List.getElem?_cons_zero, List.getElem?_cons_succ, am_fit_i, am_fit_r, am_fit_a, h1]
    rw [if_pos (by rw [he, nI_ltI (by omega) (by omega)]; omega)]
    refine sp_pinAt hD hp ?_
    rw [he, inN_n (by omega), decide_eq_true (show i < l by omega), if_pos rfl, nI_clamp (by omega)]
    simp only [J33_0, J33_1, J33_2, J33_3, J33_4, J33_5, J33_6, J33_9, J33_12, J33_13, J33_14, J33_17, J33_20, J33_21, J33_22, J33_23, J33_24, J33_25, J33_26, J33_29, J33_32, J33_33, am_gg_c, am_gf_c, am_pf_c, am_af_c, am_sf_c, am_bf_c, am_qf_c, am_ap_c, am_bp_c, am_qp_c, am_lf_c, am_kt_s, am_kt_n, am_wst, am_wstop, am_ns_0, am_ns_1, Bool.not_true, Bool.not_false, Bool.true_and, Bool.false_and, Nat.reduceBEq, ↓reduceIte, am_k2_n, am_k2_i, am_k2_r, am_k2_u, am_k2_f, am_k2_l, Nat.zero_le, true_and, and_true, true_or, or_true, am_cat_0, am_cat_i, am_cat_r, am_cat_l, am_cat_n, Nat.reduceLeDiff, Nat.reduceAdd, Option.isSome_some, List.getElem?_cons_zero, List.getElem?_cons_succ, am_fit_i, am_fit_r, am_fit_a]
    have hlt := mkm_lt (fun q => !(f q == 0)) i
    by_cases c : f i = 0
    · rw [if_pos (by rw [c]; rfl)]
      refine am_goto I33_29 (lp_pinned hD hp hP n (i + 1) _ _ (by omega) ?_ (by rw [nI_1]))
      rw [ha]; simp [mkm, c]
    · rw [if_neg (by rw [bi_eq0 (by have := hf i; omega)]; exact c)]
      refine am_goto I33_29 (lp_pinned hD hp hP n (i + 1) _ _ (by omega) ?_ (by rw [nI_1]))
      rw [ha, bi_orbit_l hlt (by omega)]; simp [mkm, c]
theorem sp_pinned (hD : 3 ≤ D) (hp : PB G k pk l h d f) (hP : P (some (.int (nI (mkm (fun q => !(f q == 0)) l)))) G) : am_CB X D 33 [.ref k] G P := by
  obtain ⟨D, rfl⟩ : ∃ D0, D = D0 + 1 := ⟨D - 1, by omega⟩
  refine B33 40 [4] ?_
  simp only [J33_0, J33_1, J33_2, J33_3, J33_4, J33_5, J33_6, J33_9, J33_12, J33_13, J33_14, J33_17, J33_20, J33_21, J33_22, J33_23, J33_24, J33_25, J33_26, J33_29, J33_32, J33_33, am_gg_c, am_gf_c, am_pf_c, am_af_c, am_sf_c, am_bf_c, am_qf_c, am_ap_c, am_bp_c, am_qp_c, am_lf_c, am_kt_s, am_kt_n, am_wst, am_wstop, am_ns_0, am_ns_1, Bool.not_true, Bool.not_false, Bool.true_and, Bool.false_and, Nat.reduceBEq, ↓reduceIte, am_k2_n, am_k2_i, am_k2_r, am_k2_u, am_k2_f, am_k2_l, Nat.zero_le, true_and, and_true, true_or, or_true, am_cat_0, am_cat_i, am_cat_r, am_cat_l, am_cat_n, Nat.reduceLeDiff, Nat.reduceAdd, Option.isSome_some, List.getElem?_cons_zero, List.getElem?_cons_succ, am_fit_i, am_fit_r, am_fit_a]
  exact lp_pinned (by omega) hp hP l 0 _ _ (by omega) nI_0.symm nI_0.symm
theorem lp_pinnedTo {w : Nat} (hw : w < 2 ^ 31) (hD : 2 ≤ D) (hp : PB G k pk l h d f) (hP : P (some (.int (nI (mkm (fun q => f q == w) l)))) G) : ∀ (n i : Nat) (a e : Int32), i + n = l → a = nI (mkm (fun q => f q == w) i) → e = nI i → am_WP X D 34 4 [some (.ref k), some (.int (nI w)), some (.int a), some (.int e)] [] G 0 0 P
  | 0, i, a, e, hi, ha, he => by
    obtain ⟨h1, h2, hl, -⟩ := id hp
    refine am_wps 40 [30] ?_
    simp only [J34_0, J34_1, J34_2, J34_3, J34_4, J34_5, J34_6, J34_9, J34_12, J34_13, J34_14, J34_17, J34_18, J34_21, J34_22, J34_23, J34_24, J34_25, J34_26, J34_27, J34_30, J34_33, J34_34, am_gg_c, am_gf_c, am_pf_c, am_af_c, am_sf_c, am_bf_c, am_qf_c, am_ap_c, am_bp_c, am_qp_c, am_lf_c, am_kt_s, am_kt_n, am_wst, am_wstop, am_ns_0, am_ns_1, Bool.not_true, Bool.not_false, Bool.true_and, Bool.false_and, Nat.reduceBEq, ↓reduceIte, am_k2_n, am_k2_i, am_k2_r, am_k2_u, am_k2_f, am_k2_l, Nat.zero_le, true_and, and_true, true_or, or_true, am_cat_0, am_cat_i, am_cat_r, am_cat_l, am_cat_n, Nat.reduceLeDiff, Nat.reduceAdd, Option.isSome_some, List.getElem?_cons_zero, List.getElem?_cons_succ, am_fit_i, am_fit_r, am_fit_a, h1]
    rw [if_neg (by rw [he, nI_ltI (by omega) (by omega)]; omega), ha]
    rw [show i = l by omega]
    exact hP
  | n + 1, i, a, e, hi, ha, he => by
    obtain ⟨h1, h2, hl, hh, hd, hf⟩ := id hp
    refine am_wps 40 [30] ?_
    simp only [J34_0, J34_1, J34_2, J34_3, J34_4, J34_5, J34_6, J34_9, J34_12, J34_13, J34_14, J34_17, J34_18, J34_21, J34_22, J34_23, J34_24, J34_25, J34_26, J34_27, J34_30, J34_33, J34_34, am_gg_c, am_gf_c, am_pf_c, am_af_c, am_sf_c, am_bf_c, am_qf_c, am_ap_c, am_bp_c, am_qp_c, am_lf_c, am_kt_s, am_kt_n, am_wst, am_wstop, am_ns_0, am_ns_1, Bool.not_true, Bool.not_false, Bool.true_and, Bool.false_and, Nat.reduceBEq, ↓reduceIte, am_k2_n, am_k2_i, am_k2_r, am_k2_u, am_k2_f, am_k2_l, Nat.zero_le, true_and, and_true, true_or, or_true, am_cat_0, am_cat_i, am_cat_r, am_cat_l, am_cat_n, Nat.reduceLeDiff, Nat.reduceAdd, Option.isSome_some, List.getElem?_cons_zero, List.getElem?_cons_succ, am_fit_i, am_fit_r, am_fit_a, h1]
    rw [if_pos (by rw [he, nI_ltI (by omega) (by omega)]; omega)]
    refine sp_pinAt hD hp ?_
    rw [he, inN_n (by omega), decide_eq_true (show i < l by omega), if_pos rfl, nI_clamp (by omega)]
    simp only [J34_0, J34_1, J34_2, J34_3, J34_4, J34_5, J34_6, J34_9, J34_12, J34_13, J34_14, J34_17, J34_18, J34_21, J34_22, J34_23, J34_24, J34_25, J34_26, J34_27, J34_30, J34_33, J34_34, am_gg_c, am_gf_c, am_pf_c, am_af_c, am_sf_c, am_bf_c, am_qf_c, am_ap_c, am_bp_c, am_qp_c, am_lf_c, am_kt_s, am_kt_n, am_wst, am_wstop, am_ns_0, am_ns_1, Bool.not_true, Bool.not_false, Bool.true_and, Bool.false_and, Nat.reduceBEq, ↓reduceIte, am_k2_n, am_k2_i, am_k2_r, am_k2_u, am_k2_f, am_k2_l, Nat.zero_le, true_and, and_true, true_or, or_true, am_cat_0, am_cat_i, am_cat_r, am_cat_l, am_cat_n, Nat.reduceLeDiff, Nat.reduceAdd, Option.isSome_some, List.getElem?_cons_zero, List.getElem?_cons_succ, am_fit_i, am_fit_r, am_fit_a]
    have hlt := mkm_lt (fun q => f q == w) i
    have hfi := hf i
    by_cases c : f i = w
    · rw [if_pos (by rw [c])]
      refine am_goto I34_30 (lp_pinnedTo hw hD hp hP n (i + 1) _ _ (by omega) ?_ (by rw [nI_1]))
      rw [ha, bi_orbit_l hlt (by omega)]; simp [mkm, c]
    · rw [if_neg (by rw [nI_eq (by omega) hw]; exact c)]
      refine am_goto I34_30 (lp_pinnedTo hw hD hp hP n (i + 1) _ _ (by omega) ?_ (by rw [nI_1]))
      rw [ha]; simp [mkm, c]
theorem sp_pinnedTo {w : Nat} (hw : w < 2 ^ 31) (hD : 3 ≤ D) (hp : PB G k pk l h d f) (hP : P (some (.int (nI (mkm (fun q => f q == w) l)))) G) : am_CB X D 34 [.ref k, .int (nI w)] G P := by
  obtain ⟨D, rfl⟩ : ∃ D0, D = D0 + 1 := ⟨D - 1, by omega⟩
  refine B34 40 [4] ?_
  simp only [J34_0, J34_1, J34_2, J34_3, J34_4, J34_5, J34_6, J34_9, J34_12, J34_13, J34_14, J34_17, J34_18, J34_21, J34_22, J34_23, J34_24, J34_25, J34_26, J34_27, J34_30, J34_33, J34_34, am_gg_c, am_gf_c, am_pf_c, am_af_c, am_sf_c, am_bf_c, am_qf_c, am_ap_c, am_bp_c, am_qp_c, am_lf_c, am_kt_s, am_kt_n, am_wst, am_wstop, am_ns_0, am_ns_1, Bool.not_true, Bool.not_false, Bool.true_and, Bool.false_and, Nat.reduceBEq, ↓reduceIte, am_k2_n, am_k2_i, am_k2_r, am_k2_u, am_k2_f, am_k2_l, Nat.zero_le, true_and, and_true, true_or, or_true, am_cat_0, am_cat_i, am_cat_r, am_cat_l, am_cat_n, Nat.reduceLeDiff, Nat.reduceAdd, Option.isSome_some, List.getElem?_cons_zero, List.getElem?_cons_succ, am_fit_i, am_fit_r, am_fit_a]
  exact lp_pinnedTo hw (by omega) hp hP l 0 _ _ (by omega) nI_0.symm nI_0.symm
def usN (l h w : Nat) (f : Nat → Nat) : Nat := frN l h &&& (mkm (fun q => f q == 0) l ||| mkm (fun q => f q == w) l)
def stN (l h w : Nat) (f : Nat → Nat) : Nat := usN l h w f &&& (usN l h w f / 2 ^ w)
theorem usN_lt {l h w : Nat} {f : Nat → Nat} (hl : l ≤ 18) : usN l h w f < 2 ^ 18 := Nat.lt_of_le_of_lt Nat.and_le_left (frN_lt hl)
theorem sp_startsOf {w : Nat} (hw : w < 32) (hD : 4 ≤ D) (hp : PB G k pk l h d f) (hP : P (some (.int (nI (stN l h w f)))) G) : am_CB X D 35 [.ref k, .int (nI w)] G P := by
  obtain ⟨D, rfl⟩ : ∃ D0, D = D0 + 1 := ⟨D - 1, by omega⟩
  obtain ⟨h1, h2, hl, hh, hd, hf⟩ := id hp
  refine B35 40 [] ?_
  simp only [J35_0, J35_1, J35_4, J35_5, J35_6, J35_9, J35_10, J35_11, J35_14, J35_15, J35_16, J35_17, J35_18, J35_19, J35_20, J35_21, J35_22, am_gg_c, am_gf_c, am_pf_c, am_af_c, am_sf_c, am_bf_c, am_qf_c, am_ap_c, am_bp_c, am_qp_c, am_lf_c, am_kt_s, am_kt_n, am_wst, am_wstop, am_ns_0, am_ns_1, Bool.not_true, Bool.not_false, Bool.true_and, Bool.false_and, Nat.reduceBEq, ↓reduceIte, am_k2_n, am_k2_i, am_k2_r, am_k2_u, am_k2_f, am_k2_l, Nat.zero_le, true_and, and_true, true_or, or_true, am_cat_0, am_cat_i, am_cat_r, am_cat_l, am_cat_n, Nat.reduceLeDiff, Nat.reduceAdd, Option.isSome_some, List.getElem?_cons_zero, List.getElem?_cons_succ, am_fit_i, am_fit_r, am_fit_a, h1]
  refine sp_free (by omega) hp ?_
  simp only [J35_0, J35_1, J35_4, J35_5, J35_6, J35_9, J35_10, J35_11, J35_14, J35_15, J35_16, J35_17, J35_18, J35_19, J35_20, J35_21, J35_22, am_gg_c, am_gf_c, am_pf_c, am_af_c, am_sf_c, am_bf_c, am_qf_c, am_ap_c, am_bp_c, am_qp_c, am_lf_c, am_kt_s, am_kt_n, am_wst, am_wstop, am_ns_0, am_ns_1, Bool.not_true, Bool.not_false, Bool.true_and, Bool.false_and, Nat.reduceBEq, ↓reduceIte, am_k2_n, am_k2_i, am_k2_r, am_k2_u, am_k2_f, am_k2_l, Nat.zero_le, true_and, and_true, true_or, or_true, am_cat_0, am_cat_i, am_cat_r, am_cat_l, am_cat_n, Nat.reduceLeDiff, Nat.reduceAdd, Option.isSome_some, List.getElem?_cons_zero, List.getElem?_cons_succ, am_fit_i, am_fit_r, am_fit_a, h1]
  refine sp_pinnedTo (w := 0) (by omega) (by omega) hp ?_
  simp only [J35_0, J35_1, J35_4, J35_5, J35_6, J35_9, J35_10, J35_11, J35_14, J35_15, J35_16, J35_17, J35_18, J35_19, J35_20, J35_21, J35_22, am_gg_c, am_gf_c, am_pf_c, am_af_c, am_sf_c, am_bf_c, am_qf_c, am_ap_c, am_bp_c, am_qp_c, am_lf_c, am_kt_s, am_kt_n, am_wst, am_wstop, am_ns_0, am_ns_1, Bool.not_true, Bool.not_false, Bool.true_and, Bool.false_and, Nat.reduceBEq, ↓reduceIte, am_k2_n, am_k2_i, am_k2_r, am_k2_u, am_k2_f, am_k2_l, Nat.zero_le, true_and, and_true, true_or, or_true, am_cat_0, am_cat_i, am_cat_r, am_cat_l, am_cat_n, Nat.reduceLeDiff, Nat.reduceAdd, Option.isSome_some, List.getElem?_cons_zero, List.getElem?_cons_succ, am_fit_i, am_fit_r, am_fit_a, h1]
  refine sp_pinnedTo (by omega) (by omega) hp ?_
  simp only [J35_0, J35_1, J35_4, J35_5, J35_6, J35_9, J35_10, J35_11, J35_14, J35_15, J35_16, J35_17, J35_18, J35_19, J35_20, J35_21, J35_22, am_gg_c, am_gf_c, am_pf_c, am_af_c, am_sf_c, am_bf_c, am_qf_c, am_ap_c, am_bp_c, am_qp_c, am_lf_c, am_kt_s, am_kt_n, am_wst, am_wstop, am_ns_0, am_ns_1, Bool.not_true, Bool.not_false, Bool.true_and, Bool.false_and, Nat.reduceBEq, ↓reduceIte, am_k2_n, am_k2_i, am_k2_r, am_k2_u, am_k2_f, am_k2_l, Nat.zero_le, true_and, and_true, true_or, or_true, am_cat_0, am_cat_i, am_cat_r, am_cat_l, am_cat_n, Nat.reduceLeDiff, Nat.reduceAdd, Option.isSome_some, List.getElem?_cons_zero, List.getElem?_cons_succ, am_fit_i, am_fit_r, am_fit_a, h1]
  have := usN_lt (h := h) (w := w) (f := f) hl
  rw [bi_or, bi_and, bi_shr (by unfold usN at this; omega) hw, bi_and]
  exact hP
def filledB (l h d : Nat) : Bool := decide ((bl (frN l h)).length = 2 * (bl d).length)
theorem bl_le (m : Nat) : (bl m).length ≤ 18 := by
  have := List.length_filter_le (fun d => m.testBit d) (List.range 18)
  rw [List.length_range] at this
  exact this
theorem sp_isFilled (hD : 3 ≤ D) (hp : PB G k pk l h d f) (hP : P (some (.int (if filledB l h d = true then 1 else 0))) G) : am_CB X D 36 [.ref k] G P := by
  obtain ⟨D, rfl⟩ : ∃ D0, D = D0 + 1 := ⟨D - 1, by omega⟩
  obtain ⟨h1, h2, hl, hh, hd, hf⟩ := id hp
  refine B36 40 [] ?_
  simp only [J36_0, J36_1, J36_4, J36_7, J36_8, J36_9, J36_12, J36_13, J36_16, J36_17, J36_20, J36_21, am_gg_c, am_gf_c, am_pf_c, am_af_c, am_sf_c, am_bf_c, am_qf_c, am_ap_c, am_bp_c, am_qp_c, am_lf_c, am_kt_s, am_kt_n, am_wst, am_wstop, am_ns_0, am_ns_1, Bool.not_true, Bool.not_false, Bool.true_and, Bool.false_and, Nat.reduceBEq, ↓reduceIte, am_k2_n, am_k2_i, am_k2_r, am_k2_u, am_k2_f, am_k2_l, Nat.zero_le, true_and, and_true, true_or, or_true, am_cat_0, am_cat_i, am_cat_r, am_cat_l, am_cat_n, Nat.reduceLeDiff, Nat.reduceAdd, Option.isSome_some, List.getElem?_cons_zero, List.getElem?_cons_succ, am_fit_i, am_fit_r, am_fit_a, h1]
  refine sp_free (by omega) hp ?_
  simp only [J36_0, J36_1, J36_4, J36_7, J36_8, J36_9, J36_12, J36_13, J36_16, J36_17, J36_20, J36_21, am_gg_c, am_gf_c, am_pf_c, am_af_c, am_sf_c, am_bf_c, am_qf_c, am_ap_c, am_bp_c, am_qp_c, am_lf_c, am_kt_s, am_kt_n, am_wst, am_wstop, am_ns_0, am_ns_1, Bool.not_true, Bool.not_false, Bool.true_and, Bool.false_and, Nat.reduceBEq, ↓reduceIte, am_k2_n, am_k2_i, am_k2_r, am_k2_u, am_k2_f, am_k2_l, Nat.zero_le, true_and, and_true, true_or, or_true, am_cat_0, am_cat_i, am_cat_r, am_cat_l, am_cat_n, Nat.reduceLeDiff, Nat.reduceAdd, Option.isSome_some, List.getElem?_cons_zero, List.getElem?_cons_succ, am_fit_i, am_fit_r, am_fit_a, h1]
  refine sp_bitCount (by omega) (frN_lt hl) ?_
  simp only [J36_0, J36_1, J36_4, J36_7, J36_8, J36_9, J36_12, J36_13, J36_16, J36_17, J36_20, J36_21, am_gg_c, am_gf_c, am_pf_c, am_af_c, am_sf_c, am_bf_c, am_qf_c, am_ap_c, am_bp_c, am_qp_c, am_lf_c, am_kt_s, am_kt_n, am_wst, am_wstop, am_ns_0, am_ns_1, Bool.not_true, Bool.not_false, Bool.true_and, Bool.false_and, Nat.reduceBEq, ↓reduceIte, am_k2_n, am_k2_i, am_k2_r, am_k2_u, am_k2_f, am_k2_l, Nat.zero_le, true_and, and_true, true_or, or_true, am_cat_0, am_cat_i, am_cat_r, am_cat_l, am_cat_n, Nat.reduceLeDiff, Nat.reduceAdd, Option.isSome_some, List.getElem?_cons_zero, List.getElem?_cons_succ, am_fit_i, am_fit_r, am_fit_a, h1]
  refine sp_pairs (by omega) hp ?_
  simp only [J36_0, J36_1, J36_4, J36_7, J36_8, J36_9, J36_12, J36_13, J36_16, J36_17, J36_20, J36_21, am_gg_c, am_gf_c, am_pf_c, am_af_c, am_sf_c, am_bf_c, am_qf_c, am_ap_c, am_bp_c, am_qp_c, am_lf_c, am_kt_s, am_kt_n, am_wst, am_wstop, am_ns_0, am_ns_1, Bool.not_true, Bool.not_false, Bool.true_and, Bool.false_and, Nat.reduceBEq, ↓reduceIte, am_k2_n, am_k2_i, am_k2_r, am_k2_u, am_k2_f, am_k2_l, Nat.zero_le, true_and, and_true, true_or, or_true, am_cat_0, am_cat_i, am_cat_r, am_cat_l, am_cat_n, Nat.reduceLeDiff, Nat.reduceAdd, Option.isSome_some, List.getElem?_cons_zero, List.getElem?_cons_succ, am_fit_i, am_fit_r, am_fit_a, h1]
  have a1 := bl_le (frN l h)
  have a2 := bl_le d
  rw [show (2 : Int32) = nI 2 by rfl, pk_mul]
  by_cases c : (bl (frN l h)).length = 2 * (bl d).length
  · rw [show filledB l h d = true from decide_eq_true c] at hP
    rw [if_pos (by rw [c])]
    exact hP
  · rw [show filledB l h d = false from decide_eq_false c] at hP
    rw [if_neg (by rw [nI_eq (by omega) (by omega)]; exact c)]
    exact hP
theorem sp_twice (hD : 3 ≤ D) (hp : PB G k pk l h d f) (hP : P (some (.int (nI (bsm (frN l h) 0 31) - nI (bsm d 0 31)))) G) : am_CB X D 37 [.ref k] G P := by
  obtain ⟨D, rfl⟩ : ∃ D0, D = D0 + 1 := ⟨D - 1, by omega⟩
  obtain ⟨h1, h2, hl, hh, hd, hf⟩ := id hp
  refine B37 40 [] ?_
  simp only [J37_0, J37_1, J37_4, J37_7, J37_8, J37_11, J37_14, J37_15, am_gg_c, am_gf_c, am_pf_c, am_af_c, am_sf_c, am_bf_c, am_qf_c, am_ap_c, am_bp_c, am_qp_c, am_lf_c, am_kt_s, am_kt_n, am_wst, am_wstop, am_ns_0, am_ns_1, Bool.not_true, Bool.not_false, Bool.true_and, Bool.false_and, Nat.reduceBEq, ↓reduceIte, am_k2_n, am_k2_i, am_k2_r, am_k2_u, am_k2_f, am_k2_l, Nat.zero_le, true_and, and_true, true_or, or_true, am_cat_0, am_cat_i, am_cat_r, am_cat_l, am_cat_n, Nat.reduceLeDiff, Nat.reduceAdd, Option.isSome_some, List.getElem?_cons_zero, List.getElem?_cons_succ, am_fit_i, am_fit_r, am_fit_a, h1]
  refine sp_free (by omega) hp ?_
  simp only [J37_0, J37_1, J37_4, J37_7, J37_8, J37_11, J37_14, J37_15, am_gg_c, am_gf_c, am_pf_c, am_af_c, am_sf_c, am_bf_c, am_qf_c, am_ap_c, am_bp_c, am_qp_c, am_lf_c, am_kt_s, am_kt_n, am_wst, am_wstop, am_ns_0, am_ns_1, Bool.not_true, Bool.not_false, Bool.true_and, Bool.false_and, Nat.reduceBEq, ↓reduceIte, am_k2_n, am_k2_i, am_k2_r, am_k2_u, am_k2_f, am_k2_l, Nat.zero_le, true_and, and_true, true_or, or_true, am_cat_0, am_cat_i, am_cat_r, am_cat_l, am_cat_n, Nat.reduceLeDiff, Nat.reduceAdd, Option.isSome_some, List.getElem?_cons_zero, List.getElem?_cons_succ, am_fit_i, am_fit_r, am_fit_a, h1]
  have := frN_lt (h := h) hl
  refine sp_sumOf (by omega) (by omega) ?_
  simp only [J37_0, J37_1, J37_4, J37_7, J37_8, J37_11, J37_14, J37_15, am_gg_c, am_gf_c, am_pf_c, am_af_c, am_sf_c, am_bf_c, am_qf_c, am_ap_c, am_bp_c, am_qp_c, am_lf_c, am_kt_s, am_kt_n, am_wst, am_wstop, am_ns_0, am_ns_1, Bool.not_true, Bool.not_false, Bool.true_and, Bool.false_and, Nat.reduceBEq, ↓reduceIte, am_k2_n, am_k2_i, am_k2_r, am_k2_u, am_k2_f, am_k2_l, Nat.zero_le, true_and, and_true, true_or, or_true, am_cat_0, am_cat_i, am_cat_r, am_cat_l, am_cat_n, Nat.reduceLeDiff, Nat.reduceAdd, Option.isSome_some, List.getElem?_cons_zero, List.getElem?_cons_succ, am_fit_i, am_fit_r, am_fit_a, h1]
  refine sp_sumOf (by omega) (by omega) ?_
  simp only [J37_0, J37_1, J37_4, J37_7, J37_8, J37_11, J37_14, J37_15, am_gg_c, am_gf_c, am_pf_c, am_af_c, am_sf_c, am_bf_c, am_qf_c, am_ap_c, am_bp_c, am_qp_c, am_lf_c, am_kt_s, am_kt_n, am_wst, am_wstop, am_ns_0, am_ns_1, Bool.not_true, Bool.not_false, Bool.true_and, Bool.false_and, Nat.reduceBEq, ↓reduceIte, am_k2_n, am_k2_i, am_k2_r, am_k2_u, am_k2_f, am_k2_l, Nat.zero_le, true_and, and_true, true_or, or_true, am_cat_0, am_cat_i, am_cat_r, am_cat_l, am_cat_n, Nat.reduceLeDiff, Nat.reduceAdd, Option.isSome_some, List.getElem?_cons_zero, List.getElem?_cons_succ, am_fit_i, am_fit_r, am_fit_a, h1]
  exact hP
end PROB
