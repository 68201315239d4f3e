section AH
variable {X : Nat × (Nat → Int32)} {D : Nat} {G : am_H} {P : Option Value → am_H → Prop} {k pa da sa room : Nat} {ln pr : Int32} {df sf : Nat → Int32} {Ls : List Nat}
theorem sp_ahas {x : Int32} (hD : 1 ≤ D) (ha : AR G k pa da sa room ln pr df sf Ls) (hP : P (some (.int (if inN x Ls.length = true then 1 else 0))) G) : am_CB X D 7 [.ref k, .int x] G P := by
  obtain ⟨D, rfl⟩ : ∃ D0, D = D0 + 1 := ⟨D - 1, by omega⟩
  obtain ⟨h1, ⟨q, h2, h3⟩, h4, h5, h6, h7⟩ := ha
  have z0 : (0 : Int32).toInt = 0 := rfl
  have zn := nI_toInt (n := Ls.length) (by omega)
  have zr := nI_toInt (n := room) (by omega)
  refine B7 40 [] ?_
  simp only [J7_0, J7_1, J7_4, J7_5, J7_6, J7_9, J7_12, J7_13, J7_14, J7_17, J7_18, J7_21, J7_22, J7_25, J7_26, am_gg_c, am_gf_c, am_pf_c, am_af_c, am_sf_c, am_bf_c, am_qf_c, am_ap_c, am_bp_c, am_qp_c, am_lf_c, am_kt_s, am_kt_n, am_wst, am_wstop, am_ns_0, am_ns_1, Bool.not_true, Bool.not_false, Bool.true_and, Bool.false_and, Nat.reduceBEq, ↓reduceIte, am_k2_n, am_k2_i, am_k2_r, am_k2_u, am_k2_f, am_k2_l, Nat.zero_le, true_and, and_true, true_or, or_true, am_cat_0, am_cat_i, am_cat_r, am_cat_l, am_cat_n, Nat.reduceLeDiff, Nat.reduceAdd, Option.isSome_some, List.getElem?_cons_zero, List.getElem?_cons_succ, am_fit_i, am_fit_r, am_fit_a, h1, am_alen_la h2]
  split
  · next c =>
    rw [bi_lt] at c
    rw [show inN x Ls.length = false from decide_eq_false (by omega)] at hP
    exact hP
  · next c =>
    rw [bi_lt] at c
    split
    · next c2 =>
      rw [bi_lt] at c2
      rw [if_pos (by rw [bi_lt]; show x.toInt < (nI room).toInt; omega)]
      rw [show inN x Ls.length = true from decide_eq_true (by omega)] at hP
      exact hP
    · next c2 =>
      rw [bi_lt] at c2
      rw [show inN x Ls.length = false from decide_eq_false (by omega)] at hP
      exact hP
theorem sp_packedAt {q v : Nat} (hD : 2 ≤ D) (ha : AR G k pa da sa room ln pr df sf Ls) (hq : Ls[q]? = some v) (hP : P (some (.long (lN v))) G) : am_CB X D 8 [.ref k, .int (nI q)] G P := by
  obtain ⟨D, rfl⟩ : ∃ D0, D = D0 + 1 := ⟨D - 1, by omega⟩
  obtain ⟨h1, ⟨qf, h2, h3⟩, h4, h5, h6, h7⟩ := id ha
  have hlt := (List.getElem?_eq_some_iff.mp hq).1
  refine B8 40 [] ?_
  simp only [J8_0, J8_1, J8_2, J8_5, J8_8, J8_9, J8_12, J8_13, J8_14, J8_17, J8_18, am_gg_c, am_gf_c, am_pf_c, am_af_c, am_sf_c, am_bf_c, am_qf_c, am_ap_c, am_bp_c, am_qp_c, am_lf_c, am_kt_s, am_kt_n, am_wst, am_wstop, am_ns_0, am_ns_1, Bool.not_true, Bool.not_false, Bool.true_and, Bool.false_and, Nat.reduceBEq, ↓reduceIte, am_k2_n, am_k2_i, am_k2_r, am_k2_u, am_k2_f, am_k2_l, Nat.zero_le, true_and, and_true, true_or, or_true, am_cat_0, am_cat_i, am_cat_r, am_cat_l, am_cat_n, Nat.reduceLeDiff, Nat.reduceAdd, Option.isSome_some, List.getElem?_cons_zero, List.getElem?_cons_succ, am_fit_i, am_fit_r, am_fit_a, h1]
  refine sp_ahas (by omega) ha ?_
  rw [inN_n (by omega), decide_eq_true hlt]
  simp only [J8_0, J8_1, J8_2, J8_5, J8_8, J8_9, J8_12, J8_13, J8_14, J8_17, J8_18, am_gg_c, am_gf_c, am_pf_c, am_af_c, am_sf_c, am_bf_c, am_qf_c, am_ap_c, am_bp_c, am_qp_c, am_lf_c, am_kt_s, am_kt_n, am_wst, am_wstop, am_ns_0, am_ns_1, Bool.not_true, Bool.not_false, Bool.true_and, Bool.false_and, Nat.reduceBEq, ↓reduceIte, am_k2_n, am_k2_i, am_k2_r, am_k2_u, am_k2_f, am_k2_l, Nat.zero_le, true_and, and_true, true_or, or_true, am_cat_0, am_cat_i, am_cat_r, am_cat_l, am_cat_n, Nat.reduceLeDiff, Nat.reduceAdd, Option.isSome_some, List.getElem?_cons_zero, List.getElem?_cons_succ, am_fit_i, am_fit_r, am_fit_a, h1, h2, if_true, if_neg (show ¬ (1 : Int32) = 0 by decide)]
  refine ⟨vp_in_n (by omega) (by omega), ?_⟩
  rw [nI_clamp (by omega), h3 q v hq]
  exact hP
end AH
def FO (G : am_H) (l h d : Nat) (f : Nat → Nat) : Prop := ∃ pr df sf, AR G 3 4 5 6 512 (nI l) pr df sf ((arrs true l h d f).map (pkA d)) ∧ sma df ∧ (∀ j, j < 8 → ∃ x, sf j = nI x) ∧ (arrs true l h d f ≠ [] → pr = nI (bl d).length ∧ ∀ j, j < (bl d).length → df j = nI (ddN d j))
theorem FO.fr {G G' : am_H} {ks : List Nat} {l h d : Nat} {f : Nat → Nat} (hh : FO G l h d f) (hF : Fr ks G G') (h1 : ¬ 3 ∈ ks) (h2 : ¬ 4 ∈ ks) (h3 : ¬ 5 ∈ ks) (h4 : ¬ 6 ∈ ks) : FO G' l h d f := by
  obtain ⟨pr, df, sf, ⟨a, ⟨q, b, b2⟩, c, e, g⟩, r⟩ := hh
  exact ⟨pr, df, sf, ⟨by rw [hF.ob h1]; exact a, ⟨q, by rw [hF.la h2]; exact b, b2⟩, by rw [hF.ia h3]; exact c, by rw [hF.ia h4]; exact e, g⟩, r⟩
section FOS
variable {X : Nat × (Nat → Int32)} {D : Nat} {G : am_H} {P : Option Value → am_H → Prop} {l h d : Nat} {f : Nat → Nat} {a b : List (Nat × Nat)} {q : Nat}
theorem sp_fhas {x : Int32} (hD : 1 ≤ D) (hf : FO G l h d f) (hP : P (some (.int (if inN x (arrs true l h d f).length = true then 1 else 0))) G) : am_CB X D 7 [.ref 3, .int x] G P := by
  obtain ⟨pr, df, sf, ha, _⟩ := hf
  refine sp_ahas hD ha ?_
  rw [List.length_map]
  exact hP
theorem sp_fpacked (hD : 2 ≤ D) (hf : FO G l h d f) (hq : (arrs true l h d f)[q]? = some a) (hP : P (some (.long (lN (pkA d a)))) G) : am_CB X D 8 [.ref 3, .int (nI q)] G P := by
  obtain ⟨pr, df, sf, ha, _⟩ := hf
  exact sp_packedAt hD ha (by rw [List.getElem?_map, hq]; rfl) hP
theorem sp_startAt {i : Nat} (hl : l ≤ 18) (hd : d < 2 ^ 18) (hd0 : d.testBit 0 = false) (h8 : (bl d).length ≤ 8) (hD : 3 ≤ D) (hf : FO G l h d f) (hq : (arrs true l h d f)[q]? = some a) (hi : i < (bl d).length) (hP : P (some (.int (nI (bgN a (ddN d i))))) G) : am_CB X D 9 [.ref 3, .int (nI q), .int (nI i)] G P := by
  obtain ⟨D, rfl⟩ : ∃ D0, D = D0 + 1 := ⟨D - 1, by omega⟩
  have harr := arrs_arr hl hd hd0 (List.mem_of_getElem? hq)
  have hob : ∃ fs, am_ob G 3 0 = some fs := by obtain ⟨pr, df, sf, ha, _⟩ := hf; exact ⟨_, ha.1⟩
  obtain ⟨fs, hob⟩ := hob
  have hpk := pk_hi harr
  have hpk2 : pkA d a < 2 ^ 40 := Nat.lt_of_lt_of_le hpk (Nat.pow_le_pow_right (by omega) (by omega))
  refine B9 40 [] ?_
  simp only [J9_0, J9_1, J9_2, J9_5, J9_6, J9_7, J9_8, J9_9, J9_10, J9_12, J9_13, am_gg_c, am_gf_c, am_pf_c, am_af_c, am_sf_c, am_bf_c, am_qf_c, am_ap_c, am_bp_c, am_qp_c, am_lf_c, am_kt_s, am_kt_n, am_wst, am_wstop, am_ns_0, am_ns_1, Bool.not_true, Bool.not_false, Bool.true_and, Bool.false_and, Nat.reduceBEq, ↓reduceIte, am_k2_n, am_k2_i, am_k2_r, am_k2_u, am_k2_f, am_k2_l, Nat.zero_le, true_and, and_true, true_or, or_true, am_cat_0, am_cat_i, am_cat_r, am_cat_l, am_cat_n, Nat.reduceLeDiff, Nat.reduceAdd, Option.isSome_some, List.getElem?_cons_zero, List.getElem?_cons_succ, am_fit_i, am_fit_r, am_fit_a, hob]
  refine sp_fpacked (by omega) hf hq ?_
  simp only [J9_0, J9_1, J9_2, J9_5, J9_6, J9_7, J9_8, J9_9, J9_10, J9_12, J9_13, am_gg_c, am_gf_c, am_pf_c, am_af_c, am_sf_c, am_bf_c, am_qf_c, am_ap_c, am_bp_c, am_qp_c, am_lf_c, am_kt_s, am_kt_n, am_wst, am_wstop, am_ns_0, am_ns_1, Bool.not_true, Bool.not_false, Bool.true_and, Bool.false_and, Nat.reduceBEq, ↓reduceIte, am_k2_n, am_k2_i, am_k2_r, am_k2_u, am_k2_f, am_k2_l, Nat.zero_le, true_and, and_true, true_or, or_true, am_cat_0, am_cat_i, am_cat_r, am_cat_l, am_cat_n, Nat.reduceLeDiff, Nat.reduceAdd, Option.isSome_some, List.getElem?_cons_zero, List.getElem?_cons_succ, am_fit_i, am_fit_r, am_fit_a]
  rw [show (5 : Int32) = nI 5 by rfl, pk_mul, lN_ushr (by omega) (by omega), lN_i, show (31 : Int32) = nI 31 by rfl, bi_and, show (31 : Nat) = 2 ^ 5 - 1 by rfl, Nat.and_two_pow_sub_one_eq_mod]
  have := pk_start harr hi
  rw [show (2 : Nat) ^ 5 = 32 by rfl, this]
  exact hP
theorem lp_startOf {w : Nat} (hl : l ≤ 18) (hd : d < 2 ^ 18) (hd0 : d.testBit 0 = false) (h8 : (bl d).length ≤ 8) (hD : 3 ≤ D) (hf : FO G l h d f) (hq : (arrs true l h d f)[q]? = some a) (hw : d.testBit w = true) (hP : P (some (.int (nI (bgN a w)))) G) : ∀ (k i : Nat), i + k = ixN d w → am_WP X D 10 2 [some (.ref 3), some (.int (nI q)), some (.int (nI w)), some (.int (nI i))] [] G 0 0 P := by
  obtain ⟨pr, df, sf, ha, _, _, hne⟩ := id hf
  obtain ⟨hpr, hdf⟩ := hne (List.ne_nil_of_mem (List.mem_of_getElem? hq))
  subst hpr
  have h1 := ha.1
  have h4 := ha.2.2.1
  have hw18 : w < 18 := by
    rcases Nat.lt_or_ge w 18 with z | z
    · exact z
    · rw [bt_hi hd z] at hw; cases hw
  have hix := ix_lt hw18 hw
  intro k
  induction k with
  | zero =>
    intro i hi
    refine am_wps 40 [36] ?_
    simp only [J10_0, J10_1, J10_2, J10_3, J10_4, J10_7, J10_10, J10_11, J10_13, J10_16, J10_17, J10_20, J10_21, J10_22, J10_23, J10_26, J10_27, J10_28, J10_29, J10_32, J10_33, J10_36, J10_39, J10_41, am_gg_c, am_gf_c, am_pf_c, am_af_c, am_sf_c, am_bf_c, am_qf_c, am_ap_c, am_bp_c, am_qp_c, am_lf_c, am_kt_s, am_kt_n, am_wst, am_wstop, am_ns_0, am_ns_1, Bool.not_true, Bool.not_false, Bool.true_and, Bool.false_and, Nat.reduceBEq, ↓reduceIte, am_k2_n, am_k2_i, am_k2_r, am_k2_u, am_k2_f, am_k2_l, Nat.zero_le, true_and, and_true, true_or, or_true, am_cat_0, am_cat_i, am_cat_r, am_cat_l, am_cat_n, Nat.reduceLeDiff, Nat.reduceAdd, Option.isSome_some, List.getElem?_cons_zero, List.getElem?_cons_succ, am_fit_i, am_fit_r, am_fit_a, h1, h4]
    rw [if_pos (by rw [nI_ltI (by omega) (by omega)]; omega), if_pos (by rw [show (8 : Int32) = nI 8 by rfl, nI_ltI (by omega) (by omega)]; omega)]
    refine ⟨vp_in_n (by omega) (by omega), ?_⟩
    rw [nI_clamp (by omega), hdf i (by omega), show i = ixN d w by omega, dd_ix hw18 hw, if_pos rfl]
    refine sp_startAt hl hd hd0 h8 hD hf hq hix ?_
    rw [dd_ix hw18 hw]
    simp only [J10_0, J10_1, J10_2, J10_3, J10_4, J10_7, J10_10, J10_11, J10_13, J10_16, J10_17, J10_20, J10_21, J10_22, J10_23, J10_26, J10_27, J10_28, J10_29, J10_32, J10_33, J10_36, J10_39, J10_41, am_gg_c, am_gf_c, am_pf_c, am_af_c, am_sf_c, am_bf_c, am_qf_c, am_ap_c, am_bp_c, am_qp_c, am_lf_c, am_kt_s, am_kt_n, am_wst, am_wstop, am_ns_0, am_ns_1, Bool.not_true, Bool.not_false, Bool.true_and, Bool.false_and, Nat.reduceBEq, ↓reduceIte, am_k2_n, am_k2_i, am_k2_r, am_k2_u, am_k2_f, am_k2_l, Nat.zero_le, true_and, and_true, true_or, or_true, am_cat_0, am_cat_i, am_cat_r, am_cat_l, am_cat_n, Nat.reduceLeDiff, Nat.reduceAdd, Option.isSome_some, List.getElem?_cons_zero, List.getElem?_cons_succ, am_fit_i, am_fit_r, am_fit_a]
    exact hP
  | succ k ih =>
    intro i hi
    refine am_wps 40 [36] ?_
    simp only [J10_0, J10_1, J10_2, J10_3, J10_4, J10_7, J10_10, J10_11, J10_13, J10_16, J10_17, J10_20, J10_21, J10_22, J10_23, J10_26, J10_27, J10_28, J10_29, J10_32, J10_33, J10_36, J10_39, J10_41, am_gg_c, am_gf_c, am_pf_c, am_af_c, am_sf_c, am_bf_c, am_qf_c, am_ap_c, am_bp_c, am_qp_c, am_lf_c, am_kt_s, am_kt_n, am_wst, am_wstop, am_ns_0, am_ns_1, Bool.not_true, Bool.not_false, Bool.true_and, Bool.false_and, Nat.reduceBEq, ↓reduceIte, am_k2_n, am_k2_i, am_k2_r, am_k2_u, am_k2_f, am_k2_l, Nat.zero_le, true_and, and_true, true_or, or_true, am_cat_0, am_cat_i, am_cat_r, am_cat_l, am_cat_n, Nat.reduceLeDiff, Nat.reduceAdd, Option.isSome_some, List.getElem?_cons_zero, List.getElem?_cons_succ, am_fit_i, am_fit_r, am_fit_a, h1, h4]
    rw [if_pos (by rw [nI_ltI (by omega) (by omega)]; omega), if_pos (by rw [show (8 : Int32) = nI 8 by rfl, nI_ltI (by omega) (by omega)]; omega)]
    refine ⟨vp_in_n (by omega) (by omega), ?_⟩
    have hdd := (dd_mem (d := d) (i := i) (by omega)).1
    rw [nI_clamp (by omega), hdf i (by omega), if_neg (fun e => by
      have e := bi_inj (by omega) (by omega) e
      have := ix_dd (d := d) (i := i) (by omega)
      rw [e] at this
      omega)]
    refine am_goto I10_36 ?_
    rw [nI_1]
    exact ih (i + 1) (by omega)
theorem sp_startOf {w : Nat} (hl : l ≤ 18) (hd : d < 2 ^ 18) (hd0 : d.testBit 0 = false) (h8 : (bl d).length ≤ 8) (hD : 4 ≤ D) (hf : FO G l h d f) (hq : (arrs true l h d f)[q]? = some a) (hw : d.testBit w = true) (hP : P (some (.int (nI (bgN a w)))) G) : am_CB X D 10 [.ref 3, .int (nI q), .int (nI w)] G P := by
  obtain ⟨D, rfl⟩ : ∃ D0, D = D0 + 1 := ⟨D - 1, by omega⟩
  refine B10 40 [2] ?_
  simp only [J10_0, J10_1, J10_2, J10_3, J10_4, J10_7, J10_10, J10_11, J10_13, J10_16, J10_17, J10_20, J10_21, J10_22, J10_23, J10_26, J10_27, J10_28, J10_29, J10_32, J10_33, J10_36, J10_39, J10_41, am_gg_c, am_gf_c, am_pf_c, am_af_c, am_sf_c, am_bf_c, am_qf_c, am_ap_c, am_bp_c, am_qp_c, am_lf_c, am_kt_s, am_kt_n, am_wst, am_wstop, am_ns_0, am_ns_1, Bool.not_true, Bool.not_false, Bool.true_and, Bool.false_and, Nat.reduceBEq, ↓reduceIte, am_k2_n, am_k2_i, am_k2_r, am_k2_u, am_k2_f, am_k2_l, Nat.zero_le, true_and, and_true, true_or, or_true, am_cat_0, am_cat_i, am_cat_r, am_cat_l, am_cat_n, Nat.reduceLeDiff, Nat.reduceAdd, Option.isSome_some, List.getElem?_cons_zero, List.getElem?_cons_succ, am_fit_i, am_fit_r, am_fit_a]
  exact lp_startOf hl hd hd0 h8 (by omega) hf hq hw hP (ixN d w) 0 (by omega)
theorem lp_valueAt {x : Nat} (hl : l ≤ 18) (hd : d < 2 ^ 18) (hd0 : d.testBit 0 = false) (h8 : (bl d).length ≤ 8) (hx : x < 18) (hD : 3 ≤ D) (hf : FO G l h d f) (hq : (arrs true l h d f)[q]? = some a) (hP : P (some (.int (nI (rwN a x)))) G) : ∀ (k i : Nat), i + k = (bl d).length → (∀ j, j < i → ¬ cvP x (bgN a (ddN d j)) (ddN d j)) → am_WP X D 11 2 [some (.ref 3), some (.int (nI q)), some (.int (nI x)), some (.int (nI i)), none] [] G 0 0 P := by
  obtain ⟨pr, df, sf, ha, _, _, hne⟩ := id hf
  have ham := List.mem_of_getElem? hq
  obtain ⟨hpr, hdf⟩ := hne (List.ne_nil_of_mem ham)
  subst hpr
  have h1 := ha.1
  have h4 := ha.2.2.1
  have dis := arrs_dis hl hd0 ham
  intro k
  induction k with
  | zero =>
    intro i hi hn
    refine am_wps 60 [53] ?_
    simp only [J11_0, J11_1, J11_2, J11_3, J11_4, J11_7, J11_10, J11_11, J11_13, J11_16, J11_17, J11_18, J11_19, J11_22, J11_24, J11_25, J11_27, J11_30, J11_31, J11_33, J11_34, J11_37, J11_38, J11_39, J11_40, J11_43, J11_44, J11_47, J11_48, J11_49, J11_50, J11_53, J11_56, J11_57, am_gg_c, am_gf_c, am_pf_c, am_af_c, am_sf_c, am_bf_c, am_qf_c, am_ap_c, am_bp_c, am_qp_c, am_lf_c, am_kt_s, am_kt_n, am_wst, am_wstop, am_ns_0, am_ns_1, Bool.not_true, Bool.not_false, Bool.true_and, Bool.false_and, Nat.reduceBEq, ↓reduceIte, am_k2_n, am_k2_i, am_k2_r, am_k2_u, am_k2_f, am_k2_l, Nat.zero_le, true_and, and_true, true_or, or_true, am_cat_0, am_cat_i, am_cat_r, am_cat_l, am_cat_n, Nat.reduceLeDiff, Nat.reduceAdd, Option.isSome_some, List.getElem?_cons_zero, List.getElem?_cons_succ, am_fit_i, am_fit_r, am_fit_a, h1, h4]
    rw [if_neg (by rw [nI_ltI (by omega) (by omega)]; omega)]
    have : rwN a x = 0 := by
      apply rwN_out
      intro p w hp hc
      obtain ⟨r1, r2, _, r4, r5, r6⟩ := arrs_wit hl hd0 ham hp
      have hw18 : w < 18 := by omega
      have hix := ix_lt hw18 r4
      refine hn (ixN d w) (by omega) ?_
      rw [dd_ix hw18 r4, bg_mem hl hd hd0 ham hp]
      exact hc
    rw [this] at hP
    exact hP
  | succ k ih =>
    intro i hi hn
    have hii : i < (bl d).length := by omega
    obtain ⟨m1, m2⟩ := dd_mem hii
    have hm := bgN_mem hd ham m2
    obtain ⟨_, _, _, _, r5, r6⟩ := arrs_wit hl hd0 ham hm
    refine am_wps 60 [53] ?_
    simp only [J11_0, J11_1, J11_2, J11_3, J11_4, J11_7, J11_10, J11_11, J11_13, J11_16, J11_17, J11_18, J11_19, J11_22, J11_24, J11_25, J11_27, J11_30, J11_31, J11_33, J11_34, J11_37, J11_38, J11_39, J11_40, J11_43, J11_44, J11_47, J11_48, J11_49, J11_50, J11_53, J11_56, J11_57, am_gg_c, am_gf_c, am_pf_c, am_af_c, am_sf_c, am_bf_c, am_qf_c, am_ap_c, am_bp_c, am_qp_c, am_lf_c, am_kt_s, am_kt_n, am_wst, am_wstop, am_ns_0, am_ns_1, Bool.not_true, Bool.not_false, Bool.true_and, Bool.false_and, Nat.reduceBEq, ↓reduceIte, am_k2_n, am_k2_i, am_k2_r, am_k2_u, am_k2_f, am_k2_l, Nat.zero_le, true_and, and_true, true_or, or_true, am_cat_0, am_cat_i, am_cat_r, am_cat_l, am_cat_n, Nat.reduceLeDiff, Nat.reduceAdd, Option.isSome_some, List.getElem?_cons_zero, List.getElem?_cons_succ, am_fit_i, am_fit_r, am_fit_a, h1, h4]
    rw [if_pos (by rw [nI_ltI (by omega) (by omega)]; omega), if_pos (by rw [show (8 : Int32) = nI 8 by rfl, nI_ltI (by omega) (by omega)]; omega)]
    refine sp_startAt hl hd hd0 h8 hD hf hq hii ?_
    simp only [J11_0, J11_1, J11_2, J11_3, J11_4, J11_7, J11_10, J11_11, J11_13, J11_16, J11_17, J11_18, J11_19, J11_22, J11_24, J11_25, J11_27, J11_30, J11_31, J11_33, J11_34, J11_37, J11_38, J11_39, J11_40, J11_43, J11_44, J11_47, J11_48, J11_49, J11_50, J11_53, J11_56, J11_57, am_gg_c, am_gf_c, am_pf_c, am_af_c, am_sf_c, am_bf_c, am_qf_c, am_ap_c, am_bp_c, am_qp_c, am_lf_c, am_kt_s, am_kt_n, am_wst, am_wstop, am_ns_0, am_ns_1, Bool.not_true, Bool.not_false, Bool.true_and, Bool.false_and, Nat.reduceBEq, ↓reduceIte, am_k2_n, am_k2_i, am_k2_r, am_k2_u, am_k2_f, am_k2_l, Nat.zero_le, true_and, and_true, true_or, or_true, am_cat_0, am_cat_i, am_cat_r, am_cat_l, am_cat_n, Nat.reduceLeDiff, Nat.reduceAdd, Option.isSome_some, List.getElem?_cons_zero, List.getElem?_cons_succ, am_fit_i, am_fit_r, am_fit_a, h1, h4]
    rw [nI_clamp (by omega), hdf i hii, nI_add]
    have hin : vp_in (nI i) 8 := vp_in_n (by omega) (by omega)
    by_cases c1 : x = bgN a (ddN d i)
    · rw [if_pos (by rw [← c1])]
      refine ⟨hin, ?_⟩
      have : rwN a x = ddN d i := rwN_in dis hm (Or.inl c1)
      rw [this] at hP
      exact hP
    · rw [if_neg (fun e => c1 (bi_inj (by omega) (by omega) e))]
      refine ⟨hin, ?_⟩
      by_cases c2 : x = bgN a (ddN d i) + ddN d i
      · rw [if_pos (by rw [← c2])]
        refine ⟨hin, ?_⟩
        have : rwN a x = ddN d i := rwN_in dis hm (Or.inr c2)
        rw [this] at hP
        exact hP
      · rw [if_neg (fun e => c2 (bi_inj (by omega) (by omega) e))]
        refine am_goto I11_53 ?_
        rw [nI_1]
        refine am_WP.fg (ih (i + 1) (by omega) (fun j hj => ?_)) (by simp [am_le])
        by_cases e : j = i
        · subst e
          intro hc
          rcases hc with z | z
          · exact c1 z
          · exact c2 z
        · exact hn j (by omega)
theorem sp_valueAt {x : Nat} (hl : l ≤ 18) (hd : d < 2 ^ 18) (hd0 : d.testBit 0 = false) (h8 : (bl d).length ≤ 8) (hx : x < 18) (hD : 4 ≤ D) (hf : FO G l h d f) (hq : (arrs true l h d f)[q]? = some a) (hP : P (some (.int (nI (rwN a x)))) G) : am_CB X D 11 [.ref 3, .int (nI q), .int (nI x)] G P := by
  obtain ⟨D, rfl⟩ : ∃ D0, D = D0 + 1 := ⟨D - 1, by omega⟩
  refine B11 40 [2] ?_
  simp only [J11_0, J11_1, J11_2, J11_3, J11_4, J11_7, J11_10, J11_11, J11_13, J11_16, J11_17, J11_18, J11_19, J11_22, J11_24, J11_25, J11_27, J11_30, J11_31, J11_33, J11_34, J11_37, J11_38, J11_39, J11_40, J11_43, J11_44, J11_47, J11_48, J11_49, J11_50, J11_53, J11_56, J11_57, am_gg_c, am_gf_c, am_pf_c, am_af_c, am_sf_c, am_bf_c, am_qf_c, am_ap_c, am_bp_c, am_qp_c, am_lf_c, am_kt_s, am_kt_n, am_wst, am_wstop, am_ns_0, am_ns_1, Bool.not_true, Bool.not_false, Bool.true_and, Bool.false_and, Nat.reduceBEq, ↓reduceIte, am_k2_n, am_k2_i, am_k2_r, am_k2_u, am_k2_f, am_k2_l, Nat.zero_le, true_and, and_true, true_or, or_true, am_cat_0, am_cat_i, am_cat_r, am_cat_l, am_cat_n, Nat.reduceLeDiff, Nat.reduceAdd, Option.isSome_some, List.getElem?_cons_zero, List.getElem?_cons_succ, am_fit_i, am_fit_r, am_fit_a]
  exact lp_valueAt hl hd hd0 h8 hx (by omega) hf hq hP (bl d).length 0 (by omega) (fun j hj => by omega)
def daN (x : Nat) : List (List (Nat × Nat)) → Nat → Nat
  | [], c => c
  | a :: A, c => daN x A (c ||| 2 ^ rwN a x)
theorem lp_diffAt {x : Nat} (hl : l ≤ 18) (hd : d < 2 ^ 18) (hd0 : d.testBit 0 = false) (h8 : (bl d).length ≤ 8) (hx : x < 18) (hD : 4 ≤ D) (hf : FO G l h d f) {V : Nat} (hP : P (some (.int (nI V &&& (-2)))) G) : ∀ (R : List (List (Nat × Nat))) (k c : Nat), (arrs true l h d f).drop k = R → k ≤ (arrs true l h d f).length → V = daN x R c → am_WP X D 12 4 [some (.ref 3), some (.int (nI x)), some (.int (nI c)), some (.int (nI k))] [] G 0 0 P := by
  obtain ⟨pr, df, sf, ha, _⟩ := id hf
  have h1 := ha.1
  have hlen := ha.2.2.2.2.1
  rw [List.length_map] at h1 hlen
  intro R
  induction R with
  | nil =>
    intro k c hk hkl hV
    have : (arrs true l h d f).length = k := by
      have := congrArg List.length hk
      simp only [List.length_drop, List.length_nil] at this
      omega
    refine am_wps 40 [26] ?_
    simp only [J12_0, J12_1, J12_2, J12_3, J12_4, J12_5, J12_6, J12_9, J12_12, J12_13, J12_14, J12_15, J12_16, J12_17, J12_20, J12_21, J12_22, J12_23, J12_26, J12_29, J12_30, J12_32, J12_33, am_gg_c, am_gf_c, am_pf_c, am_af_c, am_sf_c, am_bf_c, am_qf_c, am_ap_c, am_bp_c, am_qp_c, am_lf_c, am_kt_s, am_kt_n, am_wst, am_wstop, am_ns_0, am_ns_1, Bool.not_true, Bool.not_false, Bool.true_and, Bool.false_and, Nat.reduceBEq, ↓reduceIte, am_k2_n, am_k2_i, am_k2_r, am_k2_u, am_k2_f, am_k2_l, Nat.zero_le, true_and, and_true, true_or, or_true, am_cat_0, am_cat_i, am_cat_r, am_cat_l, am_cat_n, Nat.reduceLeDiff, Nat.reduceAdd, Option.isSome_some, List.getElem?_cons_zero, List.getElem?_cons_succ, am_fit_i, am_fit_r, am_fit_a, h1]
    rw [if_neg (by rw [nI_ltI (by omega) (by omega)]; omega)]
    rw [hV] at hP
    exact hP
  | cons a R ih =>
    intro k c hk hkl hV
    have hkA : k < (arrs true l h d f).length := by
      have := congrArg List.length hk
      simp only [List.length_drop, List.length_cons] at this
      omega
    have hka : (arrs true l h d f)[k]? = some a := by
      have := congrArg (fun t => t[0]?) hk
      simpa using this
    have hlt := rwN_lt (q := x) (List.mem_of_getElem? hka)
    refine am_wps 40 [26] ?_
    simp only [J12_0, J12_1, J12_2, J12_3, J12_4, J12_5, J12_6, J12_9, J12_12, J12_13, J12_14, J12_15, J12_16, J12_17, J12_20, J12_21, J12_22, J12_23, J12_26, J12_29, J12_30, J12_32, J12_33, am_gg_c, am_gf_c, am_pf_c, am_af_c, am_sf_c, am_bf_c, am_qf_c, am_ap_c, am_bp_c, am_qp_c, am_lf_c, am_kt_s, am_kt_n, am_wst, am_wstop, am_ns_0, am_ns_1, Bool.not_true, Bool.not_false, Bool.true_and, Bool.false_and, Nat.reduceBEq, ↓reduceIte, am_k2_n, am_k2_i, am_k2_r, am_k2_u, am_k2_f, am_k2_l, Nat.zero_le, true_and, and_true, true_or, or_true, am_cat_0, am_cat_i, am_cat_r, am_cat_l, am_cat_n, Nat.reduceLeDiff, Nat.reduceAdd, Option.isSome_some, List.getElem?_cons_zero, List.getElem?_cons_succ, am_fit_i, am_fit_r, am_fit_a, h1]
    rw [if_pos (by rw [nI_ltI (by omega) (by omega)]; exact hkA)]
    refine sp_valueAt hl hd hd0 h8 hx hD hf hka ?_
    simp only [J12_0, J12_1, J12_2, J12_3, J12_4, J12_5, J12_6, J12_9, J12_12, J12_13, J12_14, J12_15, J12_16, J12_17, J12_20, J12_21, J12_22, J12_23, J12_26, J12_29, J12_30, J12_32, J12_33, am_gg_c, am_gf_c, am_pf_c, am_af_c, am_sf_c, am_bf_c, am_qf_c, am_ap_c, am_bp_c, am_qp_c, am_lf_c, am_kt_s, am_kt_n, am_wst, am_wstop, am_ns_0, am_ns_1, Bool.not_true, Bool.not_false, Bool.true_and, Bool.false_and, Nat.reduceBEq, ↓reduceIte, am_k2_n, am_k2_i, am_k2_r, am_k2_u, am_k2_f, am_k2_l, Nat.zero_le, true_and, and_true, true_or, or_true, am_cat_0, am_cat_i, am_cat_r, am_cat_l, am_cat_n, Nat.reduceLeDiff, Nat.reduceAdd, Option.isSome_some, List.getElem?_cons_zero, List.getElem?_cons_succ, am_fit_i, am_fit_r, am_fit_a]
    refine am_goto I12_26 ?_
    rw [nI_1, show (1 : Int32) = nI 1 by rfl, bi_shl (by omega), bi_or, Nat.one_mul]
    exact ih (k + 1) _ (by rw [← List.drop_drop, hk]; rfl) (by omega) hV
theorem sp_diffAt {x : Nat} (hl : l ≤ 18) (hd : d < 2 ^ 18) (hd0 : d.testBit 0 = false) (h8 : (bl d).length ≤ 8) (hx : x < 18) (hD : 5 ≤ D) (hf : FO G l h d f) (hP : P (some (.int (nI (daN x (arrs true l h d f) 0) &&& (-2)))) G) : am_CB X D 12 [.ref 3, .int (nI x)] G P := by
  obtain ⟨D, rfl⟩ : ∃ D0, D = D0 + 1 := ⟨D - 1, by omega⟩
  refine B12 40 [4] ?_
  simp only [J12_0, J12_1, J12_2, J12_3, J12_4, J12_5, J12_6, J12_9, J12_12, J12_13, J12_14, J12_15, J12_16, J12_17, J12_20, J12_21, J12_22, J12_23, J12_26, J12_29, J12_30, J12_32, J12_33, am_gg_c, am_gf_c, am_pf_c, am_af_c, am_sf_c, am_bf_c, am_qf_c, am_ap_c, am_bp_c, am_qp_c, am_lf_c, am_kt_s, am_kt_n, am_wst, am_wstop, am_ns_0, am_ns_1, Bool.not_true, Bool.not_false, Bool.true_and, Bool.false_and, Nat.reduceBEq, ↓reduceIte, am_k2_n, am_k2_i, am_k2_r, am_k2_u, am_k2_f, am_k2_l, Nat.zero_le, true_and, and_true, true_or, or_true, am_cat_0, am_cat_i, am_cat_r, am_cat_l, am_cat_n, Nat.reduceLeDiff, Nat.reduceAdd, Option.isSome_some, List.getElem?_cons_zero, List.getElem?_cons_succ, am_fit_i, am_fit_r, am_fit_a]
  exact lp_diffAt hl hd hd0 h8 hx (by omega) hf hP _ 0 0 (by rw [List.drop_zero]) (by omega) rfl
end FOS
