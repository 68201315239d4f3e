/-! the reference: its small methods (its object is cell 23, its arrays 24 to 37) -/
abbrev moL (pm len T m ip due dep vp : Int32) : List Value := [.ref 24, .ref 25, .ref 26, .ref 27, .int pm, .int len, .int T, .int m, .int ip, .int due, .int dep, .ref 28, .ref 29, .ref 30, .ref 31, .ref 32, .ref 33, .int vp, .ref 34, .ref 35, .ref 36, .ref 37]
def MA (G : am_H) (l h d : Nat) (f : Nat → Nat) : Prop :=
  (∃ af, am_ia G 24 0 = some (21, af) ∧ af 0 = nI l ∧ af 1 = nI h ∧ af 2 = nI d ∧ ∀ q, q < 18 → af (3 + q) = nI (f q)) ∧ 1 ≤ l ∧ l ≤ 18 ∧ h < 2 ^ l ∧ d < 2 ^ 18 ∧ d.testBit 0 = false ∧ ∀ j, f j ≤ 17
theorem MA.fr {G G' : am_H} {ks : List Nat} {l h d : Nat} {f : Nat → Nat} (hm : MA G l h d f) (hF : Fr ks G G') (h1 : ¬ 24 ∈ ks) : MA G' l h d f := by
  obtain ⟨⟨af, a, b⟩, c⟩ := hm
  exact ⟨⟨af, by rw [hF.ia h1]; exact a, b⟩, c⟩
section ML
variable {X : Nat × (Nat → Int32)} {D : Nat} {G : am_H} {P : Option Value → am_H → Prop} {pm len T m ip due dep vp : Int32} {l h d : Nat} {f : Nat → Nat}
theorem sp_in {a b c : Int32} (hD : 1 ≤ D) (hP : P (some (.int (if b.toInt ≤ a.toInt ∧ a.toInt ≤ c.toInt then 1 else 0))) G) : am_CB X D 93 [.int a, .int b, .int c] G P := by
  obtain ⟨D, rfl⟩ : ∃ D0, D = D0 + 1 := ⟨D - 1, by omega⟩
  refine B93 40 [] ?_
  simp only [J93_0, J93_1, J93_2, J93_5, J93_6, J93_7, J93_10, J93_11, J93_14, J93_15, am_gg_c, am_gf_c, am_pf_c, am_af_c, am_sf_c, am_bf_c, am_qf_c, am_ap_c, am_bp_c, am_qp_c, am_lf_c, am_kt_s, am_kt_n, am_wst, am_wstop, am_ns_0, am_ns_1, Bool.not_true, Bool.not_false, Bool.true_and, Bool.false_and, Nat.reduceBEq, ↓reduceIte, am_k2_n, am_k2_i, am_k2_r, am_k2_u, am_k2_f, am_k2_l, Nat.zero_le, true_and, and_true, true_or, or_true, am_cat_0, am_cat_i, am_cat_r, am_cat_l, am_cat_n, Nat.reduceLeDiff, Nat.reduceAdd, Option.isSome_some, List.getElem?_cons_zero, List.getElem?_cons_succ, am_fit_i, am_fit_r, am_fit_a]
  split
  · next q =>
    rw [bi_lt] at q
    rw [if_neg (by omega)] at hP
    exact hP
  · next q =>
    rw [bi_lt] at q
    split
    · next q2 =>
      rw [bi_lt] at q2
      rw [if_neg (by omega)] at hP
      exact hP
    · next q2 =>
      rw [bi_lt] at q2
      rw [if_pos (by omega)] at hP
      exact hP
theorem sp_has {a k : Nat} (hD : 1 ≤ D) (ha : a < 2 ^ 31) (hk : k < 32) (hP : P (some (.int (if a.testBit k = true then 1 else 0))) G) : am_CB X D 94 [.int (nI a), .int (nI k)] G P := by
  obtain ⟨D, rfl⟩ : ∃ D0, D = D0 + 1 := ⟨D - 1, by omega⟩
  refine B94 40 [] ?_
  simp only [J94_0, J94_1, J94_2, J94_3, J94_4, J94_5, J94_6, J94_9, J94_10, J94_13, J94_14, am_gg_c, am_gf_c, am_pf_c, am_af_c, am_sf_c, am_bf_c, am_qf_c, am_ap_c, am_bp_c, am_qp_c, am_lf_c, am_kt_s, am_kt_n, am_wst, am_wstop, am_ns_0, am_ns_1, Bool.not_true, Bool.not_false, Bool.true_and, Bool.false_and, Nat.reduceBEq, ↓reduceIte, am_k2_n, am_k2_i, am_k2_r, am_k2_u, am_k2_f, am_k2_l, Nat.zero_le, true_and, and_true, true_or, or_true, am_cat_0, am_cat_i, am_cat_r, am_cat_l, am_cat_n, Nat.reduceLeDiff, Nat.reduceAdd, Option.isSome_some, List.getElem?_cons_zero, List.getElem?_cons_succ, am_fit_i, am_fit_r, am_fit_a]
  rw [bi_shr ha hk, bi_bit]
  cases c : a.testBit k with
  | true => rw [c] at hP; simpa using hP
  | false => rw [c] at hP; simpa using hP
theorem lp_sizeOf {a : Nat} (ha : a < 2 ^ 31) (hP : P (some (.int (nI (bl a).length))) G) : ∀ (n i : Nat) (x e : Int32), i + n = 18 → e = nI i → x = nI (blb a i).length → am_WP X D 95 4 [some (.int (nI a)), some (.int x), some (.int e)] [] G 0 0 P
  | 0, i, x, e, hi, he, hx => by
    refine am_wps 40 [21] ?_
    simp only [J95_0, J95_1, J95_2, J95_3, J95_4, J95_5, J95_7, J95_10, J95_11, J95_12, J95_13, J95_14, J95_15, J95_16, J95_17, J95_18, J95_21, J95_24, J95_25, am_gg_c, am_gf_c, am_pf_c, am_af_c, am_sf_c, am_bf_c, am_qf_c, am_ap_c, am_bp_c, am_qp_c, am_lf_c, am_kt_s, am_kt_n, am_wst, am_wstop, am_ns_0, am_ns_1, Bool.not_true, Bool.not_false, Bool.true_and, Bool.false_and, Nat.reduceBEq, ↓reduceIte, am_k2_n, am_k2_i, am_k2_r, am_k2_u, am_k2_f, am_k2_l, Nat.zero_le, true_and, and_true, true_or, or_true, am_cat_0, am_cat_i, am_cat_r, am_cat_l, am_cat_n, Nat.reduceLeDiff, Nat.reduceAdd, Option.isSome_some, List.getElem?_cons_zero, List.getElem?_cons_succ, am_fit_i, am_fit_r, am_fit_a]
    rw [if_neg (by rw [he, show i = 18 by omega]; decide), hx, show i = 18 by omega, blb_18]
    exact hP
  | n + 1, i, x, e, hi, he, hx => by
    subst he
    refine am_wps 40 [21] ?_
    simp only [J95_0, J95_1, J95_2, J95_3, J95_4, J95_5, J95_7, J95_10, J95_11, J95_12, J95_13, J95_14, J95_15, J95_16, J95_17, J95_18, J95_21, J95_24, J95_25, am_gg_c, am_gf_c, am_pf_c, am_af_c, am_sf_c, am_bf_c, am_qf_c, am_ap_c, am_bp_c, am_qp_c, am_lf_c, am_kt_s, am_kt_n, am_wst, am_wstop, am_ns_0, am_ns_1, Bool.not_true, Bool.not_false, Bool.true_and, Bool.false_and, Nat.reduceBEq, ↓reduceIte, am_k2_n, am_k2_i, am_k2_r, am_k2_u, am_k2_f, am_k2_l, Nat.zero_le, true_and, and_true, true_or, or_true, am_cat_0, am_cat_i, am_cat_r, am_cat_l, am_cat_n, Nat.reduceLeDiff, Nat.reduceAdd, Option.isSome_some, List.getElem?_cons_zero, List.getElem?_cons_succ, am_fit_i, am_fit_r, am_fit_a]
    rw [if_pos (by rw [show (18 : Int32) = nI 18 by rfl, nI_ltI (by omega) (by omega)]; omega), bi_shr ha (by omega), bi_bit]
    refine am_goto I95_21 (lp_sizeOf ha hP n (i + 1) _ _ (by omega) (by rw [nI_1]) ?_)
    rw [hx, blb_s]
    cases c : a.testBit i with
    | true => simp only [if_true, List.length_append, List.length_cons, List.length_nil]; rw [nI_1]
    | false => simp
theorem sp_sizeOf {a : Nat} (hD : 1 ≤ D) (ha : a < 2 ^ 31) (hP : P (some (.int (nI (bl a).length))) G) : am_CB X D 95 [.int (nI a)] G P := by
  obtain ⟨D, rfl⟩ : ∃ D0, D = D0 + 1 := ⟨D - 1, by omega⟩
  refine B95 40 [4] ?_
  simp only [J95_0, J95_1, J95_2, J95_3, J95_4, J95_5, J95_7, J95_10, J95_11, J95_12, J95_13, J95_14, J95_15, J95_16, J95_17, J95_18, J95_21, J95_24, J95_25, am_gg_c, am_gf_c, am_pf_c, am_af_c, am_sf_c, am_bf_c, am_qf_c, am_ap_c, am_bp_c, am_qp_c, am_lf_c, am_kt_s, am_kt_n, am_wst, am_wstop, am_ns_0, am_ns_1, Bool.not_true, Bool.not_false, Bool.true_and, Bool.false_and, Nat.reduceBEq, ↓reduceIte, am_k2_n, am_k2_i, am_k2_r, am_k2_u, am_k2_f, am_k2_l, Nat.zero_le, true_and, and_true, true_or, or_true, am_cat_0, am_cat_i, am_cat_r, am_cat_l, am_cat_n, Nat.reduceLeDiff, Nat.reduceAdd, Option.isSome_some, List.getElem?_cons_zero, List.getElem?_cons_succ, am_fit_i, am_fit_r, am_fit_a]
  exact lp_sizeOf ha hP 18 0 _ _ rfl nI_0.symm nI_0.symm
theorem vp_lit {n : Int32} {k N : Nat} (e : n = nI k) (h : k < N) (hN : N < 2 ^ 31) : vp_in n N := by rw [e]; exact vp_in_nI h hN
theorem sp_mPosition {x : Int32} (hD : 2 ≤ D) (h1 : am_ob G 23 5 = some (moL pm len T m ip due dep vp)) (hm : MA G l h d f) (hP : P (some (.int (if inN x l = true then 1 else 0))) G) : am_CB X D 97 [.ref 23, .int x] G P := by
  obtain ⟨D, rfl⟩ : ∃ D0, D = D0 + 1 := ⟨D - 1, by omega⟩
  obtain ⟨⟨af, a1, a2, a3, a4, a5⟩, hl1, hl, hh, hd, hd0, hf⟩ := hm
  refine B97 40 [] ?_
  simp only [J97_0, J97_1, J97_2, J97_3, J97_6, J97_7, J97_8, J97_9, J97_10, J97_13, am_gg_c, am_gf_c, am_pf_c, am_af_c, am_sf_c, am_bf_c, am_qf_c, am_ap_c, am_bp_c, am_qp_c, am_lf_c, am_kt_s, am_kt_n, am_wst, am_wstop, am_ns_0, am_ns_1, Bool.not_true, Bool.not_false, Bool.true_and, Bool.false_and, Nat.reduceBEq, ↓reduceIte, am_k2_n, am_k2_i, am_k2_r, am_k2_u, am_k2_f, am_k2_l, Nat.zero_le, true_and, and_true, true_or, or_true, am_cat_0, am_cat_i, am_cat_r, am_cat_l, am_cat_n, Nat.reduceLeDiff, Nat.reduceAdd, Option.isSome_some, List.getElem?_cons_zero, List.getElem?_cons_succ, am_fit_i, am_fit_r, am_fit_a, h1, a1]
  refine ⟨vp_lit (k := 0) rfl (by omega) (by omega), sp_in (by omega) ?_⟩
  simp only [J97_0, J97_1, J97_2, J97_3, J97_6, J97_7, J97_8, J97_9, J97_10, J97_13, am_gg_c, am_gf_c, am_pf_c, am_af_c, am_sf_c, am_bf_c, am_qf_c, am_ap_c, am_bp_c, am_qp_c, am_lf_c, am_kt_s, am_kt_n, am_wst, am_wstop, am_ns_0, am_ns_1, Bool.not_true, Bool.not_false, Bool.true_and, Bool.false_and, Nat.reduceBEq, ↓reduceIte, am_k2_n, am_k2_i, am_k2_r, am_k2_u, am_k2_f, am_k2_l, Nat.zero_le, true_and, and_true, true_or, or_true, am_cat_0, am_cat_i, am_cat_r, am_cat_l, am_cat_n, Nat.reduceLeDiff, Nat.reduceAdd, Option.isSome_some, List.getElem?_cons_zero, List.getElem?_cons_succ, am_fit_i, am_fit_r, am_fit_a]
  rw [show af (0 : Int32).toNatClampNeg = nI l from a2, show (1 : Int32) = nI 1 by rfl, pk_sub hl1, nI_toInt (by omega), show (0 : Int32).toInt = 0 by rfl]
  have e : (inN x l = true) ↔ (0 ≤ x.toInt ∧ x.toInt ≤ ((l - 1 : Nat) : Int)) := by unfold inN; rw [decide_eq_true_eq]; omega
  by_cases c : inN x l = true
  · rw [if_pos c] at hP
    rw [if_pos (e.mp c)]
    exact ⟨Or.inr rfl, hP⟩
  · rw [if_neg c] at hP
    rw [if_neg (fun z => c (e.mpr z))]
    exact ⟨Or.inl rfl, hP⟩
/-- a difference of the problem -/
def ownB (d : Nat) (x : Int32) : Bool := decide (1 ≤ x.toInt ∧ x.toInt ≤ 17) && d.testBit x.toInt.toNat
theorem ownB_n {d k : Nat} (hd : d < 2 ^ 18) (hd0 : d.testBit 0 = false) (hk : k < 2 ^ 31) : ownB d (nI k) = d.testBit k := by
  unfold ownB
  rw [nI_toInt hk]
  by_cases c : 1 ≤ k ∧ k ≤ 17
  · rw [decide_eq_true (by omega)]; simp
  · rw [decide_eq_false (by omega), Bool.false_and]
    rcases Nat.eq_zero_or_pos k with z | z
    · rw [z, hd0]
    · rw [bt_hi hd (show 18 ≤ k by omega)]
theorem ownB_ctn {d : Nat} {x : Int32} (hd : d < 2 ^ 18) (hd0 : d.testBit 0 = false) : ownB d x = ctn d x := by
  unfold ownB ctn
  by_cases c : 1 ≤ x.toInt ∧ x.toInt ≤ 17
  · rw [decide_eq_true c, decide_eq_true (by omega)]
  · rw [decide_eq_false c, Bool.false_and]
    by_cases c2 : 0 ≤ x.toInt ∧ x.toInt ≤ 30
    · rcases Nat.eq_zero_or_pos x.toInt.toNat with z | z
      · rw [z, hd0, Bool.and_false]
      · rw [bt_hi hd (show 18 ≤ x.toInt.toNat by omega), Bool.and_false]
    · rw [decide_eq_false c2, Bool.false_and]
theorem sp_isOwn {x : Int32} (hD : 2 ≤ D) (h1 : am_ob G 23 5 = some (moL pm len T m ip due dep vp)) (hm : MA G l h d f) (hP : P (some (.int (if ownB d x = true then 1 else 0))) G) : am_CB X D 98 [.ref 23, .int x] G P := by
  obtain ⟨D, rfl⟩ : ∃ D0, D = D0 + 1 := ⟨D - 1, by omega⟩
  obtain ⟨⟨af, a1, a2, a3, a4, a5⟩, hl1, hl, hh, hd, hd0, hf⟩ := hm
  refine B98 40 [] ?_
  simp only [J98_0, J98_1, J98_2, J98_4, J98_7, J98_10, J98_11, J98_14, J98_15, J98_16, J98_17, J98_20, J98_23, J98_24, J98_27, J98_28, am_gg_c, am_gf_c, am_pf_c, am_af_c, am_sf_c, am_bf_c, am_qf_c, am_ap_c, am_bp_c, am_qp_c, am_lf_c, am_kt_s, am_kt_n, am_wst, am_wstop, am_ns_0, am_ns_1, Bool.not_true, Bool.not_false, Bool.true_and, Bool.false_and, Nat.reduceBEq, ↓reduceIte, am_k2_n, am_k2_i, am_k2_r, am_k2_u, am_k2_f, am_k2_l, Nat.zero_le, true_and, and_true, true_or, or_true, am_cat_0, am_cat_i, am_cat_r, am_cat_l, am_cat_n, Nat.reduceLeDiff, Nat.reduceAdd, Option.isSome_some, List.getElem?_cons_zero, List.getElem?_cons_succ, am_fit_i, am_fit_r, am_fit_a, h1]
  refine sp_in (by omega) ?_
  simp only [J98_0, J98_1, J98_2, J98_4, J98_7, J98_10, J98_11, J98_14, J98_15, J98_16, J98_17, J98_20, J98_23, J98_24, J98_27, J98_28, am_gg_c, am_gf_c, am_pf_c, am_af_c, am_sf_c, am_bf_c, am_qf_c, am_ap_c, am_bp_c, am_qp_c, am_lf_c, am_kt_s, am_kt_n, am_wst, am_wstop, am_ns_0, am_ns_1, Bool.not_true, Bool.not_false, Bool.true_and, Bool.false_and, Nat.reduceBEq, ↓reduceIte, am_k2_n, am_k2_i, am_k2_r, am_k2_u, am_k2_f, am_k2_l, Nat.zero_le, true_and, and_true, true_or, or_true, am_cat_0, am_cat_i, am_cat_r, am_cat_l, am_cat_n, Nat.reduceLeDiff, Nat.reduceAdd, Option.isSome_some, List.getElem?_cons_zero, List.getElem?_cons_succ, am_fit_i, am_fit_r, am_fit_a, h1, a1]
  rw [show (1 : Int32).toInt = 1 by rfl, show (17 : Int32).toInt = 17 by rfl]
  unfold ownB at hP
  by_cases c : 1 ≤ x.toInt ∧ x.toInt ≤ 17
  · rw [decide_eq_true c, Bool.true_and] at hP
    rw [if_pos c, if_neg (by decide)]
    obtain ⟨e, e2⟩ := bi_nat (x := x) (by omega)
    have hk : x.toInt.toNat ≤ 17 := by omega
    generalize x.toInt.toNat = k at *
    subst e
    refine ⟨vp_lit (k := 2) rfl (by omega) (by omega), ?_⟩
    rw [show af (2 : Int32).toNatClampNeg = nI d from a4]
    refine sp_has (by omega) (by omega) (by omega) ?_
    simp only [J98_0, J98_1, J98_2, J98_4, J98_7, J98_10, J98_11, J98_14, J98_15, J98_16, J98_17, J98_20, J98_23, J98_24, J98_27, J98_28, am_gg_c, am_gf_c, am_pf_c, am_af_c, am_sf_c, am_bf_c, am_qf_c, am_ap_c, am_bp_c, am_qp_c, am_lf_c, am_kt_s, am_kt_n, am_wst, am_wstop, am_ns_0, am_ns_1, Bool.not_true, Bool.not_false, Bool.true_and, Bool.false_and, Nat.reduceBEq, ↓reduceIte, am_k2_n, am_k2_i, am_k2_r, am_k2_u, am_k2_f, am_k2_l, Nat.zero_le, true_and, and_true, true_or, or_true, am_cat_0, am_cat_i, am_cat_r, am_cat_l, am_cat_n, Nat.reduceLeDiff, Nat.reduceAdd, Option.isSome_some, List.getElem?_cons_zero, List.getElem?_cons_succ, am_fit_i, am_fit_r, am_fit_a]
    cases cb : d.testBit k with
    | true => rw [cb] at hP; simpa using hP
    | false => rw [cb] at hP; simpa using hP
  · rw [decide_eq_false c, Bool.false_and] at hP
    rw [if_neg c, if_pos rfl]
    simpa using hP
/-- whether the pins let a difference be at a place -/
def pnB (ip : Bool) (f : Nat → Nat) (q w : Nat) : Bool := !ip || (f q == 0) || (f q == w)
theorem sp_mayStand {ln Tn q w : Nat} {ipb : Bool} (hD : 2 ≤ D) (h1 : am_ob G 23 5 = some (moL pm (nI ln) (nI Tn) m (if ipb = true then 1 else 0) due dep vp)) (hm : MA G l h d f) (hln : ln ≤ 18) (hT : Tn < 2 ^ 18) (hq : q < 18) (hw : w < 18) (hP : P (some (.int (if (decide (q < ln) && !Tn.testBit q && pnB ipb f q w) = true then 1 else 0))) G) : am_CB X D 117 [.ref 23, .int (nI q), .int (nI w)] G P := by
  obtain ⟨D, rfl⟩ : ∃ D0, D = D0 + 1 := ⟨D - 1, by omega⟩
  obtain ⟨⟨af, a1, a2, a3, a4, a5⟩, hl1, hl, hh, hd, hd0, hf⟩ := hm
  have hfq := hf q
  have haf : af (3 + nI q).toNatClampNeg = nI (f q) := by rw [show (3 : Int32) = nI 3 by rfl, nI_add, nI_clamp (by omega)]; exact a5 q hq
  have hin : vp_in (3 + nI q) 21 := vp_lit (k := 3 + q) (by rw [show (3 : Int32) = nI 3 by rfl, nI_add]) (by omega) (by omega)
  refine B117 60 [35] ?_
  have tail : ∀ (b : Bool), (pnB ipb f q w = b) → am_WP X D 117 35 [some (.ref 23), some (.int (nI q)), some (.int (nI w)), none] [.int (if b = true then 1 else 0)] G 0 0 P := by
    intro b hb
    rw [hb] at hP
    refine am_wps 40 [] ?_
    simp only [J117_0, J117_1, J117_4, J117_7, J117_8, J117_11, J117_12, J117_13, J117_14, J117_15, J117_18, J117_19, J117_22, J117_23, J117_24, J117_25, J117_26, J117_27, J117_30, J117_31, J117_34, J117_35, J117_36, J117_37, J117_38, J117_41, J117_44, J117_45, J117_48, J117_49, J117_52, J117_55, J117_56, J117_59, J117_60, J117_63, J117_64, am_gg_c, am_gf_c, am_pf_c, am_af_c, am_sf_c, am_bf_c, am_qf_c, am_ap_c, am_bp_c, am_qp_c, am_lf_c, am_kt_s, am_kt_n, am_wst, am_wstop, am_ns_0, am_ns_1, Bool.not_true, Bool.not_false, Bool.true_and, Bool.false_and, Nat.reduceBEq, ↓reduceIte, am_k2_n, am_k2_i, am_k2_r, am_k2_u, am_k2_f, am_k2_l, Nat.zero_le, true_and, and_true, true_or, or_true, am_cat_0, am_cat_i, am_cat_r, am_cat_l, am_cat_n, Nat.reduceLeDiff, Nat.reduceAdd, Option.isSome_some, List.getElem?_cons_zero, List.getElem?_cons_succ, am_fit_i, am_fit_r, am_fit_a, h1]
    by_cases c : q < ln
    · rw [decide_eq_true c, Bool.true_and] at hP
      rw [if_pos (by rw [nI_ltI (by omega) (by omega)]; exact c)]
      refine sp_has (by omega) (by omega) (by omega) ?_
      simp only [J117_0, J117_1, J117_4, J117_7, J117_8, J117_11, J117_12, J117_13, J117_14, J117_15, J117_18, J117_19, J117_22, J117_23, J117_24, J117_25, J117_26, J117_27, J117_30, J117_31, J117_34, J117_35, J117_36, J117_37, J117_38, J117_41, J117_44, J117_45, J117_48, J117_49, J117_52, J117_55, J117_56, J117_59, J117_60, J117_63, J117_64, am_gg_c, am_gf_c, am_pf_c, am_af_c, am_sf_c, am_bf_c, am_qf_c, am_ap_c, am_bp_c, am_qp_c, am_lf_c, am_kt_s, am_kt_n, am_wst, am_wstop, am_ns_0, am_ns_1, Bool.not_true, Bool.not_false, Bool.true_and, Bool.false_and, Nat.reduceBEq, ↓reduceIte, am_k2_n, am_k2_i, am_k2_r, am_k2_u, am_k2_f, am_k2_l, Nat.zero_le, true_and, and_true, true_or, or_true, am_cat_0, am_cat_i, am_cat_r, am_cat_l, am_cat_n, Nat.reduceLeDiff, Nat.reduceAdd, Option.isSome_some, List.getElem?_cons_zero, List.getElem?_cons_succ, am_fit_i, am_fit_r, am_fit_a]
      cases cb : Tn.testBit q with
      | true => rw [cb] at hP; simpa using hP
      | false =>
        rw [cb] at hP
        cases b with
        | true => simpa using hP
        | false => simpa using hP
    · rw [decide_eq_false c, Bool.false_and, Bool.false_and] at hP
      rw [if_neg (by rw [nI_ltI (by omega) (by omega)]; exact c)]
      simpa using hP
  simp only [J117_0, J117_1, J117_4, J117_7, J117_8, J117_11, J117_12, J117_13, J117_14, J117_15, J117_18, J117_19, J117_22, J117_23, J117_24, J117_25, J117_26, J117_27, J117_30, J117_31, J117_34, J117_35, J117_36, J117_37, J117_38, J117_41, J117_44, J117_45, J117_48, J117_49, J117_52, J117_55, J117_56, J117_59, J117_60, J117_63, J117_64, am_gg_c, am_gf_c, am_pf_c, am_af_c, am_sf_c, am_bf_c, am_qf_c, am_ap_c, am_bp_c, am_qp_c, am_lf_c, am_kt_s, am_kt_n, am_wst, am_wstop, am_ns_0, am_ns_1, Bool.not_true, Bool.not_false, Bool.true_and, Bool.false_and, Nat.reduceBEq, ↓reduceIte, am_k2_n, am_k2_i, am_k2_r, am_k2_u, am_k2_f, am_k2_l, Nat.zero_le, true_and, and_true, true_or, or_true, am_cat_0, am_cat_i, am_cat_r, am_cat_l, am_cat_n, Nat.reduceLeDiff, Nat.reduceAdd, Option.isSome_some, List.getElem?_cons_zero, List.getElem?_cons_succ, am_fit_i, am_fit_r, am_fit_a, h1]
  cases ipb with
  | false =>
    simp only [Bool.false_eq_true, if_false, if_true]
    exact tail true (by simp [pnB])
  | true =>
    simp only [if_true, if_neg (show ¬ (1 : Int32) = 0 by decide), J117_0, J117_1, J117_4, J117_7, J117_8, J117_11, J117_12, J117_13, J117_14, J117_15, J117_18, J117_19, J117_22, J117_23, J117_24, J117_25, J117_26, J117_27, J117_30, J117_31, J117_34, J117_35, J117_36, J117_37, J117_38, J117_41, J117_44, J117_45, J117_48, J117_49, J117_52, J117_55, J117_56, J117_59, J117_60, J117_63, J117_64, am_gg_c, am_gf_c, am_pf_c, am_af_c, am_sf_c, am_bf_c, am_qf_c, am_ap_c, am_bp_c, am_qp_c, am_lf_c, am_kt_s, am_kt_n, am_wst, am_wstop, am_ns_0, am_ns_1, Bool.not_true, Bool.not_false, Bool.true_and, Bool.false_and, Nat.reduceBEq, ↓reduceIte, am_k2_n, am_k2_i, am_k2_r, am_k2_u, am_k2_f, am_k2_l, Nat.zero_le, true_and, and_true, true_or, or_true, am_cat_0, am_cat_i, am_cat_r, am_cat_l, am_cat_n, Nat.reduceLeDiff, Nat.reduceAdd, Option.isSome_some, List.getElem?_cons_zero, List.getElem?_cons_succ, am_fit_i, am_fit_r, am_fit_a, h1, a1, haf]
    refine ⟨hin, ?_⟩
    by_cases c0 : f q = 0
    · rw [if_pos (by rw [c0]; rfl)]
      exact tail true (by simp [pnB, c0])
    · rw [if_neg (by rw [bi_eq0 (by omega)]; exact c0)]
      refine ⟨hin, ?_⟩
      by_cases c1 : f q = w
      · rw [if_pos (by rw [c1])]
        exact tail true (by simp [pnB, c1])
      · rw [if_neg (by rw [nI_eq (by omega) (by omega)]; exact c1)]
        exact tail false (by simp [pnB, c0, c1])
end ML
