theorem code_cases (c : Int32) : (∃ k, k ≤ 17 ∧ vlI c = nI k ∧ mgI c = nI k) ∨ (vlI c = -1 ∧ mgI c = 18) ∨ (vlI c = -2 ∧ mgI c = -6) := by
  by_cases c1 : c = 46
  · subst c1; exact Or.inl ⟨0, by omega, rfl, rfl⟩
  by_cases c2 : c = 63
  · subst c2; exact Or.inr (Or.inl ⟨rfl, rfl⟩)
  unfold vlI mgI
  rw [if_neg c1, if_neg c2]
  by_cases c3 : 49 ≤ c.toInt ∧ c.toInt ≤ 57
  · rw [if_pos c3, if_pos c3]
    obtain ⟨e, _⟩ := bi_nat (x := c) (by omega)
    refine Or.inl ⟨c.toInt.toNat - 48, by omega, ?_, ?_⟩
    · conv => lhs; rw [e]
      rw [show (48 : Int32) = nI 48 by rfl, pk_sub (by omega)]
    · conv => lhs; rw [e]
      rw [show (48 : Int32) = nI 48 by rfl, pk_sub (by omega)]
  · rw [if_neg c3, if_neg c3]
    by_cases c4 : 97 ≤ c.toInt ∧ c.toInt ≤ 104
    · rw [if_pos c4, if_pos c4]
      obtain ⟨e, _⟩ := bi_nat (x := c) (by omega)
      refine Or.inl ⟨c.toInt.toNat - 97 + 10, by omega, ?_, ?_⟩
      · conv => lhs; rw [e]
        rw [show (97 : Int32) = nI 97 by rfl, show (10 : Int32) = nI 10 by rfl, pk_sub (by omega), nI_add]
      · conv => lhs; rw [e]
        rw [show (97 : Int32) = nI 97 by rfl, show (10 : Int32) = nI 10 by rfl, nI_add, pk_sub (by omega)]
        congr 1
        omega
    · rw [if_neg c4, if_neg c4, if_neg c1, if_neg c2]
      exact Or.inr (Or.inr ⟨rfl, rfl⟩)
theorem nI_n1 {k : Nat} (hk : k < 2 ^ 31) : nI k ≠ -1 ∧ nI k ≠ -2 ∧ nI k ≠ -6 ∧ ¬ nI k < 0 := by
  have e := nI_toInt hk
  refine ⟨fun h => ?_, fun h => ?_, fun h => ?_, nI_pos hk⟩
  · rw [h, show (-1 : Int32).toInt = -1 by rfl] at e; omega
  · rw [h, show (-2 : Int32).toInt = -2 by rfl] at e; omega
  · rw [h, show (-6 : Int32).toInt = -6 by rfl] at e; omega
theorem vl_fault (c : Int32) : vlI c = -2 ↔ mgI c < 0 := by
  rcases code_cases c with ⟨k, hk, h1, h2⟩ | ⟨h1, h2⟩ | ⟨h1, h2⟩
  · rw [h1, h2]
    have := nI_n1 (k := k) (by omega)
    exact ⟨fun e => absurd e this.2.1, fun e => absurd e this.2.2.2⟩
  · rw [h1, h2]; decide
  · rw [h1, h2]; decide
theorem vl_ok (c : Int32) : okM c = true ↔ (vlI c ≠ -2 ∧ vlI c ≠ -1) := by
  unfold okM
  rw [decide_eq_true_eq]
  rcases code_cases c with ⟨k, hk, h1, h2⟩ | ⟨h1, h2⟩ | ⟨h1, h2⟩
  · rw [h1, h2, nI_toInt (by omega)]
    have := nI_n1 (k := k) (by omega)
    exact ⟨fun _ => ⟨this.2.1, this.1⟩, fun _ => by omega⟩
  · rw [h1, h2]; decide
  · rw [h1, h2]; decide
theorem vl_row {c : Int32} (h : okM c = true) : vlI c = mgI c := by
  have h2 := (vl_ok c).mp h
  rcases code_cases c with ⟨k, hk, h1, h3⟩ | ⟨h1, h3⟩ | ⟨h1, h3⟩
  · rw [h1, h3]
  · exact absurd h1 h2.2
  · exact absurd h1 h2.1
theorem vl_match {c : Int32} {x : Nat} (hx : x < 18) : (vlI c = -1 ∨ vlI c = nI x) ↔ (mgI c = 18 ∨ mgI c = nI x) := by
  have hxx := nI_n1 (k := x) (by omega)
  rcases code_cases c with ⟨k, hk, h1, h2⟩ | ⟨h1, h2⟩ | ⟨h1, h2⟩
  · rw [h1, h2]
    have := nI_n1 (k := k) (by omega)
    have h18 : nI k ≠ 18 := fun e => by
      have := bi_inj (a := k) (b := 18) (by omega) (by omega) e
      omega
    exact ⟨fun e => e.elim (fun z => absurd z this.1) Or.inr, fun e => e.elim (fun z => absurd z h18) Or.inr⟩
  · rw [h1, h2]; exact ⟨fun _ => Or.inl rfl, fun _ => Or.inl rfl⟩
  · rw [h1, h2]
    exact ⟨fun e => e.elim (fun z => by cases z) (fun z => absurd z.symm hxx.2.1), fun e => e.elim (fun z => by cases z) (fun z => absurd z.symm hxx.2.2.1)⟩
theorem ixI_ft {t : Nat → Int32} : ∀ (k i : Nat), i + k ≤ 18 → (if ixI t (-2) k i < 0 then (-6 : Int32) else ixI t (-2) k i) = ftI t k i
  | 0, i, _ => by unfold ixI ftI; rw [if_pos (by decide)]
  | k + 1, i, h => by
    unfold ixI ftI
    by_cases c : vlI (t i) = -2
    · rw [if_pos c, if_pos ((vl_fault _).mp c), if_neg (nI_pos (by omega))]
    · rw [if_neg c, if_neg (fun e => c ((vl_fault _).mpr e))]
      exact ixI_ft k (i + 1) (by omega)
theorem ixI_neg {t : Nat → Int32} {v : Int32} : ∀ (k i : Nat), i + k ≤ 18 → (ixI t v k i < 0 ↔ ∀ j, j < k → vlI (t (i + j)) ≠ v)
  | 0, i, _ => by
    unfold ixI
    exact ⟨fun _ j hj => by omega, fun _ => by decide⟩
  | k + 1, i, h => by
    unfold ixI
    by_cases c : vlI (t i) = v
    · rw [if_pos c]
      exact ⟨fun e => absurd e (nI_pos (by omega)), fun e => absurd c (e 0 (by omega))⟩
    · rw [if_neg c, ixI_neg k (i + 1) (by omega)]
      constructor
      · intro e j hj
        match j, hj with
        | 0, _ => exact c
        | j + 1, hj => have := e j (by omega); rw [show i + (j + 1) = i + 1 + j by omega]; exact this
      · intro e j hj
        have := e (j + 1) (by omega)
        rw [show i + 1 + j = i + (j + 1) by omega]; exact this
theorem rtA_s {t : Nat → Int32} : ∀ k, rtA t k = true ↔ ∀ i, i < k → okM (t i) = true
  | 0 => ⟨fun _ i hi => by omega, fun _ => rfl⟩
  | k + 1 => by
    show (rtA t k && okM (t k)) = true ↔ _
    rw [Bool.and_eq_true, rtA_s k]
    constructor
    · rintro ⟨h1, h2⟩ i hi
      by_cases e : i = k
      · rw [e]; exact h2
      · exact h1 i (by omega)
    · intro h
      exact ⟨fun i hi => h i (by omega), h k (by omega)⟩
def sayT (c : Int32) (n : Nat) (t : Nat → Int32) : Int32 × Nat × (Nat → Int32) := if 33 ≤ c.toInt ∧ c.toInt ≤ 126 then (if n = 18 then (-5, n, t) else (nI (n + 1), n + 1, fun i => if i = n then c else t i)) else (-2, n, t)
section CTX
variable {X : Nat × (Nat → Int32)} {D : Nat} {G : am_H} {P : Option Value → am_H → Prop} {l h d : Nat} {f : Nat → Nat} {n : Nat} {t : Nat → Int32} {s : Nat → Option PT} {old : Bool}
theorem cs_pad {G' : am_H} {n' : Nat} {t' : Nat → Int32} (hC : CSs G l h d f n t s old) (hF : Fr [10, 11] G G') (h1 : PD G' n' t') : CSs G' l h d f n' t' s old := by
  obtain ⟨c1, c2, c3, c4, c5, c6, c7, c8⟩ := hC
  exact ⟨c1.fr hF (by decide), c2.fr hF (by decide) (by decide), c3.fr hF (by decide) (by decide) (by decide) (by decide), c4.fr hF (by decide) (by decide) (by decide), h1, c6.fr hF (by decide) (by decide), c7.fr hF (by decide) (by decide) (by decide) (by decide), c8.fr hF (by decide) (by decide) (by decide) (by decide) (by decide)⟩
theorem sp_csay {c : Int32} (hD : 2 ≤ D) (hC : CSs G l h d f n t s old) (hP : ∀ o' G', CSs G' l h d f (sayT c n t).2.1 (sayT c n t).2.2 s o' → Fr kC G G' → P (some (.int (sayT c n t).1)) G') : am_CB X D 62 [.ref 0, .int c] G P := by
  obtain ⟨D, rfl⟩ : ∃ D0, D = D0 + 1 := ⟨D - 1, by omega⟩
  have o1 := hC.1
  unfold CO at o1
  have c5 := hC.2.2.2.2.1
  have p1 := c5.1
  have hn := c5.2.1
  have z33 : (33 : Int32).toInt = 33 := rfl
  have z126 : (126 : Int32).toInt = 126 := rfl
  unfold sayT at hP
  refine B62 60 [] ?_
  simp only [J62_0, J62_1, J62_3, J62_6, J62_7, J62_9, J62_12, J62_14, J62_15, J62_16, J62_19, J62_22, J62_24, J62_27, J62_29, J62_30, J62_31, J62_34, J62_35, J62_38, J62_39, J62_42, J62_45, am_gg_c, am_gf_c, am_pf_c, am_af_c, am_sf_c, am_bf_c, am_qf_c, am_ap_c, am_bp_c, am_qp_c, am_lf_c, am_kt_s, am_kt_n, am_wst, am_wstop, am_ns_0, am_ns_1, Bool.not_true, Bool.not_false, Bool.true_and, Bool.false_and, Nat.reduceBEq, ↓reduceIte, am_k2_n, am_k2_i, am_k2_r, am_k2_u, am_k2_f, am_k2_l, Nat.zero_le, true_and, and_true, true_or, or_true, am_cat_0, am_cat_i, am_cat_r, am_cat_l, am_cat_n, Nat.reduceLeDiff, Nat.reduceAdd, Option.isSome_some, List.getElem?_cons_zero, List.getElem?_cons_succ, am_fit_i, am_fit_r, am_fit_a, o1, p1]
  by_cases c1 : 33 ≤ c.toInt ∧ c.toInt ≤ 126
  · simp only [if_pos c1] at hP
    rw [if_neg (by rw [bi_lt]; omega), if_neg (by rw [bi_lt]; omega)]
    by_cases c2 : n = 18
    · simp only [if_pos c2] at hP
      rw [if_neg (by rw [c2]; decide)]
      exact hP _ G hC Fr.rf
    · simp only [if_neg c2] at hP
      rw [if_pos (by rw [show (18 : Int32) = nI 18 by rfl, nI_ltI (by omega) (by omega)]; omega)]
      refine sp_append (by omega) c5 (by omega) (fun G1 b1 b2 => ?_)
      have o2 : am_ob G1 0 4 = some [.ref 1, .ref 3, .ref 7, .ref 10, .ref 12, .ref 14, .ref 18, .int (if old = true then 1 else 0)] := by rw [b2.ob (by decide)]; exact o1
      have p2 := b1.1
      simp only [J62_0, J62_1, J62_3, J62_6, J62_7, J62_9, J62_12, J62_14, J62_15, J62_16, J62_19, J62_22, J62_24, J62_27, J62_29, J62_30, J62_31, J62_34, J62_35, J62_38, J62_39, J62_42, J62_45, am_gg_c, am_gf_c, am_pf_c, am_af_c, am_sf_c, am_bf_c, am_qf_c, am_ap_c, am_bp_c, am_qp_c, am_lf_c, am_kt_s, am_kt_n, am_wst, am_wstop, am_ns_0, am_ns_1, Bool.not_true, Bool.not_false, Bool.true_and, Bool.false_and, Nat.reduceBEq, ↓reduceIte, am_k2_n, am_k2_i, am_k2_r, am_k2_u, am_k2_f, am_k2_l, Nat.zero_le, true_and, and_true, true_or, or_true, am_cat_0, am_cat_i, am_cat_r, am_cat_l, am_cat_n, Nat.reduceLeDiff, Nat.reduceAdd, Option.isSome_some, List.getElem?_cons_zero, List.getElem?_cons_succ, am_fit_i, am_fit_r, am_fit_a, o2, p2]
      exact hP _ G1 (cs_pad hC b2 b1) (b2.up (by decide))
  · simp only [if_neg c1] at hP
    by_cases c3 : c.toInt < 33
    · rw [if_pos (by rw [bi_lt]; omega)]
      exact hP _ G hC Fr.rf
    · rw [if_neg (by rw [bi_lt]; omega), if_pos (by rw [bi_lt]; omega)]
      exact hP _ G hC Fr.rf
theorem sp_cfault (hD : 4 ≤ D) (hC : CSs G l h d f n t s old) (hP : P (some (.int (ftI t n 0))) G) : am_CB X D 63 [.ref 0] G P := by
  obtain ⟨D, rfl⟩ : ∃ D0, D = D0 + 1 := ⟨D - 1, by omega⟩
  have o1 := hC.1
  unfold CO at o1
  have c5 := hC.2.2.2.2.1
  have p1 := c5.1
  rw [← ixI_ft n 0 (by have := c5.2.1; omega)] at hP
  refine B63 60 [] ?_
  simp only [J63_0, J63_1, J63_4, J63_6, J63_9, J63_10, J63_11, J63_14, J63_16, J63_19, J63_20, am_gg_c, am_gf_c, am_pf_c, am_af_c, am_sf_c, am_bf_c, am_qf_c, am_ap_c, am_bp_c, am_qp_c, am_lf_c, am_kt_s, am_kt_n, am_wst, am_wstop, am_ns_0, am_ns_1, Bool.not_true, Bool.not_false, Bool.true_and, Bool.false_and, Nat.reduceBEq, ↓reduceIte, am_k2_n, am_k2_i, am_k2_r, am_k2_u, am_k2_f, am_k2_l, Nat.zero_le, true_and, and_true, true_or, or_true, am_cat_0, am_cat_i, am_cat_r, am_cat_l, am_cat_n, Nat.reduceLeDiff, Nat.reduceAdd, Option.isSome_some, List.getElem?_cons_zero, List.getElem?_cons_succ, am_fit_i, am_fit_r, am_fit_a, o1, p1]
  refine sp_indexOf (by omega) c5 ?_
  simp only [J63_0, J63_1, J63_4, J63_6, J63_9, J63_10, J63_11, J63_14, J63_16, J63_19, J63_20, am_gg_c, am_gf_c, am_pf_c, am_af_c, am_sf_c, am_bf_c, am_qf_c, am_ap_c, am_bp_c, am_qp_c, am_lf_c, am_kt_s, am_kt_n, am_wst, am_wstop, am_ns_0, am_ns_1, Bool.not_true, Bool.not_false, Bool.true_and, Bool.false_and, Nat.reduceBEq, ↓reduceIte, am_k2_n, am_k2_i, am_k2_r, am_k2_u, am_k2_f, am_k2_l, Nat.zero_le, true_and, and_true, true_or, or_true, am_cat_0, am_cat_i, am_cat_r, am_cat_l, am_cat_n, Nat.reduceLeDiff, Nat.reduceAdd, Option.isSome_some, List.getElem?_cons_zero, List.getElem?_cons_succ, am_fit_i, am_fit_r, am_fit_a]
  split
  · next q => rw [if_pos q] at hP; exact hP
  · next q => rw [if_neg q] at hP; exact hP
theorem sp_cletter {x : Int32} (hD : 2 ≤ D) (hC : CSs G l h d f n t s old) (hP : P (some (.int (if inN x n = true then t x.toInt.toNat else -6))) G) : am_CB X D 68 [.ref 0, .int x] G P := by
  obtain ⟨D, rfl⟩ : ∃ D0, D = D0 + 1 := ⟨D - 1, by omega⟩
  have o1 := hC.1
  unfold CO at o1
  have c5 := hC.2.2.2.2.1
  obtain ⟨p1, p2, cc, p3, p4⟩ := id c5
  refine B68 60 [] ?_
  simp only [J68_0, J68_1, J68_4, J68_5, J68_8, J68_11, J68_13, J68_14, J68_15, J68_18, J68_21, J68_22, J68_23, am_gg_c, am_gf_c, am_pf_c, am_af_c, am_sf_c, am_bf_c, am_qf_c, am_ap_c, am_bp_c, am_qp_c, am_lf_c, am_kt_s, am_kt_n, am_wst, am_wstop, am_ns_0, am_ns_1, Bool.not_true, Bool.not_false, Bool.true_and, Bool.false_and, Nat.reduceBEq, ↓reduceIte, am_k2_n, am_k2_i, am_k2_r, am_k2_u, am_k2_f, am_k2_l, Nat.zero_le, true_and, and_true, true_or, or_true, am_cat_0, am_cat_i, am_cat_r, am_cat_l, am_cat_n, Nat.reduceLeDiff, Nat.reduceAdd, Option.isSome_some, List.getElem?_cons_zero, List.getElem?_cons_succ, am_fit_i, am_fit_r, am_fit_a, o1, p1]
  refine sp_phas (by omega) c5 ?_
  simp only [J68_0, J68_1, J68_4, J68_5, J68_8, J68_11, J68_13, J68_14, J68_15, J68_18, J68_21, J68_22, J68_23, am_gg_c, am_gf_c, am_pf_c, am_af_c, am_sf_c, am_bf_c, am_qf_c, am_ap_c, am_bp_c, am_qp_c, am_lf_c, am_kt_s, am_kt_n, am_wst, am_wstop, am_ns_0, am_ns_1, Bool.not_true, Bool.not_false, Bool.true_and, Bool.false_and, Nat.reduceBEq, ↓reduceIte, am_k2_n, am_k2_i, am_k2_r, am_k2_u, am_k2_f, am_k2_l, Nat.zero_le, true_and, and_true, true_or, or_true, am_cat_0, am_cat_i, am_cat_r, am_cat_l, am_cat_n, Nat.reduceLeDiff, Nat.reduceAdd, Option.isSome_some, List.getElem?_cons_zero, List.getElem?_cons_succ, am_fit_i, am_fit_r, am_fit_a, o1, p1, p3]
  cases hb : inN x n with
  | false =>
    rw [hb] at hP
    simp only [Bool.false_eq_true, if_false, if_true]
    simpa using hP
  | true =>
    rw [hb] at hP
    obtain ⟨q, rfl, hq⟩ := inN_of hb (by omega)
    rw [nI_toInt (by omega), Int.toNat_natCast] at hP
    simp only [if_true, if_neg (show ¬ (1 : Int32) = 0 by decide)] at hP ⊢
    refine ⟨vp_in_n (by omega) (by omega), ?_⟩
    rw [nI_clamp (by omega), p4 q hq]
    exact hP
theorem sp_padIsRow (hD : 4 ≤ D) (hw : WF (l, h, d, f)) (hC : CSs G l h d f n t s old) (hP : P (some (.int (if rtB n l t = true then 1 else 0))) G) : am_CB X D 69 [.ref 0] G P := by
  obtain ⟨D, rfl⟩ : ∃ D0, D = D0 + 1 := ⟨D - 1, by omega⟩
  have o1 := hC.1
  unfold CO at o1
  have q1 := hC.2.1.1
  have c5 := hC.2.2.2.2.1
  have p1 := c5.1
  have hn := c5.2.1
  have w2 : l ≤ 18 := hw.2.1
  have key : rtB n l t = true ↔ n = l ∧ ixI t (-2) n 0 < 0 ∧ ixI t (-1) n 0 < 0 := by
    unfold rtB
    rw [Bool.and_eq_true, decide_eq_true_eq, rtA_s, ixI_neg n 0 (by omega), ixI_neg n 0 (by omega)]
    simp only [Nat.zero_add]
    constructor
    · rintro ⟨a, b⟩
      exact ⟨a, fun j hj => ((vl_ok _).mp (b j hj)).1, fun j hj => ((vl_ok _).mp (b j hj)).2⟩
    · rintro ⟨a, b, c⟩
      exact ⟨a, fun j hj => (vl_ok _).mpr ⟨b j hj, c j hj⟩⟩
  refine B69 60 [] ?_
  simp only [J69_0, J69_1, J69_4, J69_7, J69_8, J69_11, J69_14, J69_17, J69_18, J69_21, J69_23, J69_26, J69_29, J69_30, J69_33, J69_34, J69_37, J69_40, J69_41, J69_44, J69_45, am_gg_c, am_gf_c, am_pf_c, am_af_c, am_sf_c, am_bf_c, am_qf_c, am_ap_c, am_bp_c, am_qp_c, am_lf_c, am_kt_s, am_kt_n, am_wst, am_wstop, am_ns_0, am_ns_1, Bool.not_true, Bool.not_false, Bool.true_and, Bool.false_and, Nat.reduceBEq, ↓reduceIte, am_k2_n, am_k2_i, am_k2_r, am_k2_u, am_k2_f, am_k2_l, Nat.zero_le, true_and, and_true, true_or, or_true, am_cat_0, am_cat_i, am_cat_r, am_cat_l, am_cat_n, Nat.reduceLeDiff, Nat.reduceAdd, Option.isSome_some, List.getElem?_cons_zero, List.getElem?_cons_succ, am_fit_i, am_fit_r, am_fit_a, o1, p1, q1]
  by_cases e1 : n = l
  · rw [if_pos (by rw [e1])]
    refine sp_indexOf (by omega) c5 ?_
    simp only [J69_0, J69_1, J69_4, J69_7, J69_8, J69_11, J69_14, J69_17, J69_18, J69_21, J69_23, J69_26, J69_29, J69_30, J69_33, J69_34, J69_37, J69_40, J69_41, J69_44, J69_45, am_gg_c, am_gf_c, am_pf_c, am_af_c, am_sf_c, am_bf_c, am_qf_c, am_ap_c, am_bp_c, am_qp_c, am_lf_c, am_kt_s, am_kt_n, am_wst, am_wstop, am_ns_0, am_ns_1, Bool.not_true, Bool.not_false, Bool.true_and, Bool.false_and, Nat.reduceBEq, ↓reduceIte, am_k2_n, am_k2_i, am_k2_r, am_k2_u, am_k2_f, am_k2_l, Nat.zero_le, true_and, and_true, true_or, or_true, am_cat_0, am_cat_i, am_cat_r, am_cat_l, am_cat_n, Nat.reduceLeDiff, Nat.reduceAdd, Option.isSome_some, List.getElem?_cons_zero, List.getElem?_cons_succ, am_fit_i, am_fit_r, am_fit_a, o1, p1]
    by_cases e2 : ixI t (-2) n 0 < 0
    · rw [if_pos e2]
      refine sp_indexOf (by omega) c5 ?_
      simp only [J69_0, J69_1, J69_4, J69_7, J69_8, J69_11, J69_14, J69_17, J69_18, J69_21, J69_23, J69_26, J69_29, J69_30, J69_33, J69_34, J69_37, J69_40, J69_41, J69_44, J69_45, am_gg_c, am_gf_c, am_pf_c, am_af_c, am_sf_c, am_bf_c, am_qf_c, am_ap_c, am_bp_c, am_qp_c, am_lf_c, am_kt_s, am_kt_n, am_wst, am_wstop, am_ns_0, am_ns_1, Bool.not_true, Bool.not_false, Bool.true_and, Bool.false_and, Nat.reduceBEq, ↓reduceIte, am_k2_n, am_k2_i, am_k2_r, am_k2_u, am_k2_f, am_k2_l, Nat.zero_le, true_and, and_true, true_or, or_true, am_cat_0, am_cat_i, am_cat_r, am_cat_l, am_cat_n, Nat.reduceLeDiff, Nat.reduceAdd, Option.isSome_some, List.getElem?_cons_zero, List.getElem?_cons_succ, am_fit_i, am_fit_r, am_fit_a]
      by_cases e3 : ixI t (-1) n 0 < 0
      · rw [if_pos e3]
        rw [key.mpr ⟨e1, e2, e3⟩] at hP
        simpa using hP
      · rw [if_neg e3]
        rw [if_neg (fun z => e3 (key.mp z).2.2)] at hP
        simpa using hP
    · rw [if_neg e2]
      rw [if_neg (fun z => e2 (key.mp z).2.1)] at hP
      simpa using hP
  · rw [if_neg (fun e => e1 (bi_inj (by omega) (by omega) e))]
    rw [if_neg (fun z => e1 (key.mp z).1)] at hP
    simpa using hP
theorem gn_vl (hr : rtB n l t = true) {i : Nat} (hi : i < l) : vlI (t i) = nI (gnP t i) := by
  have h := gnP_le hr hi
  unfold rtB at hr
  rw [Bool.and_eq_true, decide_eq_true_eq] at hr
  rw [vl_row (rtA_ok hr.2 i (by omega))]
  exact h.2
theorem tb_tm (hr : rtB n l t = true) {w : Nat} (hw : w ≤ 17) : ∀ k, k ≤ l → tbN t (nI w) k = tmN (gnP t) w k
  | 0, _ => rfl
  | k + 1, h => by
    have ih := tb_tm hr hw k (by omega)
    have hle := (gnP_le hr (i := k) (by omega)).1
    show tbN t (nI w) k + (if vlI (t k) = nI w then 1 else 0) = tmN (gnP t) w k + (if gnP t k = w then 1 else 0)
    rw [ih, gn_vl hr (by omega)]
    by_cases c : gnP t k = w
    · rw [if_pos c, if_pos (by rw [c])]
    · rw [if_neg c, if_neg (fun e => c (bi_inj (by omega) (by omega) e))]
theorem sp_cbreaks {r q : Nat} (hD : 5 ≤ D) (hw : WF (l, h, d, f)) (hC : CSs G l h d f n t s old) (hr : rtB n l t = true) (hq : q < l) (hr1 : 1 ≤ r) (hr5 : r ≤ 5) (hP : P (some (.int (if bkN l h d f (gnP t) r q = true then 1 else 0))) G) : am_CB X D 71 [.ref 0, .int (nI r), .int (nI q)] G P := by
  obtain ⟨D, rfl⟩ : ∃ D0, D = D0 + 1 := ⟨D - 1, by omega⟩
  obtain ⟨w1, w2, w3, w4, w5, w6, w7, w8⟩ := hw.o
  have o1 := hC.1
  unfold CO at o1
  have c2 := hC.2.1
  have q1 := c2.1
  have c5 := hC.2.2.2.2.1
  have p1 := c5.1
  have hn := c5.2.1
  have hnl : n = l := by
    have := hr
    unfold rtB at this
    rw [Bool.and_eq_true, decide_eq_true_eq] at this
    exact this.1
  have hgq := (gnP_le hr hq).1
  have hfq := w6 q
  have hfr := frN_lt (h := h) w2
  have va : ∀ i, i < l → vaI t n (nI i) = nI (gnP t i) := fun i hi => by rw [vaI_n (by omega) hn, gn_vl hr hi]
  have n0 : ¬ (1 : Int32) = 0 := by decide
  have sw : ∀ k, k < 2 ^ 31 → (nI r = nI k ↔ r = k) := fun k hk => ⟨fun e => bi_inj (by omega) (by omega) e, fun e => by rw [e]⟩
  have s1 : nI r = (1 : Int32) ↔ r = 1 := sw 1 (by omega)
  have s2 : nI r = (2 : Int32) ↔ r = 2 := sw 2 (by omega)
  have s3 : nI r = (3 : Int32) ↔ r = 3 := sw 3 (by omega)
  have s4 : nI r = (4 : Int32) ↔ r = 4 := sw 4 (by omega)
  have s5 : nI r = (5 : Int32) ↔ r = 5 := sw 5 (by omega)
  have hg0 : nI (gnP t q) = 0 ↔ gnP t q = 0 := bi_eq0 (by omega)
  have hlt := sp_pvalueAt (X := X) (D := D) (x := nI q) (P := P) (by omega) c5
  have hole : ∀ (x5 : Int32), x5 = nI (f q) → am_WP X D 71 30 [some (.ref 0), some (.int (nI r)), some (.int (nI q)), some (.int (nI (gnP t q))), some (.int (if gnP t q = 0 then 1 else 0)), some (.int x5)] [] G 0 0 P := by
    intro x5 hx5
    subst hx5
    have hF := frN_bit (l := l) (h := h) w2 q
    rw [decide_eq_true hq, Bool.true_and] at hF
    unfold bkN at hP
    refine am_wps 60 [64, 83, 105, 129, 168, 185] ?_
    simp only [J71_0, J71_1, J71_4, J71_5, J71_8, J71_9, J71_10, J71_13, J71_14, J71_17, J71_18, J71_20, J71_21, J71_24, J71_25, J71_28, J71_30, J71_31, J71_64, J71_66, J71_67, J71_70, J71_71, J71_74, J71_77, J71_78, J71_81, J71_82, J71_83, J71_85, J71_88, J71_89, J71_92, J71_93, J71_96, J71_99, J71_100, J71_103, J71_104, J71_105, J71_107, J71_110, J71_111, J71_114, J71_115, J71_116, J71_119, J71_120, J71_123, J71_124, J71_127, J71_128, J71_129, J71_131, J71_134, J71_135, J71_138, J71_139, J71_140, J71_141, J71_144, J71_145, J71_148, J71_149, J71_152, J71_153, J71_154, J71_155, J71_158, J71_159, J71_162, J71_163, J71_166, J71_167, J71_168, J71_170, J71_173, J71_175, J71_176, J71_179, J71_180, J71_183, J71_184, J71_185, J71_186, am_gg_c, am_gf_c, am_pf_c, am_af_c, am_sf_c, am_bf_c, am_qf_c, am_ap_c, am_bp_c, am_qp_c, am_lf_c, am_kt_s, am_kt_n, am_wst, am_wstop, am_ns_0, am_ns_1, Bool.not_true, Bool.not_false, Bool.true_and, Bool.false_and, Nat.reduceBEq, ↓reduceIte, am_k2_n, am_k2_i, am_k2_r, am_k2_u, am_k2_f, am_k2_l, Nat.zero_le, true_and, and_true, true_or, or_true, am_cat_0, am_cat_i, am_cat_r, am_cat_l, am_cat_n, Nat.reduceLeDiff, Nat.reduceAdd, Option.isSome_some, List.getElem?_cons_zero, List.getElem?_cons_succ, am_fit_i, am_fit_r, am_fit_a]
    by_cases r1 : r = 1
    · rw [if_pos r1] at hP
      rw [if_pos (s1.mpr r1)]
      unfold bk1 at hP
      refine am_wps 60 [] ?_
      simp only [J71_0, J71_1, J71_4, J71_5, J71_8, J71_9, J71_10, J71_13, J71_14, J71_17, J71_18, J71_20, J71_21, J71_24, J71_25, J71_28, J71_30, J71_31, J71_64, J71_66, J71_67, J71_70, J71_71, J71_74, J71_77, J71_78, J71_81, J71_82, J71_83, J71_85, J71_88, J71_89, J71_92, J71_93, J71_96, J71_99, J71_100, J71_103, J71_104, J71_105, J71_107, J71_110, J71_111, J71_114, J71_115, J71_116, J71_119, J71_120, J71_123, J71_124, J71_127, J71_128, J71_129, J71_131, J71_134, J71_135, J71_138, J71_139, J71_140, J71_141, J71_144, J71_145, J71_148, J71_149, J71_152, J71_153, J71_154, J71_155, J71_158, J71_159, J71_162, J71_163, J71_166, J71_167, J71_168, J71_170, J71_173, J71_175, J71_176, J71_179, J71_180, J71_183, J71_184, J71_185, J71_186, am_gg_c, am_gf_c, am_pf_c, am_af_c, am_sf_c, am_bf_c, am_qf_c, am_ap_c, am_bp_c, am_qp_c, am_lf_c, am_kt_s, am_kt_n, am_wst, am_wstop, am_ns_0, am_ns_1, Bool.not_true, Bool.not_false, Bool.true_and, Bool.false_and, Nat.reduceBEq, ↓reduceIte, am_k2_n, am_k2_i, am_k2_r, am_k2_u, am_k2_f, am_k2_l, Nat.zero_le, true_and, and_true, true_or, or_true, am_cat_0, am_cat_i, am_cat_r, am_cat_l, am_cat_n, Nat.reduceLeDiff, Nat.reduceAdd, Option.isSome_some, List.getElem?_cons_zero, List.getElem?_cons_succ, am_fit_i, am_fit_r, am_fit_a, o1, q1]
      refine sp_isFree (by omega) c2 ?_
      rw [show ctn (frN l h) (nI q) = (frN l h).testBit q from ctn_n (by omega) (by omega), hF]
      simp only [J71_0, J71_1, J71_4, J71_5, J71_8, J71_9, J71_10, J71_13, J71_14, J71_17, J71_18, J71_20, J71_21, J71_24, J71_25, J71_28, J71_30, J71_31, J71_64, J71_66, J71_67, J71_70, J71_71, J71_74, J71_77, J71_78, J71_81, J71_82, J71_83, J71_85, J71_88, J71_89, J71_92, J71_93, J71_96, J71_99, J71_100, J71_103, J71_104, J71_105, J71_107, J71_110, J71_111, J71_114, J71_115, J71_116, J71_119, J71_120, J71_123, J71_124, J71_127, J71_128, J71_129, J71_131, J71_134, J71_135, J71_138, J71_139, J71_140, J71_141, J71_144, J71_145, J71_148, J71_149, J71_152, J71_153, J71_154, J71_155, J71_158, J71_159, J71_162, J71_163, J71_166, J71_167, J71_168, J71_170, J71_173, J71_175, J71_176, J71_179, J71_180, J71_183, J71_184, J71_185, J71_186, am_gg_c, am_gf_c, am_pf_c, am_af_c, am_sf_c, am_bf_c, am_qf_c, am_ap_c, am_bp_c, am_qp_c, am_lf_c, am_kt_s, am_kt_n, am_wst, am_wstop, am_ns_0, am_ns_1, Bool.not_true, Bool.not_false, Bool.true_and, Bool.false_and, Nat.reduceBEq, ↓reduceIte, am_k2_n, am_k2_i, am_k2_r, am_k2_u, am_k2_f, am_k2_l, Nat.zero_le, true_and, and_true, true_or, or_true, am_cat_0, am_cat_i, am_cat_r, am_cat_l, am_cat_n, Nat.reduceLeDiff, Nat.reduceAdd, Option.isSome_some, List.getElem?_cons_zero, List.getElem?_cons_succ, am_fit_i, am_fit_r, am_fit_a]
      cases hh : h.testBit q <;> by_cases g0 : gnP t q = 0 <;> simpa [hh, g0] using hP
    rw [if_neg r1] at hP
    rw [if_neg (fun e => r1 (s1.mp e))]
    by_cases r2 : r = 2
    · rw [if_pos r2] at hP
      rw [if_pos (s2.mpr r2)]
      unfold bk2 at hP
      refine am_wps 60 [] ?_
      simp only [J71_0, J71_1, J71_4, J71_5, J71_8, J71_9, J71_10, J71_13, J71_14, J71_17, J71_18, J71_20, J71_21, J71_24, J71_25, J71_28, J71_30, J71_31, J71_64, J71_66, J71_67, J71_70, J71_71, J71_74, J71_77, J71_78, J71_81, J71_82, J71_83, J71_85, J71_88, J71_89, J71_92, J71_93, J71_96, J71_99, J71_100, J71_103, J71_104, J71_105, J71_107, J71_110, J71_111, J71_114, J71_115, J71_116, J71_119, J71_120, J71_123, J71_124, J71_127, J71_128, J71_129, J71_131, J71_134, J71_135, J71_138, J71_139, J71_140, J71_141, J71_144, J71_145, J71_148, J71_149, J71_152, J71_153, J71_154, J71_155, J71_158, J71_159, J71_162, J71_163, J71_166, J71_167, J71_168, J71_170, J71_173, J71_175, J71_176, J71_179, J71_180, J71_183, J71_184, J71_185, J71_186, am_gg_c, am_gf_c, am_pf_c, am_af_c, am_sf_c, am_bf_c, am_qf_c, am_ap_c, am_bp_c, am_qp_c, am_lf_c, am_kt_s, am_kt_n, am_wst, am_wstop, am_ns_0, am_ns_1, Bool.not_true, Bool.not_false, Bool.true_and, Bool.false_and, Nat.reduceBEq, ↓reduceIte, am_k2_n, am_k2_i, am_k2_r, am_k2_u, am_k2_f, am_k2_l, Nat.zero_le, true_and, and_true, true_or, or_true, am_cat_0, am_cat_i, am_cat_r, am_cat_l, am_cat_n, Nat.reduceLeDiff, Nat.reduceAdd, Option.isSome_some, List.getElem?_cons_zero, List.getElem?_cons_succ, am_fit_i, am_fit_r, am_fit_a, o1, q1]
      by_cases g0 : gnP t q = 0
      · simp only [g0, if_true, if_neg n0]
        simpa [g0] using hP
      · simp only [if_neg g0, if_true]
        refine sp_hasDifference (by omega) c2 ?_
        rw [show ctn d (nI (gnP t q)) = d.testBit (gnP t q) from ctn_n (by omega) (by omega)]
        simp only [J71_0, J71_1, J71_4, J71_5, J71_8, J71_9, J71_10, J71_13, J71_14, J71_17, J71_18, J71_20, J71_21, J71_24, J71_25, J71_28, J71_30, J71_31, J71_64, J71_66, J71_67, J71_70, J71_71, J71_74, J71_77, J71_78, J71_81, J71_82, J71_83, J71_85, J71_88, J71_89, J71_92, J71_93, J71_96, J71_99, J71_100, J71_103, J71_104, J71_105, J71_107, J71_110, J71_111, J71_114, J71_115, J71_116, J71_119, J71_120, J71_123, J71_124, J71_127, J71_128, J71_129, J71_131, J71_134, J71_135, J71_138, J71_139, J71_140, J71_141, J71_144, J71_145, J71_148, J71_149, J71_152, J71_153, J71_154, J71_155, J71_158, J71_159, J71_162, J71_163, J71_166, J71_167, J71_168, J71_170, J71_173, J71_175, J71_176, J71_179, J71_180, J71_183, J71_184, J71_185, J71_186, am_gg_c, am_gf_c, am_pf_c, am_af_c, am_sf_c, am_bf_c, am_qf_c, am_ap_c, am_bp_c, am_qp_c, am_lf_c, am_kt_s, am_kt_n, am_wst, am_wstop, am_ns_0, am_ns_1, Bool.not_true, Bool.not_false, Bool.true_and, Bool.false_and, Nat.reduceBEq, ↓reduceIte, am_k2_n, am_k2_i, am_k2_r, am_k2_u, am_k2_f, am_k2_l, Nat.zero_le, true_and, and_true, true_or, or_true, am_cat_0, am_cat_i, am_cat_r, am_cat_l, am_cat_n, Nat.reduceLeDiff, Nat.reduceAdd, Option.isSome_some, List.getElem?_cons_zero, List.getElem?_cons_succ, am_fit_i, am_fit_r, am_fit_a]
        cases hb : d.testBit (gnP t q) <;> simpa [g0, hb] using hP
    rw [if_neg r2] at hP
    rw [if_neg (fun e => r2 (s2.mp e))]
    by_cases r3 : r = 3
    · rw [if_pos r3] at hP
      rw [if_pos (s3.mpr r3)]
      unfold bk3 at hP
      refine am_wps 60 [] ?_
      simp only [J71_0, J71_1, J71_4, J71_5, J71_8, J71_9, J71_10, J71_13, J71_14, J71_17, J71_18, J71_20, J71_21, J71_24, J71_25, J71_28, J71_30, J71_31, J71_64, J71_66, J71_67, J71_70, J71_71, J71_74, J71_77, J71_78, J71_81, J71_82, J71_83, J71_85, J71_88, J71_89, J71_92, J71_93, J71_96, J71_99, J71_100, J71_103, J71_104, J71_105, J71_107, J71_110, J71_111, J71_114, J71_115, J71_116, J71_119, J71_120, J71_123, J71_124, J71_127, J71_128, J71_129, J71_131, J71_134, J71_135, J71_138, J71_139, J71_140, J71_141, J71_144, J71_145, J71_148, J71_149, J71_152, J71_153, J71_154, J71_155, J71_158, J71_159, J71_162, J71_163, J71_166, J71_167, J71_168, J71_170, J71_173, J71_175, J71_176, J71_179, J71_180, J71_183, J71_184, J71_185, J71_186, am_gg_c, am_gf_c, am_pf_c, am_af_c, am_sf_c, am_bf_c, am_qf_c, am_ap_c, am_bp_c, am_qp_c, am_lf_c, am_kt_s, am_kt_n, am_wst, am_wstop, am_ns_0, am_ns_1, Bool.not_true, Bool.not_false, Bool.true_and, Bool.false_and, Nat.reduceBEq, ↓reduceIte, am_k2_n, am_k2_i, am_k2_r, am_k2_u, am_k2_f, am_k2_l, Nat.zero_le, true_and, and_true, true_or, or_true, am_cat_0, am_cat_i, am_cat_r, am_cat_l, am_cat_n, Nat.reduceLeDiff, Nat.reduceAdd, Option.isSome_some, List.getElem?_cons_zero, List.getElem?_cons_succ, am_fit_i, am_fit_r, am_fit_a, o1, p1]
      by_cases g0 : gnP t q = 0
      · simp only [g0, if_true, if_neg n0]
        simpa [g0] using hP
      · simp only [if_neg g0, if_true]
        refine sp_timesB (by omega) (by omega) c5 ?_
        rw [tb_tm hr hgq q (by omega)]
        simp only [J71_0, J71_1, J71_4, J71_5, J71_8, J71_9, J71_10, J71_13, J71_14, J71_17, J71_18, J71_20, J71_21, J71_24, J71_25, J71_28, J71_30, J71_31, J71_64, J71_66, J71_67, J71_70, J71_71, J71_74, J71_77, J71_78, J71_81, J71_82, J71_83, J71_85, J71_88, J71_89, J71_92, J71_93, J71_96, J71_99, J71_100, J71_103, J71_104, J71_105, J71_107, J71_110, J71_111, J71_114, J71_115, J71_116, J71_119, J71_120, J71_123, J71_124, J71_127, J71_128, J71_129, J71_131, J71_134, J71_135, J71_138, J71_139, J71_140, J71_141, J71_144, J71_145, J71_148, J71_149, J71_152, J71_153, J71_154, J71_155, J71_158, J71_159, J71_162, J71_163, J71_166, J71_167, J71_168, J71_170, J71_173, J71_175, J71_176, J71_179, J71_180, J71_183, J71_184, J71_185, J71_186, am_gg_c, am_gf_c, am_pf_c, am_af_c, am_sf_c, am_bf_c, am_qf_c, am_ap_c, am_bp_c, am_qp_c, am_lf_c, am_kt_s, am_kt_n, am_wst, am_wstop, am_ns_0, am_ns_1, Bool.not_true, Bool.not_false, Bool.true_and, Bool.false_and, Nat.reduceBEq, ↓reduceIte, am_k2_n, am_k2_i, am_k2_r, am_k2_u, am_k2_f, am_k2_l, Nat.zero_le, true_and, and_true, true_or, or_true, am_cat_0, am_cat_i, am_cat_r, am_cat_l, am_cat_n, Nat.reduceLeDiff, Nat.reduceAdd, Option.isSome_some, List.getElem?_cons_zero, List.getElem?_cons_succ, am_fit_i, am_fit_r, am_fit_a]
        have htm : tmN (gnP t) (gnP t q) (q + 1) = tmN (gnP t) (gnP t q) q + 1 := by
          show tmN (gnP t) (gnP t q) q + (if gnP t q = gnP t q then 1 else 0) = _
          rw [if_pos rfl]
        have hle := tmN_le (g := gnP t) (w := gnP t q) q
        rw [htm] at hP
        generalize tmN (gnP t) (gnP t q) q = tt at *
        by_cases c : tt < 2
        · rw [if_pos (by rw [show (2 : Int32) = nI 2 by rfl, nI_ltI (by omega) (by omega)]; exact c)]
          rw [decide_eq_false (by omega)] at hP
          simpa using hP
        · rw [if_neg (by rw [show (2 : Int32) = nI 2 by rfl, nI_ltI (by omega) (by omega)]; exact c)]
          rw [decide_eq_true (by omega)] at hP
          simpa [g0] using hP
    rw [if_neg r3] at hP
    rw [if_neg (fun e => r3 (s3.mp e))]
    by_cases r4 : r = 4
    · rw [if_pos r4] at hP
      rw [if_pos (s4.mpr r4)]
      unfold bk4 at hP
      refine am_wps 60 [] ?_
      simp only [J71_0, J71_1, J71_4, J71_5, J71_8, J71_9, J71_10, J71_13, J71_14, J71_17, J71_18, J71_20, J71_21, J71_24, J71_25, J71_28, J71_30, J71_31, J71_64, J71_66, J71_67, J71_70, J71_71, J71_74, J71_77, J71_78, J71_81, J71_82, J71_83, J71_85, J71_88, J71_89, J71_92, J71_93, J71_96, J71_99, J71_100, J71_103, J71_104, J71_105, J71_107, J71_110, J71_111, J71_114, J71_115, J71_116, J71_119, J71_120, J71_123, J71_124, J71_127, J71_128, J71_129, J71_131, J71_134, J71_135, J71_138, J71_139, J71_140, J71_141, J71_144, J71_145, J71_148, J71_149, J71_152, J71_153, J71_154, J71_155, J71_158, J71_159, J71_162, J71_163, J71_166, J71_167, J71_168, J71_170, J71_173, J71_175, J71_176, J71_179, J71_180, J71_183, J71_184, J71_185, J71_186, am_gg_c, am_gf_c, am_pf_c, am_af_c, am_sf_c, am_bf_c, am_qf_c, am_ap_c, am_bp_c, am_qp_c, am_lf_c, am_kt_s, am_kt_n, am_wst, am_wstop, am_ns_0, am_ns_1, Bool.not_true, Bool.not_false, Bool.true_and, Bool.false_and, Nat.reduceBEq, ↓reduceIte, am_k2_n, am_k2_i, am_k2_r, am_k2_u, am_k2_f, am_k2_l, Nat.zero_le, true_and, and_true, true_or, or_true, am_cat_0, am_cat_i, am_cat_r, am_cat_l, am_cat_n, Nat.reduceLeDiff, Nat.reduceAdd, Option.isSome_some, List.getElem?_cons_zero, List.getElem?_cons_succ, am_fit_i, am_fit_r, am_fit_a, o1, p1]
      by_cases g0 : gnP t q = 0
      · simp only [g0, if_true, if_neg n0]
        simpa [g0] using hP
      · simp only [if_neg g0, if_true]
        have hnn := nI_n1 (k := gnP t q) (by omega)
        have va1 : vaI t n (nI q - nI (gnP t q)) = nI (gnP t q) ↔ (decide (gnP t q ≤ q) && gnP t (q - gnP t q) == gnP t q) = true := by
          by_cases c : gnP t q ≤ q
          · rw [pk_sub c, va _ (by omega), decide_eq_true c, Bool.true_and, beq_iff_eq]
            have := (gnP_le hr (i := q - gnP t q) (by omega)).1
            exact ⟨fun e => bi_inj (by omega) (by omega) e, fun e => by rw [e]⟩
          · rw [decide_eq_false c, Bool.false_and]
            have : inN (nI q - nI (gnP t q)) n = false := by
              unfold inN
              apply decide_eq_false
              rw [iI_n, iI_n, iI_sub, iI_toInt (by omega) (by omega)]
              omega
            unfold vaI
            rw [this]
            exact ⟨fun e => absurd e.symm hnn.2.1, fun e => by cases e⟩
        have va2 : vaI t n (nI q + nI (gnP t q)) = nI (gnP t q) ↔ (decide (q + gnP t q < l) && gnP t (q + gnP t q) == gnP t q) = true := by
          rw [nI_add]
          by_cases c : q + gnP t q < l
          · rw [va _ (by omega), decide_eq_true c, Bool.true_and, beq_iff_eq]
            have := (gnP_le hr (i := q + gnP t q) (by omega)).1
            exact ⟨fun e => bi_inj (by omega) (by omega) e, fun e => by rw [e]⟩
          · rw [decide_eq_false c, Bool.false_and]
            have : inN (nI (q + gnP t q)) n = false := by rw [inN_n (by omega)]; exact decide_eq_false (by omega)
            unfold vaI
            rw [this]
            exact ⟨fun e => absurd e.symm hnn.2.1, fun e => by cases e⟩
        refine sp_pvalueAt (by omega) c5 ?_
        simp only [J71_0, J71_1, J71_4, J71_5, J71_8, J71_9, J71_10, J71_13, J71_14, J71_17, J71_18, J71_20, J71_21, J71_24, J71_25, J71_28, J71_30, J71_31, J71_64, J71_66, J71_67, J71_70, J71_71, J71_74, J71_77, J71_78, J71_81, J71_82, J71_83, J71_85, J71_88, J71_89, J71_92, J71_93, J71_96, J71_99, J71_100, J71_103, J71_104, J71_105, J71_107, J71_110, J71_111, J71_114, J71_115, J71_116, J71_119, J71_120, J71_123, J71_124, J71_127, J71_128, J71_129, J71_131, J71_134, J71_135, J71_138, J71_139, J71_140, J71_141, J71_144, J71_145, J71_148, J71_149, J71_152, J71_153, J71_154, J71_155, J71_158, J71_159, J71_162, J71_163, J71_166, J71_167, J71_168, J71_170, J71_173, J71_175, J71_176, J71_179, J71_180, J71_183, J71_184, J71_185, J71_186, am_gg_c, am_gf_c, am_pf_c, am_af_c, am_sf_c, am_bf_c, am_qf_c, am_ap_c, am_bp_c, am_qp_c, am_lf_c, am_kt_s, am_kt_n, am_wst, am_wstop, am_ns_0, am_ns_1, Bool.not_true, Bool.not_false, Bool.true_and, Bool.false_and, Nat.reduceBEq, ↓reduceIte, am_k2_n, am_k2_i, am_k2_r, am_k2_u, am_k2_f, am_k2_l, Nat.zero_le, true_and, and_true, true_or, or_true, am_cat_0, am_cat_i, am_cat_r, am_cat_l, am_cat_n, Nat.reduceLeDiff, Nat.reduceAdd, Option.isSome_some, List.getElem?_cons_zero, List.getElem?_cons_succ, am_fit_i, am_fit_r, am_fit_a, o1, p1]
        by_cases b1 : vaI t n (nI q - nI (gnP t q)) = nI (gnP t q)
        · rw [if_pos b1]
          rw [va1.mp b1] at hP
          simpa using hP
        · rw [if_neg b1]
          have b1' : (decide (gnP t q ≤ q) && gnP t (q - gnP t q) == gnP t q) = false := by
            cases z : (decide (gnP t q ≤ q) && gnP t (q - gnP t q) == gnP t q) with
            | false => rfl
            | true => exact absurd (va1.mpr z) b1
          rw [b1'] at hP
          refine sp_pvalueAt (by omega) c5 ?_
          simp only [J71_0, J71_1, J71_4, J71_5, J71_8, J71_9, J71_10, J71_13, J71_14, J71_17, J71_18, J71_20, J71_21, J71_24, J71_25, J71_28, J71_30, J71_31, J71_64, J71_66, J71_67, J71_70, J71_71, J71_74, J71_77, J71_78, J71_81, J71_82, J71_83, J71_85, J71_88, J71_89, J71_92, J71_93, J71_96, J71_99, J71_100, J71_103, J71_104, J71_105, J71_107, J71_110, J71_111, J71_114, J71_115, J71_116, J71_119, J71_120, J71_123, J71_124, J71_127, J71_128, J71_129, J71_131, J71_134, J71_135, J71_138, J71_139, J71_140, J71_141, J71_144, J71_145, J71_148, J71_149, J71_152, J71_153, J71_154, J71_155, J71_158, J71_159, J71_162, J71_163, J71_166, J71_167, J71_168, J71_170, J71_173, J71_175, J71_176, J71_179, J71_180, J71_183, J71_184, J71_185, J71_186, am_gg_c, am_gf_c, am_pf_c, am_af_c, am_sf_c, am_bf_c, am_qf_c, am_ap_c, am_bp_c, am_qp_c, am_lf_c, am_kt_s, am_kt_n, am_wst, am_wstop, am_ns_0, am_ns_1, Bool.not_true, Bool.not_false, Bool.true_and, Bool.false_and, Nat.reduceBEq, ↓reduceIte, am_k2_n, am_k2_i, am_k2_r, am_k2_u, am_k2_f, am_k2_l, Nat.zero_le, true_and, and_true, true_or, or_true, am_cat_0, am_cat_i, am_cat_r, am_cat_l, am_cat_n, Nat.reduceLeDiff, Nat.reduceAdd, Option.isSome_some, List.getElem?_cons_zero, List.getElem?_cons_succ, am_fit_i, am_fit_r, am_fit_a]
          by_cases b2 : vaI t n (nI q + nI (gnP t q)) = nI (gnP t q)
          · rw [if_pos b2]
            rw [va2.mp b2] at hP
            simpa using hP
          · rw [if_neg b2]
            have b2' : (decide (q + gnP t q < l) && gnP t (q + gnP t q) == gnP t q) = false := by
              cases z : (decide (q + gnP t q < l) && gnP t (q + gnP t q) == gnP t q) with
              | false => rfl
              | true => exact absurd (va2.mpr z) b2
            rw [b2'] at hP
            simpa [g0] using hP
    rw [if_neg r4] at hP
    rw [if_neg (fun e => r4 (s4.mp e)), if_pos (s5.mpr (by omega))]
    unfold bk5 at hP
    refine am_wps 60 [] ?_
    simp only [J71_0, J71_1, J71_4, J71_5, J71_8, J71_9, J71_10, J71_13, J71_14, J71_17, J71_18, J71_20, J71_21, J71_24, J71_25, J71_28, J71_30, J71_31, J71_64, J71_66, J71_67, J71_70, J71_71, J71_74, J71_77, J71_78, J71_81, J71_82, J71_83, J71_85, J71_88, J71_89, J71_92, J71_93, J71_96, J71_99, J71_100, J71_103, J71_104, J71_105, J71_107, J71_110, J71_111, J71_114, J71_115, J71_116, J71_119, J71_120, J71_123, J71_124, J71_127, J71_128, J71_129, J71_131, J71_134, J71_135, J71_138, J71_139, J71_140, J71_141, J71_144, J71_145, J71_148, J71_149, J71_152, J71_153, J71_154, J71_155, J71_158, J71_159, J71_162, J71_163, J71_166, J71_167, J71_168, J71_170, J71_173, J71_175, J71_176, J71_179, J71_180, J71_183, J71_184, J71_185, J71_186, am_gg_c, am_gf_c, am_pf_c, am_af_c, am_sf_c, am_bf_c, am_qf_c, am_ap_c, am_bp_c, am_qp_c, am_lf_c, am_kt_s, am_kt_n, am_wst, am_wstop, am_ns_0, am_ns_1, Bool.not_true, Bool.not_false, Bool.true_and, Bool.false_and, Nat.reduceBEq, ↓reduceIte, am_k2_n, am_k2_i, am_k2_r, am_k2_u, am_k2_f, am_k2_l, Nat.zero_le, true_and, and_true, true_or, or_true, am_cat_0, am_cat_i, am_cat_r, am_cat_l, am_cat_n, Nat.reduceLeDiff, Nat.reduceAdd, Option.isSome_some, List.getElem?_cons_zero, List.getElem?_cons_succ, am_fit_i, am_fit_r, am_fit_a]
    by_cases f0 : f q = 0
    · rw [if_pos (by rw [f0]; rfl)]
      rw [f0] at hP
      simpa using hP
    · rw [if_neg (by rw [bi_eq0 (by omega)]; exact f0)]
      by_cases f1 : f q = gnP t q
      · rw [if_pos (by rw [f1])]
        rw [f1] at hP
        simpa using hP
      · rw [if_neg (fun e => f1 (bi_inj (by omega) (by omega) e))]
        simpa [f0, f1] using hP
  refine B71 60 [30] ?_
  simp only [J71_0, J71_1, J71_4, J71_5, J71_8, J71_9, J71_10, J71_13, J71_14, J71_17, J71_18, J71_20, J71_21, J71_24, J71_25, J71_28, J71_30, J71_31, J71_64, J71_66, J71_67, J71_70, J71_71, J71_74, J71_77, J71_78, J71_81, J71_82, J71_83, J71_85, J71_88, J71_89, J71_92, J71_93, J71_96, J71_99, J71_100, J71_103, J71_104, J71_105, J71_107, J71_110, J71_111, J71_114, J71_115, J71_116, J71_119, J71_120, J71_123, J71_124, J71_127, J71_128, J71_129, J71_131, J71_134, J71_135, J71_138, J71_139, J71_140, J71_141, J71_144, J71_145, J71_148, J71_149, J71_152, J71_153, J71_154, J71_155, J71_158, J71_159, J71_162, J71_163, J71_166, J71_167, J71_168, J71_170, J71_173, J71_175, J71_176, J71_179, J71_180, J71_183, J71_184, J71_185, J71_186, am_gg_c, am_gf_c, am_pf_c, am_af_c, am_sf_c, am_bf_c, am_qf_c, am_ap_c, am_bp_c, am_qp_c, am_lf_c, am_kt_s, am_kt_n, am_wst, am_wstop, am_ns_0, am_ns_1, Bool.not_true, Bool.not_false, Bool.true_and, Bool.false_and, Nat.reduceBEq, ↓reduceIte, am_k2_n, am_k2_i, am_k2_r, am_k2_u, am_k2_f, am_k2_l, Nat.zero_le, true_and, and_true, true_or, or_true, am_cat_0, am_cat_i, am_cat_r, am_cat_l, am_cat_n, Nat.reduceLeDiff, Nat.reduceAdd, Option.isSome_some, List.getElem?_cons_zero, List.getElem?_cons_succ, am_fit_i, am_fit_r, am_fit_a, o1, p1]
  refine sp_pvalueAt (by omega) c5 ?_
  rw [va q hq]
  simp only [J71_0, J71_1, J71_4, J71_5, J71_8, J71_9, J71_10, J71_13, J71_14, J71_17, J71_18, J71_20, J71_21, J71_24, J71_25, J71_28, J71_30, J71_31, J71_64, J71_66, J71_67, J71_70, J71_71, J71_74, J71_77, J71_78, J71_81, J71_82, J71_83, J71_85, J71_88, J71_89, J71_92, J71_93, J71_96, J71_99, J71_100, J71_103, J71_104, J71_105, J71_107, J71_110, J71_111, J71_114, J71_115, J71_116, J71_119, J71_120, J71_123, J71_124, J71_127, J71_128, J71_129, J71_131, J71_134, J71_135, J71_138, J71_139, J71_140, J71_141, J71_144, J71_145, J71_148, J71_149, J71_152, J71_153, J71_154, J71_155, J71_158, J71_159, J71_162, J71_163, J71_166, J71_167, J71_168, J71_170, J71_173, J71_175, J71_176, J71_179, J71_180, J71_183, J71_184, J71_185, J71_186, am_gg_c, am_gf_c, am_pf_c, am_af_c, am_sf_c, am_bf_c, am_qf_c, am_ap_c, am_bp_c, am_qp_c, am_lf_c, am_kt_s, am_kt_n, am_wst, am_wstop, am_ns_0, am_ns_1, Bool.not_true, Bool.not_false, Bool.true_and, Bool.false_and, Nat.reduceBEq, ↓reduceIte, am_k2_n, am_k2_i, am_k2_r, am_k2_u, am_k2_f, am_k2_l, Nat.zero_le, true_and, and_true, true_or, or_true, am_cat_0, am_cat_i, am_cat_r, am_cat_l, am_cat_n, Nat.reduceLeDiff, Nat.reduceAdd, Option.isSome_some, List.getElem?_cons_zero, List.getElem?_cons_succ, am_fit_i, am_fit_r, am_fit_a, o1, q1]
  by_cases g0 : gnP t q = 0
  · rw [if_pos (hg0.mpr g0)]
    refine sp_pinAt (by omega) c2 ?_
    rw [inN_n (by omega), decide_eq_true hq, if_pos rfl, nI_clamp (by omega)]
    simp only [J71_0, J71_1, J71_4, J71_5, J71_8, J71_9, J71_10, J71_13, J71_14, J71_17, J71_18, J71_20, J71_21, J71_24, J71_25, J71_28, J71_30, J71_31, J71_64, J71_66, J71_67, J71_70, J71_71, J71_74, J71_77, J71_78, J71_81, J71_82, J71_83, J71_85, J71_88, J71_89, J71_92, J71_93, J71_96, J71_99, J71_100, J71_103, J71_104, J71_105, J71_107, J71_110, J71_111, J71_114, J71_115, J71_116, J71_119, J71_120, J71_123, J71_124, J71_127, J71_128, J71_129, J71_131, J71_134, J71_135, J71_138, J71_139, J71_140, J71_141, J71_144, J71_145, J71_148, J71_149, J71_152, J71_153, J71_154, J71_155, J71_158, J71_159, J71_162, J71_163, J71_166, J71_167, J71_168, J71_170, J71_173, J71_175, J71_176, J71_179, J71_180, J71_183, J71_184, J71_185, J71_186, am_gg_c, am_gf_c, am_pf_c, am_af_c, am_sf_c, am_bf_c, am_qf_c, am_ap_c, am_bp_c, am_qp_c, am_lf_c, am_kt_s, am_kt_n, am_wst, am_wstop, am_ns_0, am_ns_1, Bool.not_true, Bool.not_false, Bool.true_and, Bool.false_and, Nat.reduceBEq, ↓reduceIte, am_k2_n, am_k2_i, am_k2_r, am_k2_u, am_k2_f, am_k2_l, Nat.zero_le, true_and, and_true, true_or, or_true, am_cat_0, am_cat_i, am_cat_r, am_cat_l, am_cat_n, Nat.reduceLeDiff, Nat.reduceAdd, Option.isSome_some, List.getElem?_cons_zero, List.getElem?_cons_succ, am_fit_i, am_fit_r, am_fit_a]
    have := hole _ rfl
    rw [if_pos g0] at this
    exact this
  · rw [if_neg (fun e => g0 (hg0.mp e))]
    refine sp_pinAt (by omega) c2 ?_
    rw [inN_n (by omega), decide_eq_true hq, if_pos rfl, nI_clamp (by omega)]
    simp only [J71_0, J71_1, J71_4, J71_5, J71_8, J71_9, J71_10, J71_13, J71_14, J71_17, J71_18, J71_20, J71_21, J71_24, J71_25, J71_28, J71_30, J71_31, J71_64, J71_66, J71_67, J71_70, J71_71, J71_74, J71_77, J71_78, J71_81, J71_82, J71_83, J71_85, J71_88, J71_89, J71_92, J71_93, J71_96, J71_99, J71_100, J71_103, J71_104, J71_105, J71_107, J71_110, J71_111, J71_114, J71_115, J71_116, J71_119, J71_120, J71_123, J71_124, J71_127, J71_128, J71_129, J71_131, J71_134, J71_135, J71_138, J71_139, J71_140, J71_141, J71_144, J71_145, J71_148, J71_149, J71_152, J71_153, J71_154, J71_155, J71_158, J71_159, J71_162, J71_163, J71_166, J71_167, J71_168, J71_170, J71_173, J71_175, J71_176, J71_179, J71_180, J71_183, J71_184, J71_185, J71_186, am_gg_c, am_gf_c, am_pf_c, am_af_c, am_sf_c, am_bf_c, am_qf_c, am_ap_c, am_bp_c, am_qp_c, am_lf_c, am_kt_s, am_kt_n, am_wst, am_wstop, am_ns_0, am_ns_1, Bool.not_true, Bool.not_false, Bool.true_and, Bool.false_and, Nat.reduceBEq, ↓reduceIte, am_k2_n, am_k2_i, am_k2_r, am_k2_u, am_k2_f, am_k2_l, Nat.zero_le, true_and, and_true, true_or, or_true, am_cat_0, am_cat_i, am_cat_r, am_cat_l, am_cat_n, Nat.reduceLeDiff, Nat.reduceAdd, Option.isSome_some, List.getElem?_cons_zero, List.getElem?_cons_succ, am_fit_i, am_fit_r, am_fit_a]
    have := hole _ rfl
    rw [if_neg g0] at this
    exact this
end CTX
