theorem am_alen_ra {G : am_H} {k n : Nat} {z : Nat → Option Nat} (h : am_ra G k = some (n, z)) : am_alen G k = some n := by simp [am_alen, am_ra_s h]
theorem va_rf_s {k : Nat} : va_rf (some k) = .ref k := rfl
section CSV
variable {X : Nat × (Nat → Int32)} {D : Nat} {G : am_H} {P : Option Value → am_H → Prop} {l h d : Nat} {f : Nat → Nat} {n : Nat} {t : Nat → Int32} {s : Nat → Option PT} {old : Bool}
theorem sp_keptIn {x : Int32} (hD : 1 ≤ D) (hC : CSs G l h d f n t s old) (h0 : x = nI 0 → P (some (.ref 19)) G) (h1 : x = nI 1 → P (some (.ref 21)) G) (h2 : inN x 2 = false → P (some .null) G) : am_CB X D 87 [.ref 0, .int x] G P := by
  obtain ⟨D, rfl⟩ : ∃ D0, D = D0 + 1 := ⟨D - 1, by omega⟩
  have o1 := hC.1
  unfold CO at o1
  obtain ⟨z, z1, z2, z3⟩ := hC.2.2.2.2.2.2.2.1
  have t0 : (0 : Int32).toInt = 0 := rfl
  have t2 : (Int32.ofNat 2).toInt = 2 := rfl
  refine B87 60 [] ?_
  simp only [J87_0, J87_1, J87_4, J87_5, J87_5n, J87_6, J87_9, J87_10, J87_13, J87_13n, J87_14, J87_17, J87_18, J87_19, J87_22, J87_23, J87_23n, am_gg_c, am_gf_c, am_pf_c, am_af_c, am_sf_c, am_bf_c, am_qf_c, am_ap_c, am_bp_c, am_qp_c, am_lf_c, am_kt_s, am_kt_n, am_wst, am_wstop, am_ns_0, am_ns_1, Bool.not_true, Bool.not_false, Bool.true_and, Bool.false_and, Nat.reduceBEq, ↓reduceIte, am_k2_n, am_k2_i, am_k2_r, am_k2_u, am_k2_f, am_k2_l, Nat.zero_le, true_and, and_true, true_or, or_true, am_cat_0, am_cat_i, am_cat_r, am_cat_l, am_cat_n, Nat.reduceLeDiff, Nat.reduceAdd, Option.isSome_some, List.getElem?_cons_zero, List.getElem?_cons_succ, am_fit_i, am_fit_r, am_fit_a, o1, z1, am_alen_ra z1]
  by_cases c : x.toInt < 0
  · rw [if_pos (by rw [bi_lt]; omega)]
    exact h2 (decide_eq_false (by omega))
  · rw [if_neg (by rw [bi_lt]; omega)]
    by_cases c2 : x.toInt < 2
    · rw [if_pos (by rw [bi_lt]; omega)]
      obtain ⟨e, _⟩ := bi_nat (x := x) (by omega)
      have hk : x.toInt.toNat = 0 ∨ x.toInt.toNat = 1 := by omega
      rcases hk with hk | hk
      · rw [hk] at e
        subst e
        refine ⟨vp_in_n (by omega) (by omega), ?_⟩
        rw [nI_clamp (by omega), z2, va_rf_s]
        simp only [J87_0, J87_1, J87_4, J87_5, J87_5n, J87_6, J87_9, J87_10, J87_13, J87_13n, J87_14, J87_17, J87_18, J87_19, J87_22, J87_23, J87_23n, am_gg_c, am_gf_c, am_pf_c, am_af_c, am_sf_c, am_bf_c, am_qf_c, am_ap_c, am_bp_c, am_qp_c, am_lf_c, am_kt_s, am_kt_n, am_wst, am_wstop, am_ns_0, am_ns_1, Bool.not_true, Bool.not_false, Bool.true_and, Bool.false_and, Nat.reduceBEq, ↓reduceIte, am_k2_n, am_k2_i, am_k2_r, am_k2_u, am_k2_f, am_k2_l, Nat.zero_le, true_and, and_true, true_or, or_true, am_cat_0, am_cat_i, am_cat_r, am_cat_l, am_cat_n, Nat.reduceLeDiff, Nat.reduceAdd, Option.isSome_some, List.getElem?_cons_zero, List.getElem?_cons_succ, am_fit_i, am_fit_r, am_fit_a]
        exact h0 rfl
      · rw [hk] at e
        subst e
        refine ⟨vp_in_n (by omega) (by omega), ?_⟩
        rw [nI_clamp (by omega), z3, va_rf_s]
        simp only [J87_0, J87_1, J87_4, J87_5, J87_5n, J87_6, J87_9, J87_10, J87_13, J87_13n, J87_14, J87_17, J87_18, J87_19, J87_22, J87_23, J87_23n, am_gg_c, am_gf_c, am_pf_c, am_af_c, am_sf_c, am_bf_c, am_qf_c, am_ap_c, am_bp_c, am_qp_c, am_lf_c, am_kt_s, am_kt_n, am_wst, am_wstop, am_ns_0, am_ns_1, Bool.not_true, Bool.not_false, Bool.true_and, Bool.false_and, Nat.reduceBEq, ↓reduceIte, am_k2_n, am_k2_i, am_k2_r, am_k2_u, am_k2_f, am_k2_l, Nat.zero_le, true_and, and_true, true_or, or_true, am_cat_0, am_cat_i, am_cat_r, am_cat_l, am_cat_n, Nat.reduceLeDiff, Nat.reduceAdd, Option.isSome_some, List.getElem?_cons_zero, List.getElem?_cons_succ, am_fit_i, am_fit_r, am_fit_a]
        exact h1 rfl
    · rw [if_neg (by rw [bi_lt]; omega)]
      exact h2 (decide_eq_false (by omega))
theorem kp_any {k pk : Nat} {o : Option PT} (h : KP G k pk o) : ∃ l0 h0 d0 f0, PB G k pk l0 h0 d0 f0 := by
  cases o with
  | none => obtain ⟨a, b, c, e⟩ := h; exact ⟨0, a, b, c, e⟩
  | some q => exact ⟨_, _, _, _, h⟩
theorem cs_kept {G' : am_H} {s' : Nat → Option PT} {ks : List Nat} (hC : CSs G l h d f n t s old) (hF : Fr ks G G') (hk : ∀ j, j ∈ ks → 19 ≤ j) (h1 : KS G' s') : CSs G' l h d f n t s' old := by
  have hn : ∀ j, j < 19 → ¬ j ∈ ks := fun j hj hm => by have := hk j hm; omega
  obtain ⟨a, b, c, e, g, i, j, k⟩ := hC
  exact ⟨a.fr hF (hn 0 (by omega)), b.fr hF (hn 1 (by omega)) (hn 2 (by omega)), c.fr hF (hn 3 (by omega)) (hn 4 (by omega)) (hn 5 (by omega)) (hn 6 (by omega)), e.fr hF (hn 7 (by omega)) (hn 8 (by omega)) (hn 9 (by omega)), g.fr hF (hn 10 (by omega)) (hn 11 (by omega)), i.fr hF (hn 12 (by omega)) (hn 13 (by omega)), j.fr hF (hn 14 (by omega)) (hn 15 (by omega)) (hn 16 (by omega)) (hn 17 (by omega)), h1⟩
theorem sp_csave {x : Int32} (hD : 4 ≤ D) (hC : CSs G l h d f n t s old) (hP : ∀ o' G', CSs G' l h d f n t (svS x (l, h, d, f) s) o' → Fr kC G G' → P (some (.int (svV x l))) G') : am_CB X D 85 [.ref 0, .int x] G P := by
  obtain ⟨D, rfl⟩ : ∃ D0, D = D0 + 1 := ⟨D - 1, by omega⟩
  have o1 := hC.1
  unfold CO at o1
  have c2 := hC.2.1
  obtain ⟨⟨z, z1, z2⟩, k0, k1⟩ := hC.2.2.2.2.2.2.2
  unfold svS svV at hP
  refine B85 60 [] ?_
  simp only [J85_0, J85_0n, J85_1, J85_2, J85_5, J85_6, J85_6n, J85_7, J85_7n, J85_10, J85_12, J85_13, J85_13n, J85_14, J85_14n, J85_15, J85_18, J85_21, J85_21n, J85_22, J85_25, J85_28, am_gg_c, am_gf_c, am_pf_c, am_af_c, am_sf_c, am_bf_c, am_qf_c, am_ap_c, am_bp_c, am_qp_c, am_lf_c, am_kt_s, am_kt_n, am_wst, am_wstop, am_ns_0, am_ns_1, Bool.not_true, Bool.not_false, Bool.true_and, Bool.false_and, Nat.reduceBEq, ↓reduceIte, am_k2_n, am_k2_i, am_k2_r, am_k2_u, am_k2_f, am_k2_l, Nat.zero_le, true_and, and_true, true_or, or_true, am_cat_0, am_cat_i, am_cat_r, am_cat_l, am_cat_n, Nat.reduceLeDiff, Nat.reduceAdd, Option.isSome_some, List.getElem?_cons_zero, List.getElem?_cons_succ, am_fit_i, am_fit_r, am_fit_a, JN_X4_save, o1]
  refine sp_keptIn (by omega) hC (fun e => ?_) (fun e => ?_) (fun e => ?_)
  · subst e
    simp only [inN_n (show 0 < 2 ^ 31 by omega), nI_toInt (show 0 < 2 ^ 31 by omega), Int.toNat_natCast, show decide (0 < 2) = true by rfl, if_true] at hP
    obtain ⟨l0, h0, d0, f0, kb⟩ := kp_any k0
    have kb1 := kb.1
    simp only [J85_0, J85_0n, J85_1, J85_2, J85_5, J85_6, J85_6n, J85_7, J85_7n, J85_10, J85_12, J85_13, J85_13n, J85_14, J85_14n, J85_15, J85_18, J85_21, J85_21n, J85_22, J85_25, J85_28, am_gg_c, am_gf_c, am_pf_c, am_af_c, am_sf_c, am_bf_c, am_qf_c, am_ap_c, am_bp_c, am_qp_c, am_lf_c, am_kt_s, am_kt_n, am_wst, am_wstop, am_ns_0, am_ns_1, Bool.not_true, Bool.not_false, Bool.true_and, Bool.false_and, Nat.reduceBEq, ↓reduceIte, am_k2_n, am_k2_i, am_k2_r, am_k2_u, am_k2_f, am_k2_l, Nat.zero_le, true_and, and_true, true_or, or_true, am_cat_0, am_cat_i, am_cat_r, am_cat_l, am_cat_n, Nat.reduceLeDiff, Nat.reduceAdd, Option.isSome_some, List.getElem?_cons_zero, List.getElem?_cons_succ, am_fit_i, am_fit_r, am_fit_a, JN_X4_save, o1, kb1]
    refine sp_copy (by omega) (by decide) c2 kb (fun G1 b1 b2 => ?_)
    have o2 : am_ob G1 0 4 = some [.ref 1, .ref 3, .ref 7, .ref 10, .ref 12, .ref 14, .ref 18, .int (if old = true then 1 else 0)] := by rw [b2.ob (by decide)]; exact o1
    have p2 := (c2.fr b2 (by decide) (by decide)).1
    simp only [J85_0, J85_0n, J85_1, J85_2, J85_5, J85_6, J85_6n, J85_7, J85_7n, J85_10, J85_12, J85_13, J85_13n, J85_14, J85_14n, J85_15, J85_18, J85_21, J85_21n, J85_22, J85_25, J85_28, am_gg_c, am_gf_c, am_pf_c, am_af_c, am_sf_c, am_bf_c, am_qf_c, am_ap_c, am_bp_c, am_qp_c, am_lf_c, am_kt_s, am_kt_n, am_wst, am_wstop, am_ns_0, am_ns_1, Bool.not_true, Bool.not_false, Bool.true_and, Bool.false_and, Nat.reduceBEq, ↓reduceIte, am_k2_n, am_k2_i, am_k2_r, am_k2_u, am_k2_f, am_k2_l, Nat.zero_le, true_and, and_true, true_or, or_true, am_cat_0, am_cat_i, am_cat_r, am_cat_l, am_cat_n, Nat.reduceLeDiff, Nat.reduceAdd, Option.isSome_some, List.getElem?_cons_zero, List.getElem?_cons_succ, am_fit_i, am_fit_r, am_fit_a, o2, p2]
    refine hP _ G1 (cs_kept hC b2 (by decide) ⟨⟨z, by rw [b2.ra (by decide)]; exact z1, z2⟩, ?_, ?_⟩) (b2.up (by decide))
    · exact b1
    · exact k1.fr b2 (by decide) (by decide)
  · subst e
    simp only [inN_n (show 1 < 2 ^ 31 by omega), nI_toInt (show 1 < 2 ^ 31 by omega), Int.toNat_natCast, show decide (1 < 2) = true by rfl, if_true] at hP
    obtain ⟨l0, h0, d0, f0, kb⟩ := kp_any k1
    have kb1 := kb.1
    simp only [J85_0, J85_0n, J85_1, J85_2, J85_5, J85_6, J85_6n, J85_7, J85_7n, J85_10, J85_12, J85_13, J85_13n, J85_14, J85_14n, J85_15, J85_18, J85_21, J85_21n, J85_22, J85_25, J85_28, am_gg_c, am_gf_c, am_pf_c, am_af_c, am_sf_c, am_bf_c, am_qf_c, am_ap_c, am_bp_c, am_qp_c, am_lf_c, am_kt_s, am_kt_n, am_wst, am_wstop, am_ns_0, am_ns_1, Bool.not_true, Bool.not_false, Bool.true_and, Bool.false_and, Nat.reduceBEq, ↓reduceIte, am_k2_n, am_k2_i, am_k2_r, am_k2_u, am_k2_f, am_k2_l, Nat.zero_le, true_and, and_true, true_or, or_true, am_cat_0, am_cat_i, am_cat_r, am_cat_l, am_cat_n, Nat.reduceLeDiff, Nat.reduceAdd, Option.isSome_some, List.getElem?_cons_zero, List.getElem?_cons_succ, am_fit_i, am_fit_r, am_fit_a, JN_X4_save, o1, kb1]
    refine sp_copy (by omega) (by decide) c2 kb (fun G1 b1 b2 => ?_)
    have o2 : am_ob G1 0 4 = some [.ref 1, .ref 3, .ref 7, .ref 10, .ref 12, .ref 14, .ref 18, .int (if old = true then 1 else 0)] := by rw [b2.ob (by decide)]; exact o1
    have p2 := (c2.fr b2 (by decide) (by decide)).1
    simp only [J85_0, J85_0n, J85_1, J85_2, J85_5, J85_6, J85_6n, J85_7, J85_7n, J85_10, J85_12, J85_13, J85_13n, J85_14, J85_14n, J85_15, J85_18, J85_21, J85_21n, J85_22, J85_25, J85_28, am_gg_c, am_gf_c, am_pf_c, am_af_c, am_sf_c, am_bf_c, am_qf_c, am_ap_c, am_bp_c, am_qp_c, am_lf_c, am_kt_s, am_kt_n, am_wst, am_wstop, am_ns_0, am_ns_1, Bool.not_true, Bool.not_false, Bool.true_and, Bool.false_and, Nat.reduceBEq, ↓reduceIte, am_k2_n, am_k2_i, am_k2_r, am_k2_u, am_k2_f, am_k2_l, Nat.zero_le, true_and, and_true, true_or, or_true, am_cat_0, am_cat_i, am_cat_r, am_cat_l, am_cat_n, Nat.reduceLeDiff, Nat.reduceAdd, Option.isSome_some, List.getElem?_cons_zero, List.getElem?_cons_succ, am_fit_i, am_fit_r, am_fit_a, o2, p2]
    refine hP _ G1 (cs_kept hC b2 (by decide) ⟨⟨z, by rw [b2.ra (by decide)]; exact z1, z2⟩, ?_, ?_⟩) (b2.up (by decide))
    · exact k0.fr b2 (by decide) (by decide)
    · exact b1
  · rw [e] at hP
    simp only [J85_0, J85_0n, J85_1, J85_2, J85_5, J85_6, J85_6n, J85_7, J85_7n, J85_10, J85_12, J85_13, J85_13n, J85_14, J85_14n, J85_15, J85_18, J85_21, J85_21n, J85_22, J85_25, J85_28, am_gg_c, am_gf_c, am_pf_c, am_af_c, am_sf_c, am_bf_c, am_qf_c, am_ap_c, am_bp_c, am_qp_c, am_lf_c, am_kt_s, am_kt_n, am_wst, am_wstop, am_ns_0, am_ns_1, Bool.not_true, Bool.not_false, Bool.true_and, Bool.false_and, Nat.reduceBEq, ↓reduceIte, am_k2_n, am_k2_i, am_k2_r, am_k2_u, am_k2_f, am_k2_l, Nat.zero_le, true_and, and_true, true_or, or_true, am_cat_0, am_cat_i, am_cat_r, am_cat_l, am_cat_n, Nat.reduceLeDiff, Nat.reduceAdd, Option.isSome_some, List.getElem?_cons_zero, List.getElem?_cons_succ, am_fit_i, am_fit_r, am_fit_a, JN_X4_save]
    exact hP _ G hC Fr.rf
theorem sp_crestore {x : Int32} (hD : 4 ≤ D) (hws : ∀ i q, i < 2 → s i = some q → WF q) (hC : CSs G l h d f n t s old) (hP : ∀ o' G', CSs G' (rsS x (l, h, d, f) s).1 (rsS x (l, h, d, f) s).2.1 (rsS x (l, h, d, f) s).2.2.1 (rsS x (l, h, d, f) s).2.2.2 n t s o' → Fr kC G G' → P (some (.int (rsV x s))) G') : am_CB X D 86 [.ref 0, .int x] G P := by
  obtain ⟨D, rfl⟩ : ∃ D0, D = D0 + 1 := ⟨D - 1, by omega⟩
  have o1 := hC.1
  unfold CO at o1
  have c2 := hC.2.1
  have p1 := c2.1
  obtain ⟨⟨z, z1, z2⟩, k0, k1⟩ := id hC.2.2.2.2.2.2.2
  unfold rsS rsV at hP
  have fin : ∀ (q : PT) (kp pp : Nat), PB G kp pp q.1 q.2.1 q.2.2.1 q.2.2.2 → (1 ≠ 2 ∧ 1 ≠ pp ∧ 2 ≠ kp ∧ 2 ≠ pp ∧ 1 ≠ kp) → kp ≠ 0 → 1 ≤ q.1 → q.1 ≤ 18 → (∀ o' G', CSs G' q.1 q.2.1 q.2.2.1 q.2.2.2 n t s o' → Fr kC G G' → P (some (.int (nI q.1))) G') → am_WP X D 86 6 [some (.ref 0), some (.int x), some (.ref kp)] [] G 0 0 P := by
    intro q kp pp hb hne hk0 hq1 hq18 hP'
    have kb1 := hb.1
    refine am_wps 60 [] ?_
    simp only [J86_0, J86_0n, J86_1, J86_2, J86_5, J86_6, J86_6n, J86_7, J86_7n, J86_10, J86_12, J86_13, J86_13n, J86_14, J86_17, J86_20, J86_22, J86_23, J86_23n, J86_24, J86_27, J86_27n, J86_28, J86_31, J86_31n, J86_32, J86_33, J86_36, J86_36n, J86_37, J86_40, J86_43, am_gg_c, am_gf_c, am_pf_c, am_af_c, am_sf_c, am_bf_c, am_qf_c, am_ap_c, am_bp_c, am_qp_c, am_lf_c, am_kt_s, am_kt_n, am_wst, am_wstop, am_ns_0, am_ns_1, Bool.not_true, Bool.not_false, Bool.true_and, Bool.false_and, Nat.reduceBEq, ↓reduceIte, am_k2_n, am_k2_i, am_k2_r, am_k2_u, am_k2_f, am_k2_l, Nat.zero_le, true_and, and_true, true_or, or_true, am_cat_0, am_cat_i, am_cat_r, am_cat_l, am_cat_n, Nat.reduceLeDiff, Nat.reduceAdd, Option.isSome_some, List.getElem?_cons_zero, List.getElem?_cons_succ, am_fit_i, am_fit_r, am_fit_a, o1, kb1, p1]
    rw [if_neg (by rw [bi_eq0 (by omega)]; omega)]
    refine sp_copy (by omega) hne hb c2 (fun G1 b1 b2 => ?_)
    have o2 : am_ob G1 0 4 = some [.ref 1, .ref 3, .ref 7, .ref 10, .ref 12, .ref 14, .ref 18, .int (if old = true then 1 else 0)] := by rw [b2.ob (by decide)]; exact o1
    have k0' := am_ob_lt o2
    have p2 := b1.1
    have hF2 : ∀ c, Fr [0] G1 (G1.set 0 c) := fun c => Fr.set (by decide)
    simp only [J86_0, J86_0n, J86_1, J86_2, J86_5, J86_6, J86_6n, J86_7, J86_7n, J86_10, J86_12, J86_13, J86_13n, J86_14, J86_17, J86_20, J86_22, J86_23, J86_23n, J86_24, J86_27, J86_27n, J86_28, J86_31, J86_31n, J86_32, J86_33, J86_36, J86_36n, J86_37, J86_40, J86_43, am_gg_c, am_gf_c, am_pf_c, am_af_c, am_sf_c, am_bf_c, am_qf_c, am_ap_c, am_bp_c, am_qp_c, am_lf_c, am_kt_s, am_kt_n, am_wst, am_wstop, am_ns_0, am_ns_1, Bool.not_true, Bool.not_false, Bool.true_and, Bool.false_and, Nat.reduceBEq, ↓reduceIte, am_k2_n, am_k2_i, am_k2_r, am_k2_u, am_k2_f, am_k2_l, Nat.zero_le, true_and, and_true, true_or, or_true, am_cat_0, am_cat_i, am_cat_r, am_cat_l, am_cat_n, Nat.reduceLeDiff, Nat.reduceAdd, Option.isSome_some, List.getElem?_cons_zero, List.getElem?_cons_succ, am_fit_i, am_fit_r, am_fit_a, o2, am_fit_b, List.length_cons, List.length_nil, Nat.reduceLT, List.set_cons_succ, List.set_cons_zero, am_ob_ss, k0', am_ob_sn (show 0 ≠ 1 by decide), p2]
    have hFF : Fr [0, 1, 2] G (G1.set 0 (am_o 4 [.ref 1, .ref 3, .ref 7, .ref 10, .ref 12, .ref 14, .ref 18, .int 1])) := (b2.up (by decide)).tr ((hF2 _).up (by decide))
    exact hP' _ _ (cs_new hC hFF (am_ob_ss k0') (b1.fr (hF2 _) (by decide) (by decide))) (hFF.up (by decide))
  have finN : ∀ (kp pp : Nat), (∃ h d f, PB G kp pp 0 h d f) → P (some (.int (-5))) G → am_WP X D 86 6 [some (.ref 0), some (.int x), some (.ref kp)] [] G 0 0 P := by
    intro kp pp hb hP'
    obtain ⟨h0, d0, f0, hb⟩ := hb
    have kb1 := hb.1
    refine am_wps 60 [] ?_
    simp only [J86_0, J86_0n, J86_1, J86_2, J86_5, J86_6, J86_6n, J86_7, J86_7n, J86_10, J86_12, J86_13, J86_13n, J86_14, J86_17, J86_20, J86_22, J86_23, J86_23n, J86_24, J86_27, J86_27n, J86_28, J86_31, J86_31n, J86_32, J86_33, J86_36, J86_36n, J86_37, J86_40, J86_43, am_gg_c, am_gf_c, am_pf_c, am_af_c, am_sf_c, am_bf_c, am_qf_c, am_ap_c, am_bp_c, am_qp_c, am_lf_c, am_kt_s, am_kt_n, am_wst, am_wstop, am_ns_0, am_ns_1, Bool.not_true, Bool.not_false, Bool.true_and, Bool.false_and, Nat.reduceBEq, ↓reduceIte, am_k2_n, am_k2_i, am_k2_r, am_k2_u, am_k2_f, am_k2_l, Nat.zero_le, true_and, and_true, true_or, or_true, am_cat_0, am_cat_i, am_cat_r, am_cat_l, am_cat_n, Nat.reduceLeDiff, Nat.reduceAdd, Option.isSome_some, List.getElem?_cons_zero, List.getElem?_cons_succ, am_fit_i, am_fit_r, am_fit_a, o1, kb1, p1]
    rw [if_pos (by rfl)]
    exact hP'
  refine B86 60 [6] ?_
  simp only [J86_0, J86_0n, J86_1, J86_2, J86_5, J86_6, J86_6n, J86_7, J86_7n, J86_10, J86_12, J86_13, J86_13n, J86_14, J86_17, J86_20, J86_22, J86_23, J86_23n, J86_24, J86_27, J86_27n, J86_28, J86_31, J86_31n, J86_32, J86_33, J86_36, J86_36n, J86_37, J86_40, J86_43, JN_X4_restore, am_gg_c, am_gf_c, am_pf_c, am_af_c, am_sf_c, am_bf_c, am_qf_c, am_ap_c, am_bp_c, am_qp_c, am_lf_c, am_kt_s, am_kt_n, am_wst, am_wstop, am_ns_0, am_ns_1, Bool.not_true, Bool.not_false, Bool.true_and, Bool.false_and, Nat.reduceBEq, ↓reduceIte, am_k2_n, am_k2_i, am_k2_r, am_k2_u, am_k2_f, am_k2_l, Nat.zero_le, true_and, and_true, true_or, or_true, am_cat_0, am_cat_i, am_cat_r, am_cat_l, am_cat_n, Nat.reduceLeDiff, Nat.reduceAdd, Option.isSome_some, List.getElem?_cons_zero, List.getElem?_cons_succ, am_fit_i, am_fit_r, am_fit_a, o1]
  refine sp_keptIn (by omega) hC (fun e => ?_) (fun e => ?_) (fun e => ?_)
  · subst e
    simp only [inN_n (show 0 < 2 ^ 31 by omega), nI_toInt (show 0 < 2 ^ 31 by omega), Int.toNat_natCast, show decide (0 < 2) = true by rfl, if_true] at hP
    simp only [J86_0, J86_0n, J86_1, J86_2, J86_5, J86_6, J86_6n, J86_7, J86_7n, J86_10, J86_12, J86_13, J86_13n, J86_14, J86_17, J86_20, J86_22, J86_23, J86_23n, J86_24, J86_27, J86_27n, J86_28, J86_31, J86_31n, J86_32, J86_33, J86_36, J86_36n, J86_37, J86_40, J86_43, JN_X4_restore, am_gg_c, am_gf_c, am_pf_c, am_af_c, am_sf_c, am_bf_c, am_qf_c, am_ap_c, am_bp_c, am_qp_c, am_lf_c, am_kt_s, am_kt_n, am_wst, am_wstop, am_ns_0, am_ns_1, Bool.not_true, Bool.not_false, Bool.true_and, Bool.false_and, Nat.reduceBEq, ↓reduceIte, am_k2_n, am_k2_i, am_k2_r, am_k2_u, am_k2_f, am_k2_l, Nat.zero_le, true_and, and_true, true_or, or_true, am_cat_0, am_cat_i, am_cat_r, am_cat_l, am_cat_n, Nat.reduceLeDiff, Nat.reduceAdd, Option.isSome_some, List.getElem?_cons_zero, List.getElem?_cons_succ, am_fit_i, am_fit_r, am_fit_a]
    cases hs : s 0 with
    | none =>
      rw [hs] at hP k0
      exact finN 19 20 k0 (hP _ G hC Fr.rf)
    | some q =>
      rw [hs] at hP k0
      have hq := hws 0 q (by omega) hs
      exact fin q 19 20 k0 (by decide) (by decide) hq.1 hq.2.1 hP
  · subst e
    simp only [inN_n (show 1 < 2 ^ 31 by omega), nI_toInt (show 1 < 2 ^ 31 by omega), Int.toNat_natCast, show decide (1 < 2) = true by rfl, if_true] at hP
    simp only [J86_0, J86_0n, J86_1, J86_2, J86_5, J86_6, J86_6n, J86_7, J86_7n, J86_10, J86_12, J86_13, J86_13n, J86_14, J86_17, J86_20, J86_22, J86_23, J86_23n, J86_24, J86_27, J86_27n, J86_28, J86_31, J86_31n, J86_32, J86_33, J86_36, J86_36n, J86_37, J86_40, J86_43, JN_X4_restore, am_gg_c, am_gf_c, am_pf_c, am_af_c, am_sf_c, am_bf_c, am_qf_c, am_ap_c, am_bp_c, am_qp_c, am_lf_c, am_kt_s, am_kt_n, am_wst, am_wstop, am_ns_0, am_ns_1, Bool.not_true, Bool.not_false, Bool.true_and, Bool.false_and, Nat.reduceBEq, ↓reduceIte, am_k2_n, am_k2_i, am_k2_r, am_k2_u, am_k2_f, am_k2_l, Nat.zero_le, true_and, and_true, true_or, or_true, am_cat_0, am_cat_i, am_cat_r, am_cat_l, am_cat_n, Nat.reduceLeDiff, Nat.reduceAdd, Option.isSome_some, List.getElem?_cons_zero, List.getElem?_cons_succ, am_fit_i, am_fit_r, am_fit_a]
    cases hs : s 1 with
    | none =>
      rw [hs] at hP k1
      exact finN 21 22 k1 (hP _ G hC Fr.rf)
    | some q =>
      rw [hs] at hP k1
      have hq := hws 1 q (by omega) hs
      exact fin q 21 22 k1 (by decide) (by decide) hq.1 hq.2.1 hP
  · rw [e] at hP
    simp only [J86_0, J86_0n, J86_1, J86_2, J86_5, J86_6, J86_6n, J86_7, J86_7n, J86_10, J86_12, J86_13, J86_13n, J86_14, J86_17, J86_20, J86_22, J86_23, J86_23n, J86_24, J86_27, J86_27n, J86_28, J86_31, J86_31n, J86_32, J86_33, J86_36, J86_36n, J86_37, J86_40, J86_43, am_gg_c, am_gf_c, am_pf_c, am_af_c, am_sf_c, am_bf_c, am_qf_c, am_ap_c, am_bp_c, am_qp_c, am_lf_c, am_kt_s, am_kt_n, am_wst, am_wstop, am_ns_0, am_ns_1, Bool.not_true, Bool.not_false, Bool.true_and, Bool.false_and, Nat.reduceBEq, ↓reduceIte, am_k2_n, am_k2_i, am_k2_r, am_k2_u, am_k2_f, am_k2_l, Nat.zero_le, true_and, and_true, true_or, or_true, am_cat_0, am_cat_i, am_cat_r, am_cat_l, am_cat_n, Nat.reduceLeDiff, Nat.reduceAdd, Option.isSome_some, List.getElem?_cons_zero, List.getElem?_cons_succ, am_fit_i, am_fit_r, am_fit_a, JN_X4_restore]
    refine am_wps 60 [] ?_
    simp only [J86_0, J86_0n, J86_1, J86_2, J86_5, J86_6, J86_6n, J86_7, J86_7n, J86_10, J86_12, J86_13, J86_13n, J86_14, J86_17, J86_20, J86_22, J86_23, J86_23n, J86_24, J86_27, J86_27n, J86_28, J86_31, J86_31n, J86_32, J86_33, J86_36, J86_36n, J86_37, J86_40, J86_43, am_gg_c, am_gf_c, am_pf_c, am_af_c, am_sf_c, am_bf_c, am_qf_c, am_ap_c, am_bp_c, am_qp_c, am_lf_c, am_kt_s, am_kt_n, am_wst, am_wstop, am_ns_0, am_ns_1, Bool.not_true, Bool.not_false, Bool.true_and, Bool.false_and, Nat.reduceBEq, ↓reduceIte, am_k2_n, am_k2_i, am_k2_r, am_k2_u, am_k2_f, am_k2_l, Nat.zero_le, true_and, and_true, true_or, or_true, am_cat_0, am_cat_i, am_cat_r, am_cat_l, am_cat_n, Nat.reduceLeDiff, Nat.reduceAdd, Option.isSome_some, List.getElem?_cons_zero, List.getElem?_cons_succ, am_fit_i, am_fit_r, am_fit_a]
    exact hP _ G hC Fr.rf
end CSV
