section CPY
variable {X : Nat × (Nat → Int32)} {D : Nat} {P : Option Value → am_H → Prop} {k pk kp pp l h d l0 h0 d0 : Nat} {f f0 : Nat → Nat}
theorem lp_copy {G0 : am_H} (hk : k ≠ pk ∧ k ≠ pp ∧ pk ≠ kp ∧ pk ≠ pp) (h1 : ∀ G, Fr [pk] G0 G → PB G kp pp l h d f) (ho : ∀ G, Fr [pk] G0 G → am_ob G k 2 = some [.int (nI l), .int (nI h), .int (nI d), .ref pk]) (hP : ∀ G' p, am_ia G' pk 0 = some (18, p) → (∀ j, j < 18 → p j = nI (f j)) → Fr [pk] G0 G' → P none G') : ∀ (n i : Nat) (G : am_H) (p : Nat → Int32), i + n = 18 → am_ia G pk 0 = some (18, p) → (∀ j, j < i → p j = nI (f j)) → Fr [pk] G0 G → am_WP X D 25 18 [some (.ref k), some (.ref kp), some (.int (nI i))] [] G 0 0 P := by
  intro n
  induction n with
  | zero =>
    intro i G p hi hp hv hF
    refine am_wps 40 [39] ?_
    simp only [J25_0, J25_1, J25_2, J25_5, J25_6, J25_9, J25_10, J25_13, J25_16, J25_17, J25_18, J25_19, J25_21, J25_24, J25_25, J25_28, J25_29, J25_30, J25_33, J25_34, J25_35, J25_36, J25_39, J25_42, am_gg_c, am_gf_c, am_pf_c, am_af_c, am_sf_c, am_bf_c, am_qf_c, am_ap_c, am_bp_c, am_qp_c, am_lf_c, am_kt_s, am_kt_n, am_wst, am_wstop, am_ns_0, am_ns_1, Bool.not_true, Bool.not_false, Bool.true_and, Bool.false_and, Nat.reduceBEq, ↓reduceIte, am_k2_n, am_k2_i, am_k2_r, am_k2_u, am_k2_f, am_k2_l, Nat.zero_le, true_and, and_true, true_or, or_true, am_cat_0, am_cat_i, am_cat_r, am_cat_l, am_cat_n, Nat.reduceLeDiff, Nat.reduceAdd, Option.isSome_some, List.getElem?_cons_zero, List.getElem?_cons_succ, am_fit_i, am_fit_r, am_fit_a]
    rw [if_neg (by rw [show i = 18 by omega]; decide)]
    exact hP G p hp (fun j hj => hv j (by omega)) hF
  | succ n ih =>
    intro i G p hi hp hv hF
    obtain ⟨q1, ⟨pf, q2, q3⟩, _⟩ := h1 G hF
    have o1 := ho G hF
    have kl := am_ia_lt hp
    refine am_wps 40 [39] ?_
    simp only [J25_0, J25_1, J25_2, J25_5, J25_6, J25_9, J25_10, J25_13, J25_16, J25_17, J25_18, J25_19, J25_21, J25_24, J25_25, J25_28, J25_29, J25_30, J25_33, J25_34, J25_35, J25_36, J25_39, J25_42, am_gg_c, am_gf_c, am_pf_c, am_af_c, am_sf_c, am_bf_c, am_qf_c, am_ap_c, am_bp_c, am_qp_c, am_lf_c, am_kt_s, am_kt_n, am_wst, am_wstop, am_ns_0, am_ns_1, Bool.not_true, Bool.not_false, Bool.true_and, Bool.false_and, Nat.reduceBEq, ↓reduceIte, am_k2_n, am_k2_i, am_k2_r, am_k2_u, am_k2_f, am_k2_l, Nat.zero_le, true_and, and_true, true_or, or_true, am_cat_0, am_cat_i, am_cat_r, am_cat_l, am_cat_n, Nat.reduceLeDiff, Nat.reduceAdd, Option.isSome_some, List.getElem?_cons_zero, List.getElem?_cons_succ, am_fit_i, am_fit_r, am_fit_a, q1, q2, o1, hp]
    rw [if_pos (by rw [show (18 : Int32) = nI 18 by rfl, nI_ltI (by omega) (by omega)]; omega)]
    refine ⟨vp_in_n (by omega) (by omega), vp_in_n (by omega) (by omega), am_goto I25_39 ?_⟩
    rw [nI_1, nI_clamp (by omega), q3 i (by omega)]
    refine ih (i + 1) _ _ (by omega) (am_ia_ss kl) (fun j hj => ?_) (hF.tr (Fr.set List.mem_cons_self))
    rw [upd_at]
    by_cases c : j = i
    · rw [if_pos c, c]
    · rw [if_neg c]; exact hv j (by omega)
theorem sp_copy {G : am_H} (hD : 2 ≤ D) (hk : k ≠ pk ∧ k ≠ pp ∧ pk ≠ kp ∧ pk ≠ pp ∧ k ≠ kp) (h1 : PB G kp pp l h d f) (h2 : PB G k pk l0 h0 d0 f0) (hP : ∀ G', PB G' k pk l h d f → Fr [k, pk] G G' → P none G') : am_CB X D 25 [.ref k, .ref kp] G P := by
  obtain ⟨D, rfl⟩ : ∃ D0, D = D0 + 1 := ⟨D - 1, by omega⟩
  obtain ⟨q1, ⟨pf, q2, q3⟩, hl, hh, hd, hf⟩ := id h1
  obtain ⟨o1, ⟨po, o2, o3⟩, _⟩ := id h2
  refine B25 40 [18] ?_
  simp only [J25_0, J25_1, J25_2, J25_5, J25_6, J25_9, J25_10, J25_13, J25_16, J25_17, J25_18, J25_19, J25_21, J25_24, J25_25, J25_28, J25_29, J25_30, J25_33, J25_34, J25_35, J25_36, J25_39, J25_42, am_gg_c, am_gf_c, am_pf_c, am_af_c, am_sf_c, am_bf_c, am_qf_c, am_ap_c, am_bp_c, am_qp_c, am_lf_c, am_kt_s, am_kt_n, am_wst, am_wstop, am_ns_0, am_ns_1, Bool.not_true, Bool.not_false, Bool.true_and, Bool.false_and, Nat.reduceBEq, ↓reduceIte, am_k2_n, am_k2_i, am_k2_r, am_k2_u, am_k2_f, am_k2_l, Nat.zero_le, true_and, and_true, true_or, or_true, am_cat_0, am_cat_i, am_cat_r, am_cat_l, am_cat_n, Nat.reduceLeDiff, Nat.reduceAdd, Option.isSome_some, List.getElem?_cons_zero, List.getElem?_cons_succ, am_fit_i, am_fit_r, am_fit_a, q1, o1]
  refine sp_become (by omega) o1 o2 hl hh hd (fun G1 b1 f1 => ?_)
  obtain ⟨u1, ⟨pu, u2, u3⟩, _⟩ := id b1
  have hn : ¬ kp ∈ [k, pk] ∧ ¬ pp ∈ [k, pk] := by
    simp only [List.mem_cons, List.not_mem_nil, or_false]
    omega
  simp only [J25_0, J25_1, J25_2, J25_5, J25_6, J25_9, J25_10, J25_13, J25_16, J25_17, J25_18, J25_19, J25_21, J25_24, J25_25, J25_28, J25_29, J25_30, J25_33, J25_34, J25_35, J25_36, J25_39, J25_42, am_gg_c, am_gf_c, am_pf_c, am_af_c, am_sf_c, am_bf_c, am_qf_c, am_ap_c, am_bp_c, am_qp_c, am_lf_c, am_kt_s, am_kt_n, am_wst, am_wstop, am_ns_0, am_ns_1, Bool.not_true, Bool.not_false, Bool.true_and, Bool.false_and, Nat.reduceBEq, ↓reduceIte, am_k2_n, am_k2_i, am_k2_r, am_k2_u, am_k2_f, am_k2_l, Nat.zero_le, true_and, and_true, true_or, or_true, am_cat_0, am_cat_i, am_cat_r, am_cat_l, am_cat_n, Nat.reduceLeDiff, Nat.reduceAdd, Option.isSome_some, List.getElem?_cons_zero, List.getElem?_cons_succ, am_fit_i, am_fit_r, am_fit_a]
  refine am_WP.fg (lp_copy (G0 := G1) ⟨hk.1, hk.2.1, hk.2.2.1, hk.2.2.2.1⟩ (fun G' hF => (h1.fr f1 hn.1 hn.2).fr hF (by simp only [List.mem_cons, List.not_mem_nil, or_false]; omega) (by simp only [List.mem_cons, List.not_mem_nil, or_false]; omega)) (fun G' hF => (by rw [hF.ob (by simp only [List.mem_cons, List.not_mem_nil, or_false]; omega)]; exact u1)) (fun G' p a b hF => ?_) 18 0 G1 pu rfl u2 (fun j hj => by omega) Fr.rf) (by simp [am_le, nI_0])
  refine hP G' ⟨?_, ⟨p, a, b⟩, hl, hh, hd, hf⟩ (f1.tr (hF.up (by simp)))
  rw [hF.ob (by simp only [List.mem_cons, List.not_mem_nil, or_false]; omega)]
  exact u1
end CPY
def PD (G : am_H) (n : Nat) (t : Nat → Int32) : Prop := am_ob G 10 1 = some [.ref 11, .int (nI n)] ∧ n ≤ 18 ∧ ∃ c, am_ia G 11 0 = some (18, c) ∧ ∀ i, i < n → c i = t i
theorem PD.fr {G G' : am_H} {ks : List Nat} {n : Nat} {t : Nat → Int32} (h : PD G n t) (hF : Fr ks G G') (h1 : ¬ 10 ∈ ks) (h2 : ¬ 11 ∈ ks) : PD G' n t := by
  obtain ⟨a, b, c, e, g⟩ := h
  exact ⟨by rw [hF.ob h1]; exact a, b, c, by rw [hF.ia h2]; exact e, g⟩
def vlI (c : Int32) : Int32 := if c = 46 then 0 else if c = 63 then -1 else if 49 ≤ c.toInt ∧ c.toInt ≤ 57 then c - 48 else if 97 ≤ c.toInt ∧ c.toInt ≤ 104 then c - 97 + 10 else -2
def vaI (t : Nat → Int32) (n : Nat) (x : Int32) : Int32 := if inN x n = true then vlI (t x.toInt.toNat) else -2
def ixI (t : Nat → Int32) (v : Int32) : Nat → Nat → Int32
  | 0, _ => -1
  | k + 1, i => if vlI (t i) = v then nI i else ixI t v k (i + 1)
def tbN (t : Nat → Int32) (v : Int32) : Nat → Nat
  | 0 => 0
  | k + 1 => tbN t v k + (if vlI (t k) = v then 1 else 0)
theorem tbN_le (t : Nat → Int32) (v : Int32) : ∀ k, tbN t v k ≤ k
  | 0 => Nat.le_refl _
  | k + 1 => by
    have := tbN_le t v k
    unfold tbN
    split <;> omega
section PAD
variable {X : Nat × (Nat → Int32)} {D : Nat} {G : am_H} {P : Option Value → am_H → Prop} {n : Nat} {t : Nat → Int32}
theorem sp_phas {x : Int32} (hD : 1 ≤ D) (hp : PD G n t) (hP : P (some (.int (if inN x n = true then 1 else 0))) G) : am_CB X D 16 [.ref 10, .int x] G P := by
  obtain ⟨D, rfl⟩ : ∃ D0, D = D0 + 1 := ⟨D - 1, by omega⟩
  obtain ⟨h1, hn, c, h2, h3⟩ := id hp
  refine B16 40 [] ?_
  simp only [J16_0, J16_1, J16_4, J16_5, J16_6, J16_9, J16_12, J16_13, J16_15, J16_18, J16_19, J16_22, J16_23, am_gg_c, am_gf_c, am_pf_c, am_af_c, am_sf_c, am_bf_c, am_qf_c, am_ap_c, am_bp_c, am_qp_c, am_lf_c, am_kt_s, am_kt_n, am_wst, am_wstop, am_ns_0, am_ns_1, Bool.not_true, Bool.not_false, Bool.true_and, Bool.false_and, Nat.reduceBEq, ↓reduceIte, am_k2_n, am_k2_i, am_k2_r, am_k2_u, am_k2_f, am_k2_l, Nat.zero_le, true_and, and_true, true_or, or_true, am_cat_0, am_cat_i, am_cat_r, am_cat_l, am_cat_n, Nat.reduceLeDiff, Nat.reduceAdd, Option.isSome_some, List.getElem?_cons_zero, List.getElem?_cons_succ, am_fit_i, am_fit_r, am_fit_a, h1]
  have z0 : (0 : Int32).toInt = 0 := rfl
  have z18 : (18 : Int32).toInt = 18 := rfl
  have zn := nI_toInt (n := n) (by omega)
  split
  · next q =>
    rw [bi_lt] at q
    rw [show inN x n = false from decide_eq_false (by omega)] at hP
    exact hP
  · next q =>
    rw [bi_lt] at q
    split
    · next q2 =>
      rw [bi_lt] at q2
      rw [if_pos (by rw [bi_lt]; omega)]
      rw [show inN x n = true from decide_eq_true (by omega)] at hP
      exact hP
    · next q2 =>
      rw [bi_lt] at q2
      rw [show inN x n = false from decide_eq_false (by omega)] at hP
      exact hP
theorem sp_append {c : Int32} (hD : 1 ≤ D) (hp : PD G n t) (hn18 : n < 18) (hP : ∀ G', PD G' (n + 1) (fun i => if i = n then c else t i) → Fr [10, 11] G G' → P none G') : am_CB X D 17 [.ref 10, .int c] G P := by
  obtain ⟨D, rfl⟩ : ∃ D0, D = D0 + 1 := ⟨D - 1, by omega⟩
  obtain ⟨h1, hn, cc, h2, h3⟩ := id hp
  have k10 := am_ob_lt h1
  have k11 := am_ia_lt h2
  refine B17 40 [] ?_
  simp only [J17_0, J17_1, J17_4, J17_7, J17_8, J17_11, J17_13, J17_16, J17_17, J17_20, J17_21, J17_24, J17_25, J17_26, J17_27, J17_28, J17_31, J17_32, J17_33, J17_36, am_gg_c, am_gf_c, am_pf_c, am_af_c, am_sf_c, am_bf_c, am_qf_c, am_ap_c, am_bp_c, am_qp_c, am_lf_c, am_kt_s, am_kt_n, am_wst, am_wstop, am_ns_0, am_ns_1, Bool.not_true, Bool.not_false, Bool.true_and, Bool.false_and, Nat.reduceBEq, ↓reduceIte, am_k2_n, am_k2_i, am_k2_r, am_k2_u, am_k2_f, am_k2_l, Nat.zero_le, true_and, and_true, true_or, or_true, am_cat_0, am_cat_i, am_cat_r, am_cat_l, am_cat_n, Nat.reduceLeDiff, Nat.reduceAdd, Option.isSome_some, List.getElem?_cons_zero, List.getElem?_cons_succ, am_fit_i, am_fit_r, am_fit_a, h1, h2]
  rw [if_neg (nI_pos (by omega)), if_pos (by rw [show (18 : Int32) = nI 18 by rfl, nI_ltI (by omega) (by omega)]; exact hn18)]
  refine ⟨vp_in_n (by omega) (by omega), ?_⟩
  simp only [J17_0, J17_1, J17_4, J17_7, J17_8, J17_11, J17_13, J17_16, J17_17, J17_20, J17_21, J17_24, J17_25, J17_26, J17_27, J17_28, J17_31, J17_32, J17_33, J17_36, am_gg_c, am_gf_c, am_pf_c, am_af_c, am_sf_c, am_bf_c, am_qf_c, am_ap_c, am_bp_c, am_qp_c, am_lf_c, am_kt_s, am_kt_n, am_wst, am_wstop, am_ns_0, am_ns_1, Bool.not_true, Bool.not_false, Bool.true_and, Bool.false_and, Nat.reduceBEq, ↓reduceIte, am_k2_n, am_k2_i, am_k2_r, am_k2_u, am_k2_f, am_k2_l, Nat.zero_le, true_and, and_true, true_or, or_true, am_cat_0, am_cat_i, am_cat_r, am_cat_l, am_cat_n, Nat.reduceLeDiff, Nat.reduceAdd, Option.isSome_some, List.getElem?_cons_zero, List.getElem?_cons_succ, am_fit_i, am_fit_r, am_fit_a, am_ob_sn (show 11 ≠ 10 by decide), h1, Value.category, List.length_cons, List.length_nil, Nat.reduceLT, List.set_cons_succ, List.set_cons_zero]
  refine hP _ ⟨?_, by omega, upd cc n c, ?_, fun i hi => ?_⟩ ((Fr.set (by decide)).tr (Fr.set (by decide)))
  · rw [am_ob_ss (by rw [List.length_set]; exact k10), nI_1]
  · rw [am_ia_sn (show 10 ≠ 11 by decide), nI_clamp (by omega)]; exact am_ia_ss k11
  · show upd cc n c i = if i = n then c else t i
    rw [upd_at]
    by_cases e : i = n
    · rw [if_pos e, if_pos e]
    · rw [if_neg e, if_neg e]; exact h3 i (by omega)
theorem sp_codeOf {x : Int32} (hD : 1 ≤ D) (hP : P (some (.int (sgI x))) G) : am_CB X D 18 [.int x] G P := by
  obtain ⟨D, rfl⟩ : ∃ D0, D = D0 + 1 := ⟨D - 1, by omega⟩
  unfold sgI at hP
  refine B18 40 [] ?_
  simp only [J18_0, J18_1, J18_4, J18_6, J18_7, J18_8, J18_10, J18_13, J18_15, J18_16, J18_17, J18_20, J18_22, J18_23, J18_24, J18_26, J18_27, am_gg_c, am_gf_c, am_pf_c, am_af_c, am_sf_c, am_bf_c, am_qf_c, am_ap_c, am_bp_c, am_qp_c, am_lf_c, am_kt_s, am_kt_n, am_wst, am_wstop, am_ns_0, am_ns_1, Bool.not_true, Bool.not_false, Bool.true_and, Bool.false_and, Nat.reduceBEq, ↓reduceIte, am_k2_n, am_k2_i, am_k2_r, am_k2_u, am_k2_f, am_k2_l, Nat.zero_le, true_and, and_true, true_or, or_true, am_cat_0, am_cat_i, am_cat_r, am_cat_l, am_cat_n, Nat.reduceLeDiff, Nat.reduceAdd, Option.isSome_some, List.getElem?_cons_zero, List.getElem?_cons_succ, am_fit_i, am_fit_r, am_fit_a]
  by_cases c1 : x = 0
  · rw [if_pos c1] at hP ⊢
    exact hP
  · rw [if_neg c1] at hP ⊢
    by_cases c2 : x < 10
    · rw [if_pos c2] at hP
      rw [if_neg (by
        rw [bi_lt] at c2 ⊢
        have a : (10 : Int32).toInt = 10 := rfl
        have b : (9 : Int32).toInt = 9 := rfl
        omega)]
      exact hP
    · rw [if_neg c2] at hP
      rw [if_pos (by
        rw [bi_lt] at c2 ⊢
        have a : (10 : Int32).toInt = 10 := rfl
        have b : (9 : Int32).toInt = 9 := rfl
        omega)]
      exact hP
theorem sp_valueOf {c : Int32} (hD : 1 ≤ D) (hP : P (some (.int (vlI c))) G) : am_CB X D 19 [.int c] G P := by
  obtain ⟨D, rfl⟩ : ∃ D0, D = D0 + 1 := ⟨D - 1, by omega⟩
  unfold vlI at hP
  refine B19 60 [] ?_
  simp only [J19_0, J19_1, J19_3, J19_6, J19_7, J19_8, J19_9, J19_11, J19_14, J19_15, J19_16, J19_17, J19_19, J19_22, J19_23, J19_25, J19_28, J19_29, J19_31, J19_32, J19_33, J19_34, J19_36, J19_39, J19_40, J19_42, J19_45, J19_46, J19_48, J19_49, J19_51, J19_52, J19_55, J19_57, am_gg_c, am_gf_c, am_pf_c, am_af_c, am_sf_c, am_bf_c, am_qf_c, am_ap_c, am_bp_c, am_qp_c, am_lf_c, am_kt_s, am_kt_n, am_wst, am_wstop, am_ns_0, am_ns_1, Bool.not_true, Bool.not_false, Bool.true_and, Bool.false_and, Nat.reduceBEq, ↓reduceIte, am_k2_n, am_k2_i, am_k2_r, am_k2_u, am_k2_f, am_k2_l, Nat.zero_le, true_and, and_true, true_or, or_true, am_cat_0, am_cat_i, am_cat_r, am_cat_l, am_cat_n, Nat.reduceLeDiff, Nat.reduceAdd, Option.isSome_some, List.getElem?_cons_zero, List.getElem?_cons_succ, am_fit_i, am_fit_r, am_fit_a]
  have z49 : (49 : Int32).toInt = 49 := rfl
  have z57 : (57 : Int32).toInt = 57 := rfl
  have z97 : (97 : Int32).toInt = 97 := rfl
  have z104 : (104 : Int32).toInt = 104 := rfl
  simp only [bi_lt, z49, z57, z97, z104]
  by_cases c1 : c = 46
  · rw [if_pos c1] at hP ⊢
    exact hP
  rw [if_neg c1] at hP ⊢
  by_cases c2 : c = 63
  · rw [if_pos c2] at hP ⊢
    exact hP
  rw [if_neg c2] at hP ⊢
  by_cases a1 : c.toInt < 49
  · rw [if_neg (by omega), if_neg (by omega)] at hP
    rw [if_pos a1, if_pos (by omega)]
    exact hP
  rw [if_neg a1]
  by_cases a2 : 57 < c.toInt
  · rw [if_neg (by omega)] at hP
    rw [if_pos a2]
    by_cases a3 : c.toInt < 97
    · rw [if_neg (by omega)] at hP
      rw [if_pos a3]
      exact hP
    rw [if_neg a3]
    by_cases a4 : 104 < c.toInt
    · rw [if_neg (by omega)] at hP
      rw [if_pos a4]
      exact hP
    · rw [if_pos (by omega)] at hP
      rw [if_neg a4]
      exact hP
  · rw [if_pos (by omega)] at hP
    rw [if_neg a2]
    exact hP
theorem sp_pvalueAt {x : Int32} (hD : 2 ≤ D) (hp : PD G n t) (hP : P (some (.int (vaI t n x))) G) : am_CB X D 20 [.ref 10, .int x] G P := by
  obtain ⟨D, rfl⟩ : ∃ D0, D = D0 + 1 := ⟨D - 1, by omega⟩
  obtain ⟨h1, hn, cc, h2, h3⟩ := id hp
  unfold vaI at hP
  refine B20 40 [] ?_
  simp only [J20_0, J20_1, J20_2, J20_5, J20_8, J20_9, J20_12, J20_13, J20_14, J20_17, J20_20, J20_22, am_gg_c, am_gf_c, am_pf_c, am_af_c, am_sf_c, am_bf_c, am_qf_c, am_ap_c, am_bp_c, am_qp_c, am_lf_c, am_kt_s, am_kt_n, am_wst, am_wstop, am_ns_0, am_ns_1, Bool.not_true, Bool.not_false, Bool.true_and, Bool.false_and, Nat.reduceBEq, ↓reduceIte, am_k2_n, am_k2_i, am_k2_r, am_k2_u, am_k2_f, am_k2_l, Nat.zero_le, true_and, and_true, true_or, or_true, am_cat_0, am_cat_i, am_cat_r, am_cat_l, am_cat_n, Nat.reduceLeDiff, Nat.reduceAdd, Option.isSome_some, List.getElem?_cons_zero, List.getElem?_cons_succ, am_fit_i, am_fit_r, am_fit_a, h1]
  refine sp_phas (by omega) hp ?_
  simp only [J20_0, J20_1, J20_2, J20_5, J20_8, J20_9, J20_12, J20_13, J20_14, J20_17, J20_20, J20_22, am_gg_c, am_gf_c, am_pf_c, am_af_c, am_sf_c, am_bf_c, am_qf_c, am_ap_c, am_bp_c, am_qp_c, am_lf_c, am_kt_s, am_kt_n, am_wst, am_wstop, am_ns_0, am_ns_1, Bool.not_true, Bool.not_false, Bool.true_and, Bool.false_and, Nat.reduceBEq, ↓reduceIte, am_k2_n, am_k2_i, am_k2_r, am_k2_u, am_k2_f, am_k2_l, Nat.zero_le, true_and, and_true, true_or, or_true, am_cat_0, am_cat_i, am_cat_r, am_cat_l, am_cat_n, Nat.reduceLeDiff, Nat.reduceAdd, Option.isSome_some, List.getElem?_cons_zero, List.getElem?_cons_succ, am_fit_i, am_fit_r, am_fit_a, h1, h2]
  cases hb : inN x n with
  | false =>
    rw [hb] at hP
    simp only [Bool.false_eq_true, if_false, if_true]
    simpa using hP
  | true =>
    rw [hb] at hP
    obtain ⟨q, rfl, hq⟩ := inN_of hb (by omega)
    rw [nI_toInt (by omega), Int.toNat_natCast] at hP
    simp only [if_true, if_neg (show ¬ (1 : Int32) = 0 by decide)]
    refine ⟨vp_in_n (by omega) (by omega), ?_⟩
    rw [nI_clamp (by omega), h3 q hq]
    refine sp_valueOf (by omega) ?_
    simp only [J20_0, J20_1, J20_2, J20_5, J20_8, J20_9, J20_12, J20_13, J20_14, J20_17, J20_20, J20_22, am_gg_c, am_gf_c, am_pf_c, am_af_c, am_sf_c, am_bf_c, am_qf_c, am_ap_c, am_bp_c, am_qp_c, am_lf_c, am_kt_s, am_kt_n, am_wst, am_wstop, am_ns_0, am_ns_1, Bool.not_true, Bool.not_false, Bool.true_and, Bool.false_and, Nat.reduceBEq, ↓reduceIte, am_k2_n, am_k2_i, am_k2_r, am_k2_u, am_k2_f, am_k2_l, Nat.zero_le, true_and, and_true, true_or, or_true, am_cat_0, am_cat_i, am_cat_r, am_cat_l, am_cat_n, Nat.reduceLeDiff, Nat.reduceAdd, Option.isSome_some, List.getElem?_cons_zero, List.getElem?_cons_succ, am_fit_i, am_fit_r, am_fit_a]
    simpa using hP
theorem vaI_n {i : Nat} (hi : i < n) (hn : n ≤ 18) : vaI t n (nI i) = vlI (t i) := by
  unfold vaI
  rw [inN_n (by omega), decide_eq_true hi, if_pos rfl, nI_toInt (by omega), Int.toNat_natCast]
theorem lp_indexOf {v : Int32} (hD : 2 ≤ D) (hp : PD G n t) : ∀ (k i : Nat), i + k = n → P (some (.int (ixI t v k i))) G → am_WP X D 21 2 [some (.ref 10), some (.int v), some (.int (nI i))] [] G 0 0 P := by
  obtain ⟨h1, hn, cc, h2, h3⟩ := id hp
  intro k
  induction k with
  | zero =>
    intro i hi hP
    refine am_wps 40 [24] ?_
    simp only [J21_0, J21_1, J21_2, J21_3, J21_4, J21_7, J21_10, J21_11, J21_12, J21_15, J21_16, J21_19, J21_20, J21_21, J21_24, J21_27, J21_28, am_gg_c, am_gf_c, am_pf_c, am_af_c, am_sf_c, am_bf_c, am_qf_c, am_ap_c, am_bp_c, am_qp_c, am_lf_c, am_kt_s, am_kt_n, am_wst, am_wstop, am_ns_0, am_ns_1, Bool.not_true, Bool.not_false, Bool.true_and, Bool.false_and, Nat.reduceBEq, ↓reduceIte, am_k2_n, am_k2_i, am_k2_r, am_k2_u, am_k2_f, am_k2_l, Nat.zero_le, true_and, and_true, true_or, or_true, am_cat_0, am_cat_i, am_cat_r, am_cat_l, am_cat_n, Nat.reduceLeDiff, Nat.reduceAdd, Option.isSome_some, List.getElem?_cons_zero, List.getElem?_cons_succ, am_fit_i, am_fit_r, am_fit_a, h1]
    rw [if_neg (by rw [nI_ltI (by omega) (by omega)]; omega)]
    exact hP
  | succ k ih =>
    intro i hi hP
    refine am_wps 40 [24] ?_
    simp only [J21_0, J21_1, J21_2, J21_3, J21_4, J21_7, J21_10, J21_11, J21_12, J21_15, J21_16, J21_19, J21_20, J21_21, J21_24, J21_27, J21_28, am_gg_c, am_gf_c, am_pf_c, am_af_c, am_sf_c, am_bf_c, am_qf_c, am_ap_c, am_bp_c, am_qp_c, am_lf_c, am_kt_s, am_kt_n, am_wst, am_wstop, am_ns_0, am_ns_1, Bool.not_true, Bool.not_false, Bool.true_and, Bool.false_and, Nat.reduceBEq, ↓reduceIte, am_k2_n, am_k2_i, am_k2_r, am_k2_u, am_k2_f, am_k2_l, Nat.zero_le, true_and, and_true, true_or, or_true, am_cat_0, am_cat_i, am_cat_r, am_cat_l, am_cat_n, Nat.reduceLeDiff, Nat.reduceAdd, Option.isSome_some, List.getElem?_cons_zero, List.getElem?_cons_succ, am_fit_i, am_fit_r, am_fit_a, h1]
    rw [if_pos (by rw [nI_ltI (by omega) (by omega)]; omega)]
    refine sp_pvalueAt hD hp ?_
    rw [vaI_n (by omega) hn]
    simp only [J21_0, J21_1, J21_2, J21_3, J21_4, J21_7, J21_10, J21_11, J21_12, J21_15, J21_16, J21_19, J21_20, J21_21, J21_24, J21_27, J21_28, am_gg_c, am_gf_c, am_pf_c, am_af_c, am_sf_c, am_bf_c, am_qf_c, am_ap_c, am_bp_c, am_qp_c, am_lf_c, am_kt_s, am_kt_n, am_wst, am_wstop, am_ns_0, am_ns_1, Bool.not_true, Bool.not_false, Bool.true_and, Bool.false_and, Nat.reduceBEq, ↓reduceIte, am_k2_n, am_k2_i, am_k2_r, am_k2_u, am_k2_f, am_k2_l, Nat.zero_le, true_and, and_true, true_or, or_true, am_cat_0, am_cat_i, am_cat_r, am_cat_l, am_cat_n, Nat.reduceLeDiff, Nat.reduceAdd, Option.isSome_some, List.getElem?_cons_zero, List.getElem?_cons_succ, am_fit_i, am_fit_r, am_fit_a]
    have hs : ixI t v (k + 1) i = if vlI (t i) = v then nI i else ixI t v k (i + 1) := rfl
    rw [hs] at hP
    by_cases c : vlI (t i) = v
    · rw [if_pos c] at hP ⊢
      exact hP
    · rw [if_neg c] at hP ⊢
      refine am_goto I21_24 ?_
      rw [nI_1]
      exact ih (i + 1) (by omega) hP
theorem sp_indexOf {v : Int32} (hD : 3 ≤ D) (hp : PD G n t) (hP : P (some (.int (ixI t v n 0))) G) : am_CB X D 21 [.ref 10, .int v] G P := by
  obtain ⟨D, rfl⟩ : ∃ D0, D = D0 + 1 := ⟨D - 1, by omega⟩
  refine B21 40 [2] ?_
  simp only [J21_0, J21_1, J21_2, J21_3, J21_4, J21_7, J21_10, J21_11, J21_12, J21_15, J21_16, J21_19, J21_20, J21_21, J21_24, J21_27, J21_28, am_gg_c, am_gf_c, am_pf_c, am_af_c, am_sf_c, am_bf_c, am_qf_c, am_ap_c, am_bp_c, am_qp_c, am_lf_c, am_kt_s, am_kt_n, am_wst, am_wstop, am_ns_0, am_ns_1, Bool.not_true, Bool.not_false, Bool.true_and, Bool.false_and, Nat.reduceBEq, ↓reduceIte, am_k2_n, am_k2_i, am_k2_r, am_k2_u, am_k2_f, am_k2_l, Nat.zero_le, true_and, and_true, true_or, or_true, am_cat_0, am_cat_i, am_cat_r, am_cat_l, am_cat_n, Nat.reduceLeDiff, Nat.reduceAdd, Option.isSome_some, List.getElem?_cons_zero, List.getElem?_cons_succ, am_fit_i, am_fit_r, am_fit_a]
  exact lp_indexOf (by omega) hp n 0 (by omega) hP
theorem lp_timesB {v : Int32} {e : Nat} (he : e ≤ n) (hD : 2 ≤ D) (hp : PD G n t) (hP : P (some (.int (nI (tbN t v e)))) G) : ∀ (k i : Nat), i + k = e → am_WP X D 22 5 [some (.ref 10), some (.int (nI e)), some (.int v), some (.int (nI (tbN t v i))), some (.int (nI i))] [] G 0 0 P := by
  obtain ⟨h1, hn, cc, h2, h3⟩ := id hp
  intro k
  induction k with
  | zero =>
    intro i hi
    refine am_wps 40 [27] ?_
    simp only [J22_0, J22_1, J22_2, J22_3, J22_5, J22_7, J22_8, J22_11, J22_12, J22_14, J22_17, J22_18, J22_21, J22_24, J22_27, J22_30, J22_31, am_gg_c, am_gf_c, am_pf_c, am_af_c, am_sf_c, am_bf_c, am_qf_c, am_ap_c, am_bp_c, am_qp_c, am_lf_c, am_kt_s, am_kt_n, am_wst, am_wstop, am_ns_0, am_ns_1, Bool.not_true, Bool.not_false, Bool.true_and, Bool.false_and, Nat.reduceBEq, ↓reduceIte, am_k2_n, am_k2_i, am_k2_r, am_k2_u, am_k2_f, am_k2_l, Nat.zero_le, true_and, and_true, true_or, or_true, am_cat_0, am_cat_i, am_cat_r, am_cat_l, am_cat_n, Nat.reduceLeDiff, Nat.reduceAdd, Option.isSome_some, List.getElem?_cons_zero, List.getElem?_cons_succ, am_fit_i, am_fit_r, am_fit_a]
    rw [if_neg (by rw [nI_ltI (by omega) (by omega)]; omega), show i = e by omega]
    exact hP
  | succ k ih =>
    intro i hi
    have hn2 := ih (i + 1) (by omega)
    have hs : tbN t v (i + 1) = tbN t v i + (if vlI (t i) = v then 1 else 0) := rfl
    rw [hs] at hn2
    refine am_wps 40 [27] ?_
    simp only [J22_0, J22_1, J22_2, J22_3, J22_5, J22_7, J22_8, J22_11, J22_12, J22_14, J22_17, J22_18, J22_21, J22_24, J22_27, J22_30, J22_31, am_gg_c, am_gf_c, am_pf_c, am_af_c, am_sf_c, am_bf_c, am_qf_c, am_ap_c, am_bp_c, am_qp_c, am_lf_c, am_kt_s, am_kt_n, am_wst, am_wstop, am_ns_0, am_ns_1, Bool.not_true, Bool.not_false, Bool.true_and, Bool.false_and, Nat.reduceBEq, ↓reduceIte, am_k2_n, am_k2_i, am_k2_r, am_k2_u, am_k2_f, am_k2_l, Nat.zero_le, true_and, and_true, true_or, or_true, am_cat_0, am_cat_i, am_cat_r, am_cat_l, am_cat_n, Nat.reduceLeDiff, Nat.reduceAdd, Option.isSome_some, List.getElem?_cons_zero, List.getElem?_cons_succ, am_fit_i, am_fit_r, am_fit_a, h1]
    rw [if_pos (by rw [nI_ltI (by omega) (by omega)]; omega)]
    refine sp_pvalueAt hD hp ?_
    rw [vaI_n (by omega) hn]
    simp only [J22_0, J22_1, J22_2, J22_3, J22_5, J22_7, J22_8, J22_11, J22_12, J22_14, J22_17, J22_18, J22_21, J22_24, J22_27, J22_30, J22_31, am_gg_c, am_gf_c, am_pf_c, am_af_c, am_sf_c, am_bf_c, am_qf_c, am_ap_c, am_bp_c, am_qp_c, am_lf_c, am_kt_s, am_kt_n, am_wst, am_wstop, am_ns_0, am_ns_1, Bool.not_true, Bool.not_false, Bool.true_and, Bool.false_and, Nat.reduceBEq, ↓reduceIte, am_k2_n, am_k2_i, am_k2_r, am_k2_u, am_k2_f, am_k2_l, Nat.zero_le, true_and, and_true, true_or, or_true, am_cat_0, am_cat_i, am_cat_r, am_cat_l, am_cat_n, Nat.reduceLeDiff, Nat.reduceAdd, Option.isSome_some, List.getElem?_cons_zero, List.getElem?_cons_succ, am_fit_i, am_fit_r, am_fit_a]
    by_cases c : vlI (t i) = v
    · rw [if_pos c] at hn2 ⊢
      refine am_goto I22_27 ?_
      rw [nI_1, nI_1]
      exact hn2
    · rw [if_neg c] at hn2 ⊢
      refine am_goto I22_27 ?_
      rw [nI_1]
      exact hn2
theorem sp_timesB {v : Int32} {e : Nat} (he : e ≤ n) (hD : 3 ≤ D) (hp : PD G n t) (hP : P (some (.int (nI (tbN t v e)))) G) : am_CB X D 22 [.ref 10, .int (nI e), .int v] G P := by
  obtain ⟨D, rfl⟩ : ∃ D0, D = D0 + 1 := ⟨D - 1, by omega⟩
  refine B22 40 [5] ?_
  simp only [J22_0, J22_1, J22_2, J22_3, J22_5, J22_7, J22_8, J22_11, J22_12, J22_14, J22_17, J22_18, J22_21, J22_24, J22_27, J22_30, J22_31, am_gg_c, am_gf_c, am_pf_c, am_af_c, am_sf_c, am_bf_c, am_qf_c, am_ap_c, am_bp_c, am_qp_c, am_lf_c, am_kt_s, am_kt_n, am_wst, am_wstop, am_ns_0, am_ns_1, Bool.not_true, Bool.not_false, Bool.true_and, Bool.false_and, Nat.reduceBEq, ↓reduceIte, am_k2_n, am_k2_i, am_k2_r, am_k2_u, am_k2_f, am_k2_l, Nat.zero_le, true_and, and_true, true_or, or_true, am_cat_0, am_cat_i, am_cat_r, am_cat_l, am_cat_n, Nat.reduceLeDiff, Nat.reduceAdd, Option.isSome_some, List.getElem?_cons_zero, List.getElem?_cons_succ, am_fit_i, am_fit_r, am_fit_a]
  exact lp_timesB he (by omega) hp hP e 0 (by omega)
end PAD
