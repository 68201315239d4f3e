def swI (o : Option Nat) : Int32 := match o with
  | none => -1
  | some v => nI v
theorem swI_neg {o : Option Nat} (h : ∀ x, o = some x → x ≤ 400) : swI o < 0 ↔ o = none := by
  constructor
  · intro e
    cases o with
    | none => rfl
    | some v =>
      have := h v rfl
      have e : nI v < 0 := e
      rw [bi_lt, nI_toInt (by omega), show (0 : Int32).toInt = 0 by rfl] at e
      omega
  · intro e; rw [e]; decide
def BW (G : am_H) (s : BT) : Prop := ∃ st qu, am_ob G 7 3 = some [.ref 8, .ref 9, .int (nI s.2.length)] ∧ am_ia G 8 0 = some (300, st) ∧ am_ia G 9 0 = some (300, qu) ∧ (∀ j, j < 300 → st j = swI (s.1 j)) ∧ ∀ i v, s.2[i]? = some v → qu i = nI v
def WK (G : am_H) : Prop := ∃ q st qu, am_ob G 7 3 = some [.ref 8, .ref 9, .int q] ∧ am_ia G 8 0 = some (300, st) ∧ am_ia G 9 0 = some (300, qu)
theorem BW.w {G : am_H} {s : BT} (h : BW G s) : WK G := by
  obtain ⟨st, qu, a, b, c, _⟩ := h
  exact ⟨_, st, qu, a, b, c⟩
theorem WK.fr {G G' : am_H} {ks : List Nat} (h : WK G) (hF : Fr ks G G') (h1 : ¬ 7 ∈ ks) (h2 : ¬ 8 ∈ ks) (h3 : ¬ 9 ∈ ks) : WK G' := by
  obtain ⟨q, st, qu, a, b, c⟩ := h
  exact ⟨q, st, qu, by rw [hF.ob h1]; exact a, by rw [hF.ia h2]; exact b, by rw [hF.ia h3]; exact c⟩
abbrev kW : List Nat := [7, 8, 9]
section WLK
variable {X : Nat × (Nat → Int32)} {D : Nat} {P : Option Value → am_H → Prop} {l h d : Nat} {f : Nat → Nat}
theorem sp_reach {G : am_H} {s : BT} {j v : Nat} (hD : 1 ≤ D) (hB : BW G s) (hj : j < 300) (hl : s.2.length < 300) (hP : ∀ G', BW G' (fun q => if q = j then some v else s.1 q, s.2 ++ [j]) → Fr kW G G' → P none G') : am_CB X D 43 [.ref 7, .int (nI j), .int (nI v)] G P := by
  obtain ⟨D, rfl⟩ : ∃ D0, D = D0 + 1 := ⟨D - 1, by omega⟩
  obtain ⟨st, qu, h1, h2, h3, h4, h5⟩ := hB
  have k7 := am_ob_lt h1
  have k8 := am_ia_lt h2
  have k9 := am_ia_lt h3
  have c3 : (300 : Int32) = nI 300 := rfl
  refine B43 60 [] ?_
  simp only [J43_0, J43_1, J43_4, J43_5, J43_8, J43_11, J43_12, J43_15, J43_18, J43_19, J43_22, J43_25, J43_28, J43_29, J43_32, J43_33, J43_34, J43_35, J43_36, J43_39, J43_40, J43_43, J43_44, J43_45, J43_46, J43_47, J43_50, J43_51, J43_52, J43_55, am_gg_c, am_gf_c, am_pf_c, am_af_c, am_sf_c, am_bf_c, am_qf_c, am_ap_c, am_bp_c, am_qp_c, am_lf_c, am_kt_s, am_kt_n, am_wst, am_wstop, am_ns_0, am_ns_1, Bool.not_true, Bool.not_false, Bool.true_and, Bool.false_and, Nat.reduceBEq, ↓reduceIte, am_k2_n, am_k2_i, am_k2_r, am_k2_u, am_k2_f, am_k2_l, Nat.zero_le, true_and, and_true, true_or, or_true, am_cat_0, am_cat_i, am_cat_r, am_cat_l, am_cat_n, Nat.reduceLeDiff, Nat.reduceAdd, Option.isSome_some, List.getElem?_cons_zero, List.getElem?_cons_succ, am_fit_i, am_fit_r, am_fit_a, h1, h2]
  rw [if_neg (nI_pos (by omega)), if_pos (by rw [c3, nI_ltI (by omega) (by omega)]; exact hj), if_neg (nI_pos (by omega)), if_pos (by rw [c3, nI_ltI (by omega) (by omega)]; exact hl)]
  refine ⟨vp_in_n (by omega) (by omega), ?_⟩
  simp only [J43_0, J43_1, J43_4, J43_5, J43_8, J43_11, J43_12, J43_15, J43_18, J43_19, J43_22, J43_25, J43_28, J43_29, J43_32, J43_33, J43_34, J43_35, J43_36, J43_39, J43_40, J43_43, J43_44, J43_45, J43_46, J43_47, J43_50, J43_51, J43_52, J43_55, am_gg_c, am_gf_c, am_pf_c, am_af_c, am_sf_c, am_bf_c, am_qf_c, am_ap_c, am_bp_c, am_qp_c, am_lf_c, am_kt_s, am_kt_n, am_wst, am_wstop, am_ns_0, am_ns_1, Bool.not_true, Bool.not_false, Bool.true_and, Bool.false_and, Nat.reduceBEq, ↓reduceIte, am_k2_n, am_k2_i, am_k2_r, am_k2_u, am_k2_f, am_k2_l, Nat.zero_le, true_and, and_true, true_or, or_true, am_cat_0, am_cat_i, am_cat_r, am_cat_l, am_cat_n, Nat.reduceLeDiff, Nat.reduceAdd, Option.isSome_some, List.getElem?_cons_zero, List.getElem?_cons_succ, am_fit_i, am_fit_r, am_fit_a, am_ob_sn (show 8 ≠ 7 by decide), am_ia_sn (show 8 ≠ 9 by decide), h1, h3]
  refine ⟨vp_in_n (by omega) (by omega), ?_⟩
  simp only [J43_0, J43_1, J43_4, J43_5, J43_8, J43_11, J43_12, J43_15, J43_18, J43_19, J43_22, J43_25, J43_28, J43_29, J43_32, J43_33, J43_34, J43_35, J43_36, J43_39, J43_40, J43_43, J43_44, J43_45, J43_46, J43_47, J43_50, J43_51, J43_52, J43_55, am_gg_c, am_gf_c, am_pf_c, am_af_c, am_sf_c, am_bf_c, am_qf_c, am_ap_c, am_bp_c, am_qp_c, am_lf_c, am_kt_s, am_kt_n, am_wst, am_wstop, am_ns_0, am_ns_1, Bool.not_true, Bool.not_false, Bool.true_and, Bool.false_and, Nat.reduceBEq, ↓reduceIte, am_k2_n, am_k2_i, am_k2_r, am_k2_u, am_k2_f, am_k2_l, Nat.zero_le, true_and, and_true, true_or, or_true, am_cat_0, am_cat_i, am_cat_r, am_cat_l, am_cat_n, Nat.reduceLeDiff, Nat.reduceAdd, Option.isSome_some, List.getElem?_cons_zero, List.getElem?_cons_succ, am_fit_i, am_fit_r, am_fit_a, am_ob_sn (show 8 ≠ 7 by decide), am_ob_sn (show 9 ≠ 7 by decide), h1, Value.category, List.length_cons, List.length_nil, Nat.reduceLT, List.set_cons_succ, List.set_cons_zero]
  rw [nI_clamp (by omega), nI_clamp (by omega), nI_1]
  refine hP _ ⟨upd st j (nI v), upd qu s.2.length (nI j), ?_, ?_, ?_, fun q hq => ?_, fun q w hq => ?_⟩ ((Fr.set (by decide)).tr ((Fr.set (by decide)).tr (Fr.set (by decide))))
  · rw [am_ob_ss (by simp only [List.length_set]; exact k7), List.length_append]; rfl
  · rw [am_ia_sn (show 7 ≠ 8 by decide), am_ia_sn (show 9 ≠ 8 by decide)]; exact am_ia_ss k8
  · rw [am_ia_sn (show 7 ≠ 9 by decide)]; exact am_ia_ss (by rw [List.length_set]; exact k9)
  · show upd st j (nI v) q = swI (if q = j then some v else s.1 q)
    rw [upd_at]
    by_cases e : q = j
    · rw [if_pos e, if_pos e]; rfl
    · rw [if_neg e, if_neg e]; exact h4 q hq
  · have hq : (s.2 ++ [j])[q]? = some w := hq
    rw [upd_at]
    by_cases e : q = s.2.length
    · subst e
      simp at hq
      rw [if_pos rfl, hq]
    · rw [if_neg e]
      have hlt : q < (s.2 ++ [j]).length := (List.getElem?_eq_some_iff.mp hq).1
      rw [List.length_append] at hlt
      simp at hlt
      rw [List.getElem?_append_left (by omega)] at hq
      exact h5 q w hq
theorem lp_rn {G0 : am_H} {many k i v0 : Nat} {s0 : BT} (hl : l ≤ 18) (hd : d < 2 ^ 18) (hd0 : d.testBit 0 = false) (h8 : (bl d).length ≤ 8) (hmany : many = min 300 (arrs true l h d f).length) (hD : 3 ≤ D) (hf : ∀ G, Fr kW G0 G → FO G l h d f) (him : i < many) (hk3 : k ≤ 300) (hB : BI many k s0) (hi : s0.1 i = some v0)
    (hP : ∀ G, BW G (bfI (nbB (arrs true l h d f) d i) (v0 + 1) many s0) → Fr kW G0 G → P none G) :
    ∀ (c j : Nat) (G : am_H), j + c = many → BW G (bfI (nbB (arrs true l h d f) d i) (v0 + 1) j s0) → Fr kW G0 G → am_WP X D 42 39 [some (.ref 7), some (.ref 3), some (.int (nI i)), some (.int (nI (v0 + 1))), some (.int (nI many)), some (.int (nI j))] [] G 0 0 P := by
  have hv0 := hB.2.2 i v0 hi
  intro c
  induction c with
  | zero =>
    intro j G hj hW hF
    refine am_wps 60 [77] ?_
    simp only [J42_0, J42_1, J42_4, J42_5, J42_8, J42_11, J42_12, J42_15, J42_16, J42_17, J42_18, J42_19, J42_22, J42_23, J42_24, J42_25, J42_28, J42_31, J42_34, J42_36, J42_37, J42_39, J42_41, J42_43, J42_46, J42_47, J42_50, J42_52, J42_53, J42_56, J42_57, J42_58, J42_60, J42_63, J42_64, J42_67, J42_68, J42_70, J42_71, J42_74, J42_77, J42_80, am_gg_c, am_gf_c, am_pf_c, am_af_c, am_sf_c, am_bf_c, am_qf_c, am_ap_c, am_bp_c, am_qp_c, am_lf_c, am_kt_s, am_kt_n, am_wst, am_wstop, am_ns_0, am_ns_1, Bool.not_true, Bool.not_false, Bool.true_and, Bool.false_and, Nat.reduceBEq, ↓reduceIte, am_k2_n, am_k2_i, am_k2_r, am_k2_u, am_k2_f, am_k2_l, Nat.zero_le, true_and, and_true, true_or, or_true, am_cat_0, am_cat_i, am_cat_r, am_cat_l, am_cat_n, Nat.reduceLeDiff, Nat.reduceAdd, Option.isSome_some, List.getElem?_cons_zero, List.getElem?_cons_succ, am_fit_i, am_fit_r, am_fit_a]
    rw [if_neg (by rw [nI_ltI (by omega) (by omega)]; omega)]
    rw [show j = many by omega] at hW
    exact hP G hW hF
  | succ c ih =>
    intro j G hj hW hF
    have hBj := bfI_bi (nb := nbB (arrs true l h d f) d i) hB (v := v0 + 1) (by omega) j (by omega)
    have hs : bfI (nbB (arrs true l h d f) d i) (v0 + 1) (j + 1) s0 = if (bfI (nbB (arrs true l h d f) d i) (v0 + 1) j s0).1 j = none ∧ nbB (arrs true l h d f) d i j = true then (fun q => if q = j then some (v0 + 1) else (bfI (nbB (arrs true l h d f) d i) (v0 + 1) j s0).1 q, (bfI (nbB (arrs true l h d f) d i) (v0 + 1) j s0).2 ++ [j]) else bfI (nbB (arrs true l h d f) d i) (v0 + 1) j s0 := rfl
    have hn := ih (j + 1)
    rw [hs] at hn
    generalize bfI (nbB (arrs true l h d f) d i) (v0 + 1) j s0 = s at *
    obtain ⟨st, qu, q1, q2, q3, q4, q5⟩ := id hW
    have hf1 := hf G hF
    have hob : ∃ fs, am_ob G 3 0 = some fs := by obtain ⟨pr, df, sf, ha, _⟩ := hf1; exact ⟨_, ha.1⟩
    obtain ⟨fs, hob⟩ := hob
    have hjA : j < (arrs true l h d f).length := by omega
    have hiA : i < (arrs true l h d f).length := by omega
    obtain ⟨a, ha⟩ : ∃ a, (arrs true l h d f)[i]? = some a := ⟨_, List.getElem?_eq_getElem hiA⟩
    obtain ⟨b, hb⟩ : ∃ b, (arrs true l h d f)[j]? = some b := ⟨_, List.getElem?_eq_getElem hjA⟩
    have hnb : nbB (arrs true l h d f) d i j = (dsN d a b == 3) := by unfold nbB; rw [ha, hb]
    have hno : swI (s.1 j) < 0 ↔ s.1 j = none := swI_neg (fun x hx => by have := hBj.2.2 j x hx; omega)
    have skip : ¬ (s.1 j = none ∧ nbB (arrs true l h d f) d i j = true) → am_WP X D 42 77 [some (.ref 7), some (.ref 3), some (.int (nI i)), some (.int (nI (v0 + 1))), some (.int (nI many)), some (.int (nI j + 1))] [] G 0 0 P := by
      intro hc
      rw [if_neg hc] at hn
      refine am_goto I42_77 ?_
      rw [nI_1]
      exact hn G (by omega) hW hF
    refine am_wps 80 [77] ?_
    simp only [J42_0, J42_1, J42_4, J42_5, J42_8, J42_11, J42_12, J42_15, J42_16, J42_17, J42_18, J42_19, J42_22, J42_23, J42_24, J42_25, J42_28, J42_31, J42_34, J42_36, J42_37, J42_39, J42_41, J42_43, J42_46, J42_47, J42_50, J42_52, J42_53, J42_56, J42_57, J42_58, J42_60, J42_63, J42_64, J42_67, J42_68, J42_70, J42_71, J42_74, J42_77, J42_80, am_gg_c, am_gf_c, am_pf_c, am_af_c, am_sf_c, am_bf_c, am_qf_c, am_ap_c, am_bp_c, am_qp_c, am_lf_c, am_kt_s, am_kt_n, am_wst, am_wstop, am_ns_0, am_ns_1, Bool.not_true, Bool.not_false, Bool.true_and, Bool.false_and, Nat.reduceBEq, ↓reduceIte, am_k2_n, am_k2_i, am_k2_r, am_k2_u, am_k2_f, am_k2_l, Nat.zero_le, true_and, and_true, true_or, or_true, am_cat_0, am_cat_i, am_cat_r, am_cat_l, am_cat_n, Nat.reduceLeDiff, Nat.reduceAdd, Option.isSome_some, List.getElem?_cons_zero, List.getElem?_cons_succ, am_fit_i, am_fit_r, am_fit_a, q1, q2, hob]
    rw [if_pos (by rw [nI_ltI (by omega) (by omega)]; omega)]
    refine ⟨vp_in_n (by omega) (by omega), ?_⟩
    rw [nI_clamp (by omega), q4 j (by omega)]
    by_cases c1 : s.1 j = none
    · rw [if_pos (hno.mpr c1)]
      refine sp_distOf hl hd hd0 h8 hD hf1 ha hb ?_
      simp only [J42_0, J42_1, J42_4, J42_5, J42_8, J42_11, J42_12, J42_15, J42_16, J42_17, J42_18, J42_19, J42_22, J42_23, J42_24, J42_25, J42_28, J42_31, J42_34, J42_36, J42_37, J42_39, J42_41, J42_43, J42_46, J42_47, J42_50, J42_52, J42_53, J42_56, J42_57, J42_58, J42_60, J42_63, J42_64, J42_67, J42_68, J42_70, J42_71, J42_74, J42_77, J42_80, am_gg_c, am_gf_c, am_pf_c, am_af_c, am_sf_c, am_bf_c, am_qf_c, am_ap_c, am_bp_c, am_qp_c, am_lf_c, am_kt_s, am_kt_n, am_wst, am_wstop, am_ns_0, am_ns_1, Bool.not_true, Bool.not_false, Bool.true_and, Bool.false_and, Nat.reduceBEq, ↓reduceIte, am_k2_n, am_k2_i, am_k2_r, am_k2_u, am_k2_f, am_k2_l, Nat.zero_le, true_and, and_true, true_or, or_true, am_cat_0, am_cat_i, am_cat_r, am_cat_l, am_cat_n, Nat.reduceLeDiff, Nat.reduceAdd, Option.isSome_some, List.getElem?_cons_zero, List.getElem?_cons_succ, am_fit_i, am_fit_r, am_fit_a, q1]
      have hle := apC_le (d := d) (x := fun w => nI (bgN a w)) (y := fun w => nI (bgN b w)) 18
      have hle : dsN d a b ≤ 18 := hle
      by_cases c2 : dsN d a b = 3
      · rw [if_pos (by rw [c2]; rfl)]
        rw [if_pos ⟨c1, by rw [hnb, c2]; rfl⟩] at hn
        have hroom := hBj.room (show j < many by omega) c1
        refine sp_reach (by omega) hW (by omega) (by omega) (fun G' u1 u2 => ?_)
        simp only [J42_0, J42_1, J42_4, J42_5, J42_8, J42_11, J42_12, J42_15, J42_16, J42_17, J42_18, J42_19, J42_22, J42_23, J42_24, J42_25, J42_28, J42_31, J42_34, J42_36, J42_37, J42_39, J42_41, J42_43, J42_46, J42_47, J42_50, J42_52, J42_53, J42_56, J42_57, J42_58, J42_60, J42_63, J42_64, J42_67, J42_68, J42_70, J42_71, J42_74, J42_77, J42_80, am_gg_c, am_gf_c, am_pf_c, am_af_c, am_sf_c, am_bf_c, am_qf_c, am_ap_c, am_bp_c, am_qp_c, am_lf_c, am_kt_s, am_kt_n, am_wst, am_wstop, am_ns_0, am_ns_1, Bool.not_true, Bool.not_false, Bool.true_and, Bool.false_and, Nat.reduceBEq, ↓reduceIte, am_k2_n, am_k2_i, am_k2_r, am_k2_u, am_k2_f, am_k2_l, Nat.zero_le, true_and, and_true, true_or, or_true, am_cat_0, am_cat_i, am_cat_r, am_cat_l, am_cat_n, Nat.reduceLeDiff, Nat.reduceAdd, Option.isSome_some, List.getElem?_cons_zero, List.getElem?_cons_succ, am_fit_i, am_fit_r, am_fit_a]
        refine am_goto I42_77 ?_
        rw [nI_1]
        exact hn G' (by omega) u1 (hF.tr u2)
      · rw [if_neg (fun e => c2 (bi_inj (by omega) (by omega) (e.trans (show (3 : Int32) = nI 3 by rfl))))]
        exact skip (fun e => c2 (by have := e.2; rw [hnb] at this; simpa using this))
    · rw [if_neg (fun e => c1 (hno.mp e))]
      exact skip (fun e => c1 e.1)
theorem sp_reachN {G : am_H} {many k i v0 : Nat} {s : BT} (hl : l ≤ 18) (hd : d < 2 ^ 18) (hd0 : d.testBit 0 = false) (h8 : (bl d).length ≤ 8) (hmany : many = min 300 (arrs true l h d f).length) (hD : 4 ≤ D) (hf : FO G l h d f) (hW : BW G s) (him : i < many) (hk3 : k ≤ 300) (hB : BI many k s) (hi : s.1 i = some v0) (hP : ∀ G', BW G' (bfI (nbB (arrs true l h d f) d i) (v0 + 1) many s) → Fr kW G G' → P none G') : am_CB X D 42 [.ref 7, .ref 3, .int (nI i)] G P := by
  obtain ⟨D, rfl⟩ : ∃ D0, D = D0 + 1 := ⟨D - 1, by omega⟩
  obtain ⟨st, qu, q1, q2, q3, q4, q5⟩ := id hW
  obtain ⟨pr, df, sf, ha, _⟩ := id hf
  have h1 := ha.1
  have hlen := ha.2.2.2.2.1
  rw [List.length_map] at h1 hlen
  have hv0 := hB.2.2 i v0 hi
  have c3 : (300 : Int32) = nI 300 := rfl
  refine B42 60 [39] ?_
  simp only [J42_0, J42_1, J42_4, J42_5, J42_8, J42_11, J42_12, J42_15, J42_16, J42_17, J42_18, J42_19, J42_22, J42_23, J42_24, J42_25, J42_28, J42_31, J42_34, J42_36, J42_37, J42_39, J42_41, J42_43, J42_46, J42_47, J42_50, J42_52, J42_53, J42_56, J42_57, J42_58, J42_60, J42_63, J42_64, J42_67, J42_68, J42_70, J42_71, J42_74, J42_77, J42_80, am_gg_c, am_gf_c, am_pf_c, am_af_c, am_sf_c, am_bf_c, am_qf_c, am_ap_c, am_bp_c, am_qp_c, am_lf_c, am_kt_s, am_kt_n, am_wst, am_wstop, am_ns_0, am_ns_1, Bool.not_true, Bool.not_false, Bool.true_and, Bool.false_and, Nat.reduceBEq, ↓reduceIte, am_k2_n, am_k2_i, am_k2_r, am_k2_u, am_k2_f, am_k2_l, Nat.zero_le, true_and, and_true, true_or, or_true, am_cat_0, am_cat_i, am_cat_r, am_cat_l, am_cat_n, Nat.reduceLeDiff, Nat.reduceAdd, Option.isSome_some, List.getElem?_cons_zero, List.getElem?_cons_succ, am_fit_i, am_fit_r, am_fit_a, q1, q2, h1]
  rw [if_neg (nI_pos (by omega)), if_pos (by rw [c3, nI_ltI (by omega) (by omega)]; omega)]
  refine ⟨vp_in_n (by omega) (by omega), ?_⟩
  rw [nI_clamp (by omega), q4 i (by omega), hi]
  have e : swI (some v0) + 1 = nI (v0 + 1) := nI_1 v0
  have em : (if (300 : Int32) < nI (arrs true l h d f).length then (300 : Int32) else nI (arrs true l h d f).length) = nI many := by
    by_cases c : 300 < (arrs true l h d f).length
    · rw [if_pos (by rw [c3, nI_ltI (by omega) (by omega)]; exact c), show many = 300 by omega]; rfl
    · rw [if_neg (by rw [c3, nI_ltI (by omega) (by omega)]; exact c), show many = (arrs true l h d f).length by omega]
  rw [e, em]
  refine ⟨by omega, ?_⟩
  exact am_WP.fg (lp_rn (G0 := G) hl hd hd0 h8 hmany (by omega) (fun G' hF => hf.fr hF (by decide) (by decide) (by decide) (by decide)) him hk3 hB hi hP many 0 G (by omega) hW Fr.rf) (by simp [am_le, nI_0])
theorem lp_fs {G0 : am_H} {many one other : Nat} (hl : l ≤ 18) (hd : d < 2 ^ 18) (hd0 : d.testBit 0 = false) (h8 : (bl d).length ≤ 8) (hmany : many = min 300 (arrs true l h d f).length) (hD : 4 ≤ D) (hf : ∀ G, Fr kW G0 G → FO G l h d f) (ho : other < many) {V : Int32} (hP : ∀ G, WK G → Fr kW G0 G → P (some (.int V)) G) :
    ∀ (c k : Nat) (s : BT) (G : am_H), k + c = 301 → BI many k s → BW G s → V = swI ((bfC (nbB (arrs true l h d f) d) many other c k s).1 other) → Fr kW G0 G → k ≤ s.2.length → am_WP X D 41 39 [some (.ref 7), some (.ref 3), some (.int (nI one)), some (.int (nI other)), some (.int (nI k))] [] G 0 0 P := by
  have c3 : (300 : Int32) = nI 300 := rfl
  intro c
  induction c with
  | zero =>
    intro k s G hk hB hW hV hF hkl
    have := hB.2.1
    omega
  | succ c ih =>
    intro k s G hk hB hW hV hF hkl
    have hlen : s.2.length ≤ many := by have := hB.2.1; omega
    have hs : bfC (nbB (arrs true l h d f) d) many other (c + 1) k s = match s.2[k]? with | none => s | some i => if i = other then s else bfC (nbB (arrs true l h d f) d) many other c (k + 1) (bfI (nbB (arrs true l h d f) d i) ((s.1 i).getD 0 + 1) many s) := rfl
    rw [hs] at hV
    obtain ⟨st, qu, q1, q2, q3, q4, q5⟩ := id hW
    have fin : V = swI (s.1 other) → am_WP X D 41 88 [some (.ref 7), some (.ref 3), some (.int (nI one)), some (.int (nI other)), some (.int (nI k))] [] G 0 0 P := by
      intro hv
      refine am_wps 60 [] ?_
      simp only [J41_0, J41_1, J41_3, J41_5, J41_8, J41_11, J41_12, J41_15, J41_17, J41_18, J41_19, J41_22, J41_25, J41_26, J41_27, J41_30, J41_31, J41_32, J41_33, J41_36, J41_37, J41_39, J41_41, J41_42, J41_45, J41_48, J41_50, J41_53, J41_56, J41_57, J41_60, J41_62, J41_63, J41_64, J41_67, J41_70, J41_71, J41_72, J41_73, J41_76, J41_78, J41_79, J41_82, J41_85, J41_88, J41_89, J41_92, J41_93, J41_96, J41_99, J41_100, J41_103, J41_104, J41_105, J41_108, J41_109, am_gg_c, am_gf_c, am_pf_c, am_af_c, am_sf_c, am_bf_c, am_qf_c, am_ap_c, am_bp_c, am_qp_c, am_lf_c, am_kt_s, am_kt_n, am_wst, am_wstop, am_ns_0, am_ns_1, Bool.not_true, Bool.not_false, Bool.true_and, Bool.false_and, Nat.reduceBEq, ↓reduceIte, am_k2_n, am_k2_i, am_k2_r, am_k2_u, am_k2_f, am_k2_l, Nat.zero_le, true_and, and_true, true_or, or_true, am_cat_0, am_cat_i, am_cat_r, am_cat_l, am_cat_n, Nat.reduceLeDiff, Nat.reduceAdd, Option.isSome_some, List.getElem?_cons_zero, List.getElem?_cons_succ, am_fit_i, am_fit_r, am_fit_a, q1, q2]
      rw [if_neg (nI_pos (by omega)), if_pos (by rw [c3, nI_ltI (by omega) (by omega)]; omega)]
      refine ⟨vp_in_n (by omega) (by omega), ?_⟩
      rw [nI_clamp (by omega), q4 other (by omega), ← hv]
      exact hP G hW.w hF
    by_cases c1 : k < s.2.length
    · have hki : s.2[k]? = some s.2[k] := List.getElem?_eq_getElem c1
      generalize s.2[k] = i at hki
      rw [hki] at hV
      simp only at hV
      have him := (hB.1 i (List.mem_of_getElem? hki)).1
      have hi := (hB.1 i (List.mem_of_getElem? hki)).2
      obtain ⟨v0, hv0⟩ := Option.isSome_iff_exists.mp hi
      rw [hv0] at hV
      simp only [Option.getD_some] at hV
      have hv := hB.2.2 i v0 hv0
      refine am_wps 60 [67, 85, 88] ?_
      simp only [J41_0, J41_1, J41_3, J41_5, J41_8, J41_11, J41_12, J41_15, J41_17, J41_18, J41_19, J41_22, J41_25, J41_26, J41_27, J41_30, J41_31, J41_32, J41_33, J41_36, J41_37, J41_39, J41_41, J41_42, J41_45, J41_48, J41_50, J41_53, J41_56, J41_57, J41_60, J41_62, J41_63, J41_64, J41_67, J41_70, J41_71, J41_72, J41_73, J41_76, J41_78, J41_79, J41_82, J41_85, J41_88, J41_89, J41_92, J41_93, J41_96, J41_99, J41_100, J41_103, J41_104, J41_105, J41_108, J41_109, am_gg_c, am_gf_c, am_pf_c, am_af_c, am_sf_c, am_bf_c, am_qf_c, am_ap_c, am_bp_c, am_qp_c, am_lf_c, am_kt_s, am_kt_n, am_wst, am_wstop, am_ns_0, am_ns_1, Bool.not_true, Bool.not_false, Bool.true_and, Bool.false_and, Nat.reduceBEq, ↓reduceIte, am_k2_n, am_k2_i, am_k2_r, am_k2_u, am_k2_f, am_k2_l, Nat.zero_le, true_and, and_true, true_or, or_true, am_cat_0, am_cat_i, am_cat_r, am_cat_l, am_cat_n, Nat.reduceLeDiff, Nat.reduceAdd, Option.isSome_some, List.getElem?_cons_zero, List.getElem?_cons_succ, am_fit_i, am_fit_r, am_fit_a, q1, q3]
      rw [if_pos (by rw [nI_ltI (by omega) (by omega)]; exact c1), if_pos (by rw [c3, nI_ltI (by omega) (by omega)]; omega)]
      refine ⟨vp_in_n (by omega) (by omega), ?_⟩
      rw [nI_clamp (by omega), q5 k i hki]
      by_cases ci : i = other
      · rw [if_pos ci] at hV
        rw [if_pos (by rw [ci])]
        exact am_goto I41_67 (fin hV)
      · rw [if_neg ci] at hV
        rw [if_neg (fun e => ci (bi_inj (by omega) (by omega) e))]
        refine ⟨vp_in_n (by omega) (by omega), ?_⟩
        refine sp_reachN hl hd hd0 h8 hmany hD (hf G hF) hW him (by omega) hB hv0 (fun G' u1 u2 => ?_)
        simp only [J41_0, J41_1, J41_3, J41_5, J41_8, J41_11, J41_12, J41_15, J41_17, J41_18, J41_19, J41_22, J41_25, J41_26, J41_27, J41_30, J41_31, J41_32, J41_33, J41_36, J41_37, J41_39, J41_41, J41_42, J41_45, J41_48, J41_50, J41_53, J41_56, J41_57, J41_60, J41_62, J41_63, J41_64, J41_67, J41_70, J41_71, J41_72, J41_73, J41_76, J41_78, J41_79, J41_82, J41_85, J41_88, J41_89, J41_92, J41_93, J41_96, J41_99, J41_100, J41_103, J41_104, J41_105, J41_108, J41_109, am_gg_c, am_gf_c, am_pf_c, am_af_c, am_sf_c, am_bf_c, am_qf_c, am_ap_c, am_bp_c, am_qp_c, am_lf_c, am_kt_s, am_kt_n, am_wst, am_wstop, am_ns_0, am_ns_1, Bool.not_true, Bool.not_false, Bool.true_and, Bool.false_and, Nat.reduceBEq, ↓reduceIte, am_k2_n, am_k2_i, am_k2_r, am_k2_u, am_k2_f, am_k2_l, Nat.zero_le, true_and, and_true, true_or, or_true, am_cat_0, am_cat_i, am_cat_r, am_cat_l, am_cat_n, Nat.reduceLeDiff, Nat.reduceAdd, Option.isSome_some, List.getElem?_cons_zero, List.getElem?_cons_succ, am_fit_i, am_fit_r, am_fit_a]
        refine am_goto I41_85 ?_
        rw [nI_1]
        obtain ⟨_, Z, hZ⟩ := bfI_mono (nb := nbB (arrs true l h d f) d i) (v := v0 + 1) (s := s) many
        refine ih (k + 1) _ G' (by omega) (bfI_bi hB (by omega) many (Nat.le_refl _)) u1 hV (hF.tr u2) ?_
        rw [hZ, List.length_append]
        omega
    · have hki : s.2[k]? = none := List.getElem?_eq_none (by omega)
      rw [hki] at hV
      simp only at hV
      refine am_wps 60 [67, 85, 88] ?_
      simp only [J41_0, J41_1, J41_3, J41_5, J41_8, J41_11, J41_12, J41_15, J41_17, J41_18, J41_19, J41_22, J41_25, J41_26, J41_27, J41_30, J41_31, J41_32, J41_33, J41_36, J41_37, J41_39, J41_41, J41_42, J41_45, J41_48, J41_50, J41_53, J41_56, J41_57, J41_60, J41_62, J41_63, J41_64, J41_67, J41_70, J41_71, J41_72, J41_73, J41_76, J41_78, J41_79, J41_82, J41_85, J41_88, J41_89, J41_92, J41_93, J41_96, J41_99, J41_100, J41_103, J41_104, J41_105, J41_108, J41_109, am_gg_c, am_gf_c, am_pf_c, am_af_c, am_sf_c, am_bf_c, am_qf_c, am_ap_c, am_bp_c, am_qp_c, am_lf_c, am_kt_s, am_kt_n, am_wst, am_wstop, am_ns_0, am_ns_1, Bool.not_true, Bool.not_false, Bool.true_and, Bool.false_and, Nat.reduceBEq, ↓reduceIte, am_k2_n, am_k2_i, am_k2_r, am_k2_u, am_k2_f, am_k2_l, Nat.zero_le, true_and, and_true, true_or, or_true, am_cat_0, am_cat_i, am_cat_r, am_cat_l, am_cat_n, Nat.reduceLeDiff, Nat.reduceAdd, Option.isSome_some, List.getElem?_cons_zero, List.getElem?_cons_succ, am_fit_i, am_fit_r, am_fit_a, q1]
      rw [if_neg (by rw [nI_ltI (by omega) (by omega)]; exact c1)]
      exact fin hV
theorem lp_fs0 {G0 : am_H} {q : Int32} {qu : Nat → Int32} {x3 x4 : Int32} (h1 : ∀ G, Fr [8] G0 G → am_ob G 7 3 = some [.ref 8, .ref 9, .int q]) (hP : ∀ G st, am_ia G 8 0 = some (300, st) → (∀ j, j < 300 → st j = -1) → Fr [8] G0 G → am_WP X D 41 25 [some (.ref 7), some (.ref 3), some (.int x3), some (.int x4), none] [] G 0 0 P) : ∀ (c k : Nat) (G : am_H) (st : Nat → Int32), k + c = 300 → am_ia G 8 0 = some (300, st) → (∀ j, j < k → st j = -1) → Fr [8] G0 G → am_WP X D 41 3 [some (.ref 7), some (.ref 3), some (.int x3), some (.int x4), some (.int (nI k))] [] G 0 0 P := by
  have c3 : (300 : Int32) = nI 300 := rfl
  intro c
  induction c with
  | zero =>
    intro k G st hk hs hv hF
    refine am_wps 40 [22, 25] ?_
    simp only [J41_0, J41_1, J41_3, J41_5, J41_8, J41_11, J41_12, J41_15, J41_17, J41_18, J41_19, J41_22, J41_25, J41_26, J41_27, J41_30, J41_31, J41_32, J41_33, J41_36, J41_37, J41_39, J41_41, J41_42, J41_45, J41_48, J41_50, J41_53, J41_56, J41_57, J41_60, J41_62, J41_63, J41_64, J41_67, J41_70, J41_71, J41_72, J41_73, J41_76, J41_78, J41_79, J41_82, J41_85, J41_88, J41_89, J41_92, J41_93, J41_96, J41_99, J41_100, J41_103, J41_104, J41_105, J41_108, J41_109, am_gg_c, am_gf_c, am_pf_c, am_af_c, am_sf_c, am_bf_c, am_qf_c, am_ap_c, am_bp_c, am_qp_c, am_lf_c, am_kt_s, am_kt_n, am_wst, am_wstop, am_ns_0, am_ns_1, Bool.not_true, Bool.not_false, Bool.true_and, Bool.false_and, Nat.reduceBEq, ↓reduceIte, am_k2_n, am_k2_i, am_k2_r, am_k2_u, am_k2_f, am_k2_l, Nat.zero_le, true_and, and_true, true_or, or_true, am_cat_0, am_cat_i, am_cat_r, am_cat_l, am_cat_n, Nat.reduceLeDiff, Nat.reduceAdd, Option.isSome_some, List.getElem?_cons_zero, List.getElem?_cons_succ, am_fit_i, am_fit_r, am_fit_a]
    rw [if_neg (by rw [show k = 300 by omega]; decide)]
    exact am_WP.fg (hP G st hs (fun j hj => hv j (by omega)) hF) (by simp [am_le])
  | succ c ih =>
    intro k G st hk hs hv hF
    have k1 := h1 G hF
    have k8 := am_ia_lt hs
    refine am_wps 40 [22, 25] ?_
    simp only [J41_0, J41_1, J41_3, J41_5, J41_8, J41_11, J41_12, J41_15, J41_17, J41_18, J41_19, J41_22, J41_25, J41_26, J41_27, J41_30, J41_31, J41_32, J41_33, J41_36, J41_37, J41_39, J41_41, J41_42, J41_45, J41_48, J41_50, J41_53, J41_56, J41_57, J41_60, J41_62, J41_63, J41_64, J41_67, J41_70, J41_71, J41_72, J41_73, J41_76, J41_78, J41_79, J41_82, J41_85, J41_88, J41_89, J41_92, J41_93, J41_96, J41_99, J41_100, J41_103, J41_104, J41_105, J41_108, J41_109, am_gg_c, am_gf_c, am_pf_c, am_af_c, am_sf_c, am_bf_c, am_qf_c, am_ap_c, am_bp_c, am_qp_c, am_lf_c, am_kt_s, am_kt_n, am_wst, am_wstop, am_ns_0, am_ns_1, Bool.not_true, Bool.not_false, Bool.true_and, Bool.false_and, Nat.reduceBEq, ↓reduceIte, am_k2_n, am_k2_i, am_k2_r, am_k2_u, am_k2_f, am_k2_l, Nat.zero_le, true_and, and_true, true_or, or_true, am_cat_0, am_cat_i, am_cat_r, am_cat_l, am_cat_n, Nat.reduceLeDiff, Nat.reduceAdd, Option.isSome_some, List.getElem?_cons_zero, List.getElem?_cons_succ, am_fit_i, am_fit_r, am_fit_a, k1, hs]
    rw [if_pos (by rw [c3, nI_ltI (by omega) (by omega)]; omega)]
    refine ⟨vp_in_n (by omega) (by omega), am_goto I41_22 ?_⟩
    rw [nI_1, nI_clamp (by omega)]
    refine ih (k + 1) _ _ (by omega) (am_ia_ss k8) (fun j hj => ?_) (hF.tr (Fr.set (by decide)))
    rw [upd_at]
    by_cases e : j = k
    · rw [if_pos e]
    · rw [if_neg e]; exact hv j (by omega)
theorem sp_fewest {G : am_H} {one other : Nat} (hl : l ≤ 18) (hd : d < 2 ^ 18) (hd0 : d.testBit 0 = false) (h8 : (bl d).length ≤ 8) (hD : 5 ≤ D) (hf : FO G l h d f) (hW : WK G) (h1 : one < min 300 (arrs true l h d f).length) (h2 : other < min 300 (arrs true l h d f).length) (hP : ∀ G', WK G' → Fr kW G G' → P (some (.int (swI ((bfO (nbB (arrs true l h d f) d) (min 300 (arrs true l h d f).length) 301 0 (bf0 one)).1 other)))) G') : am_CB X D 41 [.ref 7, .ref 3, .int (nI one), .int (nI other)] G P := by
  obtain ⟨D, rfl⟩ : ∃ D0, D = D0 + 1 := ⟨D - 1, by omega⟩
  obtain ⟨q, st, qu, q1, q2, q3⟩ := hW
  refine B41 60 [3] ?_
  simp only [J41_0, J41_1, J41_3, J41_5, J41_8, J41_11, J41_12, J41_15, J41_17, J41_18, J41_19, J41_22, J41_25, J41_26, J41_27, J41_30, J41_31, J41_32, J41_33, J41_36, J41_37, J41_39, J41_41, J41_42, J41_45, J41_48, J41_50, J41_53, J41_56, J41_57, J41_60, J41_62, J41_63, J41_64, J41_67, J41_70, J41_71, J41_72, J41_73, J41_76, J41_78, J41_79, J41_82, J41_85, J41_88, J41_89, J41_92, J41_93, J41_96, J41_99, J41_100, J41_103, J41_104, J41_105, J41_108, J41_109, am_gg_c, am_gf_c, am_pf_c, am_af_c, am_sf_c, am_bf_c, am_qf_c, am_ap_c, am_bp_c, am_qp_c, am_lf_c, am_kt_s, am_kt_n, am_wst, am_wstop, am_ns_0, am_ns_1, Bool.not_true, Bool.not_false, Bool.true_and, Bool.false_and, Nat.reduceBEq, ↓reduceIte, am_k2_n, am_k2_i, am_k2_r, am_k2_u, am_k2_f, am_k2_l, Nat.zero_le, true_and, and_true, true_or, or_true, am_cat_0, am_cat_i, am_cat_r, am_cat_l, am_cat_n, Nat.reduceLeDiff, Nat.reduceAdd, Option.isSome_some, List.getElem?_cons_zero, List.getElem?_cons_succ, am_fit_i, am_fit_r, am_fit_a]
  refine am_WP.fg (lp_fs0 (G0 := G) (q := q) (qu := qu) (x3 := nI one) (x4 := nI other) (fun G' hF => (by rw [hF.ob (by decide)]; exact q1)) (fun G1 st1 u1 u2 hF => ?_) 300 0 G st rfl q2 (fun j hj => by omega) Fr.rf) (by simp [am_le, nI_0])
  have w1 : am_ob G1 7 3 = some [.ref 8, .ref 9, .int q] := by rw [hF.ob (by decide)]; exact q1
  have w3 : am_ia G1 9 0 = some (300, qu) := by rw [hF.ia (by decide)]; exact q3
  have k7 := am_ob_lt w1
  refine am_wps 60 [39] ?_
  simp only [J41_0, J41_1, J41_3, J41_5, J41_8, J41_11, J41_12, J41_15, J41_17, J41_18, J41_19, J41_22, J41_25, J41_26, J41_27, J41_30, J41_31, J41_32, J41_33, J41_36, J41_37, J41_39, J41_41, J41_42, J41_45, J41_48, J41_50, J41_53, J41_56, J41_57, J41_60, J41_62, J41_63, J41_64, J41_67, J41_70, J41_71, J41_72, J41_73, J41_76, J41_78, J41_79, J41_82, J41_85, J41_88, J41_89, J41_92, J41_93, J41_96, J41_99, J41_100, J41_103, J41_104, J41_105, J41_108, J41_109, am_gg_c, am_gf_c, am_pf_c, am_af_c, am_sf_c, am_bf_c, am_qf_c, am_ap_c, am_bp_c, am_qp_c, am_lf_c, am_kt_s, am_kt_n, am_wst, am_wstop, am_ns_0, am_ns_1, Bool.not_true, Bool.not_false, Bool.true_and, Bool.false_and, Nat.reduceBEq, ↓reduceIte, am_k2_n, am_k2_i, am_k2_r, am_k2_u, am_k2_f, am_k2_l, Nat.zero_le, true_and, and_true, true_or, or_true, am_cat_0, am_cat_i, am_cat_r, am_cat_l, am_cat_n, Nat.reduceLeDiff, Nat.reduceAdd, Option.isSome_some, List.getElem?_cons_zero, List.getElem?_cons_succ, am_fit_i, am_fit_r, am_fit_a, w1, Value.category, List.length_cons, List.length_nil, Nat.reduceLT, List.set_cons_succ, List.set_cons_zero, am_ob_ss, k7]
  have hF2 : Fr kW G (G1.set 7 (am_o 3 [.ref 8, .ref 9, .int 0])) := (hF.up (by decide)).tr (Fr.set (by decide))
  have hW0 : BW (G1.set 7 (am_o 3 [.ref 8, .ref 9, .int 0])) (fun _ => none, []) := ⟨st1, qu, am_ob_ss k7, by rw [am_ia_sn (show 7 ≠ 8 by decide)]; exact u1, by rw [am_ia_sn (show 7 ≠ 9 by decide)]; exact w3, fun j hj => u2 j hj, fun i v hv => by simp at hv⟩
  rw [show (0 : Int32) = nI 0 by rfl]
  refine sp_reach (v := 0) (by omega) hW0 (by omega) (by simp) (fun G2 v1 v2 => ?_)
  simp only [J41_0, J41_1, J41_3, J41_5, J41_8, J41_11, J41_12, J41_15, J41_17, J41_18, J41_19, J41_22, J41_25, J41_26, J41_27, J41_30, J41_31, J41_32, J41_33, J41_36, J41_37, J41_39, J41_41, J41_42, J41_45, J41_48, J41_50, J41_53, J41_56, J41_57, J41_60, J41_62, J41_63, J41_64, J41_67, J41_70, J41_71, J41_72, J41_73, J41_76, J41_78, J41_79, J41_82, J41_85, J41_88, J41_89, J41_92, J41_93, J41_96, J41_99, J41_100, J41_103, J41_104, J41_105, J41_108, J41_109, am_gg_c, am_gf_c, am_pf_c, am_af_c, am_sf_c, am_bf_c, am_qf_c, am_ap_c, am_bp_c, am_qp_c, am_lf_c, am_kt_s, am_kt_n, am_wst, am_wstop, am_ns_0, am_ns_1, Bool.not_true, Bool.not_false, Bool.true_and, Bool.false_and, Nat.reduceBEq, ↓reduceIte, am_k2_n, am_k2_i, am_k2_r, am_k2_u, am_k2_f, am_k2_l, Nat.zero_le, true_and, and_true, true_or, or_true, am_cat_0, am_cat_i, am_cat_r, am_cat_l, am_cat_n, Nat.reduceLeDiff, Nat.reduceAdd, Option.isSome_some, List.getElem?_cons_zero, List.getElem?_cons_succ, am_fit_i, am_fit_r, am_fit_a]
  have v1 : BW G2 (bf0 one) := v1
  have hF3 := hF2.tr v2
  have hB0 := bf0_bi h1
  have hgo := lp_fs (X := X) (D := D) (P := P) (G0 := G2) (one := one) (other := other) hl hd hd0 h8 rfl (by omega) (fun G' hF' => hf.fr (hF3.tr hF') (by decide) (by decide) (by decide) (by decide)) h2 (V := swI ((bfO (nbB (arrs true l h d f) d) (min 300 (arrs true l h d f).length) 301 0 (bf0 one)).1 other)) (fun G' a b => hP G' a (hF3.tr b)) 301 0 (bf0 one) G2 (by omega) hB0 v1 (by rw [bfC_eq 301 0 0 (bf0 one) hB0]) Fr.rf (by omega)
  exact am_WP.fg hgo (by simp [am_le, nI_0])
end WLK
