def blb (d e : Nat) : List Nat := (List.range e).filter (fun x => d.testBit x)
theorem blb_s (d e : Nat) : blb d (e + 1) = blb d e ++ (if d.testBit e = true then [e] else []) := by
  unfold blb
  rw [List.range_succ, List.filter_append]
  congr 1
  simp [List.filter_cons]
theorem blb_18 (d : Nat) : blb d 18 = bl d := rfl
theorem blb_pre {d e m : Nat} (h : e ≤ m) : ∃ Z, blb d m = blb d e ++ Z := by
  induction m with
  | zero => exact ⟨[], by rw [show e = 0 by omega]; simp⟩
  | succ m ih =>
    by_cases q : e = m + 1
    · exact ⟨[], by rw [q]; simp⟩
    · obtain ⟨Z, hZ⟩ := ih (by omega)
      exact ⟨Z ++ (if d.testBit m = true then [m] else []), by rw [blb_s, hZ, List.append_assoc]⟩
theorem PB.fr {G G' : am_H} {ks : List Nat} {k pk l h d : Nat} {f : Nat → Nat} (hp : PB G k pk l h d f) (hF : Fr ks G G') (h1 : ¬ k ∈ ks) (h2 : ¬ pk ∈ ks) : PB G' k pk l h d f := by
  obtain ⟨a, ⟨p, b, b2⟩, c⟩ := hp
  exact ⟨by rw [hF.ob h1]; exact a, ⟨p, by rw [hF.ia h2]; exact b, b2⟩, c⟩
def ddN (d j : Nat) : Nat := (bl d).getD j 0
def smN (l h d : Nat) (f : Nat → Nat) (j : Nat) : Nat := stN l h (ddN d j) f
def srN (l h d : Nat) (f : Nat → Nat) : Nat := if mbsB l h d f = true then (bl d).length else 0
def srL (l h d : Nat) (f : Nat → Nat) : List Nat := if mbsB l h d f = true then flC (ddN d) (smN l h d f) (bl d).length (frN l h) (2 ^ (bl d).length - 1) 0 else []
def sma (df : Nat → Int32) : Prop := ∀ j, j < 8 → ∃ x, df j = nI x ∧ x < 18
theorem flC_congr {dd sm dd' sm' : Nat → Nat} {nn : Nat} (hnn : nn ≤ 8) (h1 : ∀ j, j < nn → dd j = dd' j) (h2 : ∀ j, j < nn → sm j = sm' j) : ∀ (c O left st : Nat), left < 2 ^ nn → flC dd sm c O left st = flC dd' sm' c O left st
  | 0, _, _, _, _ => rfl
  | c + 1, O, left, st, hl => by
    have hb : ∀ i, left.testBit i = true → i < nn := fun i hi => by
      rcases Nat.lt_or_ge i nn with z | z
      · exact z
      · rw [bt_hi hl z] at hi; cases hi
    have ho : ∀ i, left.testBit i = true → osN dd sm O i = osN dd' sm' O i := fun i hi => by unfold osN; rw [h1 i (hb i hi), h2 i (hb i hi)]
    have ha : acB dd sm O left 8 = acB dd' sm' O left 8 := by
      unfold acB
      congr 1
      funext i
      cases hi : left.testBit i with
      | false => rfl
      | true => rw [ho i hi]
    have hf : flI dd sm (flC dd sm c) O left st = flI dd' sm' (flC dd' sm' c) O left st := by
     funext i
     unfold flI
     cases hi : left.testBit i with
     | false => rfl
     | true => rw [ho i hi, h1 i (hb i hi), flC_congr hnn h1 h2 c _ _ _ (Nat.lt_of_le_of_lt (Nat.sub_le _ _) hl)]
    unfold flC
    rw [ha, hf]
theorem bl_ones : ∀ c, c ≤ 8 → (bl (2 ^ c - 1)).length = c := by decide +kernel
section SEARCH
variable {X : Nat × (Nat → Int32)} {D : Nat} {G : am_H} {P : Option Value → am_H → Prop} {k pa da sa room kp pp l h d : Nat} {f : Nat → Nat}
theorem lp_search (hD : 13 ≤ D) (hp : PB G kp pp l h d f) (hd0 : d.testBit 0 = false) (hd8 : (bl d).length ≤ 8) (hdis : ¬ kp ∈ [k, pa, da, sa] ∧ ¬ pp ∈ [k, pa, da, sa]) (hdk : k ≠ da ∧ k ≠ sa ∧ da ≠ sa ∧ k ≠ pa ∧ pa ≠ da ∧ pa ≠ sa) (hroom : room ≤ 512)
    (hP : ∀ G' df sf, AR G' k pa da sa room (nI l) (nI (bl d).length) df sf ((flC (ddN d) (smN l h d f) (bl d).length (frN l h) (2 ^ (bl d).length - 1) 0).take room) → sma df → (∀ j, j < 8 → ∃ x, sf j = nI x) → (∀ j, j < (bl d).length → df j = nI (ddN d j)) → Fr [k, pa, da, sa] G G' → P none G') :
    ∀ (n i : Nat) (e : Int32) (G1 : am_H) (df sf : Nat → Int32) (q : Nat → Int64), i + n = 18 → e = nI i → Fr [k, pa, da, sa] G G1 → am_ob G1 k 0 = some [.ref pa, .int (nI l), .int (nI (blb d i).length), .ref da, .ref sa, .int 0] → am_la G1 pa = some (room, q) → am_ia G1 da 0 = some (8, df) → am_ia G1 sa 0 = some (8, sf) → sma df → (∀ j, j < 8 → ∃ x, sf j = nI x) → (∀ j x, (blb d i)[j]? = some x → df j = nI x ∧ sf j = nI (stN l h x f)) →
      am_WP X D 1 28 [some (.ref k), some (.ref kp), some (.int e)] [] G1 0 0 P
  | 0, i, e, G1, df, sf, q, hi, he, hF, h1, h2, h3, h4, h5, h5b, h6 => by
    have hp1 := hp.fr hF hdis.1 hdis.2
    obtain ⟨p1, ⟨pp1, p2, p3⟩, hl, hh, hd, hf⟩ := id hp1
    have hi18 : i = 18 := by omega
    subst hi18
    rw [blb_18] at h1 h6
    refine am_wps 60 [88] ?_
    simp only [J1_0, J1_1, J1_2, J1_5, J1_6, J1_7, J1_10, J1_13, J1_14, J1_15, J1_18, J1_19, J1_22, J1_25, J1_26, J1_27, J1_28, J1_29, J1_31, J1_34, J1_35, J1_36, J1_39, J1_42, J1_43, J1_46, J1_48, J1_51, J1_52, J1_55, J1_56, J1_59, J1_60, J1_61, J1_62, J1_65, J1_66, J1_69, J1_70, J1_71, J1_74, J1_75, J1_76, J1_77, J1_80, J1_81, J1_82, J1_85, J1_88, J1_91, J1_92, J1_93, J1_96, J1_97, J1_98, J1_101, J1_102, J1_103, J1_106, J1_107, J1_108, J1_111, am_gg_c, am_gf_c, am_pf_c, am_af_c, am_sf_c, am_bf_c, am_qf_c, am_ap_c, am_bp_c, am_qp_c, am_lf_c, am_kt_s, am_kt_n, am_wst, am_wstop, am_ns_0, am_ns_1, Bool.not_true, Bool.not_false, Bool.true_and, Bool.false_and, Nat.reduceBEq, ↓reduceIte, am_k2_n, am_k2_i, am_k2_r, am_k2_u, am_k2_f, am_k2_l, Nat.zero_le, true_and, and_true, true_or, or_true, am_cat_0, am_cat_i, am_cat_r, am_cat_l, am_cat_n, Nat.reduceLeDiff, Nat.reduceAdd, Option.isSome_some, List.getElem?_cons_zero, List.getElem?_cons_succ, am_fit_i, am_fit_r, am_fit_a, p1]
    rw [if_pos (by rw [he]; decide)]
    refine sp_free (by omega) hp1 ?_
    simp only [J1_0, J1_1, J1_2, J1_5, J1_6, J1_7, J1_10, J1_13, J1_14, J1_15, J1_18, J1_19, J1_22, J1_25, J1_26, J1_27, J1_28, J1_29, J1_31, J1_34, J1_35, J1_36, J1_39, J1_42, J1_43, J1_46, J1_48, J1_51, J1_52, J1_55, J1_56, J1_59, J1_60, J1_61, J1_62, J1_65, J1_66, J1_69, J1_70, J1_71, J1_74, J1_75, J1_76, J1_77, J1_80, J1_81, J1_82, J1_85, J1_88, J1_91, J1_92, J1_93, J1_96, J1_97, J1_98, J1_101, J1_102, J1_103, J1_106, J1_107, J1_108, J1_111, am_gg_c, am_gf_c, am_pf_c, am_af_c, am_sf_c, am_bf_c, am_qf_c, am_ap_c, am_bp_c, am_qp_c, am_lf_c, am_kt_s, am_kt_n, am_wst, am_wstop, am_ns_0, am_ns_1, Bool.not_true, Bool.not_false, Bool.true_and, Bool.false_and, Nat.reduceBEq, ↓reduceIte, am_k2_n, am_k2_i, am_k2_r, am_k2_u, am_k2_f, am_k2_l, Nat.zero_le, true_and, and_true, true_or, or_true, am_cat_0, am_cat_i, am_cat_r, am_cat_l, am_cat_n, Nat.reduceLeDiff, Nat.reduceAdd, Option.isSome_some, List.getElem?_cons_zero, List.getElem?_cons_succ, am_fit_i, am_fit_r, am_fit_a, h1]
    refine sp_range (a := 0) (b := (bl d).length) (by omega) (by omega) (by omega) (by rw [Int32.sub_add_cancel]) ?_
    simp only [J1_0, J1_1, J1_2, J1_5, J1_6, J1_7, J1_10, J1_13, J1_14, J1_15, J1_18, J1_19, J1_22, J1_25, J1_26, J1_27, J1_28, J1_29, J1_31, J1_34, J1_35, J1_36, J1_39, J1_42, J1_43, J1_46, J1_48, J1_51, J1_52, J1_55, J1_56, J1_59, J1_60, J1_61, J1_62, J1_65, J1_66, J1_69, J1_70, J1_71, J1_74, J1_75, J1_76, J1_77, J1_80, J1_81, J1_82, J1_85, J1_88, J1_91, J1_92, J1_93, J1_96, J1_97, J1_98, J1_101, J1_102, J1_103, J1_106, J1_107, J1_108, J1_111, am_gg_c, am_gf_c, am_pf_c, am_af_c, am_sf_c, am_bf_c, am_qf_c, am_ap_c, am_bp_c, am_qp_c, am_lf_c, am_kt_s, am_kt_n, am_wst, am_wstop, am_ns_0, am_ns_1, Bool.not_true, Bool.not_false, Bool.true_and, Bool.false_and, Nat.reduceBEq, ↓reduceIte, am_k2_n, am_k2_i, am_k2_r, am_k2_u, am_k2_f, am_k2_l, Nat.zero_le, true_and, and_true, true_or, or_true, am_cat_0, am_cat_i, am_cat_r, am_cat_l, am_cat_n, Nat.reduceLeDiff, Nat.reduceAdd, Option.isSome_some, List.getElem?_cons_zero, List.getElem?_cons_succ, am_fit_i, am_fit_r, am_fit_a]
    have hdd : ∀ j, j < 8 → df j = nI (if j < (bl d).length then ddN d j else (df j).toInt.toNat) ∧ (if j < (bl d).length then ddN d j else (df j).toInt.toNat) < 18 ∧ (j < (bl d).length → 0 < (if j < (bl d).length then ddN d j else (df j).toInt.toNat)) := by
      intro j hj
      by_cases c : j < (bl d).length
      · have e1 : (bl d)[j]? = some (ddN d j) := by simp [ddN, List.getD, c]
        rw [if_pos c]
        have hm := bl_mem.mp (List.mem_of_getElem? e1)
        refine ⟨(h6 j _ e1).1, hm.1, fun _ => ?_⟩
        rcases Nat.eq_zero_or_pos (ddN d j) with z | z
        · rw [z, hd0] at hm; cases hm.2
        · exact z
      · rw [if_neg c]
        obtain ⟨x, a, b⟩ := h5 j hj
        refine ⟨?_, ?_, fun z => absurd z c⟩
        · rw [a, nI_toInt (by omega)]; simp
        · rw [a, nI_toInt (by omega)]; simpa using b
    have hsm : ∀ j, j < 8 → sf j = nI (if j < (bl d).length then smN l h d f j else (sf j).toBitVec.toNat) := by
      intro j hj
      by_cases c : j < (bl d).length
      · have e1 : (bl d)[j]? = some (ddN d j) := by simp [ddN, List.getD, c]
        rw [if_pos c]
        exact (h6 j _ e1).2
      · rw [if_neg c]
        apply Int32.toBitVec_inj.1
        show _ = BitVec.ofNat 32 _
        simp
    have hone := bl_ones _ hd8
    refine sp_fill (nn := (bl d).length) hd8 hdd hsm (bl d).length (frN l h) (2 ^ (bl d).length - 2 ^ 0) 0 0 D G1 [] _ hone (by have := Nat.two_pow_pos (bl d).length; omega) (by omega) (by omega) (frN_lt hl) (by omega) ⟨h1, ⟨q, h2, fun j v hj => by simp at hj⟩, h3, h4, by simp, hroom⟩ (fun G' a b => ?_)
    simp only [J1_0, J1_1, J1_2, J1_5, J1_6, J1_7, J1_10, J1_13, J1_14, J1_15, J1_18, J1_19, J1_22, J1_25, J1_26, J1_27, J1_28, J1_29, J1_31, J1_34, J1_35, J1_36, J1_39, J1_42, J1_43, J1_46, J1_48, J1_51, J1_52, J1_55, J1_56, J1_59, J1_60, J1_61, J1_62, J1_65, J1_66, J1_69, J1_70, J1_71, J1_74, J1_75, J1_76, J1_77, J1_80, J1_81, J1_82, J1_85, J1_88, J1_91, J1_92, J1_93, J1_96, J1_97, J1_98, J1_101, J1_102, J1_103, J1_106, J1_107, J1_108, J1_111, am_gg_c, am_gf_c, am_pf_c, am_af_c, am_sf_c, am_bf_c, am_qf_c, am_ap_c, am_bp_c, am_qp_c, am_lf_c, am_kt_s, am_kt_n, am_wst, am_wstop, am_ns_0, am_ns_1, Bool.not_true, Bool.not_false, Bool.true_and, Bool.false_and, Nat.reduceBEq, ↓reduceIte, am_k2_n, am_k2_i, am_k2_r, am_k2_u, am_k2_f, am_k2_l, Nat.zero_le, true_and, and_true, true_or, or_true, am_cat_0, am_cat_i, am_cat_r, am_cat_l, am_cat_n, Nat.reduceLeDiff, Nat.reduceAdd, Option.isSome_some, List.getElem?_cons_zero, List.getElem?_cons_succ, am_fit_i, am_fit_r, am_fit_a]
    rw [List.nil_append, flC_congr (dd' := ddN d) (sm' := smN l h d f) hd8 (fun j hj => if_pos hj) (fun j hj => if_pos hj) _ _ _ _ (by have := Nat.two_pow_pos (bl d).length; omega)] at a
    exact hP G' df sf a h5 h5b (fun j hj => by have := (hdd j (by omega)).1; rw [if_pos hj] at this; exact this) (hF.tr (b.up (by simp)))
  | n + 1, i, e, G1, df, sf, q, hi, he, hF, h1, h2, h3, h4, h5, h5b, h6 => by
    have hp1 := hp.fr hF hdis.1 hdis.2
    obtain ⟨p1, ⟨pp1, p2, p3⟩, hl, hh, hd, hf⟩ := id hp1
    subst he
    have hs := blb_s d i
    refine am_wps 60 [88] ?_
    simp only [J1_0, J1_1, J1_2, J1_5, J1_6, J1_7, J1_10, J1_13, J1_14, J1_15, J1_18, J1_19, J1_22, J1_25, J1_26, J1_27, J1_28, J1_29, J1_31, J1_34, J1_35, J1_36, J1_39, J1_42, J1_43, J1_46, J1_48, J1_51, J1_52, J1_55, J1_56, J1_59, J1_60, J1_61, J1_62, J1_65, J1_66, J1_69, J1_70, J1_71, J1_74, J1_75, J1_76, J1_77, J1_80, J1_81, J1_82, J1_85, J1_88, J1_91, J1_92, J1_93, J1_96, J1_97, J1_98, J1_101, J1_102, J1_103, J1_106, J1_107, J1_108, J1_111, am_gg_c, am_gf_c, am_pf_c, am_af_c, am_sf_c, am_bf_c, am_qf_c, am_ap_c, am_bp_c, am_qp_c, am_lf_c, am_kt_s, am_kt_n, am_wst, am_wstop, am_ns_0, am_ns_1, Bool.not_true, Bool.not_false, Bool.true_and, Bool.false_and, Nat.reduceBEq, ↓reduceIte, am_k2_n, am_k2_i, am_k2_r, am_k2_u, am_k2_f, am_k2_l, Nat.zero_le, true_and, and_true, true_or, or_true, am_cat_0, am_cat_i, am_cat_r, am_cat_l, am_cat_n, Nat.reduceLeDiff, Nat.reduceAdd, Option.isSome_some, List.getElem?_cons_zero, List.getElem?_cons_succ, am_fit_i, am_fit_r, am_fit_a, p1]
    rw [if_neg (by rw [show (17 : Int32) = nI 17 by rfl, nI_ltI (by omega) (by omega)]; omega)]
    refine sp_hasDifference (by omega) hp1 ?_
    simp only [J1_0, J1_1, J1_2, J1_5, J1_6, J1_7, J1_10, J1_13, J1_14, J1_15, J1_18, J1_19, J1_22, J1_25, J1_26, J1_27, J1_28, J1_29, J1_31, J1_34, J1_35, J1_36, J1_39, J1_42, J1_43, J1_46, J1_48, J1_51, J1_52, J1_55, J1_56, J1_59, J1_60, J1_61, J1_62, J1_65, J1_66, J1_69, J1_70, J1_71, J1_74, J1_75, J1_76, J1_77, J1_80, J1_81, J1_82, J1_85, J1_88, J1_91, J1_92, J1_93, J1_96, J1_97, J1_98, J1_101, J1_102, J1_103, J1_106, J1_107, J1_108, J1_111, am_gg_c, am_gf_c, am_pf_c, am_af_c, am_sf_c, am_bf_c, am_qf_c, am_ap_c, am_bp_c, am_qp_c, am_lf_c, am_kt_s, am_kt_n, am_wst, am_wstop, am_ns_0, am_ns_1, Bool.not_true, Bool.not_false, Bool.true_and, Bool.false_and, Nat.reduceBEq, ↓reduceIte, am_k2_n, am_k2_i, am_k2_r, am_k2_u, am_k2_f, am_k2_l, Nat.zero_le, true_and, and_true, true_or, or_true, am_cat_0, am_cat_i, am_cat_r, am_cat_l, am_cat_n, Nat.reduceLeDiff, Nat.reduceAdd, Option.isSome_some, List.getElem?_cons_zero, List.getElem?_cons_succ, am_fit_i, am_fit_r, am_fit_a, h1]
    rw [show ctn d (nI i) = d.testBit i from ctn_n (by omega) (by omega)]
    cases cb : d.testBit i with
    | false =>
      simp only [Bool.false_eq_true, if_false, if_true]
      rw [cb, if_neg (by decide), List.append_nil] at hs
      exact am_goto I1_88 (lp_search hD hp hd0 hd8 hdis hdk hroom hP n (i + 1) _ G1 df sf q (by omega) (by rw [nI_1]) hF (by rw [hs]; exact h1) h2 h3 h4 h5 h5b (by rw [hs]; exact h6))
    | true =>
      simp only [if_true, if_neg (show ¬ (1 : Int32) = 0 by decide)]
      rw [cb, if_pos rfl] at hs
      obtain ⟨Z, hZ⟩ := blb_pre (d := d) (show i + 1 ≤ 18 by omega)
      have hlen : (blb d i).length < 8 := by
        have e1 := congrArg List.length hZ
        rw [blb_18, hs] at e1
        simp at e1
        omega
      rw [if_pos (by rw [show (8 : Int32) = nI 8 by rfl, nI_ltI (by omega) (by omega)]; omega)]
      simp only [J1_0, J1_1, J1_2, J1_5, J1_6, J1_7, J1_10, J1_13, J1_14, J1_15, J1_18, J1_19, J1_22, J1_25, J1_26, J1_27, J1_28, J1_29, J1_31, J1_34, J1_35, J1_36, J1_39, J1_42, J1_43, J1_46, J1_48, J1_51, J1_52, J1_55, J1_56, J1_59, J1_60, J1_61, J1_62, J1_65, J1_66, J1_69, J1_70, J1_71, J1_74, J1_75, J1_76, J1_77, J1_80, J1_81, J1_82, J1_85, J1_88, J1_91, J1_92, J1_93, J1_96, J1_97, J1_98, J1_101, J1_102, J1_103, J1_106, J1_107, J1_108, J1_111, am_gg_c, am_gf_c, am_pf_c, am_af_c, am_sf_c, am_bf_c, am_qf_c, am_ap_c, am_bp_c, am_qp_c, am_lf_c, am_kt_s, am_kt_n, am_wst, am_wstop, am_ns_0, am_ns_1, Bool.not_true, Bool.not_false, Bool.true_and, Bool.false_and, Nat.reduceBEq, ↓reduceIte, am_k2_n, am_k2_i, am_k2_r, am_k2_u, am_k2_f, am_k2_l, Nat.zero_le, true_and, and_true, true_or, or_true, am_cat_0, am_cat_i, am_cat_r, am_cat_l, am_cat_n, Nat.reduceLeDiff, Nat.reduceAdd, Option.isSome_some, List.getElem?_cons_zero, List.getElem?_cons_succ, am_fit_i, am_fit_r, am_fit_a, h1, h3]
      have hk1 := am_ob_lt h1
      refine ⟨vp_in_n hlen (by omega), ?_⟩
      rw [nI_clamp (by omega)]
      have hkd := hdk
      simp only [J1_0, J1_1, J1_2, J1_5, J1_6, J1_7, J1_10, J1_13, J1_14, J1_15, J1_18, J1_19, J1_22, J1_25, J1_26, J1_27, J1_28, J1_29, J1_31, J1_34, J1_35, J1_36, J1_39, J1_42, J1_43, J1_46, J1_48, J1_51, J1_52, J1_55, J1_56, J1_59, J1_60, J1_61, J1_62, J1_65, J1_66, J1_69, J1_70, J1_71, J1_74, J1_75, J1_76, J1_77, J1_80, J1_81, J1_82, J1_85, J1_88, J1_91, J1_92, J1_93, J1_96, J1_97, J1_98, J1_101, J1_102, J1_103, J1_106, J1_107, J1_108, J1_111, am_gg_c, am_gf_c, am_pf_c, am_af_c, am_sf_c, am_bf_c, am_qf_c, am_ap_c, am_bp_c, am_qp_c, am_lf_c, am_kt_s, am_kt_n, am_wst, am_wstop, am_ns_0, am_ns_1, Bool.not_true, Bool.not_false, Bool.true_and, Bool.false_and, Nat.reduceBEq, ↓reduceIte, am_k2_n, am_k2_i, am_k2_r, am_k2_u, am_k2_f, am_k2_l, Nat.zero_le, true_and, and_true, true_or, or_true, am_cat_0, am_cat_i, am_cat_r, am_cat_l, am_cat_n, Nat.reduceLeDiff, Nat.reduceAdd, Option.isSome_some, List.getElem?_cons_zero, List.getElem?_cons_succ, am_fit_i, am_fit_r, am_fit_a, h1, am_ob_sn (Ne.symm hkd.1)]
      have hF2 : Fr [k, pa, da, sa] G (G1.set da (am_ai 0 8 (upd df (blb d i).length (nI i)))) := hF.tr (Fr.set (by simp))
      have hp2 := hp.fr hF2 hdis.1 hdis.2
      have p1' := hp2.1
      simp only [p1', J1_0, J1_1, J1_2, J1_5, J1_6, J1_7, J1_10, J1_13, J1_14, J1_15, J1_18, J1_19, J1_22, J1_25, J1_26, J1_27, J1_28, J1_29, J1_31, J1_34, J1_35, J1_36, J1_39, J1_42, J1_43, J1_46, J1_48, J1_51, J1_52, J1_55, J1_56, J1_59, J1_60, J1_61, J1_62, J1_65, J1_66, J1_69, J1_70, J1_71, J1_74, J1_75, J1_76, J1_77, J1_80, J1_81, J1_82, J1_85, J1_88, J1_91, J1_92, J1_93, J1_96, J1_97, J1_98, J1_101, J1_102, J1_103, J1_106, J1_107, J1_108, J1_111, am_gg_c, am_gf_c, am_pf_c, am_af_c, am_sf_c, am_bf_c, am_qf_c, am_ap_c, am_bp_c, am_qp_c, am_lf_c, am_kt_s, am_kt_n, am_wst, am_wstop, am_ns_0, am_ns_1, Bool.not_true, Bool.not_false, Bool.true_and, Bool.false_and, Nat.reduceBEq, ↓reduceIte, am_k2_n, am_k2_i, am_k2_r, am_k2_u, am_k2_f, am_k2_l, Nat.zero_le, true_and, and_true, true_or, or_true, am_cat_0, am_cat_i, am_cat_r, am_cat_l, am_cat_n, Nat.reduceLeDiff, Nat.reduceAdd, Option.isSome_some, List.getElem?_cons_zero, List.getElem?_cons_succ, am_fit_i, am_fit_r, am_fit_a]
      refine sp_startsOf (by omega) (by omega) hp2 ?_
      simp only [J1_0, J1_1, J1_2, J1_5, J1_6, J1_7, J1_10, J1_13, J1_14, J1_15, J1_18, J1_19, J1_22, J1_25, J1_26, J1_27, J1_28, J1_29, J1_31, J1_34, J1_35, J1_36, J1_39, J1_42, J1_43, J1_46, J1_48, J1_51, J1_52, J1_55, J1_56, J1_59, J1_60, J1_61, J1_62, J1_65, J1_66, J1_69, J1_70, J1_71, J1_74, J1_75, J1_76, J1_77, J1_80, J1_81, J1_82, J1_85, J1_88, J1_91, J1_92, J1_93, J1_96, J1_97, J1_98, J1_101, J1_102, J1_103, J1_106, J1_107, J1_108, J1_111, am_gg_c, am_gf_c, am_pf_c, am_af_c, am_sf_c, am_bf_c, am_qf_c, am_ap_c, am_bp_c, am_qp_c, am_lf_c, am_kt_s, am_kt_n, am_wst, am_wstop, am_ns_0, am_ns_1, Bool.not_true, Bool.not_false, Bool.true_and, Bool.false_and, Nat.reduceBEq, ↓reduceIte, am_k2_n, am_k2_i, am_k2_r, am_k2_u, am_k2_f, am_k2_l, Nat.zero_le, true_and, and_true, true_or, or_true, am_cat_0, am_cat_i, am_cat_r, am_cat_l, am_cat_n, Nat.reduceLeDiff, Nat.reduceAdd, Option.isSome_some, List.getElem?_cons_zero, List.getElem?_cons_succ, am_fit_i, am_fit_r, am_fit_a, am_ia_sn hkd.2.2.1, h4]
      refine ⟨vp_in_n hlen (by omega), ?_⟩
      rw [nI_clamp (by omega)]
      simp only [J1_0, J1_1, J1_2, J1_5, J1_6, J1_7, J1_10, J1_13, J1_14, J1_15, J1_18, J1_19, J1_22, J1_25, J1_26, J1_27, J1_28, J1_29, J1_31, J1_34, J1_35, J1_36, J1_39, J1_42, J1_43, J1_46, J1_48, J1_51, J1_52, J1_55, J1_56, J1_59, J1_60, J1_61, J1_62, J1_65, J1_66, J1_69, J1_70, J1_71, J1_74, J1_75, J1_76, J1_77, J1_80, J1_81, J1_82, J1_85, J1_88, J1_91, J1_92, J1_93, J1_96, J1_97, J1_98, J1_101, J1_102, J1_103, J1_106, J1_107, J1_108, J1_111, am_gg_c, am_gf_c, am_pf_c, am_af_c, am_sf_c, am_bf_c, am_qf_c, am_ap_c, am_bp_c, am_qp_c, am_lf_c, am_kt_s, am_kt_n, am_wst, am_wstop, am_ns_0, am_ns_1, Bool.not_true, Bool.not_false, Bool.true_and, Bool.false_and, Nat.reduceBEq, ↓reduceIte, am_k2_n, am_k2_i, am_k2_r, am_k2_u, am_k2_f, am_k2_l, Nat.zero_le, true_and, and_true, true_or, or_true, am_cat_0, am_cat_i, am_cat_r, am_cat_l, am_cat_n, Nat.reduceLeDiff, Nat.reduceAdd, Option.isSome_some, List.getElem?_cons_zero, List.getElem?_cons_succ, am_fit_i, am_fit_r, am_fit_a, am_ob_sn (Ne.symm hkd.1), am_ob_sn (Ne.symm hkd.2.1), h1, Value.category, List.length_cons, List.length_nil, Nat.reduceLT, List.set_cons_succ, List.set_cons_zero]
      refine am_goto I1_88 (lp_search hD hp hd0 hd8 hdis hdk hroom hP n (i + 1) _ _ (upd df (blb d i).length (nI i)) (upd sf (blb d i).length (nI (stN l h i f))) q (by omega) (by rw [nI_1]) (hF2.tr ((Fr.set (by simp)).tr (Fr.set (by simp)))) ?_ ?_ ?_ ?_ ?_ ?_ ?_)
      · rw [am_ob_ss (by simp only [List.length_set]; exact hk1), hs, List.length_append, nI_1]; rfl
      · rw [am_la_sn hkd.2.2.2.1, am_la_sn (Ne.symm hkd.2.2.2.2.2), am_la_sn (Ne.symm hkd.2.2.2.2.1)]; exact h2
      · rw [am_ia_sn hkd.1, am_ia_sn (Ne.symm hkd.2.2.1)]; exact am_ia_ss (am_ia_lt h3)
      · rw [am_ia_sn hkd.2.1]; exact am_ia_ss (by rw [List.length_set]; exact am_ia_lt h4)
      · intro j hj
        rw [upd_at]
        split
        · exact ⟨i, rfl, by omega⟩
        · exact h5 j hj
      · intro j hj
        rw [upd_at]
        split
        · exact ⟨_, rfl⟩
        · exact h5b j hj
      · intro j x hx
        rw [hs] at hx
        rw [upd_at, upd_at]
        by_cases e : j = (blb d i).length
        · subst e
          simp at hx
          subst hx
          simp
        · rw [if_neg e, if_neg e]
          have hj2 := (List.getElem?_eq_some_iff.mp hx).1
          simp at hj2
          rw [List.getElem?_append_left (by omega)] at hx
          exact h6 j x hx
theorem sp_search {ln0 pr0 : Int32} {df0 sf0 : Nat → Int32} {sz0 : Int32} {q0 : Nat → Int64} (hD : 14 ≤ D) (hp : PB G kp pp l h d f) (hd0 : d.testBit 0 = false) (hd8 : (bl d).length ≤ 8) (hdis : ¬ kp ∈ [k, pa, da, sa] ∧ ¬ pp ∈ [k, pa, da, sa]) (hdk : k ≠ da ∧ k ≠ sa ∧ da ≠ sa ∧ k ≠ pa ∧ pa ≠ da ∧ pa ≠ sa) (hroom : room ≤ 512)
    (h1 : am_ob G k 0 = some [.ref pa, .int ln0, .int pr0, .ref da, .ref sa, .int sz0]) (h2 : am_la G pa = some (room, q0)) (h3 : am_ia G da 0 = some (8, df0)) (h4 : am_ia G sa 0 = some (8, sf0)) (h5 : sma df0) (h5b : ∀ j, j < 8 → ∃ x, sf0 j = nI x)
    (hP : ∀ G' df sf, AR G' k pa da sa room (nI l) (nI (srN l h d f)) df sf ((srL l h d f).take room) → sma df → (∀ j, j < 8 → ∃ x, sf j = nI x) → (∀ j, j < srN l h d f → df j = nI (ddN d j)) → Fr [k, pa, da, sa] G G' → P none G') :
    am_CB X D 1 [.ref k, .ref kp] G P := by
  obtain ⟨D, rfl⟩ : ∃ D0, D = D0 + 1 := ⟨D - 1, by omega⟩
  have hk := am_ob_lt h1
  have hk2 : kp ≠ k := fun e => hdis.1 (by simp [e])
  refine B1 60 [28] ?_
  have p1 := hp.1
  simp only [J1_0, J1_1, J1_2, J1_5, J1_6, J1_7, J1_10, J1_13, J1_14, J1_15, J1_18, J1_19, J1_22, J1_25, J1_26, J1_27, J1_28, J1_29, J1_31, J1_34, J1_35, J1_36, J1_39, J1_42, J1_43, J1_46, J1_48, J1_51, J1_52, J1_55, J1_56, J1_59, J1_60, J1_61, J1_62, J1_65, J1_66, J1_69, J1_70, J1_71, J1_74, J1_75, J1_76, J1_77, J1_80, J1_81, J1_82, J1_85, J1_88, J1_91, J1_92, J1_93, J1_96, J1_97, J1_98, J1_101, J1_102, J1_103, J1_106, J1_107, J1_108, J1_111, am_gg_c, am_gf_c, am_pf_c, am_af_c, am_sf_c, am_bf_c, am_qf_c, am_ap_c, am_bp_c, am_qp_c, am_lf_c, am_kt_s, am_kt_n, am_wst, am_wstop, am_ns_0, am_ns_1, Bool.not_true, Bool.not_false, Bool.true_and, Bool.false_and, Nat.reduceBEq, ↓reduceIte, am_k2_n, am_k2_i, am_k2_r, am_k2_u, am_k2_f, am_k2_l, Nat.zero_le, true_and, and_true, true_or, or_true, am_cat_0, am_cat_i, am_cat_r, am_cat_l, am_cat_n, Nat.reduceLeDiff, Nat.reduceAdd, Option.isSome_some, List.getElem?_cons_zero, List.getElem?_cons_succ, am_fit_i, am_fit_r, am_fit_a, h1, p1, am_ob_ss, am_ob_sn (Ne.symm hk2), List.length_set, hk, List.length_cons, List.length_nil, List.set_cons_zero, List.set_cons_succ, Nat.reduceLT]
  have hF : Fr [k, pa, da, sa] G (((G.set k (am_o 0 [.ref pa, .int ln0, .int pr0, .ref da, .ref sa, .int 0])).set k (am_o 0 [.ref pa, .int (nI l), .int pr0, .ref da, .ref sa, .int 0])).set k (am_o 0 [.ref pa, .int (nI l), .int 0, .ref da, .ref sa, .int 0])) := (Fr.set (by simp)).tr ((Fr.set (by simp)).tr (Fr.set (by simp)))
  have h1' : am_ob (((G.set k (am_o 0 [.ref pa, .int ln0, .int pr0, .ref da, .ref sa, .int 0])).set k (am_o 0 [.ref pa, .int (nI l), .int pr0, .ref da, .ref sa, .int 0])).set k (am_o 0 [.ref pa, .int (nI l), .int 0, .ref da, .ref sa, .int 0])) k 0 = some [.ref pa, .int (nI l), .int 0, .ref da, .ref sa, .int 0] := am_ob_ss (by simp only [List.length_set]; exact hk)
  have hother : ∀ j, k ≠ j → (((G.set k (am_o 0 [.ref pa, .int ln0, .int pr0, .ref da, .ref sa, .int 0])).set k (am_o 0 [.ref pa, .int (nI l), .int pr0, .ref da, .ref sa, .int 0])).set k (am_o 0 [.ref pa, .int (nI l), .int 0, .ref da, .ref sa, .int 0]))[j]? = G[j]? := fun j hj => by rw [am_get_sn hj, am_get_sn hj, am_get_sn hj]
  generalize (((G.set k (am_o 0 [.ref pa, .int ln0, .int pr0, .ref da, .ref sa, .int 0])).set k (am_o 0 [.ref pa, .int (nI l), .int pr0, .ref da, .ref sa, .int 0])).set k (am_o 0 [.ref pa, .int (nI l), .int 0, .ref da, .ref sa, .int 0])) = G1 at *
  have hp1 := hp.fr hF hdis.1 hdis.2
  have h2' : am_la G1 pa = some (room, q0) := by simp only [am_la, hother pa hdk.2.2.2.1]; exact h2
  have h3' : am_ia G1 da 0 = some (8, df0) := by simp only [am_ia, hother da hdk.1]; exact h3
  have h4' : am_ia G1 sa 0 = some (8, sf0) := by simp only [am_ia, hother sa hdk.2.1]; exact h4
  refine sp_mayBe (by omega) hp1 ?_
  simp only [J1_0, J1_1, J1_2, J1_5, J1_6, J1_7, J1_10, J1_13, J1_14, J1_15, J1_18, J1_19, J1_22, J1_25, J1_26, J1_27, J1_28, J1_29, J1_31, J1_34, J1_35, J1_36, J1_39, J1_42, J1_43, J1_46, J1_48, J1_51, J1_52, J1_55, J1_56, J1_59, J1_60, J1_61, J1_62, J1_65, J1_66, J1_69, J1_70, J1_71, J1_74, J1_75, J1_76, J1_77, J1_80, J1_81, J1_82, J1_85, J1_88, J1_91, J1_92, J1_93, J1_96, J1_97, J1_98, J1_101, J1_102, J1_103, J1_106, J1_107, J1_108, J1_111, am_gg_c, am_gf_c, am_pf_c, am_af_c, am_sf_c, am_bf_c, am_qf_c, am_ap_c, am_bp_c, am_qp_c, am_lf_c, am_kt_s, am_kt_n, am_wst, am_wstop, am_ns_0, am_ns_1, Bool.not_true, Bool.not_false, Bool.true_and, Bool.false_and, Nat.reduceBEq, ↓reduceIte, am_k2_n, am_k2_i, am_k2_r, am_k2_u, am_k2_f, am_k2_l, Nat.zero_le, true_and, and_true, true_or, or_true, am_cat_0, am_cat_i, am_cat_r, am_cat_l, am_cat_n, Nat.reduceLeDiff, Nat.reduceAdd, Option.isSome_some, List.getElem?_cons_zero, List.getElem?_cons_succ, am_fit_i, am_fit_r, am_fit_a]
  unfold srN srL at hP
  cases c : mbsB l h d f with
  | false =>
    simp only [Bool.false_eq_true, if_false, if_true]
    rw [c] at hP
    simp only [Bool.false_eq_true, if_false, List.take_nil] at hP
    exact hP G1 df0 sf0 ⟨h1', ⟨q0, h2', fun j v hj => by simp at hj⟩, h3', h4', by simp, hroom⟩ h5 h5b (fun j hj => by omega) hF
  | true =>
    simp only [if_true, if_neg (show ¬ (1 : Int32) = 0 by decide)]
    rw [c] at hP
    simp only [if_true] at hP
    have hb1 : blb d 1 = [] := by simp [blb, List.range_succ, hd0]
    refine lp_search (by omega) hp1 hd0 hd8 hdis hdk hroom (fun G' df sf a b b2 c2 e => hP G' df sf a b b2 c2 (hF.tr e)) 17 1 _ G1 df0 sf0 q0 rfl rfl Fr.rf (by rw [hb1]; exact h1') h2' h3' h4' h5 h5b (fun j x hx => by rw [hb1] at hx; simp at hx)
end SEARCH
