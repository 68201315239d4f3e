/-! beginOwn, and the list of arrangements of a problem -/
/-- a pin that no arrangement can keep -/
def badP (h d : Nat) (f : Nat → Nat) (n : Nat) : Bool := (List.range n).any (fun q => !(f q == 0) && (h.testBit q || !d.testBit (f q)))
theorem badP_s (h d : Nat) (f : Nat → Nat) (n : Nat) : badP h d f (n + 1) = (badP h d f n || (!(f n == 0) && (h.testBit n || !d.testBit (f n)))) := by
  unfold badP
  rw [List.range_succ, List.any_append]
  simp
/-- the arrangements of a problem with its pins -/
def arrs (ipb : Bool) (l h d : Nat) (f : Nat → Nat) : List (List (Nat × Nat)) :=
  if (filledB l h d && !(ipb && badP h d f l)) = true then ens (okB ipb f) (bl d).length (frN l h) d else []
def duO (l h d : Nat) (f : Nat → Nat) (n : Nat) : Int32 := if badP h d f n = true then -6 else duN l h d
section OWN
variable {X : Nat × (Nat → Int32)} {D : Nat} {P : Option Value → am_H → Prop} {pm vp : Int32} {l h d : Nat} {f : Nat → Nat}
theorem lp_own {G0 : am_H} (hD : 3 ≤ D) (hm : ∀ G, Fr kE G0 G → MA G l h d f) (hP : ∀ G', EnB G' pm vp true l h d (duO l h d f l) → Fr kE G0 G' → P none G') : ∀ (n i : Nat) (e : Int32) (G : am_H), i + n = l → e = nI i → EnB G pm vp true l h d (duO l h d f i) → Fr kE G0 G → am_WP X D 116 25 [some (.ref 23), some (.int e), none] [] G 0 0 P
  | 0, i, e, G, hi, he, hE, hF => by
    have h1 := hE.1
    have hl := (hm G hF).2.2.1
    refine am_wps 60 [96] ?_
    simp only [J116_0, J116_1, J116_2, J116_5, J116_6, J116_7, J116_8, J116_11, J116_12, J116_13, J116_14, J116_17, J116_18, J116_19, J116_20, J116_23, J116_24, J116_25, J116_26, J116_27, J116_30, J116_33, J116_34, J116_37, J116_38, J116_39, J116_40, J116_41, J116_44, J116_45, J116_48, J116_49, J116_52, J116_55, J116_56, J116_57, J116_60, J116_61, J116_62, J116_63, J116_64, J116_67, J116_70, J116_71, J116_74, J116_75, J116_76, J116_77, J116_78, J116_81, J116_83, J116_86, J116_87, J116_90, J116_93, J116_96, J116_99, am_gg_c, am_gf_c, am_pf_c, am_af_c, am_sf_c, am_bf_c, am_qf_c, am_ap_c, am_bp_c, am_qp_c, am_lf_c, am_kt_s, am_kt_n, am_wst, am_wstop, am_ns_0, am_ns_1, Bool.not_true, Bool.not_false, Bool.true_and, Bool.false_and, Nat.reduceBEq, ↓reduceIte, am_k2_n, am_k2_i, am_k2_r, am_k2_u, am_k2_f, am_k2_l, Nat.zero_le, true_and, and_true, true_or, or_true, am_cat_0, am_cat_i, am_cat_r, am_cat_l, am_cat_n, Nat.reduceLeDiff, Nat.reduceAdd, Option.isSome_some, List.getElem?_cons_zero, List.getElem?_cons_succ, am_fit_i, am_fit_r, am_fit_a, h1]
    rw [if_neg (by rw [he, nI_ltI (by omega) (by omega)]; omega)]
    rw [show i = l by omega] at hE
    exact hP G hE hF
  | n + 1, i, e, G, hi, he, hE, hF => by
    subst he
    obtain ⟨h1, ⟨pl, h28⟩, ⟨ch, h29, h29b⟩, ⟨r, h30, h30b⟩, ⟨bg, h31⟩⟩ := id hE
    have hma := hm G hF
    obtain ⟨⟨af, a1, a2, a3, a4, a5⟩, hl1, hl, hh, hd, hd0, hf⟩ := id hma
    have k23 := am_ob_lt h1
    have hfi := hf i
    have hh18 : h < 2 ^ 18 := Nat.lt_of_lt_of_le hh (Nat.pow_le_pow_right (by omega) hl)
    have haf : af (3 + nI i).toNatClampNeg = nI (f i) := by rw [show (3 : Int32) = nI 3 by rfl, nI_add, nI_clamp (by omega)]; exact a5 i (by omega)
    have hin : vp_in (3 + nI i) 21 := vp_lit (k := 3 + i) (by rw [show (3 : Int32) = nI 3 by rfl, nI_add]) (by omega) (by omega)
    have hs := badP_s h d f i
    have bad : badP h d f (i + 1) = true → am_WP X D 116 70 [some (.ref 23), some (.int (nI i)), none] [] G 0 0 P := by
      intro hb
      refine am_wps 60 [96] ?_
      simp only [J116_0, J116_1, J116_2, J116_5, J116_6, J116_7, J116_8, J116_11, J116_12, J116_13, J116_14, J116_17, J116_18, J116_19, J116_20, J116_23, J116_24, J116_25, J116_26, J116_27, J116_30, J116_33, J116_34, J116_37, J116_38, J116_39, J116_40, J116_41, J116_44, J116_45, J116_48, J116_49, J116_52, J116_55, J116_56, J116_57, J116_60, J116_61, J116_62, J116_63, J116_64, J116_67, J116_70, J116_71, J116_74, J116_75, J116_76, J116_77, J116_78, J116_81, J116_83, J116_86, J116_87, J116_90, J116_93, J116_96, J116_99, am_gg_c, am_gf_c, am_pf_c, am_af_c, am_sf_c, am_bf_c, am_qf_c, am_ap_c, am_bp_c, am_qp_c, am_lf_c, am_kt_s, am_kt_n, am_wst, am_wstop, am_ns_0, am_ns_1, Bool.not_true, Bool.not_false, Bool.true_and, Bool.false_and, Nat.reduceBEq, ↓reduceIte, am_k2_n, am_k2_i, am_k2_r, am_k2_u, am_k2_f, am_k2_l, Nat.zero_le, true_and, and_true, true_or, or_true, am_cat_0, am_cat_i, am_cat_r, am_cat_l, am_cat_n, Nat.reduceLeDiff, Nat.reduceAdd, Option.isSome_some, List.getElem?_cons_zero, List.getElem?_cons_succ, am_fit_i, am_fit_r, am_fit_a, h1, if_neg (show ¬ (1 : Int32) = 0 by decide), Value.category, List.length_cons, List.length_nil, Nat.reduceLT, List.set_cons_succ, List.set_cons_zero]
      refine am_goto I116_96 (am_WP.fg (lp_own hD hm hP n (i + 1) (nI i + 1) _ (by omega) (by rw [nI_1]) ⟨?_, ⟨pl, by rw [am_ia_sn (show 23 ≠ 28 by decide)]; exact h28⟩, ⟨ch, by rw [am_ia_sn (show 23 ≠ 29 by decide)]; exact h29, h29b⟩, ⟨r, by rw [am_ia_sn (show 23 ≠ 30 by decide)]; exact h30, h30b⟩, ⟨bg, by rw [am_ia_sn (show 23 ≠ 31 by decide)]; exact h31⟩⟩ (hF.tr (Fr.set (by decide)))) (by simp [am_le]))
      unfold duO
      rw [hb]
      exact am_ob_ss k23
    have good : badP h d f (i + 1) = badP h d f i → am_WP X D 116 74 [some (.ref 23), some (.int (nI i)), none] [] G 0 0 P := by
      intro hb
      refine am_wps 60 [96] ?_
      simp only [J116_0, J116_1, J116_2, J116_5, J116_6, J116_7, J116_8, J116_11, J116_12, J116_13, J116_14, J116_17, J116_18, J116_19, J116_20, J116_23, J116_24, J116_25, J116_26, J116_27, J116_30, J116_33, J116_34, J116_37, J116_38, J116_39, J116_40, J116_41, J116_44, J116_45, J116_48, J116_49, J116_52, J116_55, J116_56, J116_57, J116_60, J116_61, J116_62, J116_63, J116_64, J116_67, J116_70, J116_71, J116_74, J116_75, J116_76, J116_77, J116_78, J116_81, J116_83, J116_86, J116_87, J116_90, J116_93, J116_96, J116_99, am_gg_c, am_gf_c, am_pf_c, am_af_c, am_sf_c, am_bf_c, am_qf_c, am_ap_c, am_bp_c, am_qp_c, am_lf_c, am_kt_s, am_kt_n, am_wst, am_wstop, am_ns_0, am_ns_1, Bool.not_true, Bool.not_false, Bool.true_and, Bool.false_and, Nat.reduceBEq, ↓reduceIte, am_k2_n, am_k2_i, am_k2_r, am_k2_u, am_k2_f, am_k2_l, Nat.zero_le, true_and, and_true, true_or, or_true, am_cat_0, am_cat_i, am_cat_r, am_cat_l, am_cat_n, Nat.reduceLeDiff, Nat.reduceAdd, Option.isSome_some, List.getElem?_cons_zero, List.getElem?_cons_succ, am_fit_i, am_fit_r, am_fit_a, h1, if_true, Value.category, List.length_cons, List.length_nil, Nat.reduceLT, List.set_cons_succ, List.set_cons_zero]
      refine am_goto I116_96 (am_WP.fg (lp_own hD hm hP n (i + 1) (nI i + 1) _ (by omega) (by rw [nI_1]) ⟨?_, ⟨pl, by rw [am_ia_sn (show 23 ≠ 28 by decide)]; exact h28⟩, ⟨ch, by rw [am_ia_sn (show 23 ≠ 29 by decide)]; exact h29, h29b⟩, ⟨r, by rw [am_ia_sn (show 23 ≠ 30 by decide)]; exact h30, h30b⟩, ⟨bg, by rw [am_ia_sn (show 23 ≠ 31 by decide)]; exact h31⟩⟩ (hF.tr (Fr.set (by decide)))) (by simp [am_le]))
      have e : duO l h d f (i + 1) = duO l h d f i := by unfold duO; rw [hb]
      rw [e]
      exact am_ob_ss k23
    refine am_wps 60 [70, 74] ?_
    simp only [J116_0, J116_1, J116_2, J116_5, J116_6, J116_7, J116_8, J116_11, J116_12, J116_13, J116_14, J116_17, J116_18, J116_19, J116_20, J116_23, J116_24, J116_25, J116_26, J116_27, J116_30, J116_33, J116_34, J116_37, J116_38, J116_39, J116_40, J116_41, J116_44, J116_45, J116_48, J116_49, J116_52, J116_55, J116_56, J116_57, J116_60, J116_61, J116_62, J116_63, J116_64, J116_67, J116_70, J116_71, J116_74, J116_75, J116_76, J116_77, J116_78, J116_81, J116_83, J116_86, J116_87, J116_90, J116_93, J116_96, J116_99, am_gg_c, am_gf_c, am_pf_c, am_af_c, am_sf_c, am_bf_c, am_qf_c, am_ap_c, am_bp_c, am_qp_c, am_lf_c, am_kt_s, am_kt_n, am_wst, am_wstop, am_ns_0, am_ns_1, Bool.not_true, Bool.not_false, Bool.true_and, Bool.false_and, Nat.reduceBEq, ↓reduceIte, am_k2_n, am_k2_i, am_k2_r, am_k2_u, am_k2_f, am_k2_l, Nat.zero_le, true_and, and_true, true_or, or_true, am_cat_0, am_cat_i, am_cat_r, am_cat_l, am_cat_n, Nat.reduceLeDiff, Nat.reduceAdd, Option.isSome_some, List.getElem?_cons_zero, List.getElem?_cons_succ, am_fit_i, am_fit_r, am_fit_a, h1, a1, haf]
    rw [if_pos (by rw [nI_ltI (by omega) (by omega)]; omega)]
    refine ⟨hin, ?_⟩
    by_cases c0 : f i = 0
    · rw [if_neg (by rw [c0]; decide)]
      exact good (by rw [hs, c0]; simp)
    · rw [if_pos (by rw [bi_lt, nI_toInt (by omega)]; show (0 : Int) < _; omega)]
      refine sp_has (by omega) (by omega) (by omega) ?_
      simp only [J116_0, J116_1, J116_2, J116_5, J116_6, J116_7, J116_8, J116_11, J116_12, J116_13, J116_14, J116_17, J116_18, J116_19, J116_20, J116_23, J116_24, J116_25, J116_26, J116_27, J116_30, J116_33, J116_34, J116_37, J116_38, J116_39, J116_40, J116_41, J116_44, J116_45, J116_48, J116_49, J116_52, J116_55, J116_56, J116_57, J116_60, J116_61, J116_62, J116_63, J116_64, J116_67, J116_70, J116_71, J116_74, J116_75, J116_76, J116_77, J116_78, J116_81, J116_83, J116_86, J116_87, J116_90, J116_93, J116_96, J116_99, am_gg_c, am_gf_c, am_pf_c, am_af_c, am_sf_c, am_bf_c, am_qf_c, am_ap_c, am_bp_c, am_qp_c, am_lf_c, am_kt_s, am_kt_n, am_wst, am_wstop, am_ns_0, am_ns_1, Bool.not_true, Bool.not_false, Bool.true_and, Bool.false_and, Nat.reduceBEq, ↓reduceIte, am_k2_n, am_k2_i, am_k2_r, am_k2_u, am_k2_f, am_k2_l, Nat.zero_le, true_and, and_true, true_or, or_true, am_cat_0, am_cat_i, am_cat_r, am_cat_l, am_cat_n, Nat.reduceLeDiff, Nat.reduceAdd, Option.isSome_some, List.getElem?_cons_zero, List.getElem?_cons_succ, am_fit_i, am_fit_r, am_fit_a, h1, a1, haf]
      cases cb : h.testBit i with
      | true =>
        simp only [if_true, if_neg (show ¬ (1 : Int32) = 0 by decide)]
        exact bad (by rw [hs, cb]; simp [c0])
      | false =>
        simp only [Bool.false_eq_true, if_false, if_true]
        refine ⟨hin, sp_isOwn (by omega) h1 hma ?_⟩
        simp only [J116_0, J116_1, J116_2, J116_5, J116_6, J116_7, J116_8, J116_11, J116_12, J116_13, J116_14, J116_17, J116_18, J116_19, J116_20, J116_23, J116_24, J116_25, J116_26, J116_27, J116_30, J116_33, J116_34, J116_37, J116_38, J116_39, J116_40, J116_41, J116_44, J116_45, J116_48, J116_49, J116_52, J116_55, J116_56, J116_57, J116_60, J116_61, J116_62, J116_63, J116_64, J116_67, J116_70, J116_71, J116_74, J116_75, J116_76, J116_77, J116_78, J116_81, J116_83, J116_86, J116_87, J116_90, J116_93, J116_96, J116_99, am_gg_c, am_gf_c, am_pf_c, am_af_c, am_sf_c, am_bf_c, am_qf_c, am_ap_c, am_bp_c, am_qp_c, am_lf_c, am_kt_s, am_kt_n, am_wst, am_wstop, am_ns_0, am_ns_1, Bool.not_true, Bool.not_false, Bool.true_and, Bool.false_and, Nat.reduceBEq, ↓reduceIte, am_k2_n, am_k2_i, am_k2_r, am_k2_u, am_k2_f, am_k2_l, Nat.zero_le, true_and, and_true, true_or, or_true, am_cat_0, am_cat_i, am_cat_r, am_cat_l, am_cat_n, Nat.reduceLeDiff, Nat.reduceAdd, Option.isSome_some, List.getElem?_cons_zero, List.getElem?_cons_succ, am_fit_i, am_fit_r, am_fit_a]
        rw [ownB_n hd hd0 (by omega)]
        cases cd : d.testBit (f i) with
        | true =>
          simp only [if_true, if_neg (show ¬ (1 : Int32) = 0 by decide)]
          exact good (by rw [hs, cb, cd]; simp)
        | false =>
          simp only [Bool.false_eq_true, if_false, if_true]
          exact bad (by rw [hs, cb, cd]; simp [c0])
theorem EnB.s {G : am_H} {ipb : Bool} (hl : l ≤ 18) (hh : h < 2 ^ l) (hd : d < 2 ^ 18) (hd0 : d.testBit 0 = false) (hd1 : 1 ≤ (bl d).length) (hd8 : (bl d).length ≤ 8) {due : Int32} (hE : EnB G pm vp ipb l h d due) (hdue : due = if (filledB l h d && !(ipb && badP h d f l)) = true then nI (bl d).length else -6) : EnS G pm vp ipb f (bl d).length l (frN l h) d (arrs ipb l h d f) := by
  obtain ⟨h1, ⟨pl, h28⟩, ⟨ch, h29, h29b⟩, ⟨r, h30, h30b⟩, ⟨bg, h31⟩⟩ := hE
  unfold arrs
  cases c : (filledB l h d && !(ipb && badP h d f l)) with
  | false =>
    rw [c] at hdue
    left
    subst hdue
    exact ⟨rfl, ⟨_, _, _, _, h1⟩, ⟨_, h28⟩, ⟨_, h29⟩, ⟨_, h30⟩, ⟨_, h31⟩⟩
  | true =>
    rw [c] at hdue
    right
    subst hdue
    have e2 : (bl (frN l h)).length = 2 * (bl d).length := by
      rw [Bool.and_eq_true] at c
      simpa [filledB] using c.1
    refine ⟨⟨frN_lt hl, hd, hd0, rfl, e2, hd1, hd8, hl, fun q hq => ?_⟩, [], 0, ⟨h, pl, ch, r, bg, h1, ?_, fun q => frN_bit hl q, h28, h29, h30, h31, trivial, fun _ => h29b, h30b, fun p d hmem => (by cases hmem), trivial⟩, Or.inr ⟨rfl, rfl, ?_⟩⟩
    · rw [frN_bit hl] at hq
      simp only [Bool.and_eq_true, decide_eq_true_eq] at hq
      exact hq.1
    · exact Nat.lt_of_lt_of_le hh (Nat.pow_le_pow_right (by omega) hl)
    · rw [if_pos rfl]
      exact (rs_start hd1 hd0).symm
theorem sp_beginOwn {G : am_H} (hD : 4 ≤ D) (hE : EnA G pm vp) (hm : MA G l h d f) (hd1 : 1 ≤ (bl d).length) (hd8 : (bl d).length ≤ 8) (hP : ∀ G', EnS G' pm vp true f (bl d).length l (frN l h) d (arrs true l h d f) → am_ob G' 23 5 = am_ob G' 23 5 → Fr kE G G' → P none G') : am_CB X D 116 [.ref 23] G P := by
  obtain ⟨D, rfl⟩ : ∃ D0, D = D0 + 1 := ⟨D - 1, by omega⟩
  obtain ⟨⟨af, a1, a2, a3, a4, a5⟩, hl1, hl, hh, hd, hd0, hf⟩ := id hm
  obtain ⟨⟨len, T, m, ip, due, dep, h1⟩, hrest⟩ := id hE
  refine B116 60 [25] ?_
  simp only [J116_0, J116_1, J116_2, J116_5, J116_6, J116_7, J116_8, J116_11, J116_12, J116_13, J116_14, J116_17, J116_18, J116_19, J116_20, J116_23, J116_24, J116_25, J116_26, J116_27, J116_30, J116_33, J116_34, J116_37, J116_38, J116_39, J116_40, J116_41, J116_44, J116_45, J116_48, J116_49, J116_52, J116_55, J116_56, J116_57, J116_60, J116_61, J116_62, J116_63, J116_64, J116_67, J116_70, J116_71, J116_74, J116_75, J116_76, J116_77, J116_78, J116_81, J116_83, J116_86, J116_87, J116_90, J116_93, J116_96, J116_99, am_gg_c, am_gf_c, am_pf_c, am_af_c, am_sf_c, am_bf_c, am_qf_c, am_ap_c, am_bp_c, am_qp_c, am_lf_c, am_kt_s, am_kt_n, am_wst, am_wstop, am_ns_0, am_ns_1, Bool.not_true, Bool.not_false, Bool.true_and, Bool.false_and, Nat.reduceBEq, ↓reduceIte, am_k2_n, am_k2_i, am_k2_r, am_k2_u, am_k2_f, am_k2_l, Nat.zero_le, true_and, and_true, true_or, or_true, am_cat_0, am_cat_i, am_cat_r, am_cat_l, am_cat_n, Nat.reduceLeDiff, Nat.reduceAdd, Option.isSome_some, List.getElem?_cons_zero, List.getElem?_cons_succ, am_fit_i, am_fit_r, am_fit_a, h1, a1]
  refine ⟨vp_lit (k := 0) rfl (by omega) (by omega), vp_lit (k := 1) rfl (by omega) (by omega), vp_lit (k := 2) rfl (by omega) (by omega), ?_⟩
  rw [show af (0 : Int32).toNatClampNeg = nI l from a2, show af (1 : Int32).toNatClampNeg = nI h from a3, show af (2 : Int32).toNatClampNeg = nI d from a4]
  refine sp_begin (ipb := true) (by omega) hE hl hh hd (fun G1 b c => ?_)
  simp only [J116_0, J116_1, J116_2, J116_5, J116_6, J116_7, J116_8, J116_11, J116_12, J116_13, J116_14, J116_17, J116_18, J116_19, J116_20, J116_23, J116_24, J116_25, J116_26, J116_27, J116_30, J116_33, J116_34, J116_37, J116_38, J116_39, J116_40, J116_41, J116_44, J116_45, J116_48, J116_49, J116_52, J116_55, J116_56, J116_57, J116_60, J116_61, J116_62, J116_63, J116_64, J116_67, J116_70, J116_71, J116_74, J116_75, J116_76, J116_77, J116_78, J116_81, J116_83, J116_86, J116_87, J116_90, J116_93, J116_96, J116_99, am_gg_c, am_gf_c, am_pf_c, am_af_c, am_sf_c, am_bf_c, am_qf_c, am_ap_c, am_bp_c, am_qp_c, am_lf_c, am_kt_s, am_kt_n, am_wst, am_wstop, am_ns_0, am_ns_1, Bool.not_true, Bool.not_false, Bool.true_and, Bool.false_and, Nat.reduceBEq, ↓reduceIte, am_k2_n, am_k2_i, am_k2_r, am_k2_u, am_k2_f, am_k2_l, Nat.zero_le, true_and, and_true, true_or, or_true, am_cat_0, am_cat_i, am_cat_r, am_cat_l, am_cat_n, Nat.reduceLeDiff, Nat.reduceAdd, Option.isSome_some, List.getElem?_cons_zero, List.getElem?_cons_succ, am_fit_i, am_fit_r, am_fit_a]
  refine lp_own (G0 := G1) (by omega) (fun G' hF => hm.fr (c.tr hF) (by decide)) (fun G' b2 c2 => hP G' (EnB.s hl hh hd hd0 hd1 hd8 b2 ?_) rfl (c.tr c2)) l 0 _ G1 (by omega) nI_0.symm b Fr.rf
  unfold duO duN
  cases badP h d f l <;> cases filledB l h d <;> rfl
end OWN
