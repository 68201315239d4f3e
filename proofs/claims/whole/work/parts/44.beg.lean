/-! advance, begin, beginOwn -/
def EnS (G : am_H) (pm vp : Int32) (ipb : Bool) (f : Nat → Nat) (n ln O0 m0 : Nat) (R : List (List (Nat × Nat))) : Prop :=
  (R = [] ∧ EnX G pm vp ln) ∨ (PC n ln O0 m0 ∧ ∃ Z b, EnG G pm vp ipb f n ln O0 m0 Z b ∧ ((Z.length = n ∧ R = upR (okB ipb f) n O0 m0 Z) ∨ (Z = [] ∧ b = 0 ∧ R = rsR (okB ipb f) n O0 m0 [] 0)))
section ADV
variable {X : Nat × (Nat → Int32)} {D : Nat} {P : Option Value → am_H → Prop} {pm vp : Int32} {ipb : Bool} {l h d : Nat} {f : Nat → Nat} {n ln O0 m0 : Nat} {R : List (List (Nat × Nat))}
theorem adv_all {G0 : am_H} (hc : PC n ln O0 m0) (hD : 3 ≤ D) (hm : ∀ G, Fr kE G0 G → MA G l h d f) (hP : ∀ v G', PA R pm vp ipb f n ln O0 m0 v G' → Fr kE G0 G' → P v G') :
    ∀ (Z : List (Nat × Nat)) (b : Nat) (G : am_H), Z.length < n → b < 18 → EnG G pm vp ipb f n ln O0 m0 Z b → Fr kE G0 G → rsR (okB ipb f) n O0 m0 Z b = R → am_WP X D 121 68 [some (.ref 23), none] [] G 0 0 P
  | [], b, G, a1, a2, a3, a4, a5 => lp_adv hc hD hm hP (n - 1) 18 [] b G (by simp only [List.length_nil]; omega) (by omega) a2 a3 a4 a5 (fun p w Z' G' e => by cases e)
  | (p, w) :: Z, b, G, a1, a2, a3, a4, a5 => lp_adv hc hD hm hP (n - Z.length - 2) 18 ((p, w) :: Z) b G (by simp only [List.length_cons] at a1 ⊢; omega) (by omega) a2 a3 a4 a5 (fun p' w' Z' G' e b1 b2 b3 => by
      cases e
      have hw : w < 18 := by
        obtain ⟨hO, hmm, hm0, hk, hk2, _⟩ := id hc
        obtain ⟨T, pl, ch, r, bg, _, _, _, _, _, _, _, _, _, _, _, hv⟩ := a3
        exact ((vld_len hO hmm hm0 hk hk2 hv).2.2 p w List.mem_cons_self).2.1
      exact adv_all hc hD hm hP Z w G' (by simp only [List.length_cons] at a1; omega) hw b1 b2 b3)
theorem sp_advance {G : am_H} (hD : 4 ≤ D) (hE : EnS G pm vp ipb f n ln O0 m0 R) (hm : MA G l h d f) (hP : ∀ v G', PA R pm vp ipb f n ln O0 m0 v G' → Fr kE G G' → P v G') : am_CB X D 121 [.ref 23] G P := by
  obtain ⟨D, rfl⟩ : ∃ D0, D = D0 + 1 := ⟨D - 1, by omega⟩
  have hm2 : ∀ G', Fr kE G G' → MA G' l h d f := fun G' hF => hm.fr hF (by decide)
  rcases hE with ⟨rfl, hX⟩ | ⟨hc, Z, b, hE, hcase⟩
  · obtain ⟨⟨T, m, ip, dep, h1⟩, hrest⟩ := id hX
    refine B121 40 [] ?_
    simp only [J121_0, J121_1, J121_4, J121_7, J121_8, J121_9, J121_10, J121_13, J121_14, J121_17, J121_20, J121_21, J121_24, J121_27, J121_28, J121_30, J121_33, J121_34, J121_35, J121_36, J121_37, J121_40, J121_41, J121_42, J121_45, J121_46, J121_47, J121_50, J121_51, J121_54, J121_55, J121_56, J121_59, J121_60, J121_63, J121_64, J121_65, J121_68, J121_69, J121_72, J121_75, J121_76, J121_79, J121_80, J121_83, J121_84, J121_87, J121_88, J121_89, J121_90, J121_93, J121_94, J121_97, J121_98, J121_99, J121_102, J121_103, J121_106, J121_107, J121_110, J121_111, J121_112, J121_115, J121_116, J121_119, J121_120, J121_123, J121_124, J121_125, J121_126, J121_127, J121_130, J121_131, J121_134, J121_135, J121_136, J121_137, J121_140, J121_141, J121_142, J121_145, J121_146, J121_147, J121_150, J121_151, J121_154, J121_155, J121_158, J121_161, J121_162, J121_163, J121_164, J121_167, J121_168, J121_171, J121_172, J121_173, J121_176, J121_177, J121_178, J121_181, J121_182, J121_183, J121_186, J121_187, J121_190, J121_193, J121_194, J121_195, J121_198, J121_199, J121_202, J121_203, J121_204, J121_207, J121_208, J121_211, J121_212, J121_213, J121_216, J121_219, J121_220, J121_222, J121_225, J121_226, am_gg_c, am_gf_c, am_pf_c, am_af_c, am_sf_c, am_bf_c, am_qf_c, am_ap_c, am_bp_c, am_qp_c, am_lf_c, am_kt_s, am_kt_n, am_wst, am_wstop, am_ns_0, am_ns_1, Bool.not_true, Bool.not_false, Bool.true_and, Bool.false_and, Nat.reduceBEq, ↓reduceIte, am_k2_n, am_k2_i, am_k2_r, am_k2_u, am_k2_f, am_k2_l, Nat.zero_le, true_and, and_true, true_or, or_true, am_cat_0, am_cat_i, am_cat_r, am_cat_l, am_cat_n, Nat.reduceLeDiff, Nat.reduceAdd, Option.isSome_some, List.getElem?_cons_zero, List.getElem?_cons_succ, am_fit_i, am_fit_r, am_fit_a, h1]
    rw [if_pos (by decide)]
    exact hP _ _ (Or.inl ⟨rfl, rfl, hX⟩) Fr.rf
  · obtain ⟨hO, hmm, hm0, hk, hk2, hn1, hn8, hln, hO0⟩ := id hc
    obtain ⟨T, pl, ch, rw_, bg, h1, hT, hrel, h28, h29, h30, h31, hst, hcb, hrw, hbg, hv⟩ := id hE
    have k23 := am_ob_lt h1
    have hlen := (vld_len hO hmm hm0 hk hk2 hv).1
    refine B121 60 [68] ?_
    simp only [J121_0, J121_1, J121_4, J121_7, J121_8, J121_9, J121_10, J121_13, J121_14, J121_17, J121_20, J121_21, J121_24, J121_27, J121_28, J121_30, J121_33, J121_34, J121_35, J121_36, J121_37, J121_40, J121_41, J121_42, J121_45, J121_46, J121_47, J121_50, J121_51, J121_54, J121_55, J121_56, J121_59, J121_60, J121_63, J121_64, J121_65, J121_68, J121_69, J121_72, J121_75, J121_76, J121_79, J121_80, J121_83, J121_84, J121_87, J121_88, J121_89, J121_90, J121_93, J121_94, J121_97, J121_98, J121_99, J121_102, J121_103, J121_106, J121_107, J121_110, J121_111, J121_112, J121_115, J121_116, J121_119, J121_120, J121_123, J121_124, J121_125, J121_126, J121_127, J121_130, J121_131, J121_134, J121_135, J121_136, J121_137, J121_140, J121_141, J121_142, J121_145, J121_146, J121_147, J121_150, J121_151, J121_154, J121_155, J121_158, J121_161, J121_162, J121_163, J121_164, J121_167, J121_168, J121_171, J121_172, J121_173, J121_176, J121_177, J121_178, J121_181, J121_182, J121_183, J121_186, J121_187, J121_190, J121_193, J121_194, J121_195, J121_198, J121_199, J121_202, J121_203, J121_204, J121_207, J121_208, J121_211, J121_212, J121_213, J121_216, J121_219, J121_220, J121_222, J121_225, J121_226, am_gg_c, am_gf_c, am_pf_c, am_af_c, am_sf_c, am_bf_c, am_qf_c, am_ap_c, am_bp_c, am_qp_c, am_lf_c, am_kt_s, am_kt_n, am_wst, am_wstop, am_ns_0, am_ns_1, Bool.not_true, Bool.not_false, Bool.true_and, Bool.false_and, Nat.reduceBEq, ↓reduceIte, am_k2_n, am_k2_i, am_k2_r, am_k2_u, am_k2_f, am_k2_l, Nat.zero_le, true_and, and_true, true_or, or_true, am_cat_0, am_cat_i, am_cat_r, am_cat_l, am_cat_n, Nat.reduceLeDiff, Nat.reduceAdd, Option.isSome_some, List.getElem?_cons_zero, List.getElem?_cons_succ, am_fit_i, am_fit_r, am_fit_a, h1]
    rw [if_neg (nI_pos (by omega))]
    rcases hcase with ⟨hZ, hR⟩ | ⟨rfl, rfl, hR⟩
    · rw [if_pos (by rw [hZ])]
      rw [if_neg (by rw [bi_eq0 (by omega)]; omega)]
      match Z, hZ, hE, h1, hrel, hst, hrw, hbg, hv, hR with
      | [], hZ, _, _, _, _, _, _, _, _ => simp at hZ; omega
      | (p, w) :: Z', hZ, hE, h1, hrel, hst, hrw, hbg, hv, hR =>
        simp only [List.length_cons] at hZ
        have ed : nI n - 1 = nI Z'.length := by rw [← hZ]; exact nI_pred _
        have ed2 : nI (Z'.length + 1) - 1 = nI Z'.length := nI_pred _
        simp only [J121_0, J121_1, J121_4, J121_7, J121_8, J121_9, J121_10, J121_13, J121_14, J121_17, J121_20, J121_21, J121_24, J121_27, J121_28, J121_30, J121_33, J121_34, J121_35, J121_36, J121_37, J121_40, J121_41, J121_42, J121_45, J121_46, J121_47, J121_50, J121_51, J121_54, J121_55, J121_56, J121_59, J121_60, J121_63, J121_64, J121_65, J121_68, J121_69, J121_72, J121_75, J121_76, J121_79, J121_80, J121_83, J121_84, J121_87, J121_88, J121_89, J121_90, J121_93, J121_94, J121_97, J121_98, J121_99, J121_102, J121_103, J121_106, J121_107, J121_110, J121_111, J121_112, J121_115, J121_116, J121_119, J121_120, J121_123, J121_124, J121_125, J121_126, J121_127, J121_130, J121_131, J121_134, J121_135, J121_136, J121_137, J121_140, J121_141, J121_142, J121_145, J121_146, J121_147, J121_150, J121_151, J121_154, J121_155, J121_158, J121_161, J121_162, J121_163, J121_164, J121_167, J121_168, J121_171, J121_172, J121_173, J121_176, J121_177, J121_178, J121_181, J121_182, J121_183, J121_186, J121_187, J121_190, J121_193, J121_194, J121_195, J121_198, J121_199, J121_202, J121_203, J121_204, J121_207, J121_208, J121_211, J121_212, J121_213, J121_216, J121_219, J121_220, J121_222, J121_225, J121_226, am_gg_c, am_gf_c, am_pf_c, am_af_c, am_sf_c, am_bf_c, am_qf_c, am_ap_c, am_bp_c, am_qp_c, am_lf_c, am_kt_s, am_kt_n, am_wst, am_wstop, am_ns_0, am_ns_1, Bool.not_true, Bool.not_false, Bool.true_and, Bool.false_and, Nat.reduceBEq, ↓reduceIte, am_k2_n, am_k2_i, am_k2_r, am_k2_u, am_k2_f, am_k2_l, Nat.zero_le, true_and, and_true, true_or, or_true, am_cat_0, am_cat_i, am_cat_r, am_cat_l, am_cat_n, Nat.reduceLeDiff, Nat.reduceAdd, Option.isSome_some, List.getElem?_cons_zero, List.getElem?_cons_succ, am_fit_i, am_fit_r, am_fit_a, h1, Value.category, List.length_cons, List.length_nil, Nat.reduceLT, List.set_cons_succ, List.set_cons_zero, am_ob_ss, k23, am_ia_sn (show 23 ≠ 28 by decide), am_ia_sn (show 23 ≠ 29 by decide), h28, h29, ed2]
        refine ⟨vp_in_n (by omega) (by omega), vp_in_n (by omega) (by omega), ?_⟩
        rw [nI_clamp (by omega), hst.1, hst.2.1]
        have hw : w < 18 := ((vld_len hO hmm hm0 hk hk2 hv).2.2 p w List.mem_cons_self).2.1
        refine adv_off (T := T) (pl := pl) (ch := ch) (rw_ := rw_) (bg := bg) (Z := Z') hc (am_ob_ss k23) hT hrel (by rw [am_ia_sn (show 23 ≠ 28 by decide)]; exact h28) (by rw [am_ia_sn (show 23 ≠ 29 by decide)]; exact h29) (by rw [am_ia_sn (show 23 ≠ 30 by decide)]; exact h30) (by rw [am_ia_sn (show 23 ≠ 31 by decide)]; exact h31) hst hrw hbg hv (by omega) (fun G' a c => ?_)
        simp only [J121_0, J121_1, J121_4, J121_7, J121_8, J121_9, J121_10, J121_13, J121_14, J121_17, J121_20, J121_21, J121_24, J121_27, J121_28, J121_30, J121_33, J121_34, J121_35, J121_36, J121_37, J121_40, J121_41, J121_42, J121_45, J121_46, J121_47, J121_50, J121_51, J121_54, J121_55, J121_56, J121_59, J121_60, J121_63, J121_64, J121_65, J121_68, J121_69, J121_72, J121_75, J121_76, J121_79, J121_80, J121_83, J121_84, J121_87, J121_88, J121_89, J121_90, J121_93, J121_94, J121_97, J121_98, J121_99, J121_102, J121_103, J121_106, J121_107, J121_110, J121_111, J121_112, J121_115, J121_116, J121_119, J121_120, J121_123, J121_124, J121_125, J121_126, J121_127, J121_130, J121_131, J121_134, J121_135, J121_136, J121_137, J121_140, J121_141, J121_142, J121_145, J121_146, J121_147, J121_150, J121_151, J121_154, J121_155, J121_158, J121_161, J121_162, J121_163, J121_164, J121_167, J121_168, J121_171, J121_172, J121_173, J121_176, J121_177, J121_178, J121_181, J121_182, J121_183, J121_186, J121_187, J121_190, J121_193, J121_194, J121_195, J121_198, J121_199, J121_202, J121_203, J121_204, J121_207, J121_208, J121_211, J121_212, J121_213, J121_216, J121_219, J121_220, J121_222, J121_225, J121_226, am_gg_c, am_gf_c, am_pf_c, am_af_c, am_sf_c, am_bf_c, am_qf_c, am_ap_c, am_bp_c, am_qp_c, am_lf_c, am_kt_s, am_kt_n, am_wst, am_wstop, am_ns_0, am_ns_1, Bool.not_true, Bool.not_false, Bool.true_and, Bool.false_and, Nat.reduceBEq, ↓reduceIte, am_k2_n, am_k2_i, am_k2_r, am_k2_u, am_k2_f, am_k2_l, Nat.zero_le, true_and, and_true, true_or, or_true, am_cat_0, am_cat_i, am_cat_r, am_cat_l, am_cat_n, Nat.reduceLeDiff, Nat.reduceAdd, Option.isSome_some, List.getElem?_cons_zero, List.getElem?_cons_succ, am_fit_i, am_fit_r, am_fit_a]
        exact adv_all hc (by omega) hm2 hP Z' w G' (by omega) hw a ((Fr.set (by decide)).tr c) hR.symm
    · rw [if_neg (by simp only [List.length_nil]; rw [nI_eq (by omega) (by omega)]; omega)]
      exact adv_all hc (by omega) hm2 hP [] 0 G (by simp only [List.length_nil]; omega) (by omega) hE Fr.rf hR.symm
theorem fr_cnt {l h : Nat} (hl : l ≤ 18) (hh : h < 2 ^ l) : ∀ e, e ≤ 18 → (blb (frN l h) e).length + (blb h e).length = min e l
  | 0, _ => by simp [blb]
  | e + 1, he => by
    have ih := fr_cnt hl hh e (by omega)
    rw [blb_s, blb_s, List.length_append, List.length_append, frN_bit hl]
    by_cases c : e < l
    · cases z : h.testBit e <;> simp [c] <;> omega
    · have z : h.testBit e = false := bt_hi hh (by omega)
      simp [c, z]; omega
theorem fr_len {l h : Nat} (hl : l ≤ 18) (hh : h < 2 ^ l) : (bl (frN l h)).length + (bl h).length = l := by
  have := fr_cnt hl hh 18 (Nat.le_refl _)
  rw [blb_18, blb_18] at this
  omega
/-- what begin lays down -/
def EnB (G : am_H) (pm vp : Int32) (ipb : Bool) (l h d : Nat) (due : Int32) : Prop :=
  am_ob G 23 5 = some (moL pm (nI l) (nI h) (nI d) (if ipb = true then 1 else 0) due 0 vp) ∧ (∃ pl, am_ia G 28 0 = some (9, pl)) ∧ (∃ ch, am_ia G 29 0 = some (9, ch) ∧ ch 0 = 0) ∧ (∃ r, am_ia G 30 0 = some (18, r) ∧ ∀ q, q < 18 → r q = 0) ∧ ∃ bg, am_ia G 31 0 = some (18, bg)
def duN (l h d : Nat) : Int32 := if filledB l h d = true then nI (bl d).length else -6
theorem lp_begin {a b c : Int32} {ipx : Int32} {G0 : am_H} {O : List Value} (hP : ∀ G' r, am_ia G' 30 0 = some (18, r) → (∀ q, q < 18 → r q = 0) → Fr [30] G0 G' → P none G') : ∀ (n i : Nat) (e : Int32) (G1 : am_H) (r : Nat → Int32), i + n = 18 → e = nI i → Fr [30] G0 G1 → am_ob G1 23 5 = some O → O[13]? = some (.ref 30) → am_ia G1 30 0 = some (18, r) → (∀ q, q < i → r q = 0) → am_WP X D 115 64 [some (.ref 23), some (.int a), some (.int b), some (.int c), some (.int ipx), some (.int e)] [] G1 0 0 P
  | 0, i, e, G1, r, hi, he, hF, h1, h1b, h2, h3 => by
    refine am_wps 40 [82] ?_
    simp only [J115_0, J115_1, J115_2, J115_5, J115_6, J115_7, J115_10, J115_11, J115_12, J115_15, J115_16, J115_18, J115_21, J115_22, J115_23, J115_24, J115_27, J115_28, J115_29, J115_30, J115_33, J115_34, J115_37, J115_38, J115_41, J115_44, J115_46, J115_49, J115_50, J115_51, J115_54, J115_55, J115_58, J115_59, J115_60, J115_61, J115_62, J115_64, J115_66, J115_68, J115_71, J115_72, J115_75, J115_77, J115_78, J115_79, J115_82, J115_85, am_gg_c, am_gf_c, am_pf_c, am_af_c, am_sf_c, am_bf_c, am_qf_c, am_ap_c, am_bp_c, am_qp_c, am_lf_c, am_kt_s, am_kt_n, am_wst, am_wstop, am_ns_0, am_ns_1, Bool.not_true, Bool.not_false, Bool.true_and, Bool.false_and, Nat.reduceBEq, ↓reduceIte, am_k2_n, am_k2_i, am_k2_r, am_k2_u, am_k2_f, am_k2_l, Nat.zero_le, true_and, and_true, true_or, or_true, am_cat_0, am_cat_i, am_cat_r, am_cat_l, am_cat_n, Nat.reduceLeDiff, Nat.reduceAdd, Option.isSome_some, List.getElem?_cons_zero, List.getElem?_cons_succ, am_fit_i, am_fit_r, am_fit_a]
    rw [if_neg (by rw [he, show i = 18 by omega]; decide)]
    exact hP G1 r h2 (fun j hj => h3 j (by omega)) hF
  | n + 1, i, e, G1, r, hi, he, hF, h1, h1b, h2, h3 => by
    subst he
    refine am_wps 40 [82] ?_
    simp only [J115_0, J115_1, J115_2, J115_5, J115_6, J115_7, J115_10, J115_11, J115_12, J115_15, J115_16, J115_18, J115_21, J115_22, J115_23, J115_24, J115_27, J115_28, J115_29, J115_30, J115_33, J115_34, J115_37, J115_38, J115_41, J115_44, J115_46, J115_49, J115_50, J115_51, J115_54, J115_55, J115_58, J115_59, J115_60, J115_61, J115_62, J115_64, J115_66, J115_68, J115_71, J115_72, J115_75, J115_77, J115_78, J115_79, J115_82, J115_85, am_gg_c, am_gf_c, am_pf_c, am_af_c, am_sf_c, am_bf_c, am_qf_c, am_ap_c, am_bp_c, am_qp_c, am_lf_c, am_kt_s, am_kt_n, am_wst, am_wstop, am_ns_0, am_ns_1, Bool.not_true, Bool.not_false, Bool.true_and, Bool.false_and, Nat.reduceBEq, ↓reduceIte, am_k2_n, am_k2_i, am_k2_r, am_k2_u, am_k2_f, am_k2_l, Nat.zero_le, true_and, and_true, true_or, or_true, am_cat_0, am_cat_i, am_cat_r, am_cat_l, am_cat_n, Nat.reduceLeDiff, Nat.reduceAdd, Option.isSome_some, List.getElem?_cons_zero, List.getElem?_cons_succ, am_fit_i, am_fit_r, am_fit_a, h1, h1b, h2]
    rw [if_pos (by rw [show (18 : Int32) = nI 18 by rfl, nI_ltI (by omega) (by omega)]; omega)]
    refine ⟨vp_in_n (by omega) (by omega), am_goto I115_82 (lp_begin hP n (i + 1) _ _ (upd r i 0) (by omega) (by rw [nI_1]) (hF.tr (Fr.set List.mem_cons_self)) ?_ h1b ?_ ?_)⟩
    · rw [am_ob_sn (show 30 ≠ 23 by decide)]; exact h1
    · rw [nI_clamp (by omega)]; exact am_ia_ss (am_ia_lt h2)
    · intro j hj
      rw [upd_at]
      by_cases z : j = i
      · simp [z]
      · simp [z, h3 j (by omega)]
theorem sp_begin {G : am_H} {l h d : Nat} (hD : 2 ≤ D) (hE : EnA G pm vp) (hl : l ≤ 18) (hh : h < 2 ^ l) (hd : d < 2 ^ 18) (hP : ∀ G', EnB G' pm vp ipb l h d (duN l h d) → Fr kE G G' → P none G') : am_CB X D 115 [.ref 23, .int (nI l), .int (nI h), .int (nI d), .int (if ipb = true then 1 else 0)] G P := by
  obtain ⟨D, rfl⟩ : ∃ D0, D = D0 + 1 := ⟨D - 1, by omega⟩
  obtain ⟨⟨len, T, m, ip, due, dep, h1⟩, ⟨pl, h28⟩, ⟨ch, h29⟩, ⟨r, h30⟩, ⟨bg, h31⟩⟩ := hE
  have k23 := am_ob_lt h1
  have k29 := am_ia_lt h29
  have hh18 : h < 2 ^ 18 := Nat.lt_of_lt_of_le hh (Nat.pow_le_pow_right (by omega) hl)
  have hfl := fr_len hl hh
  have hbd := bl_le d
  have hipb : ∀ b : Bool, ((if b = true then (1 : Int32) else 0) = 0 ∨ (if b = true then (1 : Int32) else 0) = 1) := by intro b; cases b <;> simp
  refine B115 60 [64] ?_
  simp only [J115_0, J115_1, J115_2, J115_5, J115_6, J115_7, J115_10, J115_11, J115_12, J115_15, J115_16, J115_18, J115_21, J115_22, J115_23, J115_24, J115_27, J115_28, J115_29, J115_30, J115_33, J115_34, J115_37, J115_38, J115_41, J115_44, J115_46, J115_49, J115_50, J115_51, J115_54, J115_55, J115_58, J115_59, J115_60, J115_61, J115_62, J115_64, J115_66, J115_68, J115_71, J115_72, J115_75, J115_77, J115_78, J115_79, J115_82, J115_85, am_gg_c, am_gf_c, am_pf_c, am_af_c, am_sf_c, am_bf_c, am_qf_c, am_ap_c, am_bp_c, am_qp_c, am_lf_c, am_kt_s, am_kt_n, am_wst, am_wstop, am_ns_0, am_ns_1, Bool.not_true, Bool.not_false, Bool.true_and, Bool.false_and, Nat.reduceBEq, ↓reduceIte, am_k2_n, am_k2_i, am_k2_r, am_k2_u, am_k2_f, am_k2_l, Nat.zero_le, true_and, and_true, true_or, or_true, am_cat_0, am_cat_i, am_cat_r, am_cat_l, am_cat_n, Nat.reduceLeDiff, Nat.reduceAdd, Option.isSome_some, List.getElem?_cons_zero, List.getElem?_cons_succ, am_fit_i, am_fit_r, am_fit_a, h1, am_ob_ss, k23, List.length_set, List.length_cons, List.length_nil, Nat.reduceLT, List.set_cons_succ, List.set_cons_zero, am_fit_b]
  refine ⟨hipb ipb, ?_⟩
  refine sp_sizeOf (by omega) (by omega) ?_
  simp only [J115_0, J115_1, J115_2, J115_5, J115_6, J115_7, J115_10, J115_11, J115_12, J115_15, J115_16, J115_18, J115_21, J115_22, J115_23, J115_24, J115_27, J115_28, J115_29, J115_30, J115_33, J115_34, J115_37, J115_38, J115_41, J115_44, J115_46, J115_49, J115_50, J115_51, J115_54, J115_55, J115_58, J115_59, J115_60, J115_61, J115_62, J115_64, J115_66, J115_68, J115_71, J115_72, J115_75, J115_77, J115_78, J115_79, J115_82, J115_85, am_gg_c, am_gf_c, am_pf_c, am_af_c, am_sf_c, am_bf_c, am_qf_c, am_ap_c, am_bp_c, am_qp_c, am_lf_c, am_kt_s, am_kt_n, am_wst, am_wstop, am_ns_0, am_ns_1, Bool.not_true, Bool.not_false, Bool.true_and, Bool.false_and, Nat.reduceBEq, ↓reduceIte, am_k2_n, am_k2_i, am_k2_r, am_k2_u, am_k2_f, am_k2_l, Nat.zero_le, true_and, and_true, true_or, or_true, am_cat_0, am_cat_i, am_cat_r, am_cat_l, am_cat_n, Nat.reduceLeDiff, Nat.reduceAdd, Option.isSome_some, List.getElem?_cons_zero, List.getElem?_cons_succ, am_fit_i, am_fit_r, am_fit_a]
  refine sp_sizeOf (by omega) (by omega) ?_
  simp only [J115_0, J115_1, J115_2, J115_5, J115_6, J115_7, J115_10, J115_11, J115_12, J115_15, J115_16, J115_18, J115_21, J115_22, J115_23, J115_24, J115_27, J115_28, J115_29, J115_30, J115_33, J115_34, J115_37, J115_38, J115_41, J115_44, J115_46, J115_49, J115_50, J115_51, J115_54, J115_55, J115_58, J115_59, J115_60, J115_61, J115_62, J115_64, J115_66, J115_68, J115_71, J115_72, J115_75, J115_77, J115_78, J115_79, J115_82, J115_85, am_gg_c, am_gf_c, am_pf_c, am_af_c, am_sf_c, am_bf_c, am_qf_c, am_ap_c, am_bp_c, am_qp_c, am_lf_c, am_kt_s, am_kt_n, am_wst, am_wstop, am_ns_0, am_ns_1, Bool.not_true, Bool.not_false, Bool.true_and, Bool.false_and, Nat.reduceBEq, ↓reduceIte, am_k2_n, am_k2_i, am_k2_r, am_k2_u, am_k2_f, am_k2_l, Nat.zero_le, true_and, and_true, true_or, or_true, am_cat_0, am_cat_i, am_cat_r, am_cat_l, am_cat_n, Nat.reduceLeDiff, Nat.reduceAdd, Option.isSome_some, List.getElem?_cons_zero, List.getElem?_cons_succ, am_fit_i, am_fit_r, am_fit_a]
  rw [pk_sub (by omega), show (2 : Int32) = nI 2 by rfl, pk_mul]
  have fin : ∀ (G1 : am_H) (due' : Int32), due' = duN l h d → Fr [23] G G1 → am_ob G1 23 5 = some (moL pm (nI l) (nI h) (nI d) (if ipb = true then 1 else 0) due' 0 vp) → am_WP X D 115 64 [some (.ref 23), some (.int (nI l)), some (.int (nI h)), some (.int (nI d)), some (.int (if ipb = true then 1 else 0)), some (.int 0)] [] (G1.set 29 (am_ai 0 9 (upd ch 0 0))) 0 0 P := by
    intro G1 due' hdue hF g1
    have q29 : 29 < G1.length := by rw [hF.1]; exact k29
    refine lp_begin (G0 := G1.set 29 (am_ai 0 9 (upd ch 0 0))) (fun G' r' a b c => ?_) 18 0 _ _ r rfl nI_0.symm Fr.rf (by rw [am_ob_sn (show 29 ≠ 23 by decide)]; exact g1) rfl (by rw [am_ia_sn (show 29 ≠ 30 by decide), hF.ia (by decide)]; exact h30) (fun q hq => by omega)
    refine hP G' ⟨?_, ⟨pl, ?_⟩, ⟨upd ch 0 0, ?_, rfl⟩, ⟨r', a, b⟩, ⟨bg, ?_⟩⟩ ((hF.up (by decide)).tr ((Fr.set (by decide)).tr (c.up (by decide))))
    · rw [c.ob (by decide), am_ob_sn (show 29 ≠ 23 by decide), g1, hdue]
    · rw [c.ia (by decide), am_ia_sn (show 29 ≠ 28 by decide), hF.ia (by decide)]; exact h28
    · rw [c.ia (by decide)]; exact am_ia_ss q29
    · rw [c.ia (by decide), am_ia_sn (show 29 ≠ 31 by decide), hF.ia (by decide)]; exact h31
  by_cases cfl : filledB l h d = true
  · have e2 : (bl (frN l h)).length = 2 * (bl d).length := by simpa [filledB] using cfl
    rw [if_pos (by congr 1; omega)]
    refine sp_sizeOf (by omega) (by omega) ?_
    simp only [J115_0, J115_1, J115_2, J115_5, J115_6, J115_7, J115_10, J115_11, J115_12, J115_15, J115_16, J115_18, J115_21, J115_22, J115_23, J115_24, J115_27, J115_28, J115_29, J115_30, J115_33, J115_34, J115_37, J115_38, J115_41, J115_44, J115_46, J115_49, J115_50, J115_51, J115_54, J115_55, J115_58, J115_59, J115_60, J115_61, J115_62, J115_64, J115_66, J115_68, J115_71, J115_72, J115_75, J115_77, J115_78, J115_79, J115_82, J115_85, am_gg_c, am_gf_c, am_pf_c, am_af_c, am_sf_c, am_bf_c, am_qf_c, am_ap_c, am_bp_c, am_qp_c, am_lf_c, am_kt_s, am_kt_n, am_wst, am_wstop, am_ns_0, am_ns_1, Bool.not_true, Bool.not_false, Bool.true_and, Bool.false_and, Nat.reduceBEq, ↓reduceIte, am_k2_n, am_k2_i, am_k2_r, am_k2_u, am_k2_f, am_k2_l, Nat.zero_le, true_and, and_true, true_or, or_true, am_cat_0, am_cat_i, am_cat_r, am_cat_l, am_cat_n, Nat.reduceLeDiff, Nat.reduceAdd, Option.isSome_some, List.getElem?_cons_zero, List.getElem?_cons_succ, am_fit_i, am_fit_r, am_fit_a, am_ob_ss, k23, List.length_set, List.length_cons, List.length_nil, Nat.reduceLT, List.set_cons_succ, List.set_cons_zero, am_ia_sn (show 23 ≠ 29 by decide), h29]
    refine ⟨vp_lit (k := 0) rfl (by omega) (by omega), ?_⟩
    exact fin _ (nI (bl d).length) (by unfold duN; rw [cfl]; rfl) ((Fr.set (by decide)).tr ((Fr.set (by decide)).tr ((Fr.set (by decide)).tr ((Fr.set (by decide)).tr ((Fr.set (by decide)).tr (Fr.set (by decide))))))) (am_ob_ss (by simp only [List.length_set]; exact k23))
  · have e2 : ¬ (bl (frN l h)).length = 2 * (bl d).length := by simpa [filledB] using cfl
    rw [if_neg (by rw [nI_eq (by omega) (by omega)]; omega)]
    simp only [J115_0, J115_1, J115_2, J115_5, J115_6, J115_7, J115_10, J115_11, J115_12, J115_15, J115_16, J115_18, J115_21, J115_22, J115_23, J115_24, J115_27, J115_28, J115_29, J115_30, J115_33, J115_34, J115_37, J115_38, J115_41, J115_44, J115_46, J115_49, J115_50, J115_51, J115_54, J115_55, J115_58, J115_59, J115_60, J115_61, J115_62, J115_64, J115_66, J115_68, J115_71, J115_72, J115_75, J115_77, J115_78, J115_79, J115_82, J115_85, am_gg_c, am_gf_c, am_pf_c, am_af_c, am_sf_c, am_bf_c, am_qf_c, am_ap_c, am_bp_c, am_qp_c, am_lf_c, am_kt_s, am_kt_n, am_wst, am_wstop, am_ns_0, am_ns_1, Bool.not_true, Bool.not_false, Bool.true_and, Bool.false_and, Nat.reduceBEq, ↓reduceIte, am_k2_n, am_k2_i, am_k2_r, am_k2_u, am_k2_f, am_k2_l, Nat.zero_le, true_and, and_true, true_or, or_true, am_cat_0, am_cat_i, am_cat_r, am_cat_l, am_cat_n, Nat.reduceLeDiff, Nat.reduceAdd, Option.isSome_some, List.getElem?_cons_zero, List.getElem?_cons_succ, am_fit_i, am_fit_r, am_fit_a, am_ob_ss, k23, List.length_set, List.length_cons, List.length_nil, Nat.reduceLT, List.set_cons_succ, List.set_cons_zero, am_ia_sn (show 23 ≠ 29 by decide), h29]
    refine ⟨vp_lit (k := 0) rfl (by omega) (by omega), ?_⟩
    exact fin _ (-6) (by unfold duN; rw [if_neg cfl]) ((Fr.set (by decide)).tr ((Fr.set (by decide)).tr ((Fr.set (by decide)).tr ((Fr.set (by decide)).tr ((Fr.set (by decide)).tr (Fr.set (by decide))))))) (am_ob_ss (by simp only [List.length_set]; exact k23))
end ADV
