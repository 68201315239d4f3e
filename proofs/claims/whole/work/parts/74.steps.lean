/-! steps of the reference -/
def svI (o : Option Nat) : Int32 := match o with
  | none => -6
  | some v => nI v
/-- the stand of the walk in the arrays 36 and 37 -/
def BH (G : am_H) (many : Nat) (s : BT) : Prop := ∃ st qu, am_ia G 36 0 = some (300, st) ∧ am_ia G 37 0 = some (300, qu) ∧ (∀ j, j < many → st j = svI (s.1 j)) ∧ ∀ i v, s.2[i]? = some v → qu i = nI v
theorem BH.fr {G G' : am_H} {ks : List Nat} {many : Nat} {s : BT} (h : BH G many s) (hF : Fr ks G G') (h1 : ¬ 36 ∈ ks) (h2 : ¬ 37 ∈ ks) : BH G' many s := by
  obtain ⟨st, qu, a, b, c⟩ := h
  exact ⟨st, qu, by rw [hF.ia h1]; exact a, by rw [hF.ia h2]; exact b, c⟩
def stI (A : List (List (Nat × Nat))) (d : Nat) (z1 z2 : Int32) : Int32 := match goA A z1, goA A z2 with
  | some _, some _ => if z1.toInt < 300 ∧ z2.toInt < 300 then svI ((bfO (nbB A d) (min 300 A.length) 301 0 (bf0 z1.toInt.toNat)).1 z2.toInt.toNat) else -2
  | _, _ => -1
theorem svI_none {o : Option Nat} (h : ∀ x, o = some x → x ≤ 400) : svI o = -6 ↔ o = none := by
  constructor
  · intro e
    cases o with
    | none => rfl
    | some v =>
      have := h v rfl
      have e : nI v = -6 := e
      have e2 := congrArg Int32.toInt e
      rw [nI_toInt (by omega), show (-6 : Int32).toInt = -6 by rfl] at e2
      omega
  · intro e; rw [e]; rfl
section SS
variable {X : Nat × (Nat → Int32)} {D : Nat} {P : Option Value → am_H → Prop} {pm len T m ip due dep vp : Int32} {l h d n : Nat} {f : Nat → Nat} {A : List (List (Nat × Nat))}
theorem lp_ssIn {G0 : am_H} {z1 z2 : Int32} {many k i v0 : Nat} {s0 : BT} (hm3 : many ≤ 300) (hmA : many ≤ A.length) (hA : ∀ a ∈ A, ∀ w, d.testBit w = true → (bgN a w, w) ∈ a) (hD : 2 ≤ D) (h1 : ∀ G, Fr [36, 37] G0 G → am_ob G 23 5 = some (moL pm len T m ip due dep vp)) (hm : ∀ G, Fr [36, 37] G0 G → MA G l h d f) (hL : ∀ G, Fr [36, 37] G0 G → AL G A many) (hk3 : k < 300)
    (hB : BI many k s0) (hk : s0.2[k]? = some i) (hi : s0.1 i = some v0)
    (hP : ∀ G, BH G many (bfI (nbB A d i) (v0 + 1) many s0) → Fr [36, 37] G0 G → am_WP X D 157 167 [some (.ref 23), some (.int z1), some (.int z2), some (.int (nI many)), some (.int (nI (bfI (nbB A d i) (v0 + 1) many s0).2.length)), some (.int (nI k)), none] [] G 0 0 P) :
    ∀ (c j : Nat) (G : am_H), j + c = many → BH G many (bfI (nbB A d i) (v0 + 1) j s0) → Fr [36, 37] G0 G → am_WP X D 157 94 [some (.ref 23), some (.int z1), some (.int z2), some (.int (nI many)), some (.int (nI (bfI (nbB A d i) (v0 + 1) j s0).2.length)), some (.int (nI k)), some (.int (nI j))] [] G 0 0 P := by
  have him := (hB.1 i (List.mem_of_getElem? hk)).1
  have hv0 := hB.2.2 i v0 hi
  intro c
  induction c with
  | zero =>
    intro j G hj hH hF
    have hlen : (bfI (nbB A d i) (v0 + 1) j s0).2.length ≤ many := by
      have := (bfI_bi (nb := nbB A d i) hB (v := v0 + 1) (by omega) j (by omega)).2.1
      omega
    refine am_wps 60 [164, 167] ?_
    simp only [J157_0, J157_1, J157_2, J157_5, J157_8, J157_9, J157_10, J157_13, J157_16, J157_17, J157_18, J157_19, J157_22, J157_25, J157_26, J157_29, J157_32, J157_34, J157_35, J157_36, J157_39, J157_40, J157_41, J157_43, J157_45, J157_46, J157_49, J157_50, J157_53, J157_55, J157_57, J157_58, J157_61, J157_64, J157_65, J157_68, J157_69, J157_70, J157_71, J157_72, J157_75, J157_76, J157_77, J157_78, J157_79, J157_81, J157_82, J157_84, J157_86, J157_88, J157_91, J157_92, J157_94, J157_96, J157_97, J157_100, J157_101, J157_104, J157_106, J157_107, J157_109, J157_112, J157_113, J157_114, J157_117, J157_119, J157_120, J157_122, J157_125, J157_128, J157_129, J157_132, J157_134, J157_135, J157_138, J157_139, J157_142, J157_144, J157_145, J157_146, J157_147, J157_148, J157_149, J157_150, J157_153, J157_155, J157_157, J157_158, J157_161, J157_164, J157_167, J157_170, J157_173, J157_174, J157_177, J157_178, J157_179, am_gg_c, am_gf_c, am_pf_c, am_af_c, am_sf_c, am_bf_c, am_qf_c, am_ap_c, am_bp_c, am_qp_c, am_lf_c, am_kt_s, am_kt_n, am_wst, am_wstop, am_ns_0, am_ns_1, Bool.not_true, Bool.not_false, Bool.true_and, Bool.false_and, Nat.reduceBEq, ↓reduceIte, am_k2_n, am_k2_i, am_k2_r, am_k2_u, am_k2_f, am_k2_l, Nat.zero_le, true_and, and_true, true_or, or_true, am_cat_0, am_cat_i, am_cat_r, am_cat_l, am_cat_n, Nat.reduceLeDiff, Nat.reduceAdd, Option.isSome_some, List.getElem?_cons_zero, List.getElem?_cons_succ, am_fit_i, am_fit_r, am_fit_a]
    rw [if_neg (by rw [nI_ltI (by omega) (by omega)]; omega)]
    rw [show j = many by omega] at hH ⊢
    exact am_WP.fg (hP G hH hF) (by simp [am_le])
  | succ c ih =>
    intro j G hj hH hF
    have hBj := bfI_bi (nb := nbB A d i) hB (v := v0 + 1) (by omega) j (by omega)
    obtain ⟨mo, Z, hZ⟩ := bfI_mono (nb := nbB A d i) (v := v0 + 1) (s := s0) j
    have hkj : (bfI (nbB A d i) (v0 + 1) j s0).2[k]? = some i := by
      rw [hZ, List.getElem?_append_left (List.getElem?_eq_some_iff.mp hk).1]; exact hk
    have hij := mo i v0 hi
    have hs : bfI (nbB A d i) (v0 + 1) (j + 1) s0 = if (bfI (nbB A d i) (v0 + 1) j s0).1 j = none ∧ nbB A d i j = true then (fun q => if q = j then some (v0 + 1) else (bfI (nbB A d i) (v0 + 1) j s0).1 q, (bfI (nbB A d i) (v0 + 1) j s0).2 ++ [j]) else bfI (nbB A d i) (v0 + 1) j s0 := rfl
    have hn := ih (j + 1)
    rw [hs] at hn
    have hlen : (bfI (nbB A d i) (v0 + 1) j s0).2.length ≤ many := by
      have := hBj.2.1
      omega
    generalize bfI (nbB A d i) (v0 + 1) j s0 = s at *
    obtain ⟨st, qu, q1, q2, q3, q4⟩ := id hH
    have k1 := h1 G hF
    have hno : svI (s.1 j) = -6 ↔ s.1 j = none := svI_none (fun x hx => by have := hBj.2.2 j x hx; omega)
    have skip : ¬ (s.1 j = none ∧ nbB A d i j = true) → am_WP X D 157 164 [some (.ref 23), some (.int z1), some (.int z2), some (.int (nI many)), some (.int (nI s.2.length)), some (.int (nI k)), some (.int (nI j + 1))] [] G 0 0 P := by
      intro hc
      rw [if_neg hc] at hn
      refine am_goto I157_164 ?_
      rw [nI_1]
      exact hn G (by omega) hH hF
    refine am_wps 80 [164, 167] ?_
    simp only [J157_0, J157_1, J157_2, J157_5, J157_8, J157_9, J157_10, J157_13, J157_16, J157_17, J157_18, J157_19, J157_22, J157_25, J157_26, J157_29, J157_32, J157_34, J157_35, J157_36, J157_39, J157_40, J157_41, J157_43, J157_45, J157_46, J157_49, J157_50, J157_53, J157_55, J157_57, J157_58, J157_61, J157_64, J157_65, J157_68, J157_69, J157_70, J157_71, J157_72, J157_75, J157_76, J157_77, J157_78, J157_79, J157_81, J157_82, J157_84, J157_86, J157_88, J157_91, J157_92, J157_94, J157_96, J157_97, J157_100, J157_101, J157_104, J157_106, J157_107, J157_109, J157_112, J157_113, J157_114, J157_117, J157_119, J157_120, J157_122, J157_125, J157_128, J157_129, J157_132, J157_134, J157_135, J157_138, J157_139, J157_142, J157_144, J157_145, J157_146, J157_147, J157_148, J157_149, J157_150, J157_153, J157_155, J157_157, J157_158, J157_161, J157_164, J157_167, J157_170, J157_173, J157_174, J157_177, J157_178, J157_179, am_gg_c, am_gf_c, am_pf_c, am_af_c, am_sf_c, am_bf_c, am_qf_c, am_ap_c, am_bp_c, am_qp_c, am_lf_c, am_kt_s, am_kt_n, am_wst, am_wstop, am_ns_0, am_ns_1, Bool.not_true, Bool.not_false, Bool.true_and, Bool.false_and, Nat.reduceBEq, ↓reduceIte, am_k2_n, am_k2_i, am_k2_r, am_k2_u, am_k2_f, am_k2_l, Nat.zero_le, true_and, and_true, true_or, or_true, am_cat_0, am_cat_i, am_cat_r, am_cat_l, am_cat_n, Nat.reduceLeDiff, Nat.reduceAdd, Option.isSome_some, List.getElem?_cons_zero, List.getElem?_cons_succ, am_fit_i, am_fit_r, am_fit_a, k1, q1, q2]
    rw [if_pos (by rw [nI_ltI (by omega) (by omega)]; omega)]
    refine ⟨vp_in_n (by omega) (by omega), ?_⟩
    rw [nI_clamp (by omega), q3 j (by omega)]
    by_cases c1 : s.1 j = none
    · rw [if_pos (hno.mpr c1)]
      refine ⟨vp_in_n (by omega) (by omega), ?_⟩
      rw [nI_clamp (by omega), q4 k i hkj]
      refine sp_areN hm3 hmA him (show j < many by omega) hA hD k1 (hm G hF) (hL G hF) ?_
      simp only [J157_0, J157_1, J157_2, J157_5, J157_8, J157_9, J157_10, J157_13, J157_16, J157_17, J157_18, J157_19, J157_22, J157_25, J157_26, J157_29, J157_32, J157_34, J157_35, J157_36, J157_39, J157_40, J157_41, J157_43, J157_45, J157_46, J157_49, J157_50, J157_53, J157_55, J157_57, J157_58, J157_61, J157_64, J157_65, J157_68, J157_69, J157_70, J157_71, J157_72, J157_75, J157_76, J157_77, J157_78, J157_79, J157_81, J157_82, J157_84, J157_86, J157_88, J157_91, J157_92, J157_94, J157_96, J157_97, J157_100, J157_101, J157_104, J157_106, J157_107, J157_109, J157_112, J157_113, J157_114, J157_117, J157_119, J157_120, J157_122, J157_125, J157_128, J157_129, J157_132, J157_134, J157_135, J157_138, J157_139, J157_142, J157_144, J157_145, J157_146, J157_147, J157_148, J157_149, J157_150, J157_153, J157_155, J157_157, J157_158, J157_161, J157_164, J157_167, J157_170, J157_173, J157_174, J157_177, J157_178, J157_179, am_gg_c, am_gf_c, am_pf_c, am_af_c, am_sf_c, am_bf_c, am_qf_c, am_ap_c, am_bp_c, am_qp_c, am_lf_c, am_kt_s, am_kt_n, am_wst, am_wstop, am_ns_0, am_ns_1, Bool.not_true, Bool.not_false, Bool.true_and, Bool.false_and, Nat.reduceBEq, ↓reduceIte, am_k2_n, am_k2_i, am_k2_r, am_k2_u, am_k2_f, am_k2_l, Nat.zero_le, true_and, and_true, true_or, or_true, am_cat_0, am_cat_i, am_cat_r, am_cat_l, am_cat_n, Nat.reduceLeDiff, Nat.reduceAdd, Option.isSome_some, List.getElem?_cons_zero, List.getElem?_cons_succ, am_fit_i, am_fit_r, am_fit_a, k1, q1, q2]
      cases c2 : nbB A d i j with
      | false =>
        simp only [Bool.false_eq_true, if_false, if_true]
        exact skip (by rw [c2]; simp)
      | true =>
        rw [if_pos ⟨c1, c2⟩] at hn
        simp only [if_true, if_neg (show ¬ (1 : Int32) = 0 by decide)]
        have hroom := hBj.room (show j < many by omega) c1
        have k36 := am_ia_lt q1
        have k37 := am_ia_lt q2
        simp only [J157_0, J157_1, J157_2, J157_5, J157_8, J157_9, J157_10, J157_13, J157_16, J157_17, J157_18, J157_19, J157_22, J157_25, J157_26, J157_29, J157_32, J157_34, J157_35, J157_36, J157_39, J157_40, J157_41, J157_43, J157_45, J157_46, J157_49, J157_50, J157_53, J157_55, J157_57, J157_58, J157_61, J157_64, J157_65, J157_68, J157_69, J157_70, J157_71, J157_72, J157_75, J157_76, J157_77, J157_78, J157_79, J157_81, J157_82, J157_84, J157_86, J157_88, J157_91, J157_92, J157_94, J157_96, J157_97, J157_100, J157_101, J157_104, J157_106, J157_107, J157_109, J157_112, J157_113, J157_114, J157_117, J157_119, J157_120, J157_122, J157_125, J157_128, J157_129, J157_132, J157_134, J157_135, J157_138, J157_139, J157_142, J157_144, J157_145, J157_146, J157_147, J157_148, J157_149, J157_150, J157_153, J157_155, J157_157, J157_158, J157_161, J157_164, J157_167, J157_170, J157_173, J157_174, J157_177, J157_178, J157_179, am_gg_c, am_gf_c, am_pf_c, am_af_c, am_sf_c, am_bf_c, am_qf_c, am_ap_c, am_bp_c, am_qp_c, am_lf_c, am_kt_s, am_kt_n, am_wst, am_wstop, am_ns_0, am_ns_1, Bool.not_true, Bool.not_false, Bool.true_and, Bool.false_and, Nat.reduceBEq, ↓reduceIte, am_k2_n, am_k2_i, am_k2_r, am_k2_u, am_k2_f, am_k2_l, Nat.zero_le, true_and, and_true, true_or, or_true, am_cat_0, am_cat_i, am_cat_r, am_cat_l, am_cat_n, Nat.reduceLeDiff, Nat.reduceAdd, Option.isSome_some, List.getElem?_cons_zero, List.getElem?_cons_succ, am_fit_i, am_fit_r, am_fit_a, k1, q1, q2, am_ob_sn (show 36 ≠ 23 by decide), am_ia_sn (show 36 ≠ 37 by decide)]
        have e : svI (some v0) + 1 = nI (v0 + 1) := nI_1 v0
        rw [nI_clamp (show k < 2 ^ 31 by omega), q4 k i hkj, nI_clamp (show i < 2 ^ 31 by omega), q3 i him, hij, e, nI_clamp (show j < 2 ^ 31 by omega), nI_clamp (show s.2.length < 2 ^ 31 by omega)]
        refine ⟨vp_in_n (by omega) (by omega), vp_in_n (by omega) (by omega), vp_in_n (by omega) (by omega), vp_in_n (by omega) (by omega), am_goto I157_164 ?_⟩
        rw [nI_1, nI_1]
        have := hn ((G.set 36 (am_ai 0 300 (upd st j (nI (v0 + 1))))).set 37 (am_ai 0 300 (upd qu s.2.length (nI j)))) (by omega) ⟨_, _, (by rw [am_ia_sn (show 37 ≠ 36 by decide)]; exact am_ia_ss k36), am_ia_ss (by rw [List.length_set]; exact k37), fun q hq => ?_, fun q w hq => ?_⟩ (hF.tr ((Fr.set (by decide)).tr (Fr.set (by decide))))
        · rw [List.length_append] at this
          exact this
        · show upd st j (nI (v0 + 1)) q = svI (if q = j then some (v0 + 1) else s.1 q)
          rw [upd_at]
          by_cases e : q = j
          · rw [if_pos e, if_pos e]; rfl
          · rw [if_neg e, if_neg e]; exact q3 q hq
        · have hq : (s.2 ++ [j])[q]? = some w := hq
          rw [upd_at]
          by_cases e : q = s.2.length
          · subst e
            simp at hq
            rw [if_pos rfl, hq]
          · rw [if_neg e]
            have hlt : q < (s.2 ++ [j]).length := (List.getElem?_eq_some_iff.mp hq).1
            rw [List.length_append] at hlt
            simp at hlt
            rw [List.getElem?_append_left (by omega)] at hq
            exact q4 q w hq
    · rw [if_neg (fun e => c1 (hno.mp e))]
      exact skip (fun e => c1 e.1)
theorem lp_ss {G0 : am_H} {z1 : Int32} {z2 many : Nat} (hz2 : z2 < many) (hm3 : many ≤ 300) (hmA : many ≤ A.length) (hA : ∀ a ∈ A, ∀ w, d.testBit w = true → (bgN a w, w) ∈ a) (hD : 2 ≤ D) (h1 : ∀ G, Fr [36, 37] G0 G → am_ob G 23 5 = some (moL pm len T m ip due dep vp)) (hm : ∀ G, Fr [36, 37] G0 G → MA G l h d f) (hL : ∀ G, Fr [36, 37] G0 G → AL G A many) {V : Int32} (hP : ∀ G s, BH G many s → Fr [36, 37] G0 G → P (some (.int V)) G) :
    ∀ (c k : Nat) (s : BT) (G : am_H), k + c = 301 → BI many k s → BH G many s → V = svI ((bfO (nbB A d) many c k s).1 z2) → Fr [36, 37] G0 G → k ≤ s.2.length → am_WP X D 157 84 [some (.ref 23), some (.int z1), some (.int (nI z2)), some (.int (nI many)), some (.int (nI s.2.length)), some (.int (nI k)), none] [] G 0 0 P := by
  intro c
  induction c with
  | zero =>
    intro k s G hk hB hH hV hF hkl
    have := hB.2.1
    omega
  | succ c ih =>
    intro k s G hk hB hH hV hF hkl
    have hlen : s.2.length ≤ many := by have := hB.2.1; omega
    have k1 := h1 G hF
    have hs : bfO (nbB A d) many (c + 1) k s = match s.2[k]? with | none => s | some i => bfO (nbB A d) many c (k + 1) (bfI (nbB A d i) ((s.1 i).getD 0 + 1) many s) := rfl
    rw [hs] at hV
    obtain ⟨st, qu, q1, q2, q3, q4⟩ := id hH
    by_cases c1 : k < s.2.length
    · have hki : s.2[k]? = some s.2[k] := List.getElem?_eq_getElem c1
      generalize s.2[k] = i at hki
      rw [hki] at hV
      simp only at hV
      have hi := (hB.1 i (List.mem_of_getElem? hki)).2
      obtain ⟨v0, hv0⟩ := Option.isSome_iff_exists.mp hi
      rw [hv0] at hV
      simp only [Option.getD_some] at hV
      have hv := hB.2.2 i v0 hv0
      refine am_wps 60 [94, 170] ?_
      simp only [J157_0, J157_1, J157_2, J157_5, J157_8, J157_9, J157_10, J157_13, J157_16, J157_17, J157_18, J157_19, J157_22, J157_25, J157_26, J157_29, J157_32, J157_34, J157_35, J157_36, J157_39, J157_40, J157_41, J157_43, J157_45, J157_46, J157_49, J157_50, J157_53, J157_55, J157_57, J157_58, J157_61, J157_64, J157_65, J157_68, J157_69, J157_70, J157_71, J157_72, J157_75, J157_76, J157_77, J157_78, J157_79, J157_81, J157_82, J157_84, J157_86, J157_88, J157_91, J157_92, J157_94, J157_96, J157_97, J157_100, J157_101, J157_104, J157_106, J157_107, J157_109, J157_112, J157_113, J157_114, J157_117, J157_119, J157_120, J157_122, J157_125, J157_128, J157_129, J157_132, J157_134, J157_135, J157_138, J157_139, J157_142, J157_144, J157_145, J157_146, J157_147, J157_148, J157_149, J157_150, J157_153, J157_155, J157_157, J157_158, J157_161, J157_164, J157_167, J157_170, J157_173, J157_174, J157_177, J157_178, J157_179, am_gg_c, am_gf_c, am_pf_c, am_af_c, am_sf_c, am_bf_c, am_qf_c, am_ap_c, am_bp_c, am_qp_c, am_lf_c, am_kt_s, am_kt_n, am_wst, am_wstop, am_ns_0, am_ns_1, Bool.not_true, Bool.not_false, Bool.true_and, Bool.false_and, Nat.reduceBEq, ↓reduceIte, am_k2_n, am_k2_i, am_k2_r, am_k2_u, am_k2_f, am_k2_l, Nat.zero_le, true_and, and_true, true_or, or_true, am_cat_0, am_cat_i, am_cat_r, am_cat_l, am_cat_n, Nat.reduceLeDiff, Nat.reduceAdd, Option.isSome_some, List.getElem?_cons_zero, List.getElem?_cons_succ, am_fit_i, am_fit_r, am_fit_a]
      rw [if_pos (by rw [nI_ltI (by omega) (by omega)]; exact c1)]
      refine lp_ssIn (G0 := G) (k := k) (i := i) (v0 := v0) (s0 := s) hm3 hmA hA hD (fun G' hF' => h1 G' (hF.tr hF')) (fun G' hF' => hm G' (hF.tr hF')) (fun G' hF' => hL G' (hF.tr hF')) (by omega) hB hki hv0 (fun G' hH' hF' => ?_) many 0 G (by omega) hH Fr.rf
      refine am_wps 60 [170] ?_
      simp only [J157_0, J157_1, J157_2, J157_5, J157_8, J157_9, J157_10, J157_13, J157_16, J157_17, J157_18, J157_19, J157_22, J157_25, J157_26, J157_29, J157_32, J157_34, J157_35, J157_36, J157_39, J157_40, J157_41, J157_43, J157_45, J157_46, J157_49, J157_50, J157_53, J157_55, J157_57, J157_58, J157_61, J157_64, J157_65, J157_68, J157_69, J157_70, J157_71, J157_72, J157_75, J157_76, J157_77, J157_78, J157_79, J157_81, J157_82, J157_84, J157_86, J157_88, J157_91, J157_92, J157_94, J157_96, J157_97, J157_100, J157_101, J157_104, J157_106, J157_107, J157_109, J157_112, J157_113, J157_114, J157_117, J157_119, J157_120, J157_122, J157_125, J157_128, J157_129, J157_132, J157_134, J157_135, J157_138, J157_139, J157_142, J157_144, J157_145, J157_146, J157_147, J157_148, J157_149, J157_150, J157_153, J157_155, J157_157, J157_158, J157_161, J157_164, J157_167, J157_170, J157_173, J157_174, J157_177, J157_178, J157_179, am_gg_c, am_gf_c, am_pf_c, am_af_c, am_sf_c, am_bf_c, am_qf_c, am_ap_c, am_bp_c, am_qp_c, am_lf_c, am_kt_s, am_kt_n, am_wst, am_wstop, am_ns_0, am_ns_1, Bool.not_true, Bool.not_false, Bool.true_and, Bool.false_and, Nat.reduceBEq, ↓reduceIte, am_k2_n, am_k2_i, am_k2_r, am_k2_u, am_k2_f, am_k2_l, Nat.zero_le, true_and, and_true, true_or, or_true, am_cat_0, am_cat_i, am_cat_r, am_cat_l, am_cat_n, Nat.reduceLeDiff, Nat.reduceAdd, Option.isSome_some, List.getElem?_cons_zero, List.getElem?_cons_succ, am_fit_i, am_fit_r, am_fit_a]
      refine am_goto I157_170 ?_
      rw [nI_1]
      obtain ⟨_, Z, hZ⟩ := bfI_mono (nb := nbB A d i) (v := v0 + 1) (s := s) many
      refine ih (k + 1) _ G' (by omega) (bfI_bi hB (by omega) many (Nat.le_refl _)) hH' hV (hF.tr hF') ?_
      rw [hZ, List.length_append]
      omega
    · have hki : s.2[k]? = none := List.getElem?_eq_none (by omega)
      rw [hki] at hV
      simp only at hV
      refine am_wps 60 [94, 170] ?_
      simp only [J157_0, J157_1, J157_2, J157_5, J157_8, J157_9, J157_10, J157_13, J157_16, J157_17, J157_18, J157_19, J157_22, J157_25, J157_26, J157_29, J157_32, J157_34, J157_35, J157_36, J157_39, J157_40, J157_41, J157_43, J157_45, J157_46, J157_49, J157_50, J157_53, J157_55, J157_57, J157_58, J157_61, J157_64, J157_65, J157_68, J157_69, J157_70, J157_71, J157_72, J157_75, J157_76, J157_77, J157_78, J157_79, J157_81, J157_82, J157_84, J157_86, J157_88, J157_91, J157_92, J157_94, J157_96, J157_97, J157_100, J157_101, J157_104, J157_106, J157_107, J157_109, J157_112, J157_113, J157_114, J157_117, J157_119, J157_120, J157_122, J157_125, J157_128, J157_129, J157_132, J157_134, J157_135, J157_138, J157_139, J157_142, J157_144, J157_145, J157_146, J157_147, J157_148, J157_149, J157_150, J157_153, J157_155, J157_157, J157_158, J157_161, J157_164, J157_167, J157_170, J157_173, J157_174, J157_177, J157_178, J157_179, am_gg_c, am_gf_c, am_pf_c, am_af_c, am_sf_c, am_bf_c, am_qf_c, am_ap_c, am_bp_c, am_qp_c, am_lf_c, am_kt_s, am_kt_n, am_wst, am_wstop, am_ns_0, am_ns_1, Bool.not_true, Bool.not_false, Bool.true_and, Bool.false_and, Nat.reduceBEq, ↓reduceIte, am_k2_n, am_k2_i, am_k2_r, am_k2_u, am_k2_f, am_k2_l, Nat.zero_le, true_and, and_true, true_or, or_true, am_cat_0, am_cat_i, am_cat_r, am_cat_l, am_cat_n, Nat.reduceLeDiff, Nat.reduceAdd, Option.isSome_some, List.getElem?_cons_zero, List.getElem?_cons_succ, am_fit_i, am_fit_r, am_fit_a, k1, q1]
      rw [if_neg (by rw [nI_ltI (by omega) (by omega)]; exact c1)]
      refine ⟨vp_in_n (by omega) (by omega), ?_⟩
      rw [nI_clamp (by omega), q3 z2 hz2, ← hV]
      exact hP G s hH hF
theorem lp_ssNone {G0 : am_H} {z1 z2 : Int32} {many : Nat} (hm3 : many ≤ 300) (h1 : ∀ G, Fr [36] G0 G → am_ob G 23 5 = some (moL pm len T m ip due dep vp)) (hP : ∀ G st, am_ia G 36 0 = some (300, st) → (∀ j, j < many → st j = -6) → Fr [36] G0 G → am_WP X D 157 64 [some (.ref 23), some (.int z1), some (.int z2), some (.int (nI many)), none, none, none] [] G 0 0 P) :
    ∀ (c k : Nat) (G : am_H) (st : Nat → Int32), k + c = many → am_ia G 36 0 = some (300, st) → (∀ j, j < k → st j = -6) → Fr [36] G0 G → am_WP X D 157 43 [some (.ref 23), some (.int z1), some (.int z2), some (.int (nI many)), some (.int (nI k)), none, none] [] G 0 0 P := by
  intro c
  induction c with
  | zero =>
    intro k G st hk hs hv hF
    refine am_wps 40 [61, 64] ?_
    simp only [J157_0, J157_1, J157_2, J157_5, J157_8, J157_9, J157_10, J157_13, J157_16, J157_17, J157_18, J157_19, J157_22, J157_25, J157_26, J157_29, J157_32, J157_34, J157_35, J157_36, J157_39, J157_40, J157_41, J157_43, J157_45, J157_46, J157_49, J157_50, J157_53, J157_55, J157_57, J157_58, J157_61, J157_64, J157_65, J157_68, J157_69, J157_70, J157_71, J157_72, J157_75, J157_76, J157_77, J157_78, J157_79, J157_81, J157_82, J157_84, J157_86, J157_88, J157_91, J157_92, J157_94, J157_96, J157_97, J157_100, J157_101, J157_104, J157_106, J157_107, J157_109, J157_112, J157_113, J157_114, J157_117, J157_119, J157_120, J157_122, J157_125, J157_128, J157_129, J157_132, J157_134, J157_135, J157_138, J157_139, J157_142, J157_144, J157_145, J157_146, J157_147, J157_148, J157_149, J157_150, J157_153, J157_155, J157_157, J157_158, J157_161, J157_164, J157_167, J157_170, J157_173, J157_174, J157_177, J157_178, J157_179, am_gg_c, am_gf_c, am_pf_c, am_af_c, am_sf_c, am_bf_c, am_qf_c, am_ap_c, am_bp_c, am_qp_c, am_lf_c, am_kt_s, am_kt_n, am_wst, am_wstop, am_ns_0, am_ns_1, Bool.not_true, Bool.not_false, Bool.true_and, Bool.false_and, Nat.reduceBEq, ↓reduceIte, am_k2_n, am_k2_i, am_k2_r, am_k2_u, am_k2_f, am_k2_l, Nat.zero_le, true_and, and_true, true_or, or_true, am_cat_0, am_cat_i, am_cat_r, am_cat_l, am_cat_n, Nat.reduceLeDiff, Nat.reduceAdd, Option.isSome_some, List.getElem?_cons_zero, List.getElem?_cons_succ, am_fit_i, am_fit_r, am_fit_a]
    rw [if_neg (by rw [nI_ltI (by omega) (by omega)]; omega)]
    rw [show k = many by omega] at hv
    exact am_WP.fg (hP G st hs hv hF) (by simp [am_le])
  | succ c ih =>
    intro k G st hk hs hv hF
    have k1 := h1 G hF
    have k36 := am_ia_lt hs
    refine am_wps 40 [61, 64] ?_
    simp only [J157_0, J157_1, J157_2, J157_5, J157_8, J157_9, J157_10, J157_13, J157_16, J157_17, J157_18, J157_19, J157_22, J157_25, J157_26, J157_29, J157_32, J157_34, J157_35, J157_36, J157_39, J157_40, J157_41, J157_43, J157_45, J157_46, J157_49, J157_50, J157_53, J157_55, J157_57, J157_58, J157_61, J157_64, J157_65, J157_68, J157_69, J157_70, J157_71, J157_72, J157_75, J157_76, J157_77, J157_78, J157_79, J157_81, J157_82, J157_84, J157_86, J157_88, J157_91, J157_92, J157_94, J157_96, J157_97, J157_100, J157_101, J157_104, J157_106, J157_107, J157_109, J157_112, J157_113, J157_114, J157_117, J157_119, J157_120, J157_122, J157_125, J157_128, J157_129, J157_132, J157_134, J157_135, J157_138, J157_139, J157_142, J157_144, J157_145, J157_146, J157_147, J157_148, J157_149, J157_150, J157_153, J157_155, J157_157, J157_158, J157_161, J157_164, J157_167, J157_170, J157_173, J157_174, J157_177, J157_178, J157_179, am_gg_c, am_gf_c, am_pf_c, am_af_c, am_sf_c, am_bf_c, am_qf_c, am_ap_c, am_bp_c, am_qp_c, am_lf_c, am_kt_s, am_kt_n, am_wst, am_wstop, am_ns_0, am_ns_1, Bool.not_true, Bool.not_false, Bool.true_and, Bool.false_and, Nat.reduceBEq, ↓reduceIte, am_k2_n, am_k2_i, am_k2_r, am_k2_u, am_k2_f, am_k2_l, Nat.zero_le, true_and, and_true, true_or, or_true, am_cat_0, am_cat_i, am_cat_r, am_cat_l, am_cat_n, Nat.reduceLeDiff, Nat.reduceAdd, Option.isSome_some, List.getElem?_cons_zero, List.getElem?_cons_succ, am_fit_i, am_fit_r, am_fit_a, k1, hs]
    rw [if_pos (by rw [nI_ltI (by omega) (by omega)]; omega)]
    refine ⟨vp_in_n (by omega) (by omega), am_goto I157_61 ?_⟩
    rw [nI_1, nI_clamp (by omega)]
    refine ih (k + 1) _ _ (by omega) (am_ia_ss k36) (fun j hj => ?_) (hF.tr (Fr.set (by decide)))
    rw [upd_at]
    by_cases e : j = k
    · rw [if_pos e]
    · rw [if_neg e]; exact hv j (by omega)
abbrev kT : List Nat := [23, 28, 29, 30, 31, 35, 36, 37]
theorem sp_msteps {G : am_H} {z1 z2 : Int32} (hD : 6 ≤ D) (hE : EnA G pm vp) (hm : MA G l h d f) (hd1 : 1 ≤ (bl d).length) (hd8 : (bl d).length ≤ 8) (hb5 : ∃ b, am_ia G 35 0 = some (5400, b)) (hb6 : ∃ b, am_ia G 36 0 = some (300, b)) (hb7 : ∃ b, am_ia G 37 0 = some (300, b)) (hP : ∀ G', EnA G' pm vp → (∃ b, am_ia G' 35 0 = some (5400, b)) → (∃ b, am_ia G' 36 0 = some (300, b)) → (∃ b, am_ia G' 37 0 = some (300, b)) → Fr kT G G' → P (some (.int (stI (arrs true l h d f) d z1 z2))) G') : am_CB X D 157 [.ref 23, .int z1, .int z2] G P := by
  obtain ⟨D, rfl⟩ : ∃ D0, D = D0 + 1 := ⟨D - 1, by omega⟩
  obtain ⟨len, T, m, ip, due, dep, b1⟩ := hE.1
  have hd := hm.2.2.2.2.1
  unfold stI at hP
  have keep : ∀ {G' : am_H}, Fr kE G G' → (∃ b, am_ia G' 35 0 = some (5400, b)) ∧ (∃ b, am_ia G' 36 0 = some (300, b)) ∧ (∃ b, am_ia G' 37 0 = some (300, b)) := by
    intro G' hF
    obtain ⟨a, ha⟩ := hb5
    obtain ⟨b, hb⟩ := hb6
    obtain ⟨c, hc⟩ := hb7
    exact ⟨⟨a, by rw [hF.ia (by decide)]; exact ha⟩, ⟨b, by rw [hF.ia (by decide)]; exact hb⟩, ⟨c, by rw [hF.ia (by decide)]; exact hc⟩⟩
  refine B157 60 [43] ?_
  simp only [J157_0, J157_1, J157_2, J157_5, J157_8, J157_9, J157_10, J157_13, J157_16, J157_17, J157_18, J157_19, J157_22, J157_25, J157_26, J157_29, J157_32, J157_34, J157_35, J157_36, J157_39, J157_40, J157_41, J157_43, J157_45, J157_46, J157_49, J157_50, J157_53, J157_55, J157_57, J157_58, J157_61, J157_64, J157_65, J157_68, J157_69, J157_70, J157_71, J157_72, J157_75, J157_76, J157_77, J157_78, J157_79, J157_81, J157_82, J157_84, J157_86, J157_88, J157_91, J157_92, J157_94, J157_96, J157_97, J157_100, J157_101, J157_104, J157_106, J157_107, J157_109, J157_112, J157_113, J157_114, J157_117, J157_119, J157_120, J157_122, J157_125, J157_128, J157_129, J157_132, J157_134, J157_135, J157_138, J157_139, J157_142, J157_144, J157_145, J157_146, J157_147, J157_148, J157_149, J157_150, J157_153, J157_155, J157_157, J157_158, J157_161, J157_164, J157_167, J157_170, J157_173, J157_174, J157_177, J157_178, J157_179, am_gg_c, am_gf_c, am_pf_c, am_af_c, am_sf_c, am_bf_c, am_qf_c, am_ap_c, am_bp_c, am_qp_c, am_lf_c, am_kt_s, am_kt_n, am_wst, am_wstop, am_ns_0, am_ns_1, Bool.not_true, Bool.not_false, Bool.true_and, Bool.false_and, Nat.reduceBEq, ↓reduceIte, am_k2_n, am_k2_i, am_k2_r, am_k2_u, am_k2_f, am_k2_l, Nat.zero_le, true_and, and_true, true_or, or_true, am_cat_0, am_cat_i, am_cat_r, am_cat_l, am_cat_n, Nat.reduceLeDiff, Nat.reduceAdd, Option.isSome_some, List.getElem?_cons_zero, List.getElem?_cons_succ, am_fit_i, am_fit_r, am_fit_a, b1]
  refine sp_goTo (by omega) hE hm hd1 hd8 (fun e G1 d1 d2 => ?_) (fun a e G1 d1 d2 d3 => ?_)
  · simp only [J157_0, J157_1, J157_2, J157_5, J157_8, J157_9, J157_10, J157_13, J157_16, J157_17, J157_18, J157_19, J157_22, J157_25, J157_26, J157_29, J157_32, J157_34, J157_35, J157_36, J157_39, J157_40, J157_41, J157_43, J157_45, J157_46, J157_49, J157_50, J157_53, J157_55, J157_57, J157_58, J157_61, J157_64, J157_65, J157_68, J157_69, J157_70, J157_71, J157_72, J157_75, J157_76, J157_77, J157_78, J157_79, J157_81, J157_82, J157_84, J157_86, J157_88, J157_91, J157_92, J157_94, J157_96, J157_97, J157_100, J157_101, J157_104, J157_106, J157_107, J157_109, J157_112, J157_113, J157_114, J157_117, J157_119, J157_120, J157_122, J157_125, J157_128, J157_129, J157_132, J157_134, J157_135, J157_138, J157_139, J157_142, J157_144, J157_145, J157_146, J157_147, J157_148, J157_149, J157_150, J157_153, J157_155, J157_157, J157_158, J157_161, J157_164, J157_167, J157_170, J157_173, J157_174, J157_177, J157_178, J157_179, am_gg_c, am_gf_c, am_pf_c, am_af_c, am_sf_c, am_bf_c, am_qf_c, am_ap_c, am_bp_c, am_qp_c, am_lf_c, am_kt_s, am_kt_n, am_wst, am_wstop, am_ns_0, am_ns_1, Bool.not_true, Bool.not_false, Bool.true_and, Bool.false_and, Nat.reduceBEq, ↓reduceIte, am_k2_n, am_k2_i, am_k2_r, am_k2_u, am_k2_f, am_k2_l, Nat.zero_le, true_and, and_true, true_or, or_true, am_cat_0, am_cat_i, am_cat_r, am_cat_l, am_cat_n, Nat.reduceLeDiff, Nat.reduceAdd, Option.isSome_some, List.getElem?_cons_zero, List.getElem?_cons_succ, am_fit_i, am_fit_r, am_fit_a, if_true]
    rw [e] at hP
    exact hP G1 d1 (keep d2).1 (keep d2).2.1 (keep d2).2.2 (d2.up (by decide))
  · obtain ⟨len, T, m, ip, due, dep, b2⟩ := d1.1
    simp only [J157_0, J157_1, J157_2, J157_5, J157_8, J157_9, J157_10, J157_13, J157_16, J157_17, J157_18, J157_19, J157_22, J157_25, J157_26, J157_29, J157_32, J157_34, J157_35, J157_36, J157_39, J157_40, J157_41, J157_43, J157_45, J157_46, J157_49, J157_50, J157_53, J157_55, J157_57, J157_58, J157_61, J157_64, J157_65, J157_68, J157_69, J157_70, J157_71, J157_72, J157_75, J157_76, J157_77, J157_78, J157_79, J157_81, J157_82, J157_84, J157_86, J157_88, J157_91, J157_92, J157_94, J157_96, J157_97, J157_100, J157_101, J157_104, J157_106, J157_107, J157_109, J157_112, J157_113, J157_114, J157_117, J157_119, J157_120, J157_122, J157_125, J157_128, J157_129, J157_132, J157_134, J157_135, J157_138, J157_139, J157_142, J157_144, J157_145, J157_146, J157_147, J157_148, J157_149, J157_150, J157_153, J157_155, J157_157, J157_158, J157_161, J157_164, J157_167, J157_170, J157_173, J157_174, J157_177, J157_178, J157_179, am_gg_c, am_gf_c, am_pf_c, am_af_c, am_sf_c, am_bf_c, am_qf_c, am_ap_c, am_bp_c, am_qp_c, am_lf_c, am_kt_s, am_kt_n, am_wst, am_wstop, am_ns_0, am_ns_1, Bool.not_true, Bool.not_false, Bool.true_and, Bool.false_and, Nat.reduceBEq, ↓reduceIte, am_k2_n, am_k2_i, am_k2_r, am_k2_u, am_k2_f, am_k2_l, Nat.zero_le, true_and, and_true, true_or, or_true, am_cat_0, am_cat_i, am_cat_r, am_cat_l, am_cat_n, Nat.reduceLeDiff, Nat.reduceAdd, Option.isSome_some, List.getElem?_cons_zero, List.getElem?_cons_succ, am_fit_i, am_fit_r, am_fit_a, if_neg (show ¬ (1 : Int32) = 0 by decide), b2]
    have hm1 : MA G1 l h d f := hm.fr d3 (by decide)
    refine sp_goTo (by omega) d1 hm1 hd1 hd8 (fun e2 G2 d4 d5 => ?_) (fun a2 e2 G2 d4 d5 d6 => ?_)
    · simp only [J157_0, J157_1, J157_2, J157_5, J157_8, J157_9, J157_10, J157_13, J157_16, J157_17, J157_18, J157_19, J157_22, J157_25, J157_26, J157_29, J157_32, J157_34, J157_35, J157_36, J157_39, J157_40, J157_41, J157_43, J157_45, J157_46, J157_49, J157_50, J157_53, J157_55, J157_57, J157_58, J157_61, J157_64, J157_65, J157_68, J157_69, J157_70, J157_71, J157_72, J157_75, J157_76, J157_77, J157_78, J157_79, J157_81, J157_82, J157_84, J157_86, J157_88, J157_91, J157_92, J157_94, J157_96, J157_97, J157_100, J157_101, J157_104, J157_106, J157_107, J157_109, J157_112, J157_113, J157_114, J157_117, J157_119, J157_120, J157_122, J157_125, J157_128, J157_129, J157_132, J157_134, J157_135, J157_138, J157_139, J157_142, J157_144, J157_145, J157_146, J157_147, J157_148, J157_149, J157_150, J157_153, J157_155, J157_157, J157_158, J157_161, J157_164, J157_167, J157_170, J157_173, J157_174, J157_177, J157_178, J157_179, am_gg_c, am_gf_c, am_pf_c, am_af_c, am_sf_c, am_bf_c, am_qf_c, am_ap_c, am_bp_c, am_qp_c, am_lf_c, am_kt_s, am_kt_n, am_wst, am_wstop, am_ns_0, am_ns_1, Bool.not_true, Bool.not_false, Bool.true_and, Bool.false_and, Nat.reduceBEq, ↓reduceIte, am_k2_n, am_k2_i, am_k2_r, am_k2_u, am_k2_f, am_k2_l, Nat.zero_le, true_and, and_true, true_or, or_true, am_cat_0, am_cat_i, am_cat_r, am_cat_l, am_cat_n, Nat.reduceLeDiff, Nat.reduceAdd, Option.isSome_some, List.getElem?_cons_zero, List.getElem?_cons_succ, am_fit_i, am_fit_r, am_fit_a, if_true]
      rw [e, e2] at hP
      exact hP G2 d4 (keep (d3.tr d5)).1 (keep (d3.tr d5)).2.1 (keep (d3.tr d5)).2.2 ((d3.up (by decide)).tr (d5.up (by decide)))
    · rw [e, e2] at hP
      simp only at hP
      obtain ⟨len, T, m, ip, due, dep, b3⟩ := d4.1
      have hm2 : MA G2 l h d f := hm1.fr d6 (by decide)
      have hE2 : Fr kE G G2 := d3.tr d6
      have hF2 : Fr kT G G2 := (d3.up (by decide)).tr (d6.up (by decide))
      have g1 : ∀ {z : Int32} {a : List (Nat × Nat)}, goA (arrs true l h d f) z = some a → 0 ≤ z.toInt ∧ z.toInt.toNat < (arrs true l h d f).length := by
        intro z a hg
        unfold goA at hg
        split at hg
        · cases hg
        · next q =>
          rw [bi_lt, show (0 : Int32).toInt = 0 by rfl] at q
          exact ⟨by omega, (List.getElem?_eq_some_iff.mp hg).1⟩
      obtain ⟨p1, p2⟩ := g1 e
      obtain ⟨p3, p4⟩ := g1 e2
      simp only [J157_0, J157_1, J157_2, J157_5, J157_8, J157_9, J157_10, J157_13, J157_16, J157_17, J157_18, J157_19, J157_22, J157_25, J157_26, J157_29, J157_32, J157_34, J157_35, J157_36, J157_39, J157_40, J157_41, J157_43, J157_45, J157_46, J157_49, J157_50, J157_53, J157_55, J157_57, J157_58, J157_61, J157_64, J157_65, J157_68, J157_69, J157_70, J157_71, J157_72, J157_75, J157_76, J157_77, J157_78, J157_79, J157_81, J157_82, J157_84, J157_86, J157_88, J157_91, J157_92, J157_94, J157_96, J157_97, J157_100, J157_101, J157_104, J157_106, J157_107, J157_109, J157_112, J157_113, J157_114, J157_117, J157_119, J157_120, J157_122, J157_125, J157_128, J157_129, J157_132, J157_134, J157_135, J157_138, J157_139, J157_142, J157_144, J157_145, J157_146, J157_147, J157_148, J157_149, J157_150, J157_153, J157_155, J157_157, J157_158, J157_161, J157_164, J157_167, J157_170, J157_173, J157_174, J157_177, J157_178, J157_179, am_gg_c, am_gf_c, am_pf_c, am_af_c, am_sf_c, am_bf_c, am_qf_c, am_ap_c, am_bp_c, am_qp_c, am_lf_c, am_kt_s, am_kt_n, am_wst, am_wstop, am_ns_0, am_ns_1, Bool.not_true, Bool.not_false, Bool.true_and, Bool.false_and, Nat.reduceBEq, ↓reduceIte, am_k2_n, am_k2_i, am_k2_r, am_k2_u, am_k2_f, am_k2_l, Nat.zero_le, true_and, and_true, true_or, or_true, am_cat_0, am_cat_i, am_cat_r, am_cat_l, am_cat_n, Nat.reduceLeDiff, Nat.reduceAdd, Option.isSome_some, List.getElem?_cons_zero, List.getElem?_cons_succ, am_fit_i, am_fit_r, am_fit_a, if_neg (show ¬ (1 : Int32) = 0 by decide), b3]
      have c3 : (300 : Int32).toInt = 300 := rfl
      by_cases q1 : z1.toInt < 300
      · rw [if_pos (by rw [bi_lt, c3]; exact q1)]
        by_cases q2 : z2.toInt < 300
        · rw [if_pos (by rw [bi_lt, c3]; exact q2)]
          simp only [if_pos (show z1.toInt < 300 ∧ z2.toInt < 300 from ⟨q1, q2⟩)] at hP
          refine sp_layFirst (by omega) d4 hm2 hd1 hd8 (by obtain ⟨b, q⟩ := hb5; exact ⟨b, by rw [hE2.ia (by decide)]; exact q⟩) (fun G3 d7 d8 d9 => ?_)
          obtain ⟨len, T, m, ip, due, dep, b4⟩ := d7.1
          have hm3 : MA G3 l h d f := hm2.fr d9 (by decide)
          have hL3 : Fr kL G G3 := (hE2.up (by decide)).tr d9
          have hF3 : Fr kT G G3 := hF2.tr (d9.up (by decide))
          simp only [J157_0, J157_1, J157_2, J157_5, J157_8, J157_9, J157_10, J157_13, J157_16, J157_17, J157_18, J157_19, J157_22, J157_25, J157_26, J157_29, J157_32, J157_34, J157_35, J157_36, J157_39, J157_40, J157_41, J157_43, J157_45, J157_46, J157_49, J157_50, J157_53, J157_55, J157_57, J157_58, J157_61, J157_64, J157_65, J157_68, J157_69, J157_70, J157_71, J157_72, J157_75, J157_76, J157_77, J157_78, J157_79, J157_81, J157_82, J157_84, J157_86, J157_88, J157_91, J157_92, J157_94, J157_96, J157_97, J157_100, J157_101, J157_104, J157_106, J157_107, J157_109, J157_112, J157_113, J157_114, J157_117, J157_119, J157_120, J157_122, J157_125, J157_128, J157_129, J157_132, J157_134, J157_135, J157_138, J157_139, J157_142, J157_144, J157_145, J157_146, J157_147, J157_148, J157_149, J157_150, J157_153, J157_155, J157_157, J157_158, J157_161, J157_164, J157_167, J157_170, J157_173, J157_174, J157_177, J157_178, J157_179, am_gg_c, am_gf_c, am_pf_c, am_af_c, am_sf_c, am_bf_c, am_qf_c, am_ap_c, am_bp_c, am_qp_c, am_lf_c, am_kt_s, am_kt_n, am_wst, am_wstop, am_ns_0, am_ns_1, Bool.not_true, Bool.not_false, Bool.true_and, Bool.false_and, Nat.reduceBEq, ↓reduceIte, am_k2_n, am_k2_i, am_k2_r, am_k2_u, am_k2_f, am_k2_l, Nat.zero_le, true_and, and_true, true_or, or_true, am_cat_0, am_cat_i, am_cat_r, am_cat_l, am_cat_n, Nat.reduceLeDiff, Nat.reduceAdd, Option.isSome_some, List.getElem?_cons_zero, List.getElem?_cons_succ, am_fit_i, am_fit_r, am_fit_a]
          obtain ⟨s6, b6⟩ := hb6
          obtain ⟨s7, b7⟩ := hb7
          have hms : min 300 (arrs true l h d f).length ≤ 300 := by omega
          have hmA : min 300 (arrs true l h d f).length ≤ (arrs true l h d f).length := by omega
          have hz1 : z1.toInt.toNat < min 300 (arrs true l h d f).length := by omega
          have hz2 : z2.toInt.toNat < min 300 (arrs true l h d f).length := by omega
          obtain ⟨ez1, _⟩ := bi_nat p1
          obtain ⟨ez2, _⟩ := bi_nat p3
          generalize z1.toInt.toNat = y1 at *
          generalize z2.toInt.toNat = y2 at *
          have hA : ∀ a ∈ arrs true l h d f, ∀ w, d.testBit w = true → (bgN a w, w) ∈ a := fun a ha w hw => bgN_mem hd ha hw
          generalize hman : min 300 (arrs true l h d f).length = many at *
          generalize arrs true l h d f = A at *
          subst ez1 ez2
          refine am_WP.fg (lp_ssNone (G0 := G3) (z1 := nI y1) (z2 := nI y2) hms (fun G' hF => (by rw [hF.ob (by decide)]; exact b4)) (fun G4 st q5 q6 hF4 => ?_) many 0 G3 s6 (by omega) (by rw [hL3.ia (by decide)]; exact b6) (fun j hj => by omega) Fr.rf) (by simp [am_le, nI_0])
          have k4 : am_ob G4 23 5 = some (moL pm len T m ip due dep vp) := by rw [hF4.ob (by decide)]; exact b4
          have k7 : am_ia G4 37 0 = some (300, s7) := by rw [hF4.ia (by decide), hL3.ia (by decide)]; exact b7
          have l36 := am_ia_lt q5
          have l37 := am_ia_lt k7
          refine am_wps 60 [84] ?_
          simp only [J157_0, J157_1, J157_2, J157_5, J157_8, J157_9, J157_10, J157_13, J157_16, J157_17, J157_18, J157_19, J157_22, J157_25, J157_26, J157_29, J157_32, J157_34, J157_35, J157_36, J157_39, J157_40, J157_41, J157_43, J157_45, J157_46, J157_49, J157_50, J157_53, J157_55, J157_57, J157_58, J157_61, J157_64, J157_65, J157_68, J157_69, J157_70, J157_71, J157_72, J157_75, J157_76, J157_77, J157_78, J157_79, J157_81, J157_82, J157_84, J157_86, J157_88, J157_91, J157_92, J157_94, J157_96, J157_97, J157_100, J157_101, J157_104, J157_106, J157_107, J157_109, J157_112, J157_113, J157_114, J157_117, J157_119, J157_120, J157_122, J157_125, J157_128, J157_129, J157_132, J157_134, J157_135, J157_138, J157_139, J157_142, J157_144, J157_145, J157_146, J157_147, J157_148, J157_149, J157_150, J157_153, J157_155, J157_157, J157_158, J157_161, J157_164, J157_167, J157_170, J157_173, J157_174, J157_177, J157_178, J157_179, am_gg_c, am_gf_c, am_pf_c, am_af_c, am_sf_c, am_bf_c, am_qf_c, am_ap_c, am_bp_c, am_qp_c, am_lf_c, am_kt_s, am_kt_n, am_wst, am_wstop, am_ns_0, am_ns_1, Bool.not_true, Bool.not_false, Bool.true_and, Bool.false_and, Nat.reduceBEq, ↓reduceIte, am_k2_n, am_k2_i, am_k2_r, am_k2_u, am_k2_f, am_k2_l, Nat.zero_le, true_and, and_true, true_or, or_true, am_cat_0, am_cat_i, am_cat_r, am_cat_l, am_cat_n, Nat.reduceLeDiff, Nat.reduceAdd, Option.isSome_some, List.getElem?_cons_zero, List.getElem?_cons_succ, am_fit_i, am_fit_r, am_fit_a, k4, q5, k7, am_ob_sn (show 36 ≠ 23 by decide), am_ia_sn (show 36 ≠ 37 by decide)]
          rw [nI_clamp (by omega)]
          refine ⟨vp_in_n (by omega) (by omega), vp_lit (k := 0) rfl (by omega) (by omega), ?_⟩
          have hF5 : Fr [36, 37] G3 ((G4.set 36 (am_ai 0 300 (upd st y1 0))).set 37 (am_ai 0 300 (upd s7 (0 : Int32).toNatClampNeg (nI y1)))) := (hF4.up (by decide)).tr ((Fr.set (by decide)).tr (Fr.set (by decide)))
          have hB5 : BH ((G4.set 36 (am_ai 0 300 (upd st y1 0))).set 37 (am_ai 0 300 (upd s7 (0 : Int32).toNatClampNeg (nI y1)))) many (bf0 y1) := by
            refine ⟨_, _, (by rw [am_ia_sn (show 37 ≠ 36 by decide)]; exact am_ia_ss l36), am_ia_ss (by rw [List.length_set]; exact l37), fun q hq => ?_, fun q w hq => ?_⟩
            · show upd st y1 0 q = svI (if q = y1 then some 0 else none)
              rw [upd_at]
              by_cases e : q = y1
              · rw [if_pos e, if_pos e]; rfl
              · rw [if_neg e, if_neg e]; exact q6 q hq
            · have hq : [y1][q]? = some w := hq
              match q, hq with
              | 0, hq =>
                simp at hq
                rw [← hq]; rfl
              | q + 1, hq => simp at hq
          have hgo := lp_ss (X := X) (D := D) (P := P) (G0 := ((G4.set 36 (am_ai 0 300 (upd st y1 0))).set 37 (am_ai 0 300 (upd s7 (0 : Int32).toNatClampNeg (nI y1))))) (z1 := nI y1) (A := A) (l := l) (h := h) (d := d) (f := f) (V := svI ((bfO (nbB A d) many 301 0 (bf0 y1)).1 y2)) hz2 hms hmA hA (by omega) (fun G' hF => (by rw [(hF5.tr hF).ob (by decide)]; exact b4)) (fun G' hF => hm3.fr (hF5.tr hF) (by decide)) (fun G' hF => d8.fr (hF5.tr hF) (by decide)) (fun G' s' hH' hF => hP G' (d7.fr (hF5.tr hF) (by decide) (by decide) (by decide) (by decide) (by decide)) (by obtain ⟨al, q, _⟩ := d8.fr (hF5.tr hF) (by decide); exact ⟨al, q⟩) (by obtain ⟨st, qu, q, _⟩ := hH'; exact ⟨st, q⟩) (by obtain ⟨st, qu, _, q, _⟩ := hH'; exact ⟨qu, q⟩) (hF3.tr ((hF5.tr hF).up (by decide)))) 301 0 (bf0 y1) _ (by omega) (bf0_bi hz1) hB5 rfl Fr.rf (by omega)
          exact am_WP.fg hgo (by simp [am_le, bf0, nI_0]; rfl)
        · rw [if_neg (by rw [bi_lt, c3]; exact q2)]
          simp only [if_neg (show ¬ (z1.toInt < 300 ∧ z2.toInt < 300) by omega)] at hP
          exact hP G2 d4 (keep hE2).1 (keep hE2).2.1 (keep hE2).2.2 hF2
      · rw [if_neg (by rw [bi_lt, c3]; exact q1)]
        simp only [if_neg (show ¬ (z1.toInt < 300 ∧ z2.toInt < 300) by omega)] at hP
        exact hP G2 d4 (keep hE2).1 (keep hE2).2.1 (keep hE2).2.2 hF2
end SS
