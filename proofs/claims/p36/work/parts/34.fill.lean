def flI (dd sm : Nat → Nat) (F : Nat → Nat → Nat → List Nat) (O left st i : Nat) : List Nat :=
  if (left.testBit i && (osN dd sm O i).testBit (lo O)) = true then F (O - (2 ^ lo O + 2 ^ (lo O + dd i))) (left - 2 ^ i) (st ||| lo O * 2 ^ (5 * i)) else []
def flC (dd sm : Nat → Nat) : Nat → Nat → Nat → Nat → List Nat
  | 0, _, _, st => [st]
  | c + 1, O, left, st => if acB dd sm O left 8 = true then (List.range 8).flatMap (flI dd sm (flC dd sm c) O left st) else []
theorem take_app {α : Type} {A B : List α} {r : Nat} : (A.take r ++ B).take r = (A ++ B).take r := by
  rcases Nat.lt_or_ge A.length r with h | h
  · rw [List.take_of_length_le (Nat.le_of_lt h)]
  · rw [List.take_append_of_le_length (by rw [List.length_take]; omega), List.take_append_of_le_length h, List.take_take, Nat.min_self]
theorem flat_succ {F : Nat → List Nat} {i : Nat} : (List.range (i + 1)).flatMap F = (List.range i).flatMap F ++ F i := by
  rw [List.range_succ, List.flatMap_append]
  simp
theorem flat_le {F : Nat → List Nat} {i m : Nat} (h : i ≤ m) : ∃ Z, (List.range m).flatMap F = (List.range i).flatMap F ++ Z := by
  induction m with
  | zero => exact ⟨[], by rw [show i = 0 by omega]; simp⟩
  | succ m ih =>
    by_cases e : i = m + 1
    · exact ⟨[], by rw [e]; simp⟩
    · obtain ⟨Z, hZ⟩ := ih (by omega)
      exact ⟨Z ++ F m, by rw [flat_succ, hZ, List.append_assoc]⟩
theorem osN_bits {dd sm : Nat → Nat} {O i p : Nat} (h : (osN dd sm O i).testBit p = true) : O.testBit p = true ∧ O.testBit (p + dd i) = true ∧ (sm i).testBit p = true := by
  unfold osN at h
  rw [Nat.testBit_and, Nat.testBit_and, Nat.testBit_div_two_pow] at h
  simp only [Bool.and_eq_true] at h
  exact ⟨h.1.2, h.2, h.1.1⟩
theorem or_lt {a b n : Nat} (ha : a < 2 ^ n) (hb : b < 2 ^ n) : a ||| b < 2 ^ n := Nat.or_lt_two_pow ha hb
def FillOK (dd sm : Nat → Nat) (X : Nat × (Nat → Int32)) (k pa da sa room : Nat) (ln pr : Int32) (df sf : Nat → Int32) (nn c : Nat) : Prop :=
  ∀ (O left st depth D : Nat) (G : am_H) (Ls : List Nat) (P : Option Value → am_H → Prop), (bl left).length = c → left < 2 ^ nn → c + depth ≤ 8 → c + 4 ≤ D → O < 2 ^ 18 → st < 2 ^ 40 → AR G k pa da sa room ln pr df sf Ls →
    (∀ G', AR G' k pa da sa room ln pr df sf ((Ls ++ flC dd sm c O left st).take room) → Fr [k, pa] G G' → P none G') →
    am_CB X D 2 [.ref k, .int (nI O), .int (nI left), .long (lN st), .int (nI depth)] G P
section FILL
variable {dd sm : Nat → Nat} {X : Nat × (Nat → Int32)} {k pa da sa room : Nat} {ln pr : Int32} {df sf : Nat → Int32} {nn : Nat}
theorem fill_0 (hnn : nn ≤ 8) : FillOK dd sm X k pa da sa room ln pr df sf nn 0 := by
  intro O left st depth D G Ls P hc hln hd hD hO hst ha hP
  have hl : left < 2 ^ 8 := Nat.lt_of_lt_of_le hln (Nat.pow_le_pow_right (by omega) hnn)
  obtain ⟨D, rfl⟩ : ∃ D0, D = D0 + 1 := ⟨D - 1, by omega⟩
  have h1 := ha.1
  have e0 : left = 0 := bl_zero (by omega) (List.length_eq_zero_iff.mp hc)
  subst e0
  refine B2 40 [] ?_
  simp only [J2_0, J2_1, J2_4, J2_5, J2_6, J2_9, J2_10, J2_12, J2_14, J2_17, J2_18, J2_19, J2_20, J2_23, J2_26, J2_27, J2_28, J2_31, J2_33, J2_34, J2_36, J2_38, J2_40, J2_43, J2_44, J2_47, J2_50, J2_51, J2_53, J2_56, J2_59, J2_60, J2_61, J2_63, J2_66, J2_68, J2_71, J2_74, J2_75, J2_77, J2_78, J2_79, J2_81, J2_82, J2_85, J2_87, J2_88, J2_89, J2_90, J2_91, J2_93, J2_95, J2_96, J2_97, J2_99, J2_100, J2_101, J2_103, J2_104, J2_105, J2_107, J2_108, J2_109, J2_110, J2_111, J2_112, J2_114, J2_115, J2_116, J2_117, J2_118, J2_119, J2_121, J2_122, J2_124, J2_125, J2_126, J2_129, J2_132, J2_135, am_gg_c, am_gf_c, am_pf_c, am_af_c, am_sf_c, am_bf_c, am_qf_c, am_ap_c, am_bp_c, am_qp_c, am_lf_c, am_kt_s, am_kt_n, am_wst, am_wstop, am_ns_0, am_ns_1, Bool.not_true, Bool.not_false, Bool.true_and, Bool.false_and, Nat.reduceBEq, ↓reduceIte, am_k2_n, am_k2_i, am_k2_r, am_k2_u, am_k2_f, am_k2_l, Nat.zero_le, true_and, and_true, true_or, or_true, am_cat_0, am_cat_i, am_cat_r, am_cat_l, am_cat_n, Nat.reduceLeDiff, Nat.reduceAdd, Option.isSome_some, List.getElem?_cons_zero, List.getElem?_cons_succ, am_fit_i, am_fit_r, am_fit_a, h1]
  rw [if_pos (by rfl)]
  refine sp_add (by omega) ha (fun G' a b => ?_)
  simp only [J2_0, J2_1, J2_4, J2_5, J2_6, J2_9, J2_10, J2_12, J2_14, J2_17, J2_18, J2_19, J2_20, J2_23, J2_26, J2_27, J2_28, J2_31, J2_33, J2_34, J2_36, J2_38, J2_40, J2_43, J2_44, J2_47, J2_50, J2_51, J2_53, J2_56, J2_59, J2_60, J2_61, J2_63, J2_66, J2_68, J2_71, J2_74, J2_75, J2_77, J2_78, J2_79, J2_81, J2_82, J2_85, J2_87, J2_88, J2_89, J2_90, J2_91, J2_93, J2_95, J2_96, J2_97, J2_99, J2_100, J2_101, J2_103, J2_104, J2_105, J2_107, J2_108, J2_109, J2_110, J2_111, J2_112, J2_114, J2_115, J2_116, J2_117, J2_118, J2_119, J2_121, J2_122, J2_124, J2_125, J2_126, J2_129, J2_132, J2_135, am_gg_c, am_gf_c, am_pf_c, am_af_c, am_sf_c, am_bf_c, am_qf_c, am_ap_c, am_bp_c, am_qp_c, am_lf_c, am_kt_s, am_kt_n, am_wst, am_wstop, am_ns_0, am_ns_1, Bool.not_true, Bool.not_false, Bool.true_and, Bool.false_and, Nat.reduceBEq, ↓reduceIte, am_k2_n, am_k2_i, am_k2_r, am_k2_u, am_k2_f, am_k2_l, Nat.zero_le, true_and, and_true, true_or, or_true, am_cat_0, am_cat_i, am_cat_r, am_cat_l, am_cat_n, Nat.reduceLeDiff, Nat.reduceAdd, Option.isSome_some, List.getElem?_cons_zero, List.getElem?_cons_succ, am_fit_i, am_fit_r, am_fit_a]
  exact hP G' a b
theorem lp_fill {c O left st depth D : Nat} {G : am_H} {Ls : List Nat} {P : Option Value → am_H → Prop} (IH : FillOK dd sm X k pa da sa room ln pr df sf nn c) (hdf : ∀ j, j < 8 → df j = nI (dd j) ∧ dd j < 18 ∧ (j < nn → 0 < dd j)) (hsf : ∀ j, j < 8 → sf j = nI (sm j)) (hc : (bl left).length = c + 1) (hnn : nn ≤ 8) (hln : left < 2 ^ nn) (hl : left < 2 ^ 8) (hd : c + 1 + depth ≤ 8) (hD : c + 4 ≤ D) (hO : O < 2 ^ 18) (hp18 : lo O < 18) (hst : st < 2 ^ 40)
    (hP : ∀ G', AR G' k pa da sa room ln pr df sf ((Ls ++ (List.range 8).flatMap (flI dd sm (flC dd sm c) O left st)).take room) → Fr [k, pa] G G' → P none G') :
    ∀ (n i : Nat) (e : Int32) (G1 : am_H), i + n = 8 → e = nI i → AR G1 k pa da sa room ln pr df sf ((Ls ++ (List.range i).flatMap (flI dd sm (flC dd sm c) O left st)).take room) → Fr [k, pa] G G1 →
      am_WP X D 2 36 [some (.ref k), some (.int (nI O)), some (.int (nI left)), some (.long (lN st)), none, some (.int (nI depth)), some (.int (nI (lo O))), some (.int e), none, none, none] [] G1 0 0 P
  | 0, i, e, G1, hi, he, ha, hF => by
    refine am_wps 60 [132] ?_
    simp only [J2_0, J2_1, J2_4, J2_5, J2_6, J2_9, J2_10, J2_12, J2_14, J2_17, J2_18, J2_19, J2_20, J2_23, J2_26, J2_27, J2_28, J2_31, J2_33, J2_34, J2_36, J2_38, J2_40, J2_43, J2_44, J2_47, J2_50, J2_51, J2_53, J2_56, J2_59, J2_60, J2_61, J2_63, J2_66, J2_68, J2_71, J2_74, J2_75, J2_77, J2_78, J2_79, J2_81, J2_82, J2_85, J2_87, J2_88, J2_89, J2_90, J2_91, J2_93, J2_95, J2_96, J2_97, J2_99, J2_100, J2_101, J2_103, J2_104, J2_105, J2_107, J2_108, J2_109, J2_110, J2_111, J2_112, J2_114, J2_115, J2_116, J2_117, J2_118, J2_119, J2_121, J2_122, J2_124, J2_125, J2_126, J2_129, J2_132, J2_135, am_gg_c, am_gf_c, am_pf_c, am_af_c, am_sf_c, am_bf_c, am_qf_c, am_ap_c, am_bp_c, am_qp_c, am_lf_c, am_kt_s, am_kt_n, am_wst, am_wstop, am_ns_0, am_ns_1, Bool.not_true, Bool.not_false, Bool.true_and, Bool.false_and, Nat.reduceBEq, ↓reduceIte, am_k2_n, am_k2_i, am_k2_r, am_k2_u, am_k2_f, am_k2_l, Nat.zero_le, true_and, and_true, true_or, or_true, am_cat_0, am_cat_i, am_cat_r, am_cat_l, am_cat_n, Nat.reduceLeDiff, Nat.reduceAdd, Option.isSome_some, List.getElem?_cons_zero, List.getElem?_cons_succ, am_fit_i, am_fit_r, am_fit_a]
    rw [if_neg (by rw [he, show i = 8 by omega]; decide)]
    rw [show i = 8 by omega] at ha
    exact hP G1 ha hF
  | n + 1, i, e, G1, hi, he, ha, hF => by
    obtain ⟨h1, ⟨q, h2, h3⟩, h4, h5, h6, h7⟩ := id ha
    subst he
    refine am_wps 60 [132] ?_
    simp only [J2_0, J2_1, J2_4, J2_5, J2_6, J2_9, J2_10, J2_12, J2_14, J2_17, J2_18, J2_19, J2_20, J2_23, J2_26, J2_27, J2_28, J2_31, J2_33, J2_34, J2_36, J2_38, J2_40, J2_43, J2_44, J2_47, J2_50, J2_51, J2_53, J2_56, J2_59, J2_60, J2_61, J2_63, J2_66, J2_68, J2_71, J2_74, J2_75, J2_77, J2_78, J2_79, J2_81, J2_82, J2_85, J2_87, J2_88, J2_89, J2_90, J2_91, J2_93, J2_95, J2_96, J2_97, J2_99, J2_100, J2_101, J2_103, J2_104, J2_105, J2_107, J2_108, J2_109, J2_110, J2_111, J2_112, J2_114, J2_115, J2_116, J2_117, J2_118, J2_119, J2_121, J2_122, J2_124, J2_125, J2_126, J2_129, J2_132, J2_135, am_gg_c, am_gf_c, am_pf_c, am_af_c, am_sf_c, am_bf_c, am_qf_c, am_ap_c, am_bp_c, am_qp_c, am_lf_c, am_kt_s, am_kt_n, am_wst, am_wstop, am_ns_0, am_ns_1, Bool.not_true, Bool.not_false, Bool.true_and, Bool.false_and, Nat.reduceBEq, ↓reduceIte, am_k2_n, am_k2_i, am_k2_r, am_k2_u, am_k2_f, am_k2_l, Nat.zero_le, true_and, and_true, true_or, or_true, am_cat_0, am_cat_i, am_cat_r, am_cat_l, am_cat_n, Nat.reduceLeDiff, Nat.reduceAdd, Option.isSome_some, List.getElem?_cons_zero, List.getElem?_cons_succ, am_fit_i, am_fit_r, am_fit_a, h1]
    rw [if_pos (by rw [show (8 : Int32) = nI 8 by rfl, nI_ltI (by omega) (by omega)]; omega)]
    refine sp_isFull (by omega) ha ?_
    simp only [J2_0, J2_1, J2_4, J2_5, J2_6, J2_9, J2_10, J2_12, J2_14, J2_17, J2_18, J2_19, J2_20, J2_23, J2_26, J2_27, J2_28, J2_31, J2_33, J2_34, J2_36, J2_38, J2_40, J2_43, J2_44, J2_47, J2_50, J2_51, J2_53, J2_56, J2_59, J2_60, J2_61, J2_63, J2_66, J2_68, J2_71, J2_74, J2_75, J2_77, J2_78, J2_79, J2_81, J2_82, J2_85, J2_87, J2_88, J2_89, J2_90, J2_91, J2_93, J2_95, J2_96, J2_97, J2_99, J2_100, J2_101, J2_103, J2_104, J2_105, J2_107, J2_108, J2_109, J2_110, J2_111, J2_112, J2_114, J2_115, J2_116, J2_117, J2_118, J2_119, J2_121, J2_122, J2_124, J2_125, J2_126, J2_129, J2_132, J2_135, am_gg_c, am_gf_c, am_pf_c, am_af_c, am_sf_c, am_bf_c, am_qf_c, am_ap_c, am_bp_c, am_qp_c, am_lf_c, am_kt_s, am_kt_n, am_wst, am_wstop, am_ns_0, am_ns_1, Bool.not_true, Bool.not_false, Bool.true_and, Bool.false_and, Nat.reduceBEq, ↓reduceIte, am_k2_n, am_k2_i, am_k2_r, am_k2_u, am_k2_f, am_k2_l, Nat.zero_le, true_and, and_true, true_or, or_true, am_cat_0, am_cat_i, am_cat_r, am_cat_l, am_cat_n, Nat.reduceLeDiff, Nat.reduceAdd, Option.isSome_some, List.getElem?_cons_zero, List.getElem?_cons_succ, am_fit_i, am_fit_r, am_fit_a, h1]
    have hfl := flat_succ (F := flI dd sm (flC dd sm c) O left st) (i := i)
    by_cases cf : ((Ls ++ (List.range i).flatMap (flI dd sm (flC dd sm c) O left st)).take room).length < room
    · rw [if_pos cf]
      simp only [if_true]
      refine sp_contains (by omega) (by omega) ?_
      simp only [J2_0, J2_1, J2_4, J2_5, J2_6, J2_9, J2_10, J2_12, J2_14, J2_17, J2_18, J2_19, J2_20, J2_23, J2_26, J2_27, J2_28, J2_31, J2_33, J2_34, J2_36, J2_38, J2_40, J2_43, J2_44, J2_47, J2_50, J2_51, J2_53, J2_56, J2_59, J2_60, J2_61, J2_63, J2_66, J2_68, J2_71, J2_74, J2_75, J2_77, J2_78, J2_79, J2_81, J2_82, J2_85, J2_87, J2_88, J2_89, J2_90, J2_91, J2_93, J2_95, J2_96, J2_97, J2_99, J2_100, J2_101, J2_103, J2_104, J2_105, J2_107, J2_108, J2_109, J2_110, J2_111, J2_112, J2_114, J2_115, J2_116, J2_117, J2_118, J2_119, J2_121, J2_122, J2_124, J2_125, J2_126, J2_129, J2_132, J2_135, am_gg_c, am_gf_c, am_pf_c, am_af_c, am_sf_c, am_bf_c, am_qf_c, am_ap_c, am_bp_c, am_qp_c, am_lf_c, am_kt_s, am_kt_n, am_wst, am_wstop, am_ns_0, am_ns_1, Bool.not_true, Bool.not_false, Bool.true_and, Bool.false_and, Nat.reduceBEq, ↓reduceIte, am_k2_n, am_k2_i, am_k2_r, am_k2_u, am_k2_f, am_k2_l, Nat.zero_le, true_and, and_true, true_or, or_true, am_cat_0, am_cat_i, am_cat_r, am_cat_l, am_cat_n, Nat.reduceLeDiff, Nat.reduceAdd, Option.isSome_some, List.getElem?_cons_zero, List.getElem?_cons_succ, am_fit_i, am_fit_r, am_fit_a, h1]
      rw [show ctn left (nI i) = left.testBit i from ctn_n (by omega) (by omega)]
      have skip : (left.testBit i && (osN dd sm O i).testBit (lo O)) = false → ∀ {x9 : Option Value} {x8 : Option Value} {x10 : Option Value}, am_WP X D 2 132 [some (.ref k), some (.int (nI O)), some (.int (nI left)), some (.long (lN st)), none, some (.int (nI depth)), some (.int (nI (lo O))), some (.int (nI i + 1)), x8, x9, x10] [] G1 0 0 P := by
        intro hs x9 x8 x10
        refine am_goto I2_132 (am_WP.fg (lp_fill IH hdf hsf hc hnn hln hl hd hD hO hp18 hst hP n (i + 1) (nI i + 1) G1 (by omega) (by rw [nI_1]) ?_ hF) (by simp [am_le]))
        rw [hfl, show flI dd sm (flC dd sm c) O left st i = [] by unfold flI; rw [hs]; rfl, List.append_nil]
        exact ha
      cases cb : left.testBit i with
      | false =>
        simp only [Bool.false_eq_true, if_false, if_true]
        exact skip (by rw [cb]; rfl)
      | true =>
        simp only [if_true, if_neg (show ¬ (1 : Int32) = 0 by decide)]
        refine sp_openStarts (by omega) ha (fun j hj => ⟨(hdf j hj).1, by have := (hdf j hj).2.1; omega⟩) hsf hO (show i < 8 by omega) ?_
        simp only [J2_0, J2_1, J2_4, J2_5, J2_6, J2_9, J2_10, J2_12, J2_14, J2_17, J2_18, J2_19, J2_20, J2_23, J2_26, J2_27, J2_28, J2_31, J2_33, J2_34, J2_36, J2_38, J2_40, J2_43, J2_44, J2_47, J2_50, J2_51, J2_53, J2_56, J2_59, J2_60, J2_61, J2_63, J2_66, J2_68, J2_71, J2_74, J2_75, J2_77, J2_78, J2_79, J2_81, J2_82, J2_85, J2_87, J2_88, J2_89, J2_90, J2_91, J2_93, J2_95, J2_96, J2_97, J2_99, J2_100, J2_101, J2_103, J2_104, J2_105, J2_107, J2_108, J2_109, J2_110, J2_111, J2_112, J2_114, J2_115, J2_116, J2_117, J2_118, J2_119, J2_121, J2_122, J2_124, J2_125, J2_126, J2_129, J2_132, J2_135, am_gg_c, am_gf_c, am_pf_c, am_af_c, am_sf_c, am_bf_c, am_qf_c, am_ap_c, am_bp_c, am_qp_c, am_lf_c, am_kt_s, am_kt_n, am_wst, am_wstop, am_ns_0, am_ns_1, Bool.not_true, Bool.not_false, Bool.true_and, Bool.false_and, Nat.reduceBEq, ↓reduceIte, am_k2_n, am_k2_i, am_k2_r, am_k2_u, am_k2_f, am_k2_l, Nat.zero_le, true_and, and_true, true_or, or_true, am_cat_0, am_cat_i, am_cat_r, am_cat_l, am_cat_n, Nat.reduceLeDiff, Nat.reduceAdd, Option.isSome_some, List.getElem?_cons_zero, List.getElem?_cons_succ, am_fit_i, am_fit_r, am_fit_a, h1]
        have hos := osN_lt (dd := dd) (sm := sm) (i := i) hO
        refine sp_contains (by omega) (by omega) ?_
        simp only [J2_0, J2_1, J2_4, J2_5, J2_6, J2_9, J2_10, J2_12, J2_14, J2_17, J2_18, J2_19, J2_20, J2_23, J2_26, J2_27, J2_28, J2_31, J2_33, J2_34, J2_36, J2_38, J2_40, J2_43, J2_44, J2_47, J2_50, J2_51, J2_53, J2_56, J2_59, J2_60, J2_61, J2_63, J2_66, J2_68, J2_71, J2_74, J2_75, J2_77, J2_78, J2_79, J2_81, J2_82, J2_85, J2_87, J2_88, J2_89, J2_90, J2_91, J2_93, J2_95, J2_96, J2_97, J2_99, J2_100, J2_101, J2_103, J2_104, J2_105, J2_107, J2_108, J2_109, J2_110, J2_111, J2_112, J2_114, J2_115, J2_116, J2_117, J2_118, J2_119, J2_121, J2_122, J2_124, J2_125, J2_126, J2_129, J2_132, J2_135, am_gg_c, am_gf_c, am_pf_c, am_af_c, am_sf_c, am_bf_c, am_qf_c, am_ap_c, am_bp_c, am_qp_c, am_lf_c, am_kt_s, am_kt_n, am_wst, am_wstop, am_ns_0, am_ns_1, Bool.not_true, Bool.not_false, Bool.true_and, Bool.false_and, Nat.reduceBEq, ↓reduceIte, am_k2_n, am_k2_i, am_k2_r, am_k2_u, am_k2_f, am_k2_l, Nat.zero_le, true_and, and_true, true_or, or_true, am_cat_0, am_cat_i, am_cat_r, am_cat_l, am_cat_n, Nat.reduceLeDiff, Nat.reduceAdd, Option.isSome_some, List.getElem?_cons_zero, List.getElem?_cons_succ, am_fit_i, am_fit_r, am_fit_a, h1, h4]
        rw [show ctn (osN dd sm O i) (nI (lo O)) = (osN dd sm O i).testBit (lo O) from ctn_n (by omega) (by omega)]
        cases cb2 : (osN dd sm O i).testBit (lo O) with
        | false =>
          simp only [Bool.false_eq_true, if_false, if_true]
          exact skip (by rw [cb, cb2]; rfl)
        | true =>
          simp only [if_true, if_neg (show ¬ (1 : Int32) = 0 by decide)]
          refine ⟨vp_in_n (by omega) (by omega), ?_⟩
          obtain ⟨o1, o2, _⟩ := osN_bits cb2
          obtain ⟨d1, d2, d3⟩ := hdf i (by omega)
          have d3 := d3 (by
            rcases Nat.lt_or_ge i nn with z | z
            · exact z
            · rw [bt_hi hln z] at cb; cases cb)
          have hpd : lo O + dd i < 18 := by
            rcases Nat.lt_or_ge (lo O + dd i) 18 with z | z
            · exact z
            · rw [bt_hi hO z] at o2; cases o2
          have hlen := bl_sub_len (m := left) (d := i) (by omega) cb
          have a1 : nI O &&& (((1 : Int32) <<< (nI (lo O) &&& 31) ||| 1 <<< ((nI (lo O) + df (nI i).toNatClampNeg) &&& 31)) ^^^ (-1)) = nI (O - (2 ^ lo O + 2 ^ (lo O + dd i))) := by
            rw [nI_clamp (by omega), d1, nI_add, show (1 : Int32) = nI 1 by rfl, bi_shl (by omega), bi_shl (by omega), Nat.one_mul, Nat.one_mul, bi_or, show (-nI 1 : Int32) = -1 by rfl, bi_not, bi_not_two (by omega) o1 o2 (by omega)]
          have a2 : nI left &&& ((1 : Int32) <<< (nI i &&& 31) ^^^ (-1)) = nI (left - 2 ^ i) := by
            rw [show (1 : Int32) = nI 1 by rfl, bi_shl (by omega), Nat.one_mul, show (-nI 1 : Int32) = -1 by rfl, bi_not, bi_not_bit (by omega) cb]
          have a3 : lN st ||| (nI (lo O)).toInt64 <<< ((5 * nI i).toInt64 &&& 63) = lN (st ||| lo O * 2 ^ (5 * i)) := by
            rw [nI_l (by omega), show (5 : Int32) = nI 5 by rfl, pk_mul, lN_shl (by omega), lN_or]
          rw [a1, a2, a3, nI_1]
          have hst2 : st ||| lo O * 2 ^ (5 * i) < 2 ^ 40 := or_lt hst (by
            have : lo O * 2 ^ (5 * i) < 2 ^ 5 * 2 ^ (5 * i) := Nat.mul_lt_mul_of_pos_right (by omega) (Nat.two_pow_pos _)
            rw [← Nat.pow_add] at this
            exact Nat.lt_of_lt_of_le this (Nat.pow_le_pow_right (by omega) (by omega)))
          refine IH _ _ _ _ D G1 _ _ (by omega) (Nat.lt_of_le_of_lt (Nat.sub_le _ _) hln) (by omega) hD (Nat.lt_of_le_of_lt (Nat.sub_le _ _) hO) hst2 ha (fun G2 b1 b2 => ?_)
          simp only [J2_0, J2_1, J2_4, J2_5, J2_6, J2_9, J2_10, J2_12, J2_14, J2_17, J2_18, J2_19, J2_20, J2_23, J2_26, J2_27, J2_28, J2_31, J2_33, J2_34, J2_36, J2_38, J2_40, J2_43, J2_44, J2_47, J2_50, J2_51, J2_53, J2_56, J2_59, J2_60, J2_61, J2_63, J2_66, J2_68, J2_71, J2_74, J2_75, J2_77, J2_78, J2_79, J2_81, J2_82, J2_85, J2_87, J2_88, J2_89, J2_90, J2_91, J2_93, J2_95, J2_96, J2_97, J2_99, J2_100, J2_101, J2_103, J2_104, J2_105, J2_107, J2_108, J2_109, J2_110, J2_111, J2_112, J2_114, J2_115, J2_116, J2_117, J2_118, J2_119, J2_121, J2_122, J2_124, J2_125, J2_126, J2_129, J2_132, J2_135, am_gg_c, am_gf_c, am_pf_c, am_af_c, am_sf_c, am_bf_c, am_qf_c, am_ap_c, am_bp_c, am_qp_c, am_lf_c, am_kt_s, am_kt_n, am_wst, am_wstop, am_ns_0, am_ns_1, Bool.not_true, Bool.not_false, Bool.true_and, Bool.false_and, Nat.reduceBEq, ↓reduceIte, am_k2_n, am_k2_i, am_k2_r, am_k2_u, am_k2_f, am_k2_l, Nat.zero_le, true_and, and_true, true_or, or_true, am_cat_0, am_cat_i, am_cat_r, am_cat_l, am_cat_n, Nat.reduceLeDiff, Nat.reduceAdd, Option.isSome_some, List.getElem?_cons_zero, List.getElem?_cons_succ, am_fit_i, am_fit_r, am_fit_a]
          refine am_goto I2_132 (am_WP.fg (lp_fill IH hdf hsf hc hnn hln hl hd hD hO hp18 hst hP n (i + 1) (nI i + 1) G2 (by omega) (by rw [nI_1]) ?_ (hF.tr b2)) (by simp [am_le]))
          rw [hfl, ← List.append_assoc, ← take_app, show flI dd sm (flC dd sm c) O left st i = flC dd sm c (O - (2 ^ lo O + 2 ^ (lo O + dd i))) (left - 2 ^ i) (st ||| lo O * 2 ^ (5 * i)) by unfold flI; rw [cb, cb2]; rfl]
          exact b1
    · rw [if_neg cf]
      simp only [if_neg (show ¬ (1 : Int32) = 0 by decide)]
      refine hP G1 ?_ hF
      obtain ⟨Z, hZ⟩ := flat_le (F := flI dd sm (flC dd sm c) O left st) (show i ≤ 8 by omega)
      rw [List.length_take] at cf
      rw [hZ, ← List.append_assoc, List.take_append_of_le_length (by omega)]
      exact ha
theorem fill_s {c : Nat} (hnn : nn ≤ 8) (hdf : ∀ j, j < 8 → df j = nI (dd j) ∧ dd j < 18 ∧ (j < nn → 0 < dd j)) (hsf : ∀ j, j < 8 → sf j = nI (sm j)) (IH : FillOK dd sm X k pa da sa room ln pr df sf nn c) : FillOK dd sm X k pa da sa room ln pr df sf nn (c + 1) := by
  intro O left st depth D G Ls P hc hln hd hD hO hst ha hP
  have hl : left < 2 ^ 8 := Nat.lt_of_lt_of_le hln (Nat.pow_le_pow_right (by omega) hnn)
  obtain ⟨D, rfl⟩ : ∃ D0, D = D0 + 1 := ⟨D - 1, by omega⟩
  have h1 := ha.1
  have hne : ¬ left = 0 := by
    intro z; subst z
    have : bl 0 = [] := by decide +kernel
    rw [this] at hc; cases hc
  refine B2 60 [36] ?_
  simp only [J2_0, J2_1, J2_4, J2_5, J2_6, J2_9, J2_10, J2_12, J2_14, J2_17, J2_18, J2_19, J2_20, J2_23, J2_26, J2_27, J2_28, J2_31, J2_33, J2_34, J2_36, J2_38, J2_40, J2_43, J2_44, J2_47, J2_50, J2_51, J2_53, J2_56, J2_59, J2_60, J2_61, J2_63, J2_66, J2_68, J2_71, J2_74, J2_75, J2_77, J2_78, J2_79, J2_81, J2_82, J2_85, J2_87, J2_88, J2_89, J2_90, J2_91, J2_93, J2_95, J2_96, J2_97, J2_99, J2_100, J2_101, J2_103, J2_104, J2_105, J2_107, J2_108, J2_109, J2_110, J2_111, J2_112, J2_114, J2_115, J2_116, J2_117, J2_118, J2_119, J2_121, J2_122, J2_124, J2_125, J2_126, J2_129, J2_132, J2_135, am_gg_c, am_gf_c, am_pf_c, am_af_c, am_sf_c, am_bf_c, am_qf_c, am_ap_c, am_bp_c, am_qp_c, am_lf_c, am_kt_s, am_kt_n, am_wst, am_wstop, am_ns_0, am_ns_1, Bool.not_true, Bool.not_false, Bool.true_and, Bool.false_and, Nat.reduceBEq, ↓reduceIte, am_k2_n, am_k2_i, am_k2_r, am_k2_u, am_k2_f, am_k2_l, Nat.zero_le, true_and, and_true, true_or, or_true, am_cat_0, am_cat_i, am_cat_r, am_cat_l, am_cat_n, Nat.reduceLeDiff, Nat.reduceAdd, Option.isSome_some, List.getElem?_cons_zero, List.getElem?_cons_succ, am_fit_i, am_fit_r, am_fit_a, h1]
  rw [if_neg (by rw [bi_eq0 (by omega)]; exact hne), if_pos (by rw [show (8 : Int32) = nI 8 by rfl, nI_ltI (by omega) (by omega)]; omega)]
  refine sp_all (by omega) ha (fun j hj => ⟨(hdf j hj).1, by have := (hdf j hj).2.1; omega⟩) hsf hO hl ?_
  simp only [J2_0, J2_1, J2_4, J2_5, J2_6, J2_9, J2_10, J2_12, J2_14, J2_17, J2_18, J2_19, J2_20, J2_23, J2_26, J2_27, J2_28, J2_31, J2_33, J2_34, J2_36, J2_38, J2_40, J2_43, J2_44, J2_47, J2_50, J2_51, J2_53, J2_56, J2_59, J2_60, J2_61, J2_63, J2_66, J2_68, J2_71, J2_74, J2_75, J2_77, J2_78, J2_79, J2_81, J2_82, J2_85, J2_87, J2_88, J2_89, J2_90, J2_91, J2_93, J2_95, J2_96, J2_97, J2_99, J2_100, J2_101, J2_103, J2_104, J2_105, J2_107, J2_108, J2_109, J2_110, J2_111, J2_112, J2_114, J2_115, J2_116, J2_117, J2_118, J2_119, J2_121, J2_122, J2_124, J2_125, J2_126, J2_129, J2_132, J2_135, am_gg_c, am_gf_c, am_pf_c, am_af_c, am_sf_c, am_bf_c, am_qf_c, am_ap_c, am_bp_c, am_qp_c, am_lf_c, am_kt_s, am_kt_n, am_wst, am_wstop, am_ns_0, am_ns_1, Bool.not_true, Bool.not_false, Bool.true_and, Bool.false_and, Nat.reduceBEq, ↓reduceIte, am_k2_n, am_k2_i, am_k2_r, am_k2_u, am_k2_f, am_k2_l, Nat.zero_le, true_and, and_true, true_or, or_true, am_cat_0, am_cat_i, am_cat_r, am_cat_l, am_cat_n, Nat.reduceLeDiff, Nat.reduceAdd, Option.isSome_some, List.getElem?_cons_zero, List.getElem?_cons_succ, am_fit_i, am_fit_r, am_fit_a]
  cases hac : acB dd sm O left 8 with
  | false =>
    simp only [Bool.false_eq_true, if_false, if_true]
    refine hP G ?_ Fr.rf
    unfold flC
    rw [hac]
    simp only [Bool.false_eq_true, if_false, List.append_nil]
    rw [List.take_of_length_le ha.2.2.2.2.1]
    exact ha
  | true =>
    simp only [if_true, if_neg (show ¬ (1 : Int32) = 0 by decide)]
    have hbO : bl O ≠ [] := by
      intro z
      have hO0 := bl_zero hO z
      obtain ⟨i, hi⟩ := List.exists_mem_of_ne_nil (bl left) (fun q => by rw [q] at hc; cases hc)
      have hi2 := bl_mem.mp hi
      have hi8 : i < 8 := by
        rcases Nat.lt_or_ge i 8 with z | z
        · exact z
        · rw [bt_hi hl z] at hi2; cases hi2.2
      have := List.all_eq_true.mp hac i (List.mem_range.mpr hi8)
      rw [hi2.2] at this
      simp only [Bool.not_true, Bool.false_or, Bool.not_eq_true', beq_eq_false_iff_ne] at this
      apply this
      unfold osN
      rw [hO0]
      simp
    refine sp_ntz (by omega) hO hbO ?_
    simp only [J2_0, J2_1, J2_4, J2_5, J2_6, J2_9, J2_10, J2_12, J2_14, J2_17, J2_18, J2_19, J2_20, J2_23, J2_26, J2_27, J2_28, J2_31, J2_33, J2_34, J2_36, J2_38, J2_40, J2_43, J2_44, J2_47, J2_50, J2_51, J2_53, J2_56, J2_59, J2_60, J2_61, J2_63, J2_66, J2_68, J2_71, J2_74, J2_75, J2_77, J2_78, J2_79, J2_81, J2_82, J2_85, J2_87, J2_88, J2_89, J2_90, J2_91, J2_93, J2_95, J2_96, J2_97, J2_99, J2_100, J2_101, J2_103, J2_104, J2_105, J2_107, J2_108, J2_109, J2_110, J2_111, J2_112, J2_114, J2_115, J2_116, J2_117, J2_118, J2_119, J2_121, J2_122, J2_124, J2_125, J2_126, J2_129, J2_132, J2_135, am_gg_c, am_gf_c, am_pf_c, am_af_c, am_sf_c, am_bf_c, am_qf_c, am_ap_c, am_bp_c, am_qp_c, am_lf_c, am_kt_s, am_kt_n, am_wst, am_wstop, am_ns_0, am_ns_1, Bool.not_true, Bool.not_false, Bool.true_and, Bool.false_and, Nat.reduceBEq, ↓reduceIte, am_k2_n, am_k2_i, am_k2_r, am_k2_u, am_k2_f, am_k2_l, Nat.zero_le, true_and, and_true, true_or, or_true, am_cat_0, am_cat_i, am_cat_r, am_cat_l, am_cat_n, Nat.reduceLeDiff, Nat.reduceAdd, Option.isSome_some, List.getElem?_cons_zero, List.getElem?_cons_succ, am_fit_i, am_fit_r, am_fit_a]
    obtain ⟨_, l2, _⟩ := lo_s hbO
    refine lp_fill IH hdf hsf hc hnn hln hl hd (by omega) hO l2 hst (fun G' a b => hP G' ?_ b) 8 0 _ G (by omega) nI_0.symm (by simp only [List.range_zero, List.flatMap_nil, List.append_nil]; rw [List.take_of_length_le ha.2.2.2.2.1]; exact ha) Fr.rf
    unfold flC
    rw [hac]
    exact a
theorem sp_fill (hnn : nn ≤ 8) (hdf : ∀ j, j < 8 → df j = nI (dd j) ∧ dd j < 18 ∧ (j < nn → 0 < dd j)) (hsf : ∀ j, j < 8 → sf j = nI (sm j)) : ∀ c, FillOK dd sm X k pa da sa room ln pr df sf nn c
  | 0 => fill_0 hnn
  | c + 1 => fill_s hnn hdf hsf (sp_fill hnn hdf hsf c)
end FILL
