/-! keepRow, forced -/
def fcI (x y : Nat → Nat) (s : Nat) : Nat → Nat
  | 0 => s
  | k + 1 => if x k = y k then fcI x y s k else fcI x y s k &&& (2 ^ k ^^^ 4294967295)
theorem fcI_le (x y : Nat → Nat) (s : Nat) : ∀ k, fcI x y s k ≤ s
  | 0 => Nat.le_refl _
  | k + 1 => by
    have := fcI_le x y s k
    unfold fcI
    split
    · exact this
    · exact Nat.le_trans Nat.and_le_left this
def fcR (y : Nat → Nat) (l : Nat) : List (List (Nat × Nat)) → Nat → Nat
  | [], s => s
  | a :: R, s => fcR y l R (fcI (rwN a) y s l)
def fcA (l h : Nat) : List (List (Nat × Nat)) → Nat
  | [] => 0
  | a :: R => fcR (rwN a) l (a :: R) (frN l h)
section FC
variable {X : Nat × (Nat → Int32)} {D : Nat} {P : Option Value → am_H → Prop} {pm vp len T m ip due dep : Int32} {ipb : Bool} {l h d n : Nat} {f : Nat → Nat} {nn O0 m0 : Nat}
/-- the first row -/
def FR (G : am_H) (y : Nat → Nat) : Prop := ∃ b, am_ia G 32 0 = some (18, b) ∧ ∀ w, w < 18 → b w = nI (y w)
theorem lp_keepRow {G0 : am_H} {a : List (Nat × Nat)} (h1 : ∀ G, Fr [32] G0 G → am_ob G 23 5 = some (moL pm len T m ip due dep vp)) (h2 : ∀ G, Fr [32] G0 G → RW G a) (hP : ∀ G', FR G' (rwN a) → Fr [32] G0 G' → P none G') :
    ∀ (k i : Nat) (G : am_H), i + k = 18 → (∃ b, am_ia G 32 0 = some (18, b) ∧ ∀ w, w < i → b w = nI (rwN a w)) → Fr [32] G0 G → am_WP X D 128 2 [some (.ref 23), some (.ref 32), some (.int (nI i))] [] G 0 0 P := by
  intro k
  induction k with
  | zero =>
    intro i G hi hb hF
    refine am_wps 40 [20] ?_
    simp only [J128_0, J128_1, J128_2, J128_3, J128_5, J128_8, J128_9, J128_10, J128_11, J128_14, J128_15, J128_16, J128_17, J128_20, J128_23, am_gg_c, am_gf_c, am_pf_c, am_af_c, am_sf_c, am_bf_c, am_qf_c, am_ap_c, am_bp_c, am_qp_c, am_lf_c, am_kt_s, am_kt_n, am_wst, am_wstop, am_ns_0, am_ns_1, Bool.not_true, Bool.not_false, Bool.true_and, Bool.false_and, Nat.reduceBEq, ↓reduceIte, am_k2_n, am_k2_i, am_k2_r, am_k2_u, am_k2_f, am_k2_l, Nat.zero_le, true_and, and_true, true_or, or_true, am_cat_0, am_cat_i, am_cat_r, am_cat_l, am_cat_n, Nat.reduceLeDiff, Nat.reduceAdd, Option.isSome_some, List.getElem?_cons_zero, List.getElem?_cons_succ, am_fit_i, am_fit_r, am_fit_a]
    rw [if_neg (by rw [show i = 18 by omega]; decide)]
    rw [show i = 18 by omega] at hb
    exact hP G hb hF
  | succ k ih =>
    intro i G hi hb hF
    have k1 := h1 G hF
    obtain ⟨r, bg, r1, r2, r3, r4⟩ := h2 G hF
    obtain ⟨b, b1, b2⟩ := hb
    have k32 := am_ia_lt b1
    have hin : vp_in (nI i) 18 := vp_in_n (by omega) (by omega)
    refine am_wps 60 [20] ?_
    simp only [J128_0, J128_1, J128_2, J128_3, J128_5, J128_8, J128_9, J128_10, J128_11, J128_14, J128_15, J128_16, J128_17, J128_20, J128_23, am_gg_c, am_gf_c, am_pf_c, am_af_c, am_sf_c, am_bf_c, am_qf_c, am_ap_c, am_bp_c, am_qp_c, am_lf_c, am_kt_s, am_kt_n, am_wst, am_wstop, am_ns_0, am_ns_1, Bool.not_true, Bool.not_false, Bool.true_and, Bool.false_and, Nat.reduceBEq, ↓reduceIte, am_k2_n, am_k2_i, am_k2_r, am_k2_u, am_k2_f, am_k2_l, Nat.zero_le, true_and, and_true, true_or, or_true, am_cat_0, am_cat_i, am_cat_r, am_cat_l, am_cat_n, Nat.reduceLeDiff, Nat.reduceAdd, Option.isSome_some, List.getElem?_cons_zero, List.getElem?_cons_succ, am_fit_i, am_fit_r, am_fit_a, k1, r1, b1]
    rw [if_pos (by rw [show (18 : Int32) = nI 18 by rfl, nI_ltI (by omega) (by omega)]; omega)]
    refine ⟨hin, hin, ?_⟩
    rw [nI_clamp (by omega), r3 i (by omega)]
    refine am_goto I128_20 ?_
    rw [nI_1]
    refine ih (i + 1) _ (by omega) ⟨_, am_ia_ss k32, fun j hj => ?_⟩ (hF.tr (Fr.set (by decide)))
    unfold upd
    by_cases c : j = i
    · rw [if_pos c, c]; rfl
    · rw [if_neg c]
      exact b2 j (by omega)
theorem sp_keepRow {G : am_H} {a : List (Nat × Nat)} (hD : 1 ≤ D) (h1 : am_ob G 23 5 = some (moL pm len T m ip due dep vp)) (h2 : RW G a) (hb : ∃ b, am_ia G 32 0 = some (18, b)) (hP : ∀ G', FR G' (rwN a) → Fr [32] G G' → P none G') : am_CB X D 128 [.ref 23, .ref 32] G P := by
  obtain ⟨D, rfl⟩ : ∃ D0, D = D0 + 1 := ⟨D - 1, by omega⟩
  obtain ⟨b, b1⟩ := hb
  refine B128 40 [2] ?_
  simp only [J128_0, J128_1, J128_2, J128_3, J128_5, J128_8, J128_9, J128_10, J128_11, J128_14, J128_15, J128_16, J128_17, J128_20, J128_23, am_gg_c, am_gf_c, am_pf_c, am_af_c, am_sf_c, am_bf_c, am_qf_c, am_ap_c, am_bp_c, am_qp_c, am_lf_c, am_kt_s, am_kt_n, am_wst, am_wstop, am_ns_0, am_ns_1, Bool.not_true, Bool.not_false, Bool.true_and, Bool.false_and, Nat.reduceBEq, ↓reduceIte, am_k2_n, am_k2_i, am_k2_r, am_k2_u, am_k2_f, am_k2_l, Nat.zero_le, true_and, and_true, true_or, or_true, am_cat_0, am_cat_i, am_cat_r, am_cat_l, am_cat_n, Nat.reduceLeDiff, Nat.reduceAdd, Option.isSome_some, List.getElem?_cons_zero, List.getElem?_cons_succ, am_fit_i, am_fit_r, am_fit_a]
  exact lp_keepRow (G0 := G) (fun G' hF => (by rw [hF.ob (by decide)]; exact h1)) (fun G' hF => h2.fr hF (by decide) (by decide)) hP 18 0 G (by omega) ⟨b, b1, fun w hw => by omega⟩ Fr.rf
theorem lp_fcIn {G : am_H} {a : List (Nat × Nat)} {y : Nat → Nat} {s : Nat} (hs : s < 2 ^ 18) (hl : l ≤ 18) (h1 : am_ob G 23 5 = some (moL pm (nI l) T m ip due dep vp)) (hr : RW G a) (hf : FR G y) (ha : ∀ q, rwN a q < 18) (hy : ∀ q, y q < 18) (hK : am_WP X D 129 8 [some (.ref 23), some (.int (nI (fcI (rwN a) y s l))), some (.int 1), none] [] G 0 0 P) :
    ∀ (k i : Nat), i + k = l → am_WP X D 129 49 [some (.ref 23), some (.int (nI (fcI (rwN a) y s i))), some (.int 1), some (.int (nI i))] [] G 0 0 P := by
  obtain ⟨r, bg, r1, r2, r3, r4⟩ := hr
  obtain ⟨b, b1, b2⟩ := hf
  intro k
  induction k with
  | zero =>
    intro i hi
    refine am_wps 60 [87, 90] ?_
    simp only [J129_0, J129_1, J129_4, J129_5, J129_6, J129_7, J129_8, J129_9, J129_12, J129_15, J129_16, J129_19, J129_20, J129_21, J129_24, J129_27, J129_28, J129_29, J129_32, J129_33, J129_34, J129_35, J129_36, J129_39, J129_40, J129_41, J129_42, J129_43, J129_44, J129_45, J129_46, J129_47, J129_48, J129_49, J129_50, J129_51, J129_54, J129_57, J129_58, J129_59, J129_62, J129_63, J129_64, J129_65, J129_68, J129_69, J129_70, J129_73, J129_74, J129_77, J129_78, J129_79, J129_80, J129_81, J129_82, J129_83, J129_84, J129_87, J129_90, J129_93, J129_94, am_gg_c, am_gf_c, am_pf_c, am_af_c, am_sf_c, am_bf_c, am_qf_c, am_ap_c, am_bp_c, am_qp_c, am_lf_c, am_kt_s, am_kt_n, am_wst, am_wstop, am_ns_0, am_ns_1, Bool.not_true, Bool.not_false, Bool.true_and, Bool.false_and, Nat.reduceBEq, ↓reduceIte, am_k2_n, am_k2_i, am_k2_r, am_k2_u, am_k2_f, am_k2_l, Nat.zero_le, true_and, and_true, true_or, or_true, am_cat_0, am_cat_i, am_cat_r, am_cat_l, am_cat_n, Nat.reduceLeDiff, Nat.reduceAdd, Option.isSome_some, List.getElem?_cons_zero, List.getElem?_cons_succ, am_fit_i, am_fit_r, am_fit_a, h1]
    rw [if_neg (by rw [nI_ltI (by omega) (by omega)]; omega)]
    refine am_goto I129_90 ?_
    rw [show i = l by omega]
    exact am_WP.fg hK (by simp [am_le])
  | succ k ih =>
    intro i hi
    have hn := ih (i + 1) (by omega)
    have hai := ha i
    have hyi := hy i
    have hle := fcI_le (rwN a) y s i
    have hss : fcI (rwN a) y s (i + 1) = if rwN a i = y i then fcI (rwN a) y s i else fcI (rwN a) y s i &&& (2 ^ i ^^^ 4294967295) := rfl
    rw [hss] at hn
    refine am_wps 60 [87, 90] ?_
    simp only [J129_0, J129_1, J129_4, J129_5, J129_6, J129_7, J129_8, J129_9, J129_12, J129_15, J129_16, J129_19, J129_20, J129_21, J129_24, J129_27, J129_28, J129_29, J129_32, J129_33, J129_34, J129_35, J129_36, J129_39, J129_40, J129_41, J129_42, J129_43, J129_44, J129_45, J129_46, J129_47, J129_48, J129_49, J129_50, J129_51, J129_54, J129_57, J129_58, J129_59, J129_62, J129_63, J129_64, J129_65, J129_68, J129_69, J129_70, J129_73, J129_74, J129_77, J129_78, J129_79, J129_80, J129_81, J129_82, J129_83, J129_84, J129_87, J129_90, J129_93, J129_94, am_gg_c, am_gf_c, am_pf_c, am_af_c, am_sf_c, am_bf_c, am_qf_c, am_ap_c, am_bp_c, am_qp_c, am_lf_c, am_kt_s, am_kt_n, am_wst, am_wstop, am_ns_0, am_ns_1, Bool.not_true, Bool.not_false, Bool.true_and, Bool.false_and, Nat.reduceBEq, ↓reduceIte, am_k2_n, am_k2_i, am_k2_r, am_k2_u, am_k2_f, am_k2_l, Nat.zero_le, true_and, and_true, true_or, or_true, am_cat_0, am_cat_i, am_cat_r, am_cat_l, am_cat_n, Nat.reduceLeDiff, Nat.reduceAdd, Option.isSome_some, List.getElem?_cons_zero, List.getElem?_cons_succ, am_fit_i, am_fit_r, am_fit_a, h1, r1, b1]
    rw [if_pos (by rw [nI_ltI (by omega) (by omega)]; omega)]
    refine ⟨vp_in_n (by omega) (by omega), vp_in_n (by omega) (by omega), ?_⟩
    rw [nI_clamp (by omega), r3 i (by omega), b2 i (by omega), show rwZ a.reverse i = rwN a i by rfl]
    by_cases c : rwN a i = y i
    · rw [if_pos c] at hn
      rw [if_pos (by rw [c])]
      refine am_goto I129_87 ?_
      rw [nI_1, show nI (fcI (rwN a) y s i) &&& (-1 : Int32) = nI (fcI (rwN a) y s i) from ?_]
      · exact hn
      · rw [show (-1 : Int32) = nI 4294967295 by rfl, bi_and]
        congr 1
        rw [show (4294967295 : Nat) = 2 ^ 32 - 1 by rfl, Nat.and_two_pow_sub_one_eq_mod, Nat.mod_eq_of_lt (by omega)]
    · rw [if_neg c] at hn
      rw [if_neg (fun e => c (bi_inj (by omega) (by omega) e))]
      refine am_goto I129_87 ?_
      rw [nI_1, show (1 : Int32) = nI 1 by rfl, bi_shl (by omega), Nat.one_mul, show (-nI 1 : Int32) = -1 by rfl, bi_not]
      exact hn
theorem lp_forced {G0 : am_H} {y : Nat → Nat} (hl : l ≤ 18) (hD : 4 ≤ D) (hm : ∀ G, Fr kE G0 G → MA G l h d f) (hf : FR G0 y) (hy : ∀ q, y q < 18) : ∀ (R : List (List (Nat × Nat))) (s : Nat) (G : am_H), s < 2 ^ 18 → (∀ a ∈ R, ∀ q, rwN a q < 18) → EnS G pm vp ipb f nn l O0 m0 R → Fr kE G0 G → (∀ G', EnA G' pm vp → Fr kE G0 G' → P (some (.int (nI (fcR y l R s)))) G') → am_WP X D 129 8 [some (.ref 23), some (.int (nI s)), some (.int 1), none] [] G 0 0 P := by
  intro R
  induction R with
  | nil =>
    intro s G _ _ hE hF hP
    obtain ⟨len, T, m, ip, due, dep, b1⟩ := hE.a.1
    refine am_wps 60 [49, 90] ?_
    simp only [J129_0, J129_1, J129_4, J129_5, J129_6, J129_7, J129_8, J129_9, J129_12, J129_15, J129_16, J129_19, J129_20, J129_21, J129_24, J129_27, J129_28, J129_29, J129_32, J129_33, J129_34, J129_35, J129_36, J129_39, J129_40, J129_41, J129_42, J129_43, J129_44, J129_45, J129_46, J129_47, J129_48, J129_49, J129_50, J129_51, J129_54, J129_57, J129_58, J129_59, J129_62, J129_63, J129_64, J129_65, J129_68, J129_69, J129_70, J129_73, J129_74, J129_77, J129_78, J129_79, J129_80, J129_81, J129_82, J129_83, J129_84, J129_87, J129_90, J129_93, J129_94, am_gg_c, am_gf_c, am_pf_c, am_af_c, am_sf_c, am_bf_c, am_qf_c, am_ap_c, am_bp_c, am_qp_c, am_lf_c, am_kt_s, am_kt_n, am_wst, am_wstop, am_ns_0, am_ns_1, Bool.not_true, Bool.not_false, Bool.true_and, Bool.false_and, Nat.reduceBEq, ↓reduceIte, am_k2_n, am_k2_i, am_k2_r, am_k2_u, am_k2_f, am_k2_l, Nat.zero_le, true_and, and_true, true_or, or_true, am_cat_0, am_cat_i, am_cat_r, am_cat_l, am_cat_n, Nat.reduceLeDiff, Nat.reduceAdd, Option.isSome_some, List.getElem?_cons_zero, List.getElem?_cons_succ, am_fit_i, am_fit_r, am_fit_a, b1]
    refine sp_adv hD hE (hm G hF) (fun _ G' d1 d2 => ?_) (fun a R' e => by cases e)
    simp only [J129_0, J129_1, J129_4, J129_5, J129_6, J129_7, J129_8, J129_9, J129_12, J129_15, J129_16, J129_19, J129_20, J129_21, J129_24, J129_27, J129_28, J129_29, J129_32, J129_33, J129_34, J129_35, J129_36, J129_39, J129_40, J129_41, J129_42, J129_43, J129_44, J129_45, J129_46, J129_47, J129_48, J129_49, J129_50, J129_51, J129_54, J129_57, J129_58, J129_59, J129_62, J129_63, J129_64, J129_65, J129_68, J129_69, J129_70, J129_73, J129_74, J129_77, J129_78, J129_79, J129_80, J129_81, J129_82, J129_83, J129_84, J129_87, J129_90, J129_93, J129_94, am_gg_c, am_gf_c, am_pf_c, am_af_c, am_sf_c, am_bf_c, am_qf_c, am_ap_c, am_bp_c, am_qp_c, am_lf_c, am_kt_s, am_kt_n, am_wst, am_wstop, am_ns_0, am_ns_1, Bool.not_true, Bool.not_false, Bool.true_and, Bool.false_and, Nat.reduceBEq, ↓reduceIte, am_k2_n, am_k2_i, am_k2_r, am_k2_u, am_k2_f, am_k2_l, Nat.zero_le, true_and, and_true, true_or, or_true, am_cat_0, am_cat_i, am_cat_r, am_cat_l, am_cat_n, Nat.reduceLeDiff, Nat.reduceAdd, Option.isSome_some, List.getElem?_cons_zero, List.getElem?_cons_succ, am_fit_i, am_fit_r, am_fit_a, if_true]
    exact hP G' d1.a (hF.tr d2)
  | cons a R ih =>
    intro s G hs hR hE hF hP
    obtain ⟨len, T, m, ip, due, dep, b1⟩ := hE.a.1
    have ha := hR a List.mem_cons_self
    have hle := fcI_le (rwN a) y s l
    refine am_wps 60 [49, 90] ?_
    simp only [J129_0, J129_1, J129_4, J129_5, J129_6, J129_7, J129_8, J129_9, J129_12, J129_15, J129_16, J129_19, J129_20, J129_21, J129_24, J129_27, J129_28, J129_29, J129_32, J129_33, J129_34, J129_35, J129_36, J129_39, J129_40, J129_41, J129_42, J129_43, J129_44, J129_45, J129_46, J129_47, J129_48, J129_49, J129_50, J129_51, J129_54, J129_57, J129_58, J129_59, J129_62, J129_63, J129_64, J129_65, J129_68, J129_69, J129_70, J129_73, J129_74, J129_77, J129_78, J129_79, J129_80, J129_81, J129_82, J129_83, J129_84, J129_87, J129_90, J129_93, J129_94, am_gg_c, am_gf_c, am_pf_c, am_af_c, am_sf_c, am_bf_c, am_qf_c, am_ap_c, am_bp_c, am_qp_c, am_lf_c, am_kt_s, am_kt_n, am_wst, am_wstop, am_ns_0, am_ns_1, Bool.not_true, Bool.not_false, Bool.true_and, Bool.false_and, Nat.reduceBEq, ↓reduceIte, am_k2_n, am_k2_i, am_k2_r, am_k2_u, am_k2_f, am_k2_l, Nat.zero_le, true_and, and_true, true_or, or_true, am_cat_0, am_cat_i, am_cat_r, am_cat_l, am_cat_n, Nat.reduceLeDiff, Nat.reduceAdd, Option.isSome_some, List.getElem?_cons_zero, List.getElem?_cons_succ, am_fit_i, am_fit_r, am_fit_a, b1]
    refine sp_adv hD hE (hm G hF) (fun e => by cases e) (fun a' R' e G' d1 d2 d3 => ?_)
    cases e
    obtain ⟨T, m, ip, due, dep, b2⟩ := d1.lgt
    simp only [J129_0, J129_1, J129_4, J129_5, J129_6, J129_7, J129_8, J129_9, J129_12, J129_15, J129_16, J129_19, J129_20, J129_21, J129_24, J129_27, J129_28, J129_29, J129_32, J129_33, J129_34, J129_35, J129_36, J129_39, J129_40, J129_41, J129_42, J129_43, J129_44, J129_45, J129_46, J129_47, J129_48, J129_49, J129_50, J129_51, J129_54, J129_57, J129_58, J129_59, J129_62, J129_63, J129_64, J129_65, J129_68, J129_69, J129_70, J129_73, J129_74, J129_77, J129_78, J129_79, J129_80, J129_81, J129_82, J129_83, J129_84, J129_87, J129_90, J129_93, J129_94, am_gg_c, am_gf_c, am_pf_c, am_af_c, am_sf_c, am_bf_c, am_qf_c, am_ap_c, am_bp_c, am_qp_c, am_lf_c, am_kt_s, am_kt_n, am_wst, am_wstop, am_ns_0, am_ns_1, Bool.not_true, Bool.not_false, Bool.true_and, Bool.false_and, Nat.reduceBEq, ↓reduceIte, am_k2_n, am_k2_i, am_k2_r, am_k2_u, am_k2_f, am_k2_l, Nat.zero_le, true_and, and_true, true_or, or_true, am_cat_0, am_cat_i, am_cat_r, am_cat_l, am_cat_n, Nat.reduceLeDiff, Nat.reduceAdd, Option.isSome_some, List.getElem?_cons_zero, List.getElem?_cons_succ, am_fit_i, am_fit_r, am_fit_a, if_neg (show ¬ (1 : Int32) = 0 by decide)]
    have hF2 := hF.tr d3
    refine lp_fcIn hs hl b2 d2 (by obtain ⟨b, q1, q2⟩ := hf; exact ⟨b, by rw [hF2.ia (by decide)]; exact q1, q2⟩) ha hy ?_ l 0 (by omega)
    exact ih (fcI (rwN a) y s l) G' (by omega) (fun b hb => hR b (List.mem_cons_of_mem _ hb)) d1 hF2 hP
theorem sp_mforced {G : am_H} (hD : 5 ≤ D) (hE : EnA G pm vp) (hm : MA G l h d f) (hd1 : 1 ≤ (bl d).length) (hd8 : (bl d).length ≤ 8) (hb : ∃ b, am_ia G 32 0 = some (18, b)) (hP : ∀ G', EnA G' pm vp → (∃ b, am_ia G' 32 0 = some (18, b)) → Fr [23, 28, 29, 30, 31, 32] G G' → P (some (.int (nI (fcA l h (arrs true l h d f))))) G') : am_CB X D 129 [.ref 23] G P := by
  obtain ⟨D, rfl⟩ : ∃ D0, D = D0 + 1 := ⟨D - 1, by omega⟩
  obtain ⟨len, T, m, ip, due, dep, b1⟩ := hE.1
  have hl1 := hm.2.1
  have hl := hm.2.2.1
  refine B129 60 [8] ?_
  simp only [J129_0, J129_1, J129_4, J129_5, J129_6, J129_7, J129_8, J129_9, J129_12, J129_15, J129_16, J129_19, J129_20, J129_21, J129_24, J129_27, J129_28, J129_29, J129_32, J129_33, J129_34, J129_35, J129_36, J129_39, J129_40, J129_41, J129_42, J129_43, J129_44, J129_45, J129_46, J129_47, J129_48, J129_49, J129_50, J129_51, J129_54, J129_57, J129_58, J129_59, J129_62, J129_63, J129_64, J129_65, J129_68, J129_69, J129_70, J129_73, J129_74, J129_77, J129_78, J129_79, J129_80, J129_81, J129_82, J129_83, J129_84, J129_87, J129_90, J129_93, J129_94, am_gg_c, am_gf_c, am_pf_c, am_af_c, am_sf_c, am_bf_c, am_qf_c, am_ap_c, am_bp_c, am_qp_c, am_lf_c, am_kt_s, am_kt_n, am_wst, am_wstop, am_ns_0, am_ns_1, Bool.not_true, Bool.not_false, Bool.true_and, Bool.false_and, Nat.reduceBEq, ↓reduceIte, am_k2_n, am_k2_i, am_k2_r, am_k2_u, am_k2_f, am_k2_l, Nat.zero_le, true_and, and_true, true_or, or_true, am_cat_0, am_cat_i, am_cat_r, am_cat_l, am_cat_n, Nat.reduceLeDiff, Nat.reduceAdd, Option.isSome_some, List.getElem?_cons_zero, List.getElem?_cons_succ, am_fit_i, am_fit_r, am_fit_a, b1]
  refine sp_beginOwn (by omega) hE hm hd1 hd8 (fun G1 c1 _ c2 => ?_)
  simp only [J129_0, J129_1, J129_4, J129_5, J129_6, J129_7, J129_8, J129_9, J129_12, J129_15, J129_16, J129_19, J129_20, J129_21, J129_24, J129_27, J129_28, J129_29, J129_32, J129_33, J129_34, J129_35, J129_36, J129_39, J129_40, J129_41, J129_42, J129_43, J129_44, J129_45, J129_46, J129_47, J129_48, J129_49, J129_50, J129_51, J129_54, J129_57, J129_58, J129_59, J129_62, J129_63, J129_64, J129_65, J129_68, J129_69, J129_70, J129_73, J129_74, J129_77, J129_78, J129_79, J129_80, J129_81, J129_82, J129_83, J129_84, J129_87, J129_90, J129_93, J129_94, am_gg_c, am_gf_c, am_pf_c, am_af_c, am_sf_c, am_bf_c, am_qf_c, am_ap_c, am_bp_c, am_qp_c, am_lf_c, am_kt_s, am_kt_n, am_wst, am_wstop, am_ns_0, am_ns_1, Bool.not_true, Bool.not_false, Bool.true_and, Bool.false_and, Nat.reduceBEq, ↓reduceIte, am_k2_n, am_k2_i, am_k2_r, am_k2_u, am_k2_f, am_k2_l, Nat.zero_le, true_and, and_true, true_or, or_true, am_cat_0, am_cat_i, am_cat_r, am_cat_l, am_cat_n, Nat.reduceLeDiff, Nat.reduceAdd, Option.isSome_some, List.getElem?_cons_zero, List.getElem?_cons_succ, am_fit_i, am_fit_r, am_fit_a]
  have hA : ∀ a ∈ arrs true l h d f, ∀ q, rwN a q < 18 := fun a ha q => rwN_lt ha
  obtain ⟨len, T, m, ip, due, dep, b2⟩ := c1.a.1
  revert c1 hP hA
  generalize arrs true l h d f = R
  intro hP c1 hA
  match R, hP, c1, hA with
  | [], hP, c1, hA =>
    refine am_wps 60 [49, 90] ?_
    simp only [J129_0, J129_1, J129_4, J129_5, J129_6, J129_7, J129_8, J129_9, J129_12, J129_15, J129_16, J129_19, J129_20, J129_21, J129_24, J129_27, J129_28, J129_29, J129_32, J129_33, J129_34, J129_35, J129_36, J129_39, J129_40, J129_41, J129_42, J129_43, J129_44, J129_45, J129_46, J129_47, J129_48, J129_49, J129_50, J129_51, J129_54, J129_57, J129_58, J129_59, J129_62, J129_63, J129_64, J129_65, J129_68, J129_69, J129_70, J129_73, J129_74, J129_77, J129_78, J129_79, J129_80, J129_81, J129_82, J129_83, J129_84, J129_87, J129_90, J129_93, J129_94, am_gg_c, am_gf_c, am_pf_c, am_af_c, am_sf_c, am_bf_c, am_qf_c, am_ap_c, am_bp_c, am_qp_c, am_lf_c, am_kt_s, am_kt_n, am_wst, am_wstop, am_ns_0, am_ns_1, Bool.not_true, Bool.not_false, Bool.true_and, Bool.false_and, Nat.reduceBEq, ↓reduceIte, am_k2_n, am_k2_i, am_k2_r, am_k2_u, am_k2_f, am_k2_l, Nat.zero_le, true_and, and_true, true_or, or_true, am_cat_0, am_cat_i, am_cat_r, am_cat_l, am_cat_n, Nat.reduceLeDiff, Nat.reduceAdd, Option.isSome_some, List.getElem?_cons_zero, List.getElem?_cons_succ, am_fit_i, am_fit_r, am_fit_a, b2]
    refine sp_adv (by omega) c1 (hm.fr c2 (by decide)) (fun _ G' d1 d2 => ?_) (fun a R' e => by cases e)
    simp only [J129_0, J129_1, J129_4, J129_5, J129_6, J129_7, J129_8, J129_9, J129_12, J129_15, J129_16, J129_19, J129_20, J129_21, J129_24, J129_27, J129_28, J129_29, J129_32, J129_33, J129_34, J129_35, J129_36, J129_39, J129_40, J129_41, J129_42, J129_43, J129_44, J129_45, J129_46, J129_47, J129_48, J129_49, J129_50, J129_51, J129_54, J129_57, J129_58, J129_59, J129_62, J129_63, J129_64, J129_65, J129_68, J129_69, J129_70, J129_73, J129_74, J129_77, J129_78, J129_79, J129_80, J129_81, J129_82, J129_83, J129_84, J129_87, J129_90, J129_93, J129_94, am_gg_c, am_gf_c, am_pf_c, am_af_c, am_sf_c, am_bf_c, am_qf_c, am_ap_c, am_bp_c, am_qp_c, am_lf_c, am_kt_s, am_kt_n, am_wst, am_wstop, am_ns_0, am_ns_1, Bool.not_true, Bool.not_false, Bool.true_and, Bool.false_and, Nat.reduceBEq, ↓reduceIte, am_k2_n, am_k2_i, am_k2_r, am_k2_u, am_k2_f, am_k2_l, Nat.zero_le, true_and, and_true, true_or, or_true, am_cat_0, am_cat_i, am_cat_r, am_cat_l, am_cat_n, Nat.reduceLeDiff, Nat.reduceAdd, Option.isSome_some, List.getElem?_cons_zero, List.getElem?_cons_succ, am_fit_i, am_fit_r, am_fit_a, if_true]
    exact hP G' d1.a (by obtain ⟨b, q⟩ := hb; exact ⟨b, by rw [(c2.tr d2).ia (by decide)]; exact q⟩) ((c2.up (by decide)).tr (d2.up (by decide)))
  | a :: R, hP, c1, hA =>
    have ha := hA a List.mem_cons_self
    refine am_wps 60 [49, 90] ?_
    simp only [J129_0, J129_1, J129_4, J129_5, J129_6, J129_7, J129_8, J129_9, J129_12, J129_15, J129_16, J129_19, J129_20, J129_21, J129_24, J129_27, J129_28, J129_29, J129_32, J129_33, J129_34, J129_35, J129_36, J129_39, J129_40, J129_41, J129_42, J129_43, J129_44, J129_45, J129_46, J129_47, J129_48, J129_49, J129_50, J129_51, J129_54, J129_57, J129_58, J129_59, J129_62, J129_63, J129_64, J129_65, J129_68, J129_69, J129_70, J129_73, J129_74, J129_77, J129_78, J129_79, J129_80, J129_81, J129_82, J129_83, J129_84, J129_87, J129_90, J129_93, J129_94, am_gg_c, am_gf_c, am_pf_c, am_af_c, am_sf_c, am_bf_c, am_qf_c, am_ap_c, am_bp_c, am_qp_c, am_lf_c, am_kt_s, am_kt_n, am_wst, am_wstop, am_ns_0, am_ns_1, Bool.not_true, Bool.not_false, Bool.true_and, Bool.false_and, Nat.reduceBEq, ↓reduceIte, am_k2_n, am_k2_i, am_k2_r, am_k2_u, am_k2_f, am_k2_l, Nat.zero_le, true_and, and_true, true_or, or_true, am_cat_0, am_cat_i, am_cat_r, am_cat_l, am_cat_n, Nat.reduceLeDiff, Nat.reduceAdd, Option.isSome_some, List.getElem?_cons_zero, List.getElem?_cons_succ, am_fit_i, am_fit_r, am_fit_a, b2]
    refine sp_adv (by omega) c1 (hm.fr c2 (by decide)) (fun e => by cases e) (fun a' R' e G' d1 d2 d3 => ?_)
    cases e
    obtain ⟨T, m, ip, due, dep, b3⟩ := d1.lgt
    simp only [J129_0, J129_1, J129_4, J129_5, J129_6, J129_7, J129_8, J129_9, J129_12, J129_15, J129_16, J129_19, J129_20, J129_21, J129_24, J129_27, J129_28, J129_29, J129_32, J129_33, J129_34, J129_35, J129_36, J129_39, J129_40, J129_41, J129_42, J129_43, J129_44, J129_45, J129_46, J129_47, J129_48, J129_49, J129_50, J129_51, J129_54, J129_57, J129_58, J129_59, J129_62, J129_63, J129_64, J129_65, J129_68, J129_69, J129_70, J129_73, J129_74, J129_77, J129_78, J129_79, J129_80, J129_81, J129_82, J129_83, J129_84, J129_87, J129_90, J129_93, J129_94, am_gg_c, am_gf_c, am_pf_c, am_af_c, am_sf_c, am_bf_c, am_qf_c, am_ap_c, am_bp_c, am_qp_c, am_lf_c, am_kt_s, am_kt_n, am_wst, am_wstop, am_ns_0, am_ns_1, Bool.not_true, Bool.not_false, Bool.true_and, Bool.false_and, Nat.reduceBEq, ↓reduceIte, am_k2_n, am_k2_i, am_k2_r, am_k2_u, am_k2_f, am_k2_l, Nat.zero_le, true_and, and_true, true_or, or_true, am_cat_0, am_cat_i, am_cat_r, am_cat_l, am_cat_n, Nat.reduceLeDiff, Nat.reduceAdd, Option.isSome_some, List.getElem?_cons_zero, List.getElem?_cons_succ, am_fit_i, am_fit_r, am_fit_a, if_neg (show ¬ (1 : Int32) = 0 by decide), if_true, b3]
    refine sp_keepRow (by omega) b3 d2 (by obtain ⟨b, q⟩ := hb; exact ⟨b, by rw [(c2.tr d3).ia (by decide)]; exact q⟩) (fun G2 e1 e2 => ?_)
    have b4 : am_ob G2 23 5 = some (moL pm (nI l) T m ip due dep vp) := by rw [e2.ob (by decide)]; exact b3
    have hm2 : MA G2 l h d f := ((hm.fr c2 (by decide)).fr d3 (by decide)).fr e2 (by decide)
    obtain ⟨⟨af, a1, a2, a3, a4, a5⟩, _, _, hh, hd, hd0, hf⟩ := id hm2
    have has1 : af (1 : Int32).toNatClampNeg = nI h := a3
    simp only [J129_0, J129_1, J129_4, J129_5, J129_6, J129_7, J129_8, J129_9, J129_12, J129_15, J129_16, J129_19, J129_20, J129_21, J129_24, J129_27, J129_28, J129_29, J129_32, J129_33, J129_34, J129_35, J129_36, J129_39, J129_40, J129_41, J129_42, J129_43, J129_44, J129_45, J129_46, J129_47, J129_48, J129_49, J129_50, J129_51, J129_54, J129_57, J129_58, J129_59, J129_62, J129_63, J129_64, J129_65, J129_68, J129_69, J129_70, J129_73, J129_74, J129_77, J129_78, J129_79, J129_80, J129_81, J129_82, J129_83, J129_84, J129_87, J129_90, J129_93, J129_94, am_gg_c, am_gf_c, am_pf_c, am_af_c, am_sf_c, am_bf_c, am_qf_c, am_ap_c, am_bp_c, am_qp_c, am_lf_c, am_kt_s, am_kt_n, am_wst, am_wstop, am_ns_0, am_ns_1, Bool.not_true, Bool.not_false, Bool.true_and, Bool.false_and, Nat.reduceBEq, ↓reduceIte, am_k2_n, am_k2_i, am_k2_r, am_k2_u, am_k2_f, am_k2_l, Nat.zero_le, true_and, and_true, true_or, or_true, am_cat_0, am_cat_i, am_cat_r, am_cat_l, am_cat_n, Nat.reduceLeDiff, Nat.reduceAdd, Option.isSome_some, List.getElem?_cons_zero, List.getElem?_cons_succ, am_fit_i, am_fit_r, am_fit_a, b4, a1, has1]
    refine ⟨vp_lit (k := 1) rfl (by omega) (by omega), ?_⟩
    have e0 : ((1 : Int32) <<< (nI l &&& 31) - 1) &&& (nI h ^^^ (-1)) = nI (frN l h) := by
      rw [show (1 : Int32) = nI 1 by rfl, bi_shl (by omega), Nat.one_mul, pk_sub (Nat.two_pow_pos l), show (-nI 1 : Int32) = -1 by rfl, bi_not]
      rfl
    rw [e0]
    have hfr := frN_lt (h := h) hl
    have hle := fcI_le (rwN a) (rwN a) (frN l h) l
    have hF2 : Fr [23, 28, 29, 30, 31, 32] G G2 := ((c2.up (by decide)).tr (d3.up (by decide))).tr (e2.up (by decide))
    refine lp_fcIn hfr hl b4 (d2.fr e2 (by decide) (by decide)) e1 ha ha ?_ l 0 (by omega)
    have dS : EnS G2 pm vp true f (bl d).length l (frN l h) d R := d1.fr e2 (by decide) (by decide) (by decide) (by decide) (by decide)
    exact lp_forced (G0 := G2) hl (by omega) (fun G' hF => hm2.fr hF (by decide)) e1 ha R _ G2 (by omega) (fun b hb => hA b (List.mem_cons_of_mem _ hb)) dS Fr.rf (fun G' q1 q2 => hP G' q1 (by obtain ⟨b, u1, u2⟩ := e1; exact ⟨b, by rw [q2.ia (by decide)]; exact u1⟩) (hF2.tr (q2.up (by decide))))
end FC
