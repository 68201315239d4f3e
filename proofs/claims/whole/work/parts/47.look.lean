/-! count, at, frequency, options over the list of arrangements -/
theorem ens_lt {ok : Nat → Nat → Bool} : ∀ (k O m : Nat), ∀ a ∈ ens ok k O m, ∀ p d, (p, d) ∈ a → d < 18
  | 0, O, m, a, ha, p, d, hp => by
    have : a = [] := by simpa [ens] using ha
    subst this
    cases hp
  | k + 1, O, m, a, ha, p, d, hp => by
    unfold ens at ha
    rw [List.mem_flatMap] at ha
    obtain ⟨e, he, h2⟩ := ha
    split at h2
    · rw [List.mem_map] at h2
      obtain ⟨b, hb, rfl⟩ := h2
      rcases List.mem_cons.mp hp with e1 | e1
      · cases e1
        exact List.mem_range.mp he
      · exact ens_lt k _ _ b hb p d e1
    · cases h2
theorem rwZ_lt {q : Nat} : ∀ {Z : List (Nat × Nat)}, (∀ p d, (p, d) ∈ Z → d < 18) → rwZ Z q < 18
  | [], _ => by show 0 < 18; omega
  | (p, d) :: Z, h => by
    show (if q = p ∨ q = p + d then d else rwZ Z q) < 18
    split
    · exact h p d List.mem_cons_self
    · exact rwZ_lt (fun p' d' hm => h p' d' (List.mem_cons_of_mem _ hm))
/-- what an arrangement has at a place -/
def rwN (a : List (Nat × Nat)) (q : Nat) : Nat := rwZ a.reverse q
theorem rwN_lt {ipb : Bool} {l h d q : Nat} {f : Nat → Nat} {a : List (Nat × Nat)} (ha : a ∈ arrs ipb l h d f) : rwN a q < 18 := by
  unfold arrs at ha
  split at ha
  · exact rwZ_lt (fun p d' hm => ens_lt _ _ _ a ha p d' (List.mem_reverse.mp hm))
  · cases ha
def atA (A : List (List (Nat × Nat))) (z : Int32) (q : Nat) : Int32 := match goA A z with
  | none => -6
  | some a => nI (rwN a q)
def fqA (A : List (List (Nat × Nat))) (q w : Nat) : Nat := (A.filter (fun a => rwN a q == w)).length
def opA (q : Nat) : List (List (Nat × Nat)) → Nat → Nat
  | [], c => c
  | a :: A, c => opA q A (c ||| (if rwN a q = 0 then 0 else 2 ^ rwN a q))
section LK
variable {X : Nat × (Nat → Int32)} {D : Nat} {P : Option Value → am_H → Prop} {pm vp : Int32} {ipb : Bool} {l h d : Nat} {f : Nat → Nat} {n ln O0 m0 : Nat}
theorem lp_count {G0 : am_H} (hD : 4 ≤ D) (hm : ∀ G, Fr kE G0 G → MA G l h d f) : ∀ (R : List (List (Nat × Nat))) (c : Nat) (G : am_H), EnS G pm vp ipb f n ln O0 m0 R → Fr kE G0 G → (∀ G', EnA G' pm vp → Fr kE G0 G' → P (some (.int (nI (c + R.length)))) G') → am_WP X D 123 6 [some (.ref 23), some (.int (nI c))] [] G 0 0 P := by
  intro R
  induction R with
  | nil =>
    intro c G hE hF hP
    obtain ⟨len, T, m, ip, due, dep, b1⟩ := hE.a.1
    refine am_wps 40 [16] ?_
    simp only [J123_0, J123_1, J123_4, J123_5, J123_6, J123_7, J123_10, J123_13, J123_16, J123_19, J123_20, am_gg_c, am_gf_c, am_pf_c, am_af_c, am_sf_c, am_bf_c, am_qf_c, am_ap_c, am_bp_c, am_qp_c, am_lf_c, am_kt_s, am_kt_n, am_wst, am_wstop, am_ns_0, am_ns_1, Bool.not_true, Bool.not_false, Bool.true_and, Bool.false_and, Nat.reduceBEq, ↓reduceIte, am_k2_n, am_k2_i, am_k2_r, am_k2_u, am_k2_f, am_k2_l, Nat.zero_le, true_and, and_true, true_or, or_true, am_cat_0, am_cat_i, am_cat_r, am_cat_l, am_cat_n, Nat.reduceLeDiff, Nat.reduceAdd, Option.isSome_some, List.getElem?_cons_zero, List.getElem?_cons_succ, am_fit_i, am_fit_r, am_fit_a, b1]
    refine sp_adv hD hE (hm G hF) (fun _ G' d1 d2 => ?_) (fun a R' e => by cases e)
    simp only [J123_0, J123_1, J123_4, J123_5, J123_6, J123_7, J123_10, J123_13, J123_16, J123_19, J123_20, am_gg_c, am_gf_c, am_pf_c, am_af_c, am_sf_c, am_bf_c, am_qf_c, am_ap_c, am_bp_c, am_qp_c, am_lf_c, am_kt_s, am_kt_n, am_wst, am_wstop, am_ns_0, am_ns_1, Bool.not_true, Bool.not_false, Bool.true_and, Bool.false_and, Nat.reduceBEq, ↓reduceIte, am_k2_n, am_k2_i, am_k2_r, am_k2_u, am_k2_f, am_k2_l, Nat.zero_le, true_and, and_true, true_or, or_true, am_cat_0, am_cat_i, am_cat_r, am_cat_l, am_cat_n, Nat.reduceLeDiff, Nat.reduceAdd, Option.isSome_some, List.getElem?_cons_zero, List.getElem?_cons_succ, am_fit_i, am_fit_r, am_fit_a, if_true]
    exact hP G' d1.a (hF.tr d2)
  | cons a R ih =>
    intro c G hE hF hP
    obtain ⟨len, T, m, ip, due, dep, b1⟩ := hE.a.1
    refine am_wps 40 [16] ?_
    simp only [J123_0, J123_1, J123_4, J123_5, J123_6, J123_7, J123_10, J123_13, J123_16, J123_19, J123_20, am_gg_c, am_gf_c, am_pf_c, am_af_c, am_sf_c, am_bf_c, am_qf_c, am_ap_c, am_bp_c, am_qp_c, am_lf_c, am_kt_s, am_kt_n, am_wst, am_wstop, am_ns_0, am_ns_1, Bool.not_true, Bool.not_false, Bool.true_and, Bool.false_and, Nat.reduceBEq, ↓reduceIte, am_k2_n, am_k2_i, am_k2_r, am_k2_u, am_k2_f, am_k2_l, Nat.zero_le, true_and, and_true, true_or, or_true, am_cat_0, am_cat_i, am_cat_r, am_cat_l, am_cat_n, Nat.reduceLeDiff, Nat.reduceAdd, Option.isSome_some, List.getElem?_cons_zero, List.getElem?_cons_succ, am_fit_i, am_fit_r, am_fit_a, b1]
    refine sp_adv hD hE (hm G hF) (fun e => by cases e) (fun a' R' e G' d1 d2 d3 => ?_)
    cases e
    simp only [J123_0, J123_1, J123_4, J123_5, J123_6, J123_7, J123_10, J123_13, J123_16, J123_19, J123_20, am_gg_c, am_gf_c, am_pf_c, am_af_c, am_sf_c, am_bf_c, am_qf_c, am_ap_c, am_bp_c, am_qp_c, am_lf_c, am_kt_s, am_kt_n, am_wst, am_wstop, am_ns_0, am_ns_1, Bool.not_true, Bool.not_false, Bool.true_and, Bool.false_and, Nat.reduceBEq, ↓reduceIte, am_k2_n, am_k2_i, am_k2_r, am_k2_u, am_k2_f, am_k2_l, Nat.zero_le, true_and, and_true, true_or, or_true, am_cat_0, am_cat_i, am_cat_r, am_cat_l, am_cat_n, Nat.reduceLeDiff, Nat.reduceAdd, Option.isSome_some, List.getElem?_cons_zero, List.getElem?_cons_succ, am_fit_i, am_fit_r, am_fit_a, if_neg (show ¬ (1 : Int32) = 0 by decide)]
    refine am_goto I123_16 ?_
    rw [nI_1]
    refine ih (c + 1) G' d1 (hF.tr d3) (fun G2 e1 e2 => ?_)
    have := hP G2 e1 e2
    rw [List.length_cons, show c + (R.length + 1) = c + 1 + R.length by omega] at this
    exact this
theorem sp_mcount {G : am_H} (hD : 5 ≤ D) (hE : EnA G pm vp) (hm : MA G l h d f) (hd1 : 1 ≤ (bl d).length) (hd8 : (bl d).length ≤ 8) (hP : ∀ G', EnA G' pm vp → Fr kE G G' → P (some (.int (nI (arrs true l h d f).length))) G') : am_CB X D 123 [.ref 23] G P := by
  obtain ⟨D, rfl⟩ : ∃ D0, D = D0 + 1 := ⟨D - 1, by omega⟩
  obtain ⟨len, T, m, ip, due, dep, b1⟩ := hE.1
  refine B123 40 [6] ?_
  simp only [J123_0, J123_1, J123_4, J123_5, J123_6, J123_7, J123_10, J123_13, J123_16, J123_19, J123_20, am_gg_c, am_gf_c, am_pf_c, am_af_c, am_sf_c, am_bf_c, am_qf_c, am_ap_c, am_bp_c, am_qp_c, am_lf_c, am_kt_s, am_kt_n, am_wst, am_wstop, am_ns_0, am_ns_1, Bool.not_true, Bool.not_false, Bool.true_and, Bool.false_and, Nat.reduceBEq, ↓reduceIte, am_k2_n, am_k2_i, am_k2_r, am_k2_u, am_k2_f, am_k2_l, Nat.zero_le, true_and, and_true, true_or, or_true, am_cat_0, am_cat_i, am_cat_r, am_cat_l, am_cat_n, Nat.reduceLeDiff, Nat.reduceAdd, Option.isSome_some, List.getElem?_cons_zero, List.getElem?_cons_succ, am_fit_i, am_fit_r, am_fit_a, b1]
  refine sp_beginOwn (by omega) hE hm hd1 hd8 (fun G1 c1 _ c2 => ?_)
  simp only [J123_0, J123_1, J123_4, J123_5, J123_6, J123_7, J123_10, J123_13, J123_16, J123_19, J123_20, am_gg_c, am_gf_c, am_pf_c, am_af_c, am_sf_c, am_bf_c, am_qf_c, am_ap_c, am_bp_c, am_qp_c, am_lf_c, am_kt_s, am_kt_n, am_wst, am_wstop, am_ns_0, am_ns_1, Bool.not_true, Bool.not_false, Bool.true_and, Bool.false_and, Nat.reduceBEq, ↓reduceIte, am_k2_n, am_k2_i, am_k2_r, am_k2_u, am_k2_f, am_k2_l, Nat.zero_le, true_and, and_true, true_or, or_true, am_cat_0, am_cat_i, am_cat_r, am_cat_l, am_cat_n, Nat.reduceLeDiff, Nat.reduceAdd, Option.isSome_some, List.getElem?_cons_zero, List.getElem?_cons_succ, am_fit_i, am_fit_r, am_fit_a]
  exact lp_count (G0 := G1) (by omega) (fun G' hF => hm.fr (c2.tr hF) (by decide)) _ 0 G1 c1 Fr.rf (fun G' d1 d2 => by rw [Nat.zero_add]; exact hP G' d1 (c2.tr d2))
theorem sp_mat {G : am_H} {z x : Int32} (hD : 6 ≤ D) (hE : EnA G pm vp) (hm : MA G l h d f) (hd1 : 1 ≤ (bl d).length) (hd8 : (bl d).length ≤ 8) (hP : ∀ G', EnA G' pm vp → Fr kE G G' → P (some (.int (if inN x l = true then atA (arrs true l h d f) z x.toInt.toNat else -1))) G') : am_CB X D 124 [.ref 23, .int z, .int x] G P := by
  obtain ⟨D, rfl⟩ : ∃ D0, D = D0 + 1 := ⟨D - 1, by omega⟩
  obtain ⟨len, T, m, ip, due, dep, b1⟩ := hE.1
  have hl := hm.2.2.1
  refine B124 40 [] ?_
  simp only [J124_0, J124_1, J124_2, J124_5, J124_8, J124_9, J124_10, J124_11, J124_12, J124_15, J124_18, J124_19, J124_22, J124_23, J124_24, J124_27, J124_29, am_gg_c, am_gf_c, am_pf_c, am_af_c, am_sf_c, am_bf_c, am_qf_c, am_ap_c, am_bp_c, am_qp_c, am_lf_c, am_kt_s, am_kt_n, am_wst, am_wstop, am_ns_0, am_ns_1, Bool.not_true, Bool.not_false, Bool.true_and, Bool.false_and, Nat.reduceBEq, ↓reduceIte, am_k2_n, am_k2_i, am_k2_r, am_k2_u, am_k2_f, am_k2_l, Nat.zero_le, true_and, and_true, true_or, or_true, am_cat_0, am_cat_i, am_cat_r, am_cat_l, am_cat_n, Nat.reduceLeDiff, Nat.reduceAdd, Option.isSome_some, List.getElem?_cons_zero, List.getElem?_cons_succ, am_fit_i, am_fit_r, am_fit_a, b1]
  refine sp_mPosition (by omega) b1 hm ?_
  simp only [J124_0, J124_1, J124_2, J124_5, J124_8, J124_9, J124_10, J124_11, J124_12, J124_15, J124_18, J124_19, J124_22, J124_23, J124_24, J124_27, J124_29, am_gg_c, am_gf_c, am_pf_c, am_af_c, am_sf_c, am_bf_c, am_qf_c, am_ap_c, am_bp_c, am_qp_c, am_lf_c, am_kt_s, am_kt_n, am_wst, am_wstop, am_ns_0, am_ns_1, Bool.not_true, Bool.not_false, Bool.true_and, Bool.false_and, Nat.reduceBEq, ↓reduceIte, am_k2_n, am_k2_i, am_k2_r, am_k2_u, am_k2_f, am_k2_l, Nat.zero_le, true_and, and_true, true_or, or_true, am_cat_0, am_cat_i, am_cat_r, am_cat_l, am_cat_n, Nat.reduceLeDiff, Nat.reduceAdd, Option.isSome_some, List.getElem?_cons_zero, List.getElem?_cons_succ, am_fit_i, am_fit_r, am_fit_a, b1]
  cases hb : inN x l with
  | false =>
    rw [hb] at hP
    simp only [Bool.false_eq_true, if_false, if_true]
    simpa using hP G hE Fr.rf
  | true =>
    rw [hb] at hP
    obtain ⟨q, rfl, hq⟩ := inN_of hb (by omega)
    rw [nI_toInt (by omega), Int.toNat_natCast] at hP
    simp only [if_true, if_neg (show ¬ (1 : Int32) = 0 by decide)]
    refine sp_goTo (by omega) hE hm hd1 hd8 (fun e G' d1 d2 => ?_) (fun a e G' d1 d2 d3 => ?_)
    · simp only [J124_0, J124_1, J124_2, J124_5, J124_8, J124_9, J124_10, J124_11, J124_12, J124_15, J124_18, J124_19, J124_22, J124_23, J124_24, J124_27, J124_29, am_gg_c, am_gf_c, am_pf_c, am_af_c, am_sf_c, am_bf_c, am_qf_c, am_ap_c, am_bp_c, am_qp_c, am_lf_c, am_kt_s, am_kt_n, am_wst, am_wstop, am_ns_0, am_ns_1, Bool.not_true, Bool.not_false, Bool.true_and, Bool.false_and, Nat.reduceBEq, ↓reduceIte, am_k2_n, am_k2_i, am_k2_r, am_k2_u, am_k2_f, am_k2_l, Nat.zero_le, true_and, and_true, true_or, or_true, am_cat_0, am_cat_i, am_cat_r, am_cat_l, am_cat_n, Nat.reduceLeDiff, Nat.reduceAdd, Option.isSome_some, List.getElem?_cons_zero, List.getElem?_cons_succ, am_fit_i, am_fit_r, am_fit_a, if_true]
      have := hP G' d1 d2
      unfold atA at this
      rw [e] at this
      exact this
    · obtain ⟨len, T, m, ip, due, dep, b2⟩ := d1.1
      obtain ⟨r, bg, r1, r2, r3, r4⟩ := d2
      simp only [J124_0, J124_1, J124_2, J124_5, J124_8, J124_9, J124_10, J124_11, J124_12, J124_15, J124_18, J124_19, J124_22, J124_23, J124_24, J124_27, J124_29, am_gg_c, am_gf_c, am_pf_c, am_af_c, am_sf_c, am_bf_c, am_qf_c, am_ap_c, am_bp_c, am_qp_c, am_lf_c, am_kt_s, am_kt_n, am_wst, am_wstop, am_ns_0, am_ns_1, Bool.not_true, Bool.not_false, Bool.true_and, Bool.false_and, Nat.reduceBEq, ↓reduceIte, am_k2_n, am_k2_i, am_k2_r, am_k2_u, am_k2_f, am_k2_l, Nat.zero_le, true_and, and_true, true_or, or_true, am_cat_0, am_cat_i, am_cat_r, am_cat_l, am_cat_n, Nat.reduceLeDiff, Nat.reduceAdd, Option.isSome_some, List.getElem?_cons_zero, List.getElem?_cons_succ, am_fit_i, am_fit_r, am_fit_a, if_neg (show ¬ (1 : Int32) = 0 by decide), b2, r1]
      have := hP G' d1 d3
      unfold atA at this
      rw [e] at this
      refine ⟨vp_in_n (by omega) (by omega), ?_⟩
      rw [nI_clamp (by omega), r3 q (by omega)]
      exact this
theorem lp_freq {G0 : am_H} {q w : Nat} (hq : q < 18) (hw : w < 18) (hD : 4 ≤ D) (hm : ∀ G, Fr kE G0 G → MA G l h d f) : ∀ (R : List (List (Nat × Nat))) (c : Nat) (G : am_H), (∀ a ∈ R, rwN a q < 18) → EnS G pm vp ipb f n ln O0 m0 R → Fr kE G0 G → (∀ G', EnA G' pm vp → Fr kE G0 G' → P (some (.int (nI (c + fqA R q w)))) G') → am_WP X D 126 29 [some (.ref 23), some (.int (nI q)), some (.int (nI w)), some (.int (nI c))] [] G 0 0 P := by
  intro R
  induction R with
  | nil =>
    intro c G _ hE hF hP
    obtain ⟨len, T, m, ip, due, dep, b1⟩ := hE.a.1
    refine am_wps 40 [54] ?_
    simp only [J126_0, J126_1, J126_2, J126_5, J126_8, J126_9, J126_10, J126_11, J126_12, J126_14, J126_17, J126_20, J126_22, J126_23, J126_24, J126_27, J126_28, J126_29, J126_30, J126_33, J126_36, J126_37, J126_38, J126_41, J126_42, J126_43, J126_44, J126_47, J126_48, J126_51, J126_52, J126_53, J126_54, J126_57, J126_58, am_gg_c, am_gf_c, am_pf_c, am_af_c, am_sf_c, am_bf_c, am_qf_c, am_ap_c, am_bp_c, am_qp_c, am_lf_c, am_kt_s, am_kt_n, am_wst, am_wstop, am_ns_0, am_ns_1, Bool.not_true, Bool.not_false, Bool.true_and, Bool.false_and, Nat.reduceBEq, ↓reduceIte, am_k2_n, am_k2_i, am_k2_r, am_k2_u, am_k2_f, am_k2_l, Nat.zero_le, true_and, and_true, true_or, or_true, am_cat_0, am_cat_i, am_cat_r, am_cat_l, am_cat_n, Nat.reduceLeDiff, Nat.reduceAdd, Option.isSome_some, List.getElem?_cons_zero, List.getElem?_cons_succ, am_fit_i, am_fit_r, am_fit_a, b1]
    refine sp_adv hD hE (hm G hF) (fun _ G' d1 d2 => ?_) (fun a R' e => by cases e)
    simp only [J126_0, J126_1, J126_2, J126_5, J126_8, J126_9, J126_10, J126_11, J126_12, J126_14, J126_17, J126_20, J126_22, J126_23, J126_24, J126_27, J126_28, J126_29, J126_30, J126_33, J126_36, J126_37, J126_38, J126_41, J126_42, J126_43, J126_44, J126_47, J126_48, J126_51, J126_52, J126_53, J126_54, J126_57, J126_58, am_gg_c, am_gf_c, am_pf_c, am_af_c, am_sf_c, am_bf_c, am_qf_c, am_ap_c, am_bp_c, am_qp_c, am_lf_c, am_kt_s, am_kt_n, am_wst, am_wstop, am_ns_0, am_ns_1, Bool.not_true, Bool.not_false, Bool.true_and, Bool.false_and, Nat.reduceBEq, ↓reduceIte, am_k2_n, am_k2_i, am_k2_r, am_k2_u, am_k2_f, am_k2_l, Nat.zero_le, true_and, and_true, true_or, or_true, am_cat_0, am_cat_i, am_cat_r, am_cat_l, am_cat_n, Nat.reduceLeDiff, Nat.reduceAdd, Option.isSome_some, List.getElem?_cons_zero, List.getElem?_cons_succ, am_fit_i, am_fit_r, am_fit_a, if_true]
    exact hP G' d1.a (hF.tr d2)
  | cons a R ih =>
    intro c G hR hE hF hP
    obtain ⟨len, T, m, ip, due, dep, b1⟩ := hE.a.1
    have ha := hR a List.mem_cons_self
    refine am_wps 40 [54] ?_
    simp only [J126_0, J126_1, J126_2, J126_5, J126_8, J126_9, J126_10, J126_11, J126_12, J126_14, J126_17, J126_20, J126_22, J126_23, J126_24, J126_27, J126_28, J126_29, J126_30, J126_33, J126_36, J126_37, J126_38, J126_41, J126_42, J126_43, J126_44, J126_47, J126_48, J126_51, J126_52, J126_53, J126_54, J126_57, J126_58, am_gg_c, am_gf_c, am_pf_c, am_af_c, am_sf_c, am_bf_c, am_qf_c, am_ap_c, am_bp_c, am_qp_c, am_lf_c, am_kt_s, am_kt_n, am_wst, am_wstop, am_ns_0, am_ns_1, Bool.not_true, Bool.not_false, Bool.true_and, Bool.false_and, Nat.reduceBEq, ↓reduceIte, am_k2_n, am_k2_i, am_k2_r, am_k2_u, am_k2_f, am_k2_l, Nat.zero_le, true_and, and_true, true_or, or_true, am_cat_0, am_cat_i, am_cat_r, am_cat_l, am_cat_n, Nat.reduceLeDiff, Nat.reduceAdd, Option.isSome_some, List.getElem?_cons_zero, List.getElem?_cons_succ, am_fit_i, am_fit_r, am_fit_a, b1]
    refine sp_adv hD hE (hm G hF) (fun e => by cases e) (fun a' R' e G' d1 d2 d3 => ?_)
    cases e
    obtain ⟨len, T, m, ip, due, dep, b2⟩ := d1.a.1
    obtain ⟨r, bg, r1, r2, r3, r4⟩ := d2
    simp only [J126_0, J126_1, J126_2, J126_5, J126_8, J126_9, J126_10, J126_11, J126_12, J126_14, J126_17, J126_20, J126_22, J126_23, J126_24, J126_27, J126_28, J126_29, J126_30, J126_33, J126_36, J126_37, J126_38, J126_41, J126_42, J126_43, J126_44, J126_47, J126_48, J126_51, J126_52, J126_53, J126_54, J126_57, J126_58, am_gg_c, am_gf_c, am_pf_c, am_af_c, am_sf_c, am_bf_c, am_qf_c, am_ap_c, am_bp_c, am_qp_c, am_lf_c, am_kt_s, am_kt_n, am_wst, am_wstop, am_ns_0, am_ns_1, Bool.not_true, Bool.not_false, Bool.true_and, Bool.false_and, Nat.reduceBEq, ↓reduceIte, am_k2_n, am_k2_i, am_k2_r, am_k2_u, am_k2_f, am_k2_l, Nat.zero_le, true_and, and_true, true_or, or_true, am_cat_0, am_cat_i, am_cat_r, am_cat_l, am_cat_n, Nat.reduceLeDiff, Nat.reduceAdd, Option.isSome_some, List.getElem?_cons_zero, List.getElem?_cons_succ, am_fit_i, am_fit_r, am_fit_a, if_neg (show ¬ (1 : Int32) = 0 by decide), b2, r1]
    refine ⟨vp_in_n (by omega) (by omega), ?_⟩
    rw [nI_clamp (by omega), r3 q (by omega)]
    have hc : fqA (a :: R) q w = (if rwN a q = w then 1 else 0) + fqA R q w := by
      unfold fqA
      rw [List.filter_cons]
      by_cases c0 : rwN a q = w
      · rw [if_pos (by simpa using c0), if_pos c0, List.length_cons]; omega
      · rw [if_neg (by simpa using c0), if_neg c0]; omega
    rw [hc] at hP
    unfold rwN at hP ha
    by_cases c0 : rwZ a.reverse q = w
    · rw [if_pos c0] at hP
      rw [if_pos (by rw [c0])]
      refine am_goto I126_54 ?_
      rw [nI_1]
      exact ih (c + 1) G' (fun b hb => hR b (List.mem_cons_of_mem _ hb)) d1 (hF.tr d3) (fun G2 e1 e2 => by have := hP G2 e1 e2; rw [← Nat.add_assoc] at this; exact this)
    · rw [if_neg c0] at hP
      rw [if_neg (fun e => c0 (bi_inj (by omega) (by omega) e))]
      refine am_goto I126_54 ?_
      rw [show nI c + 0 = nI c by rw [show (0 : Int32) = nI 0 by rfl, nI_add, Nat.add_zero]]
      exact ih c G' (fun b hb => hR b (List.mem_cons_of_mem _ hb)) d1 (hF.tr d3) (fun G2 e1 e2 => by have := hP G2 e1 e2; rw [Nat.zero_add] at this; exact this)
end LK
