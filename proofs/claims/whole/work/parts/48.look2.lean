/-! frequency, options, start -/
theorem ens_has {ok : Nat → Nat → Bool} : ∀ (k O m : Nat), m < 2 ^ 18 → (bl m).length = k → ∀ a ∈ ens ok k O m, ∀ w, m.testBit w = true → ∃ p, (p, w) ∈ a
  | 0, O, m, hm, hk, a, ha, w, hw => by
    rw [bl_zero hm (List.eq_nil_of_length_eq_zero hk), Nat.zero_testBit] at hw
    cases hw
  | k + 1, O, m, hm, hk, a, ha, w, hw => by
    unfold ens at ha
    rw [List.mem_flatMap] at ha
    obtain ⟨e, he, h2⟩ := ha
    split at h2
    · next c =>
      rw [Bool.and_eq_true] at c
      rw [List.mem_map] at h2
      obtain ⟨b, hb, rfl⟩ := h2
      by_cases c0 : w = e
      · subst c0
        exact ⟨_, List.mem_cons_self⟩
      · have hl := bl_sub_len (List.mem_range.mp he) c.1
        obtain ⟨p, hp⟩ := ens_has k _ (m - 2 ^ e) (Nat.lt_of_le_of_lt (Nat.sub_le _ _) hm) (by omega) b hb w (by
          have hbit : w ∈ bl (m - 2 ^ e) := by
            rw [bl_sub c.1, (bl_nodup m).mem_erase_iff]
            refine ⟨c0, bl_mem.mpr ⟨?_, hw⟩⟩
            by_cases z : w < 18
            · exact z
            · rw [bt_hi hm (by omega)] at hw
              cases hw
          exact (bl_mem.mp hbit).2)
        exact ⟨p, List.mem_cons_of_mem _ hp⟩
    · cases h2
/-- where a difference begins -/
def bgN (a : List (Nat × Nat)) (w : Nat) : Nat := ((a.find? (fun e => e.2 == w)).map (·.1)).getD 0
theorem bgN_of {a : List (Nat × Nat)} {w : Nat} (h : ∃ p, (p, w) ∈ a) : (bgN a w, w) ∈ a := by
  obtain ⟨p, hp⟩ := h
  unfold bgN
  cases e : a.find? (fun e => e.2 == w) with
  | none =>
    have := List.find?_eq_none.mp e _ hp
    simp at this
  | some x =>
    have h1 := List.mem_of_find?_eq_some e
    have h2 := List.find?_some e
    obtain ⟨x1, x2⟩ := x
    simp only [beq_iff_eq] at h2
    subst h2
    exact h1
theorem bgN_mem {ipb : Bool} {l h d w : Nat} {f : Nat → Nat} {a : List (Nat × Nat)} (hd : d < 2 ^ 18) (ha : a ∈ arrs ipb l h d f) (hw : d.testBit w = true) : (bgN a w, w) ∈ a := by
  unfold arrs at ha
  split at ha
  · exact bgN_of (ens_has _ _ _ hd rfl a ha w hw)
  · cases ha
theorem goA_mem {A : List (List (Nat × Nat))} {z : Int32} {a : List (Nat × Nat)} (h : goA A z = some a) : a ∈ A := by
  unfold goA at h
  split at h
  · cases h
  · exact List.mem_of_getElem? h
def stA (A : List (List (Nat × Nat))) (z : Int32) (w : Nat) : Int32 := match goA A z with
  | none => -6
  | some a => nI (bgN a w)
section LL
variable {X : Nat × (Nat → Int32)} {D : Nat} {P : Option Value → am_H → Prop} {pm vp : Int32} {ipb : Bool} {l h d : Nat} {f : Nat → Nat} {n ln O0 m0 : Nat}
theorem sp_mstart {G : am_H} {z x : Int32} (hD : 6 ≤ D) (hE : EnA G pm vp) (hm : MA G l h d f) (hd1 : 1 ≤ (bl d).length) (hd8 : (bl d).length ≤ 8) (hP : ∀ G', EnA G' pm vp → Fr kE G G' → P (some (.int (if ownB d x = true then stA (arrs true l h d f) z x.toInt.toNat else -1))) G') : am_CB X D 125 [.ref 23, .int z, .int x] G P := by
  obtain ⟨D, rfl⟩ : ∃ D0, D = D0 + 1 := ⟨D - 1, by omega⟩
  obtain ⟨len, T, m, ip, due, dep, b1⟩ := hE.1
  have hd := hm.2.2.2.2.1
  refine B125 40 [] ?_
  simp only [J125_0, J125_1, J125_2, J125_5, J125_8, J125_9, J125_10, J125_11, J125_12, J125_15, J125_18, J125_19, J125_22, J125_23, J125_24, J125_27, J125_29, am_gg_c, am_gf_c, am_pf_c, am_af_c, am_sf_c, am_bf_c, am_qf_c, am_ap_c, am_bp_c, am_qp_c, am_lf_c, am_kt_s, am_kt_n, am_wst, am_wstop, am_ns_0, am_ns_1, Bool.not_true, Bool.not_false, Bool.true_and, Bool.false_and, Nat.reduceBEq, ↓reduceIte, am_k2_n, am_k2_i, am_k2_r, am_k2_u, am_k2_f, am_k2_l, Nat.zero_le, true_and, and_true, true_or, or_true, am_cat_0, am_cat_i, am_cat_r, am_cat_l, am_cat_n, Nat.reduceLeDiff, Nat.reduceAdd, Option.isSome_some, List.getElem?_cons_zero, List.getElem?_cons_succ, am_fit_i, am_fit_r, am_fit_a, b1]
  refine sp_isOwn (by omega) b1 hm ?_
  simp only [J125_0, J125_1, J125_2, J125_5, J125_8, J125_9, J125_10, J125_11, J125_12, J125_15, J125_18, J125_19, J125_22, J125_23, J125_24, J125_27, J125_29, am_gg_c, am_gf_c, am_pf_c, am_af_c, am_sf_c, am_bf_c, am_qf_c, am_ap_c, am_bp_c, am_qp_c, am_lf_c, am_kt_s, am_kt_n, am_wst, am_wstop, am_ns_0, am_ns_1, Bool.not_true, Bool.not_false, Bool.true_and, Bool.false_and, Nat.reduceBEq, ↓reduceIte, am_k2_n, am_k2_i, am_k2_r, am_k2_u, am_k2_f, am_k2_l, Nat.zero_le, true_and, and_true, true_or, or_true, am_cat_0, am_cat_i, am_cat_r, am_cat_l, am_cat_n, Nat.reduceLeDiff, Nat.reduceAdd, Option.isSome_some, List.getElem?_cons_zero, List.getElem?_cons_succ, am_fit_i, am_fit_r, am_fit_a, b1]
  cases hb : ownB d x with
  | false =>
    rw [hb] at hP
    simp only [Bool.false_eq_true, if_false, if_true]
    simpa using hP G hE Fr.rf
  | true =>
    rw [hb] at hP
    unfold ownB at hb
    rw [Bool.and_eq_true, decide_eq_true_eq] at hb
    obtain ⟨e, e2⟩ := bi_nat (x := x) (by omega)
    have hk : x.toInt.toNat ≤ 17 := by omega
    generalize x.toInt.toNat = q at *
    subst e
    simp only [if_true, if_neg (show ¬ (1 : Int32) = 0 by decide)]
    refine sp_goTo (by omega) hE hm hd1 hd8 (fun e G' d1 d2 => ?_) (fun a e G' d1 d2 d3 => ?_)
    · simp only [J125_0, J125_1, J125_2, J125_5, J125_8, J125_9, J125_10, J125_11, J125_12, J125_15, J125_18, J125_19, J125_22, J125_23, J125_24, J125_27, J125_29, am_gg_c, am_gf_c, am_pf_c, am_af_c, am_sf_c, am_bf_c, am_qf_c, am_ap_c, am_bp_c, am_qp_c, am_lf_c, am_kt_s, am_kt_n, am_wst, am_wstop, am_ns_0, am_ns_1, Bool.not_true, Bool.not_false, Bool.true_and, Bool.false_and, Nat.reduceBEq, ↓reduceIte, am_k2_n, am_k2_i, am_k2_r, am_k2_u, am_k2_f, am_k2_l, Nat.zero_le, true_and, and_true, true_or, or_true, am_cat_0, am_cat_i, am_cat_r, am_cat_l, am_cat_n, Nat.reduceLeDiff, Nat.reduceAdd, Option.isSome_some, List.getElem?_cons_zero, List.getElem?_cons_succ, am_fit_i, am_fit_r, am_fit_a, if_true]
      have := hP G' d1 d2
      unfold stA at this
      rw [e] at this
      exact this
    · obtain ⟨len, T, m, ip, due, dep, b2⟩ := d1.1
      obtain ⟨r, bg, r1, r2, r3, r4⟩ := d2
      simp only [J125_0, J125_1, J125_2, J125_5, J125_8, J125_9, J125_10, J125_11, J125_12, J125_15, J125_18, J125_19, J125_22, J125_23, J125_24, J125_27, J125_29, am_gg_c, am_gf_c, am_pf_c, am_af_c, am_sf_c, am_bf_c, am_qf_c, am_ap_c, am_bp_c, am_qp_c, am_lf_c, am_kt_s, am_kt_n, am_wst, am_wstop, am_ns_0, am_ns_1, Bool.not_true, Bool.not_false, Bool.true_and, Bool.false_and, Nat.reduceBEq, ↓reduceIte, am_k2_n, am_k2_i, am_k2_r, am_k2_u, am_k2_f, am_k2_l, Nat.zero_le, true_and, and_true, true_or, or_true, am_cat_0, am_cat_i, am_cat_r, am_cat_l, am_cat_n, Nat.reduceLeDiff, Nat.reduceAdd, Option.isSome_some, List.getElem?_cons_zero, List.getElem?_cons_succ, am_fit_i, am_fit_r, am_fit_a, if_neg (show ¬ (1 : Int32) = 0 by decide), b2, r2]
      have := hP G' d1 d3
      unfold stA at this
      rw [e] at this
      refine ⟨vp_in_n (by omega) (by omega), ?_⟩
      rw [nI_clamp (by omega), r4 _ q (bgN_mem hd (goA_mem e) hb.2)]
      exact this
theorem sp_mfreq {G : am_H} {x y : Int32} (hD : 5 ≤ D) (hE : EnA G pm vp) (hm : MA G l h d f) (hd1 : 1 ≤ (bl d).length) (hd8 : (bl d).length ≤ 8) (hP : ∀ G', EnA G' pm vp → Fr kE G G' → P (some (.int (if inN x l = true then (if 0 ≤ y.toInt ∧ y.toInt ≤ 17 then nI (fqA (arrs true l h d f) x.toInt.toNat y.toInt.toNat) else -2) else -1))) G') : am_CB X D 126 [.ref 23, .int x, .int y] G P := by
  obtain ⟨D, rfl⟩ : ∃ D0, D = D0 + 1 := ⟨D - 1, by omega⟩
  obtain ⟨len, T, m, ip, due, dep, b1⟩ := hE.1
  have hl := hm.2.2.1
  refine B126 40 [29] ?_
  simp only [J126_0, J126_1, J126_2, J126_5, J126_8, J126_9, J126_10, J126_11, J126_12, J126_14, J126_17, J126_20, J126_22, J126_23, J126_24, J126_27, J126_28, J126_29, J126_30, J126_33, J126_36, J126_37, J126_38, J126_41, J126_42, J126_43, J126_44, J126_47, J126_48, J126_51, J126_52, J126_53, J126_54, J126_57, J126_58, am_gg_c, am_gf_c, am_pf_c, am_af_c, am_sf_c, am_bf_c, am_qf_c, am_ap_c, am_bp_c, am_qp_c, am_lf_c, am_kt_s, am_kt_n, am_wst, am_wstop, am_ns_0, am_ns_1, Bool.not_true, Bool.not_false, Bool.true_and, Bool.false_and, Nat.reduceBEq, ↓reduceIte, am_k2_n, am_k2_i, am_k2_r, am_k2_u, am_k2_f, am_k2_l, Nat.zero_le, true_and, and_true, true_or, or_true, am_cat_0, am_cat_i, am_cat_r, am_cat_l, am_cat_n, Nat.reduceLeDiff, Nat.reduceAdd, Option.isSome_some, List.getElem?_cons_zero, List.getElem?_cons_succ, am_fit_i, am_fit_r, am_fit_a, b1]
  refine sp_mPosition (by omega) b1 hm ?_
  simp only [J126_0, J126_1, J126_2, J126_5, J126_8, J126_9, J126_10, J126_11, J126_12, J126_14, J126_17, J126_20, J126_22, J126_23, J126_24, J126_27, J126_28, J126_29, J126_30, J126_33, J126_36, J126_37, J126_38, J126_41, J126_42, J126_43, J126_44, J126_47, J126_48, J126_51, J126_52, J126_53, J126_54, J126_57, J126_58, am_gg_c, am_gf_c, am_pf_c, am_af_c, am_sf_c, am_bf_c, am_qf_c, am_ap_c, am_bp_c, am_qp_c, am_lf_c, am_kt_s, am_kt_n, am_wst, am_wstop, am_ns_0, am_ns_1, Bool.not_true, Bool.not_false, Bool.true_and, Bool.false_and, Nat.reduceBEq, ↓reduceIte, am_k2_n, am_k2_i, am_k2_r, am_k2_u, am_k2_f, am_k2_l, Nat.zero_le, true_and, and_true, true_or, or_true, am_cat_0, am_cat_i, am_cat_r, am_cat_l, am_cat_n, Nat.reduceLeDiff, Nat.reduceAdd, Option.isSome_some, List.getElem?_cons_zero, List.getElem?_cons_succ, am_fit_i, am_fit_r, am_fit_a, b1]
  cases hb : inN x l with
  | false =>
    rw [hb] at hP
    simp only [Bool.false_eq_true, if_false, if_true]
    simpa using hP G hE Fr.rf
  | true =>
    rw [hb] at hP
    obtain ⟨q, rfl, hq⟩ := inN_of hb (by omega)
    rw [nI_toInt (by omega), Int.toNat_natCast] at hP
    simp only [if_true, if_neg (show ¬ (1 : Int32) = 0 by decide)]
    refine sp_in (by omega) ?_
    simp only [J126_0, J126_1, J126_2, J126_5, J126_8, J126_9, J126_10, J126_11, J126_12, J126_14, J126_17, J126_20, J126_22, J126_23, J126_24, J126_27, J126_28, J126_29, J126_30, J126_33, J126_36, J126_37, J126_38, J126_41, J126_42, J126_43, J126_44, J126_47, J126_48, J126_51, J126_52, J126_53, J126_54, J126_57, J126_58, am_gg_c, am_gf_c, am_pf_c, am_af_c, am_sf_c, am_bf_c, am_qf_c, am_ap_c, am_bp_c, am_qp_c, am_lf_c, am_kt_s, am_kt_n, am_wst, am_wstop, am_ns_0, am_ns_1, Bool.not_true, Bool.not_false, Bool.true_and, Bool.false_and, Nat.reduceBEq, ↓reduceIte, am_k2_n, am_k2_i, am_k2_r, am_k2_u, am_k2_f, am_k2_l, Nat.zero_le, true_and, and_true, true_or, or_true, am_cat_0, am_cat_i, am_cat_r, am_cat_l, am_cat_n, Nat.reduceLeDiff, Nat.reduceAdd, Option.isSome_some, List.getElem?_cons_zero, List.getElem?_cons_succ, am_fit_i, am_fit_r, am_fit_a, b1]
    rw [show (0 : Int32).toInt = 0 by rfl, show (17 : Int32).toInt = 17 by rfl]
    by_cases c : 0 ≤ y.toInt ∧ y.toInt ≤ 17
    · rw [if_pos c, if_neg (by decide)]
      obtain ⟨e, e2⟩ := bi_nat c.1
      have hk : y.toInt.toNat ≤ 17 := by omega
      simp only [if_pos c] at hP
      generalize y.toInt.toNat = w at *
      subst e
      refine sp_beginOwn (by omega) hE hm hd1 hd8 (fun G1 c1 _ c2 => ?_)
      simp only [J126_0, J126_1, J126_2, J126_5, J126_8, J126_9, J126_10, J126_11, J126_12, J126_14, J126_17, J126_20, J126_22, J126_23, J126_24, J126_27, J126_28, J126_29, J126_30, J126_33, J126_36, J126_37, J126_38, J126_41, J126_42, J126_43, J126_44, J126_47, J126_48, J126_51, J126_52, J126_53, J126_54, J126_57, J126_58, am_gg_c, am_gf_c, am_pf_c, am_af_c, am_sf_c, am_bf_c, am_qf_c, am_ap_c, am_bp_c, am_qp_c, am_lf_c, am_kt_s, am_kt_n, am_wst, am_wstop, am_ns_0, am_ns_1, Bool.not_true, Bool.not_false, Bool.true_and, Bool.false_and, Nat.reduceBEq, ↓reduceIte, am_k2_n, am_k2_i, am_k2_r, am_k2_u, am_k2_f, am_k2_l, Nat.zero_le, true_and, and_true, true_or, or_true, am_cat_0, am_cat_i, am_cat_r, am_cat_l, am_cat_n, Nat.reduceLeDiff, Nat.reduceAdd, Option.isSome_some, List.getElem?_cons_zero, List.getElem?_cons_succ, am_fit_i, am_fit_r, am_fit_a]
      exact lp_freq (G0 := G1) (by omega) (by omega) (by omega) (fun G' hF => hm.fr (c2.tr hF) (by decide)) _ 0 G1 (fun a ha => rwN_lt ha) c1 Fr.rf (fun G' d1 d2 => by rw [Nat.zero_add]; simpa using hP G' d1 (c2.tr d2))
    · rw [if_neg c, if_pos rfl]
      simp only [if_neg c] at hP
      simpa using hP G hE Fr.rf
theorem lp_opt {G0 : am_H} {q : Nat} (hq : q < 18) (hD : 4 ≤ D) (hm : ∀ G, Fr kE G0 G → MA G l h d f) : ∀ (R : List (List (Nat × Nat))) (c : Nat) (G : am_H), (∀ a ∈ R, rwN a q < 18) → EnS G pm vp ipb f n ln O0 m0 R → Fr kE G0 G → (∀ G', EnA G' pm vp → Fr kE G0 G' → P (some (.int (nI (opA q R c)))) G') → am_WP X D 127 16 [some (.ref 23), some (.int (nI q)), some (.int (nI c))] [] G 0 0 P := by
  intro R
  induction R with
  | nil =>
    intro c G _ hE hF hP
    obtain ⟨len, T, m, ip, due, dep, b1⟩ := hE.a.1
    refine am_wps 40 [47] ?_
    simp only [J127_0, J127_1, J127_2, J127_5, J127_8, J127_9, J127_10, J127_11, J127_14, J127_15, J127_16, J127_17, J127_20, J127_23, J127_24, J127_25, J127_28, J127_29, J127_30, J127_33, J127_34, J127_35, J127_38, J127_39, J127_40, J127_41, J127_44, J127_45, J127_46, J127_47, J127_50, J127_51, am_gg_c, am_gf_c, am_pf_c, am_af_c, am_sf_c, am_bf_c, am_qf_c, am_ap_c, am_bp_c, am_qp_c, am_lf_c, am_kt_s, am_kt_n, am_wst, am_wstop, am_ns_0, am_ns_1, Bool.not_true, Bool.not_false, Bool.true_and, Bool.false_and, Nat.reduceBEq, ↓reduceIte, am_k2_n, am_k2_i, am_k2_r, am_k2_u, am_k2_f, am_k2_l, Nat.zero_le, true_and, and_true, true_or, or_true, am_cat_0, am_cat_i, am_cat_r, am_cat_l, am_cat_n, Nat.reduceLeDiff, Nat.reduceAdd, Option.isSome_some, List.getElem?_cons_zero, List.getElem?_cons_succ, am_fit_i, am_fit_r, am_fit_a, b1]
    refine sp_adv hD hE (hm G hF) (fun _ G' d1 d2 => ?_) (fun a R' e => by cases e)
    simp only [J127_0, J127_1, J127_2, J127_5, J127_8, J127_9, J127_10, J127_11, J127_14, J127_15, J127_16, J127_17, J127_20, J127_23, J127_24, J127_25, J127_28, J127_29, J127_30, J127_33, J127_34, J127_35, J127_38, J127_39, J127_40, J127_41, J127_44, J127_45, J127_46, J127_47, J127_50, J127_51, am_gg_c, am_gf_c, am_pf_c, am_af_c, am_sf_c, am_bf_c, am_qf_c, am_ap_c, am_bp_c, am_qp_c, am_lf_c, am_kt_s, am_kt_n, am_wst, am_wstop, am_ns_0, am_ns_1, Bool.not_true, Bool.not_false, Bool.true_and, Bool.false_and, Nat.reduceBEq, ↓reduceIte, am_k2_n, am_k2_i, am_k2_r, am_k2_u, am_k2_f, am_k2_l, Nat.zero_le, true_and, and_true, true_or, or_true, am_cat_0, am_cat_i, am_cat_r, am_cat_l, am_cat_n, Nat.reduceLeDiff, Nat.reduceAdd, Option.isSome_some, List.getElem?_cons_zero, List.getElem?_cons_succ, am_fit_i, am_fit_r, am_fit_a, if_true]
    exact hP G' d1.a (hF.tr d2)
  | cons a R ih =>
    intro c G hR hE hF hP
    obtain ⟨len, T, m, ip, due, dep, b1⟩ := hE.a.1
    have ha := hR a List.mem_cons_self
    refine am_wps 40 [47] ?_
    simp only [J127_0, J127_1, J127_2, J127_5, J127_8, J127_9, J127_10, J127_11, J127_14, J127_15, J127_16, J127_17, J127_20, J127_23, J127_24, J127_25, J127_28, J127_29, J127_30, J127_33, J127_34, J127_35, J127_38, J127_39, J127_40, J127_41, J127_44, J127_45, J127_46, J127_47, J127_50, J127_51, am_gg_c, am_gf_c, am_pf_c, am_af_c, am_sf_c, am_bf_c, am_qf_c, am_ap_c, am_bp_c, am_qp_c, am_lf_c, am_kt_s, am_kt_n, am_wst, am_wstop, am_ns_0, am_ns_1, Bool.not_true, Bool.not_false, Bool.true_and, Bool.false_and, Nat.reduceBEq, ↓reduceIte, am_k2_n, am_k2_i, am_k2_r, am_k2_u, am_k2_f, am_k2_l, Nat.zero_le, true_and, and_true, true_or, or_true, am_cat_0, am_cat_i, am_cat_r, am_cat_l, am_cat_n, Nat.reduceLeDiff, Nat.reduceAdd, Option.isSome_some, List.getElem?_cons_zero, List.getElem?_cons_succ, am_fit_i, am_fit_r, am_fit_a, b1]
    refine sp_adv hD hE (hm G hF) (fun e => by cases e) (fun a' R' e G' d1 d2 d3 => ?_)
    cases e
    obtain ⟨len, T, m, ip, due, dep, b2⟩ := d1.a.1
    obtain ⟨r, bg, r1, r2, r3, r4⟩ := d2
    simp only [J127_0, J127_1, J127_2, J127_5, J127_8, J127_9, J127_10, J127_11, J127_14, J127_15, J127_16, J127_17, J127_20, J127_23, J127_24, J127_25, J127_28, J127_29, J127_30, J127_33, J127_34, J127_35, J127_38, J127_39, J127_40, J127_41, J127_44, J127_45, J127_46, J127_47, J127_50, J127_51, am_gg_c, am_gf_c, am_pf_c, am_af_c, am_sf_c, am_bf_c, am_qf_c, am_ap_c, am_bp_c, am_qp_c, am_lf_c, am_kt_s, am_kt_n, am_wst, am_wstop, am_ns_0, am_ns_1, Bool.not_true, Bool.not_false, Bool.true_and, Bool.false_and, Nat.reduceBEq, ↓reduceIte, am_k2_n, am_k2_i, am_k2_r, am_k2_u, am_k2_f, am_k2_l, Nat.zero_le, true_and, and_true, true_or, or_true, am_cat_0, am_cat_i, am_cat_r, am_cat_l, am_cat_n, Nat.reduceLeDiff, Nat.reduceAdd, Option.isSome_some, List.getElem?_cons_zero, List.getElem?_cons_succ, am_fit_i, am_fit_r, am_fit_a, if_neg (show ¬ (1 : Int32) = 0 by decide), b2, r1]
    have hin : vp_in (nI q) 18 := vp_in_n (by omega) (by omega)
    refine ⟨hin, ?_⟩
    have hrr : r (nI q).toNatClampNeg = nI (rwN a q) := by rw [nI_clamp (by omega)]; exact r3 q (by omega)
    rw [hrr]
    simp only [opA] at hP
    by_cases c0 : rwN a q = 0
    · rw [if_pos c0] at hP
      rw [if_neg (by rw [c0]; decide)]
      refine am_goto I127_47 ?_
      rw [show nI c ||| 0 = nI (c ||| 0) from bi_or c 0]
      exact ih _ G' (fun b hb => hR b (List.mem_cons_of_mem _ hb)) d1 (hF.tr d3) hP
    · rw [if_neg c0] at hP
      rw [if_pos (by rw [bi_lt, nI_toInt (by omega)]; show (0 : Int) < _; omega)]
      refine ⟨hin, ?_⟩
      refine am_goto I127_47 ?_
      rw [show (1 : Int32) = nI 1 by rfl, bi_shl (by omega), bi_or, Nat.one_mul]
      exact ih _ G' (fun b hb => hR b (List.mem_cons_of_mem _ hb)) d1 (hF.tr d3) hP
theorem sp_moptions {G : am_H} {x : Int32} (hD : 5 ≤ D) (hE : EnA G pm vp) (hm : MA G l h d f) (hd1 : 1 ≤ (bl d).length) (hd8 : (bl d).length ≤ 8) (hP : ∀ G', EnA G' pm vp → Fr kE G G' → P (some (.int (if inN x l = true then nI (opA x.toInt.toNat (arrs true l h d f) 0) else -1))) G') : am_CB X D 127 [.ref 23, .int x] G P := by
  obtain ⟨D, rfl⟩ : ∃ D0, D = D0 + 1 := ⟨D - 1, by omega⟩
  obtain ⟨len, T, m, ip, due, dep, b1⟩ := hE.1
  have hl := hm.2.2.1
  refine B127 40 [16] ?_
  simp only [J127_0, J127_1, J127_2, J127_5, J127_8, J127_9, J127_10, J127_11, J127_14, J127_15, J127_16, J127_17, J127_20, J127_23, J127_24, J127_25, J127_28, J127_29, J127_30, J127_33, J127_34, J127_35, J127_38, J127_39, J127_40, J127_41, J127_44, J127_45, J127_46, J127_47, J127_50, J127_51, am_gg_c, am_gf_c, am_pf_c, am_af_c, am_sf_c, am_bf_c, am_qf_c, am_ap_c, am_bp_c, am_qp_c, am_lf_c, am_kt_s, am_kt_n, am_wst, am_wstop, am_ns_0, am_ns_1, Bool.not_true, Bool.not_false, Bool.true_and, Bool.false_and, Nat.reduceBEq, ↓reduceIte, am_k2_n, am_k2_i, am_k2_r, am_k2_u, am_k2_f, am_k2_l, Nat.zero_le, true_and, and_true, true_or, or_true, am_cat_0, am_cat_i, am_cat_r, am_cat_l, am_cat_n, Nat.reduceLeDiff, Nat.reduceAdd, Option.isSome_some, List.getElem?_cons_zero, List.getElem?_cons_succ, am_fit_i, am_fit_r, am_fit_a, b1]
  refine sp_mPosition (by omega) b1 hm ?_
  simp only [J127_0, J127_1, J127_2, J127_5, J127_8, J127_9, J127_10, J127_11, J127_14, J127_15, J127_16, J127_17, J127_20, J127_23, J127_24, J127_25, J127_28, J127_29, J127_30, J127_33, J127_34, J127_35, J127_38, J127_39, J127_40, J127_41, J127_44, J127_45, J127_46, J127_47, J127_50, J127_51, am_gg_c, am_gf_c, am_pf_c, am_af_c, am_sf_c, am_bf_c, am_qf_c, am_ap_c, am_bp_c, am_qp_c, am_lf_c, am_kt_s, am_kt_n, am_wst, am_wstop, am_ns_0, am_ns_1, Bool.not_true, Bool.not_false, Bool.true_and, Bool.false_and, Nat.reduceBEq, ↓reduceIte, am_k2_n, am_k2_i, am_k2_r, am_k2_u, am_k2_f, am_k2_l, Nat.zero_le, true_and, and_true, true_or, or_true, am_cat_0, am_cat_i, am_cat_r, am_cat_l, am_cat_n, Nat.reduceLeDiff, Nat.reduceAdd, Option.isSome_some, List.getElem?_cons_zero, List.getElem?_cons_succ, am_fit_i, am_fit_r, am_fit_a, b1]
  cases hb : inN x l with
  | false =>
    rw [hb] at hP
    simp only [Bool.false_eq_true, if_false, if_true]
    simpa using hP G hE Fr.rf
  | true =>
    rw [hb] at hP
    obtain ⟨q, rfl, hq⟩ := inN_of hb (by omega)
    rw [nI_toInt (by omega), Int.toNat_natCast] at hP
    simp only [if_true, if_neg (show ¬ (1 : Int32) = 0 by decide)]
    refine sp_beginOwn (by omega) hE hm hd1 hd8 (fun G1 c1 _ c2 => ?_)
    simp only [J127_0, J127_1, J127_2, J127_5, J127_8, J127_9, J127_10, J127_11, J127_14, J127_15, J127_16, J127_17, J127_20, J127_23, J127_24, J127_25, J127_28, J127_29, J127_30, J127_33, J127_34, J127_35, J127_38, J127_39, J127_40, J127_41, J127_44, J127_45, J127_46, J127_47, J127_50, J127_51, am_gg_c, am_gf_c, am_pf_c, am_af_c, am_sf_c, am_bf_c, am_qf_c, am_ap_c, am_bp_c, am_qp_c, am_lf_c, am_kt_s, am_kt_n, am_wst, am_wstop, am_ns_0, am_ns_1, Bool.not_true, Bool.not_false, Bool.true_and, Bool.false_and, Nat.reduceBEq, ↓reduceIte, am_k2_n, am_k2_i, am_k2_r, am_k2_u, am_k2_f, am_k2_l, Nat.zero_le, true_and, and_true, true_or, or_true, am_cat_0, am_cat_i, am_cat_r, am_cat_l, am_cat_n, Nat.reduceLeDiff, Nat.reduceAdd, Option.isSome_some, List.getElem?_cons_zero, List.getElem?_cons_succ, am_fit_i, am_fit_r, am_fit_a]
    exact lp_opt (G0 := G1) (by omega) (by omega) (fun G' hF => hm.fr (c2.tr hF) (by decide)) _ 0 G1 (fun a ha => rwN_lt ha) c1 Fr.rf (fun G' d1 d2 => by simpa using hP G' d1 (c2.tr d2))
end LL
