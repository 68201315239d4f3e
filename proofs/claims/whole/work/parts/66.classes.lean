/-! classes -/
def lxB (x y : Nat → Nat) : Nat → Nat → Bool
  | 0, _ => false
  | k + 1, i => if x i = y i then lxB x y k (i + 1) else decide (x i < y i)
/-- whether an arrangement is counted -/
def clB (l h d : Nat) (f : Nat → Nat) (a : List (Nat × Nat)) : Bool := !(lxB (rvN l a) (rwN a) l 0 && decide (vdI (bkN l h d f (rvN l a)) l = 0))
def clN (l h d : Nat) (f : Nat → Nat) : List (List (Nat × Nat)) → Nat → Nat
  | [], c => c
  | a :: R, c => clN l h d f R (c + (if clB l h d f a = true then 1 else 0))
section CL
variable {X : Nat × (Nat → Int32)} {D : Nat} {P : Option Value → am_H → Prop} {pm vp T m ip due dep : Int32} {ipb : Bool} {l h d n : Nat} {f : Nat → Nat} {nn O0 m0 : Nat}
theorem lp_clIn {G : am_H} {a : List (Nat × Nat)} {c : Nat} {x : Nat → Nat} (hl : l ≤ 18) (h1 : am_ob G 23 5 = some (moL pm (nI l) T m ip due dep vp)) (hr : RW G a) (hL : LK G l (fun i => nI (x i))) (ha : ∀ q, rwN a q < 18) (hg : ∀ i, i < l → x i ≤ 17) (hK : am_WP X D 150 77 [some (.ref 23), some (.int (nI c)), none, some (.int (if lxB x (rwN a) l 0 = true then 1 else 0))] [] G 0 0 P) :
    ∀ (k i : Nat), i + k = l → lxB x (rwN a) l 0 = lxB x (rwN a) k i → am_WP X D 150 19 [some (.ref 23), some (.int (nI c)), some (.int (nI i)), none] [] G 0 0 P := by
  obtain ⟨r, bg, r1, r2, r3, r4⟩ := hr
  obtain ⟨lf, l1, l2⟩ := hL
  have l2 : ∀ i, i < l → lf i = nI (x i) := l2
  intro k
  induction k with
  | zero =>
    intro i hi he
    refine am_wps 60 [45, 77] ?_
    simp only [J150_0, J150_1, J150_4, J150_5, J150_6, J150_7, J150_10, J150_13, J150_14, J150_17, J150_18, J150_19, J150_20, J150_21, J150_24, J150_27, J150_28, J150_31, J150_32, J150_33, J150_34, J150_37, J150_38, J150_39, J150_42, J150_45, J150_48, J150_49, J150_50, J150_53, J150_56, J150_57, J150_60, J150_61, J150_62, J150_63, J150_66, J150_67, J150_68, J150_71, J150_72, J150_75, J150_76, J150_77, J150_78, J150_79, J150_82, J150_83, J150_86, J150_89, J150_90, J150_93, J150_94, J150_95, J150_96, J150_99, J150_100, am_gg_c, am_gf_c, am_pf_c, am_af_c, am_sf_c, am_bf_c, am_qf_c, am_ap_c, am_bp_c, am_qp_c, am_lf_c, am_kt_s, am_kt_n, am_wst, am_wstop, am_ns_0, am_ns_1, Bool.not_true, Bool.not_false, Bool.true_and, Bool.false_and, Nat.reduceBEq, ↓reduceIte, am_k2_n, am_k2_i, am_k2_r, am_k2_u, am_k2_f, am_k2_l, Nat.zero_le, true_and, and_true, true_or, or_true, am_cat_0, am_cat_i, am_cat_r, am_cat_l, am_cat_n, Nat.reduceLeDiff, Nat.reduceAdd, Option.isSome_some, List.getElem?_cons_zero, List.getElem?_cons_succ, am_fit_i, am_fit_r, am_fit_a, h1]
    rw [if_neg (by rw [nI_ltI (by omega) (by omega)]; omega)]
    rw [if_neg (by rw [nI_ltI (by omega) (by omega)]; omega)]
    rw [he] at hK
    exact am_WP.fg hK (by simp [am_le, lxB])
  | succ k ih =>
    intro i hi he
    have hs : lxB x (rwN a) (k + 1) i = if x i = rwN a i then lxB x (rwN a) k (i + 1) else decide (x i < rwN a i) := rfl
    rw [hs] at he
    have hai := ha i
    have hgi := hg i (by omega)
    have hin : vp_in (nI i) 18 := vp_in_n (by omega) (by omega)
    refine am_wps 60 [45, 77] ?_
    simp only [J150_0, J150_1, J150_4, J150_5, J150_6, J150_7, J150_10, J150_13, J150_14, J150_17, J150_18, J150_19, J150_20, J150_21, J150_24, J150_27, J150_28, J150_31, J150_32, J150_33, J150_34, J150_37, J150_38, J150_39, J150_42, J150_45, J150_48, J150_49, J150_50, J150_53, J150_56, J150_57, J150_60, J150_61, J150_62, J150_63, J150_66, J150_67, J150_68, J150_71, J150_72, J150_75, J150_76, J150_77, J150_78, J150_79, J150_82, J150_83, J150_86, J150_89, J150_90, J150_93, J150_94, J150_95, J150_96, J150_99, J150_100, am_gg_c, am_gf_c, am_pf_c, am_af_c, am_sf_c, am_bf_c, am_qf_c, am_ap_c, am_bp_c, am_qp_c, am_lf_c, am_kt_s, am_kt_n, am_wst, am_wstop, am_ns_0, am_ns_1, Bool.not_true, Bool.not_false, Bool.true_and, Bool.false_and, Nat.reduceBEq, ↓reduceIte, am_k2_n, am_k2_i, am_k2_r, am_k2_u, am_k2_f, am_k2_l, Nat.zero_le, true_and, and_true, true_or, or_true, am_cat_0, am_cat_i, am_cat_r, am_cat_l, am_cat_n, Nat.reduceLeDiff, Nat.reduceAdd, Option.isSome_some, List.getElem?_cons_zero, List.getElem?_cons_succ, am_fit_i, am_fit_r, am_fit_a, h1, l1, r1]
    rw [if_pos (by rw [nI_ltI (by omega) (by omega)]; omega)]
    refine ⟨hin, hin, ?_⟩
    rw [nI_clamp (by omega), r3 i (by omega), l2 i (by omega), show rwZ a.reverse i = rwN a i by rfl]
    by_cases c1 : x i = rwN a i
    · rw [if_pos c1] at he
      rw [if_pos (by rw [c1])]
      refine am_goto I150_45 ?_
      rw [nI_1]
      exact ih (i + 1) (by omega) he
    · rw [if_neg c1] at he
      rw [if_neg (fun e => c1 (bi_inj (by omega) (by omega) e))]
      rw [if_pos (by rw [nI_ltI (by omega) (by omega)]; omega)]
      refine ⟨hin, hin, ?_⟩
      rw [he] at hK
      by_cases c2 : x i < rwN a i
      · rw [if_pos (by rw [nI_ltI (by omega) (by omega)]; exact c2)]
        exact am_WP.fg hK (by simp [am_le, c2])
      · rw [if_neg (by rw [nI_ltI (by omega) (by omega)]; exact c2)]
        exact am_WP.fg hK (by simp [am_le, c2])
theorem lp_classes {G0 : am_H} (hl : l ≤ 18) (hD : 5 ≤ D) (hm : ∀ G, Fr [23, 28, 29, 30, 31, 33] G0 G → MA G l h d f) (hK0 : LK G0 0 (fun _ => 0)) : ∀ (R : List (List (Nat × Nat))) (c : Nat) (vp : Int32) (G : am_H), (∀ a ∈ R, ∀ q, rwN a q < 18) → EnS G pm vp ipb f nn l O0 m0 R → LK G 0 (fun _ => 0) → Fr [23, 28, 29, 30, 31, 33] G0 G → (∀ vp' G', EnA G' pm vp' → LK G' 0 (fun _ => 0) → Fr [23, 28, 29, 30, 31, 33] G0 G' → P (some (.int (nI (clN l h d f R c)))) G') → am_WP X D 150 6 [some (.ref 23), some (.int (nI c)), none, none] [] G 0 0 P := by
  intro R
  induction R with
  | nil =>
    intro c vp G _ hE hL hF hP
    obtain ⟨len, T, m, ip, due, dep, b1⟩ := hE.a.1
    refine am_wps 60 [19, 96] ?_
    simp only [J150_0, J150_1, J150_4, J150_5, J150_6, J150_7, J150_10, J150_13, J150_14, J150_17, J150_18, J150_19, J150_20, J150_21, J150_24, J150_27, J150_28, J150_31, J150_32, J150_33, J150_34, J150_37, J150_38, J150_39, J150_42, J150_45, J150_48, J150_49, J150_50, J150_53, J150_56, J150_57, J150_60, J150_61, J150_62, J150_63, J150_66, J150_67, J150_68, J150_71, J150_72, J150_75, J150_76, J150_77, J150_78, J150_79, J150_82, J150_83, J150_86, J150_89, J150_90, J150_93, J150_94, J150_95, J150_96, J150_99, J150_100, am_gg_c, am_gf_c, am_pf_c, am_af_c, am_sf_c, am_bf_c, am_qf_c, am_ap_c, am_bp_c, am_qp_c, am_lf_c, am_kt_s, am_kt_n, am_wst, am_wstop, am_ns_0, am_ns_1, Bool.not_true, Bool.not_false, Bool.true_and, Bool.false_and, Nat.reduceBEq, ↓reduceIte, am_k2_n, am_k2_i, am_k2_r, am_k2_u, am_k2_f, am_k2_l, Nat.zero_le, true_and, and_true, true_or, or_true, am_cat_0, am_cat_i, am_cat_r, am_cat_l, am_cat_n, Nat.reduceLeDiff, Nat.reduceAdd, Option.isSome_some, List.getElem?_cons_zero, List.getElem?_cons_succ, am_fit_i, am_fit_r, am_fit_a, b1]
    refine sp_adv (by omega) hE (hm G hF) (fun _ G' d1 d2 => ?_) (fun a R' e => by cases e)
    simp only [J150_0, J150_1, J150_4, J150_5, J150_6, J150_7, J150_10, J150_13, J150_14, J150_17, J150_18, J150_19, J150_20, J150_21, J150_24, J150_27, J150_28, J150_31, J150_32, J150_33, J150_34, J150_37, J150_38, J150_39, J150_42, J150_45, J150_48, J150_49, J150_50, J150_53, J150_56, J150_57, J150_60, J150_61, J150_62, J150_63, J150_66, J150_67, J150_68, J150_71, J150_72, J150_75, J150_76, J150_77, J150_78, J150_79, J150_82, J150_83, J150_86, J150_89, J150_90, J150_93, J150_94, J150_95, J150_96, J150_99, J150_100, am_gg_c, am_gf_c, am_pf_c, am_af_c, am_sf_c, am_bf_c, am_qf_c, am_ap_c, am_bp_c, am_qp_c, am_lf_c, am_kt_s, am_kt_n, am_wst, am_wstop, am_ns_0, am_ns_1, Bool.not_true, Bool.not_false, Bool.true_and, Bool.false_and, Nat.reduceBEq, ↓reduceIte, am_k2_n, am_k2_i, am_k2_r, am_k2_u, am_k2_f, am_k2_l, Nat.zero_le, true_and, and_true, true_or, or_true, am_cat_0, am_cat_i, am_cat_r, am_cat_l, am_cat_n, Nat.reduceLeDiff, Nat.reduceAdd, Option.isSome_some, List.getElem?_cons_zero, List.getElem?_cons_succ, am_fit_i, am_fit_r, am_fit_a, if_true]
    exact hP vp G' d1.a (hL.fr d2 (by decide)) (hF.tr (d2.up (by decide)))
  | cons a R ih =>
    intro c vp G hR hE hL hF hP
    obtain ⟨len, T, m, ip, due, dep, b1⟩ := hE.a.1
    have ha := hR a List.mem_cons_self
    refine am_wps 60 [19, 96] ?_
    simp only [J150_0, J150_1, J150_4, J150_5, J150_6, J150_7, J150_10, J150_13, J150_14, J150_17, J150_18, J150_19, J150_20, J150_21, J150_24, J150_27, J150_28, J150_31, J150_32, J150_33, J150_34, J150_37, J150_38, J150_39, J150_42, J150_45, J150_48, J150_49, J150_50, J150_53, J150_56, J150_57, J150_60, J150_61, J150_62, J150_63, J150_66, J150_67, J150_68, J150_71, J150_72, J150_75, J150_76, J150_77, J150_78, J150_79, J150_82, J150_83, J150_86, J150_89, J150_90, J150_93, J150_94, J150_95, J150_96, J150_99, J150_100, am_gg_c, am_gf_c, am_pf_c, am_af_c, am_sf_c, am_bf_c, am_qf_c, am_ap_c, am_bp_c, am_qp_c, am_lf_c, am_kt_s, am_kt_n, am_wst, am_wstop, am_ns_0, am_ns_1, Bool.not_true, Bool.not_false, Bool.true_and, Bool.false_and, Nat.reduceBEq, ↓reduceIte, am_k2_n, am_k2_i, am_k2_r, am_k2_u, am_k2_f, am_k2_l, Nat.zero_le, true_and, and_true, true_or, or_true, am_cat_0, am_cat_i, am_cat_r, am_cat_l, am_cat_n, Nat.reduceLeDiff, Nat.reduceAdd, Option.isSome_some, List.getElem?_cons_zero, List.getElem?_cons_succ, am_fit_i, am_fit_r, am_fit_a, b1]
    refine sp_adv (by omega) hE (hm G hF) (fun e => by cases e) (fun a' R' e G' d1 d2 d3 => ?_)
    cases e
    obtain ⟨T, m, ip, due, dep, b2⟩ := d1.lgt
    simp only [J150_0, J150_1, J150_4, J150_5, J150_6, J150_7, J150_10, J150_13, J150_14, J150_17, J150_18, J150_19, J150_20, J150_21, J150_24, J150_27, J150_28, J150_31, J150_32, J150_33, J150_34, J150_37, J150_38, J150_39, J150_42, J150_45, J150_48, J150_49, J150_50, J150_53, J150_56, J150_57, J150_60, J150_61, J150_62, J150_63, J150_66, J150_67, J150_68, J150_71, J150_72, J150_75, J150_76, J150_77, J150_78, J150_79, J150_82, J150_83, J150_86, J150_89, J150_90, J150_93, J150_94, J150_95, J150_96, J150_99, J150_100, am_gg_c, am_gf_c, am_pf_c, am_af_c, am_sf_c, am_bf_c, am_qf_c, am_ap_c, am_bp_c, am_qp_c, am_lf_c, am_kt_s, am_kt_n, am_wst, am_wstop, am_ns_0, am_ns_1, Bool.not_true, Bool.not_false, Bool.true_and, Bool.false_and, Nat.reduceBEq, ↓reduceIte, am_k2_n, am_k2_i, am_k2_r, am_k2_u, am_k2_f, am_k2_l, Nat.zero_le, true_and, and_true, true_or, or_true, am_cat_0, am_cat_i, am_cat_r, am_cat_l, am_cat_n, Nat.reduceLeDiff, Nat.reduceAdd, Option.isSome_some, List.getElem?_cons_zero, List.getElem?_cons_succ, am_fit_i, am_fit_r, am_fit_a, if_neg (show ¬ (1 : Int32) = 0 by decide), b2]
    have hF1 := hF.tr (d3.up (by decide))
    refine sp_lookReversed hl (by omega) b2 d2 (hL.fr d3 (by decide)) (fun G2 l2 f2 => ?_)
    have k2 : am_ob G2 23 5 = some (moL pm (nI l) T m ip due dep vp) := by rw [f2.ob (by decide)]; exact b2
    have hF2 := hF1.tr (f2.up (by decide))
    have hm2 : MA G2 l h d f := hm G2 hF2
    have dS2 := d1.fr f2 (by decide) (by decide) (by decide) (by decide) (by decide)
    have hg : ∀ i, i < l → rvN l a i ≤ 17 := fun i _ => by have := ha (l - 1 - i); unfold rvN; omega
    have l2' : LK G2 l (fun i => nI (rvN l a i)) := l2
    have l20 : LK G2 0 (fun _ => 0) := by obtain ⟨lf, q1, q2⟩ := l2; exact ⟨lf, q1, fun i hi => by omega⟩
    have hs : clN l h d f (a :: R) c = clN l h d f R (c + (if clB l h d f a = true then 1 else 0)) := rfl
    rw [hs] at hP
    unfold clB at hP
    have hR2 : ∀ b ∈ R, ∀ q, rwN b q < 18 := fun b hb => hR b (List.mem_cons_of_mem _ hb)
    simp only [J150_0, J150_1, J150_4, J150_5, J150_6, J150_7, J150_10, J150_13, J150_14, J150_17, J150_18, J150_19, J150_20, J150_21, J150_24, J150_27, J150_28, J150_31, J150_32, J150_33, J150_34, J150_37, J150_38, J150_39, J150_42, J150_45, J150_48, J150_49, J150_50, J150_53, J150_56, J150_57, J150_60, J150_61, J150_62, J150_63, J150_66, J150_67, J150_68, J150_71, J150_72, J150_75, J150_76, J150_77, J150_78, J150_79, J150_82, J150_83, J150_86, J150_89, J150_90, J150_93, J150_94, J150_95, J150_96, J150_99, J150_100, am_gg_c, am_gf_c, am_pf_c, am_af_c, am_sf_c, am_bf_c, am_qf_c, am_ap_c, am_bp_c, am_qp_c, am_lf_c, am_kt_s, am_kt_n, am_wst, am_wstop, am_ns_0, am_ns_1, Bool.not_true, Bool.not_false, Bool.true_and, Bool.false_and, Nat.reduceBEq, ↓reduceIte, am_k2_n, am_k2_i, am_k2_r, am_k2_u, am_k2_f, am_k2_l, Nat.zero_le, true_and, and_true, true_or, or_true, am_cat_0, am_cat_i, am_cat_r, am_cat_l, am_cat_n, Nat.reduceLeDiff, Nat.reduceAdd, Option.isSome_some, List.getElem?_cons_zero, List.getElem?_cons_succ, am_fit_i, am_fit_r, am_fit_a, k2]
    refine lp_clIn (c := c) hl k2 (d2.fr f2 (by decide) (by decide)) l2' ha hg ?_ l 0 (by omega) rfl
    refine am_wps 60 [96] ?_
    simp only [J150_0, J150_1, J150_4, J150_5, J150_6, J150_7, J150_10, J150_13, J150_14, J150_17, J150_18, J150_19, J150_20, J150_21, J150_24, J150_27, J150_28, J150_31, J150_32, J150_33, J150_34, J150_37, J150_38, J150_39, J150_42, J150_45, J150_48, J150_49, J150_50, J150_53, J150_56, J150_57, J150_60, J150_61, J150_62, J150_63, J150_66, J150_67, J150_68, J150_71, J150_72, J150_75, J150_76, J150_77, J150_78, J150_79, J150_82, J150_83, J150_86, J150_89, J150_90, J150_93, J150_94, J150_95, J150_96, J150_99, J150_100, am_gg_c, am_gf_c, am_pf_c, am_af_c, am_sf_c, am_bf_c, am_qf_c, am_ap_c, am_bp_c, am_qp_c, am_lf_c, am_kt_s, am_kt_n, am_wst, am_wstop, am_ns_0, am_ns_1, Bool.not_true, Bool.not_false, Bool.true_and, Bool.false_and, Nat.reduceBEq, ↓reduceIte, am_k2_n, am_k2_i, am_k2_r, am_k2_u, am_k2_f, am_k2_l, Nat.zero_le, true_and, and_true, true_or, or_true, am_cat_0, am_cat_i, am_cat_r, am_cat_l, am_cat_n, Nat.reduceLeDiff, Nat.reduceAdd, Option.isSome_some, List.getElem?_cons_zero, List.getElem?_cons_succ, am_fit_i, am_fit_r, am_fit_a, k2]
    cases b : lxB (rvN l a) (rwN a) l 0 with
    | false =>
      rw [b] at hP
      simp only [Bool.false_eq_true, if_false, if_true]
      refine am_goto I150_96 ?_
      rw [nI_1]
      exact am_WP.fg (ih (c + 1) vp G2 hR2 dS2 l20 hF2 (by simpa using hP)) (by simp [am_le])
    | true =>
      rw [b] at hP
      simp only [if_true, if_neg (show ¬ (1 : Int32) = 0 by decide)]
      refine sp_verdict (by omega) k2 hm2 l2' hg (fun G3 k3 f3 => ?_)
      simp only [J150_0, J150_1, J150_4, J150_5, J150_6, J150_7, J150_10, J150_13, J150_14, J150_17, J150_18, J150_19, J150_20, J150_21, J150_24, J150_27, J150_28, J150_31, J150_32, J150_33, J150_34, J150_37, J150_38, J150_39, J150_42, J150_45, J150_48, J150_49, J150_50, J150_53, J150_56, J150_57, J150_60, J150_61, J150_62, J150_63, J150_66, J150_67, J150_68, J150_71, J150_72, J150_75, J150_76, J150_77, J150_78, J150_79, J150_82, J150_83, J150_86, J150_89, J150_90, J150_93, J150_94, J150_95, J150_96, J150_99, J150_100, am_gg_c, am_gf_c, am_pf_c, am_af_c, am_sf_c, am_bf_c, am_qf_c, am_ap_c, am_bp_c, am_qp_c, am_lf_c, am_kt_s, am_kt_n, am_wst, am_wstop, am_ns_0, am_ns_1, Bool.not_true, Bool.not_false, Bool.true_and, Bool.false_and, Nat.reduceBEq, ↓reduceIte, am_k2_n, am_k2_i, am_k2_r, am_k2_u, am_k2_f, am_k2_l, Nat.zero_le, true_and, and_true, true_or, or_true, am_cat_0, am_cat_i, am_cat_r, am_cat_l, am_cat_n, Nat.reduceLeDiff, Nat.reduceAdd, Option.isSome_some, List.getElem?_cons_zero, List.getElem?_cons_succ, am_fit_i, am_fit_r, am_fit_a, k3]
      have dS3 := dS2.vp k2 k3 (f3.up (by decide))
      have hF3 := hF2.tr (f3.up (by decide))
      by_cases c2 : vdI (bkN l h d f (rvN l a)) l = 0
      · rw [if_pos c2]
        refine am_goto I150_96 ?_
        rw [show nI c + 0 = nI c by rw [show (0 : Int32) = nI 0 by rfl, nI_add, Nat.add_zero]]
        exact am_WP.fg (ih c _ G3 hR2 dS3 (l20.fr f3 (by decide)) hF3 (by simpa [c2] using hP)) (by simp [am_le])
      · rw [if_neg c2]
        refine am_goto I150_96 ?_
        rw [nI_1]
        exact am_WP.fg (ih (c + 1) _ G3 hR2 dS3 (l20.fr f3 (by decide)) hF3 (by simpa [c2] using hP)) (by simp [am_le])
theorem sp_mclasses {G : am_H} (hD : 6 ≤ D) (hE : EnA G pm vp) (hm : MA G l h d f) (hd1 : 1 ≤ (bl d).length) (hd8 : (bl d).length ≤ 8) (hL : LK G 0 (fun _ => 0)) (hP : ∀ vp' G', EnA G' pm vp' → LK G' 0 (fun _ => 0) → Fr [23, 28, 29, 30, 31, 33] G G' → P (some (.int (nI (clN l h d f (arrs true l h d f) 0)))) G') : am_CB X D 150 [.ref 23] G P := by
  obtain ⟨D, rfl⟩ : ∃ D0, D = D0 + 1 := ⟨D - 1, by omega⟩
  obtain ⟨len, T, m, ip, due, dep, b1⟩ := hE.1
  have hl := hm.2.2.1
  refine B150 60 [6] ?_
  simp only [J150_0, J150_1, J150_4, J150_5, J150_6, J150_7, J150_10, J150_13, J150_14, J150_17, J150_18, J150_19, J150_20, J150_21, J150_24, J150_27, J150_28, J150_31, J150_32, J150_33, J150_34, J150_37, J150_38, J150_39, J150_42, J150_45, J150_48, J150_49, J150_50, J150_53, J150_56, J150_57, J150_60, J150_61, J150_62, J150_63, J150_66, J150_67, J150_68, J150_71, J150_72, J150_75, J150_76, J150_77, J150_78, J150_79, J150_82, J150_83, J150_86, J150_89, J150_90, J150_93, J150_94, J150_95, J150_96, J150_99, J150_100, am_gg_c, am_gf_c, am_pf_c, am_af_c, am_sf_c, am_bf_c, am_qf_c, am_ap_c, am_bp_c, am_qp_c, am_lf_c, am_kt_s, am_kt_n, am_wst, am_wstop, am_ns_0, am_ns_1, Bool.not_true, Bool.not_false, Bool.true_and, Bool.false_and, Nat.reduceBEq, ↓reduceIte, am_k2_n, am_k2_i, am_k2_r, am_k2_u, am_k2_f, am_k2_l, Nat.zero_le, true_and, and_true, true_or, or_true, am_cat_0, am_cat_i, am_cat_r, am_cat_l, am_cat_n, Nat.reduceLeDiff, Nat.reduceAdd, Option.isSome_some, List.getElem?_cons_zero, List.getElem?_cons_succ, am_fit_i, am_fit_r, am_fit_a, b1]
  refine sp_beginOwn (by omega) hE hm hd1 hd8 (fun G1 c1 _ c2 => ?_)
  simp only [J150_0, J150_1, J150_4, J150_5, J150_6, J150_7, J150_10, J150_13, J150_14, J150_17, J150_18, J150_19, J150_20, J150_21, J150_24, J150_27, J150_28, J150_31, J150_32, J150_33, J150_34, J150_37, J150_38, J150_39, J150_42, J150_45, J150_48, J150_49, J150_50, J150_53, J150_56, J150_57, J150_60, J150_61, J150_62, J150_63, J150_66, J150_67, J150_68, J150_71, J150_72, J150_75, J150_76, J150_77, J150_78, J150_79, J150_82, J150_83, J150_86, J150_89, J150_90, J150_93, J150_94, J150_95, J150_96, J150_99, J150_100, am_gg_c, am_gf_c, am_pf_c, am_af_c, am_sf_c, am_bf_c, am_qf_c, am_ap_c, am_bp_c, am_qp_c, am_lf_c, am_kt_s, am_kt_n, am_wst, am_wstop, am_ns_0, am_ns_1, Bool.not_true, Bool.not_false, Bool.true_and, Bool.false_and, Nat.reduceBEq, ↓reduceIte, am_k2_n, am_k2_i, am_k2_r, am_k2_u, am_k2_f, am_k2_l, Nat.zero_le, true_and, and_true, true_or, or_true, am_cat_0, am_cat_i, am_cat_r, am_cat_l, am_cat_n, Nat.reduceLeDiff, Nat.reduceAdd, Option.isSome_some, List.getElem?_cons_zero, List.getElem?_cons_succ, am_fit_i, am_fit_r, am_fit_a]
  have hL1 : LK G1 0 (fun _ => 0) := hL.fr c2 (by decide)
  exact lp_classes (G0 := G1) hl (by omega) (fun G' hF => (hm.fr c2 (by decide)).fr hF (by decide)) hL1 _ 0 vp G1 (fun a ha q => rwN_lt ha) c1 hL1 Fr.rf (fun vp' G' d1 d2' d2 => hP vp' G' d1 d2' ((c2.up (by decide)).tr d2))
end CL
