/-! numberOfLooked -/
def eqR (x y : Nat → Nat) : Nat → Bool
  | 0 => true
  | k + 1 => eqR x y k && (x k == y k)
def nlF (q : List (Nat × Nat) → Bool) : List (List (Nat × Nat)) → Nat → Int32
  | [], _ => -6
  | a :: R, k => if q a = true then nI k else nlF q R (k + 1)
theorem EnA.fr {G G' : am_H} {ks : List Nat} {pm vp : Int32} (h : EnA G pm vp) (hF : Fr ks G G') (a0 : ¬ 23 ∈ ks) (a1 : ¬ 28 ∈ ks) (a2 : ¬ 29 ∈ ks) (a3 : ¬ 30 ∈ ks) (a4 : ¬ 31 ∈ ks) : EnA G' pm vp := by
  obtain ⟨⟨len, T, m, ip, due, dep, b⟩, c1, c2, c3, c4⟩ := h
  exact ⟨⟨len, T, m, ip, due, dep, by rw [hF.ob a0]; exact b⟩, by rw [hF.ia a1]; exact c1, by rw [hF.ia a2]; exact c2, by rw [hF.ia a3]; exact c3, by rw [hF.ia a4]; exact c4⟩
theorem EnA.vp {G G' : am_H} {pm vp vp' len T m ip due dep : Int32} (h : EnA G pm vp) (h2 : am_ob G' 23 5 = some (moL pm len T m ip due dep vp')) (hF : Fr [23, 33] G G') : EnA G' pm vp' := by
  obtain ⟨_, c1, c2, c3, c4⟩ := h
  exact ⟨⟨len, T, m, ip, due, dep, h2⟩, by rw [hF.ia (by decide)]; exact c1, by rw [hF.ia (by decide)]; exact c2, by rw [hF.ia (by decide)]; exact c3, by rw [hF.ia (by decide)]; exact c4⟩
theorem EnX.fr {G G' : am_H} {ks : List Nat} {pm vp : Int32} {ln : Nat} (h : EnX G pm vp ln) (hF : Fr ks G G') (a0 : ¬ 23 ∈ ks) (a1 : ¬ 28 ∈ ks) (a2 : ¬ 29 ∈ ks) (a3 : ¬ 30 ∈ ks) (a4 : ¬ 31 ∈ ks) : EnX G' pm vp ln := by
  obtain ⟨⟨T, m, ip, dep, b⟩, c1, c2, c3, c4⟩ := h
  exact ⟨⟨T, m, ip, dep, by rw [hF.ob a0]; exact b⟩, by rw [hF.ia a1]; exact c1, by rw [hF.ia a2]; exact c2, by rw [hF.ia a3]; exact c3, by rw [hF.ia a4]; exact c4⟩
theorem EnG.fr {G G' : am_H} {ks : List Nat} {pm vp : Int32} {ipb : Bool} {f : Nat → Nat} {n ln O0 m0 : Nat} {Z : List (Nat × Nat)} {b : Nat} (h : EnG G pm vp ipb f n ln O0 m0 Z b) (hF : Fr ks G G') (a0 : ¬ 23 ∈ ks) (a1 : ¬ 28 ∈ ks) (a2 : ¬ 29 ∈ ks) (a3 : ¬ 30 ∈ ks) (a4 : ¬ 31 ∈ ks) : EnG G' pm vp ipb f n ln O0 m0 Z b := by
  obtain ⟨T, pl, ch, r, bg, a, q1, q2, c1, c2, c3, c4, q3⟩ := h
  exact ⟨T, pl, ch, r, bg, by rw [hF.ob a0]; exact a, q1, q2, by rw [hF.ia a1]; exact c1, by rw [hF.ia a2]; exact c2, by rw [hF.ia a3]; exact c3, by rw [hF.ia a4]; exact c4, q3⟩
theorem EnS.fr {G G' : am_H} {ks : List Nat} {pm vp : Int32} {ipb : Bool} {f : Nat → Nat} {n ln O0 m0 : Nat} {R : List (List (Nat × Nat))} (h : EnS G pm vp ipb f n ln O0 m0 R) (hF : Fr ks G G') (a0 : ¬ 23 ∈ ks) (a1 : ¬ 28 ∈ ks) (a2 : ¬ 29 ∈ ks) (a3 : ¬ 30 ∈ ks) (a4 : ¬ 31 ∈ ks) : EnS G' pm vp ipb f n ln O0 m0 R := by
  rcases h with ⟨e, h⟩ | ⟨hc, Z, b, h, q⟩
  · exact Or.inl ⟨e, h.fr hF a0 a1 a2 a3 a4⟩
  · exact Or.inr ⟨hc, Z, b, h.fr hF a0 a1 a2 a3 a4, q⟩
/-- another verdict's place -/
theorem EnS.vp {G G' : am_H} {pm vp vp' len T m ip due dep : Int32} {ipb : Bool} {f : Nat → Nat} {n ln O0 m0 : Nat} {R : List (List (Nat × Nat))} (h : EnS G pm vp ipb f n ln O0 m0 R) (h1 : am_ob G 23 5 = some (moL pm len T m ip due dep vp)) (h2 : am_ob G' 23 5 = some (moL pm len T m ip due dep vp')) (hF : Fr [23, 33] G G') : EnS G' pm vp' ipb f n ln O0 m0 R := by
  rcases h with ⟨e, h⟩ | ⟨hc, Z, b, h, q⟩
  · obtain ⟨⟨T', m', ip', dep', b⟩, c1, c2, c3, c4⟩ := h
    rw [h1] at b
    simp only [moL, Option.some.injEq, List.cons.injEq, Value.int.injEq, true_and, and_true] at b
    obtain ⟨e1, e2, e3, e4, e5, e6⟩ := b
    subst e1 e2 e3 e4 e5 e6
    exact Or.inl ⟨e, ⟨_, _, _, _, h2⟩, by rw [hF.ia (by decide)]; exact c1, by rw [hF.ia (by decide)]; exact c2, by rw [hF.ia (by decide)]; exact c3, by rw [hF.ia (by decide)]; exact c4⟩
  · obtain ⟨T', pl, ch, r, bg, a, q1, q2, c1, c2, c3, c4, q3⟩ := h
    rw [h1] at a
    simp only [moL, Option.some.injEq, List.cons.injEq, Value.int.injEq, true_and, and_true] at a
    obtain ⟨e1, e2, e3, e4, e5, e6⟩ := a
    subst e1 e2 e3 e4 e5 e6
    exact Or.inr ⟨hc, Z, b, ⟨T', pl, ch, r, bg, h2, q1, q2, by rw [hF.ia (by decide)]; exact c1, by rw [hF.ia (by decide)]; exact c2, by rw [hF.ia (by decide)]; exact c3, by rw [hF.ia (by decide)]; exact c4, q3⟩, q⟩
section NL
variable {X : Nat × (Nat → Int32)} {D : Nat} {P : Option Value → am_H → Prop} {pm vp T m ip due dep : Int32} {ipb : Bool} {l h d : Nat} {f : Nat → Nat} {n O0 m0 : Nat}
theorem lp_nlIn {G : am_H} {a : List (Nat × Nat)} {c : Nat} {g : Nat → Nat} (hl : l ≤ 18) (h1 : am_ob G 23 5 = some (moL pm (nI l) T m ip due dep vp)) (hr : RW G a) (hL : LK G l (fun i => nI (g i))) (ha : ∀ q, rwN a q < 18) (hg : ∀ i, i < l → g i ≤ 17) (hK : am_WP X D 141 56 [some (.ref 23), some (.int (nI c)), some (.int (if eqR (rwN a) g l = true then 1 else 0)), none] [] G 0 0 P) :
    ∀ (k i : Nat), i + k = l → am_WP X D 141 17 [some (.ref 23), some (.int (nI c)), some (.int (if eqR (rwN a) g i = true then 1 else 0)), some (.int (nI i))] [] G 0 0 P := by
  obtain ⟨r, bg, r1, r2, r3, r4⟩ := hr
  obtain ⟨lf, l1, l2⟩ := hL
  have l2 : ∀ i, i < l → lf i = nI (g i) := l2
  intro k
  induction k with
  | zero =>
    intro i hi
    refine am_wps 60 [53, 56] ?_
    simp only [J141_0, J141_1, J141_4, J141_5, J141_6, J141_7, J141_10, J141_13, J141_14, J141_15, J141_16, J141_17, J141_18, J141_19, J141_22, J141_25, J141_26, J141_29, J141_30, J141_33, J141_34, J141_35, J141_36, J141_39, J141_40, J141_41, J141_44, J141_45, J141_48, J141_49, J141_50, J141_53, J141_56, J141_57, J141_60, J141_61, J141_62, J141_65, J141_68, J141_70, am_gg_c, am_gf_c, am_pf_c, am_af_c, am_sf_c, am_bf_c, am_qf_c, am_ap_c, am_bp_c, am_qp_c, am_lf_c, am_kt_s, am_kt_n, am_wst, am_wstop, am_ns_0, am_ns_1, Bool.not_true, Bool.not_false, Bool.true_and, Bool.false_and, Nat.reduceBEq, ↓reduceIte, am_k2_n, am_k2_i, am_k2_r, am_k2_u, am_k2_f, am_k2_l, Nat.zero_le, true_and, and_true, true_or, or_true, am_cat_0, am_cat_i, am_cat_r, am_cat_l, am_cat_n, Nat.reduceLeDiff, Nat.reduceAdd, Option.isSome_some, List.getElem?_cons_zero, List.getElem?_cons_succ, am_fit_i, am_fit_r, am_fit_a, h1]
    rw [if_neg (by rw [nI_ltI (by omega) (by omega)]; omega)]
    rw [show i = l by omega]
    exact am_WP.fg hK (by simp [am_le])
  | succ k ih =>
    intro i hi
    have hn := ih (i + 1) (by omega)
    have hs : eqR (rwN a) g (i + 1) = (eqR (rwN a) g i && (rwN a i == g i)) := rfl
    rw [hs] at hn
    have hai := ha i
    have hgi := hg i (by omega)
    refine am_wps 60 [53, 56] ?_
    simp only [J141_0, J141_1, J141_4, J141_5, J141_6, J141_7, J141_10, J141_13, J141_14, J141_15, J141_16, J141_17, J141_18, J141_19, J141_22, J141_25, J141_26, J141_29, J141_30, J141_33, J141_34, J141_35, J141_36, J141_39, J141_40, J141_41, J141_44, J141_45, J141_48, J141_49, J141_50, J141_53, J141_56, J141_57, J141_60, J141_61, J141_62, J141_65, J141_68, J141_70, am_gg_c, am_gf_c, am_pf_c, am_af_c, am_sf_c, am_bf_c, am_qf_c, am_ap_c, am_bp_c, am_qp_c, am_lf_c, am_kt_s, am_kt_n, am_wst, am_wstop, am_ns_0, am_ns_1, Bool.not_true, Bool.not_false, Bool.true_and, Bool.false_and, Nat.reduceBEq, ↓reduceIte, am_k2_n, am_k2_i, am_k2_r, am_k2_u, am_k2_f, am_k2_l, Nat.zero_le, true_and, and_true, true_or, or_true, am_cat_0, am_cat_i, am_cat_r, am_cat_l, am_cat_n, Nat.reduceLeDiff, Nat.reduceAdd, Option.isSome_some, List.getElem?_cons_zero, List.getElem?_cons_succ, am_fit_i, am_fit_r, am_fit_a, h1, r1, l1]
    rw [if_pos (by rw [nI_ltI (by omega) (by omega)]; omega)]
    cases b : eqR (rwN a) g i with
    | false =>
      simp only [Bool.false_eq_true, if_false, if_true]
      refine am_goto I141_53 ?_
      rw [nI_1]
      rw [b] at hn
      simpa using hn
    | true =>
      rw [b] at hn
      simp only [if_true, if_neg (show ¬ (1 : Int32) = 0 by decide)]
      refine ⟨vp_in_n (by omega) (by omega), vp_in_n (by omega) (by omega), ?_⟩
      rw [nI_clamp (by omega), r3 i (by omega), l2 i (by omega)]
      unfold rwN at hn hai
      by_cases c : rwZ a.reverse i = g i
      · rw [if_pos (by rw [c])]
        refine am_goto I141_53 ?_
        rw [nI_1]
        simpa [c] using hn
      · rw [if_neg (fun e => c (bi_inj (by omega) (by omega) e))]
        refine am_goto I141_53 ?_
        rw [nI_1]
        simpa [c] using hn
theorem lp_nl {G0 : am_H} {g : Nat → Nat} (hl : l ≤ 18) (hD : 4 ≤ D) (hm : ∀ G, Fr kE G0 G → MA G l h d f) (hL : ∀ G, Fr kE G0 G → LK G l (fun i => nI (g i))) (hg : ∀ i, i < l → g i ≤ 17) : ∀ (R : List (List (Nat × Nat))) (c : Nat) (G : am_H), (∀ a ∈ R, ∀ q, rwN a q < 18) → EnS G pm vp ipb f n l O0 m0 R → Fr kE G0 G → (∀ G', EnA G' pm vp → Fr kE G0 G' → P (some (.int (nlF (fun a => eqR (rwN a) g l) R c))) G') → am_WP X D 141 6 [some (.ref 23), some (.int (nI c)), none, none] [] G 0 0 P := by
  intro R
  induction R with
  | nil =>
    intro c G _ hE hF hP
    obtain ⟨len, T, m, ip, due, dep, b1⟩ := hE.a.1
    refine am_wps 60 [17, 65] ?_
    simp only [J141_0, J141_1, J141_4, J141_5, J141_6, J141_7, J141_10, J141_13, J141_14, J141_15, J141_16, J141_17, J141_18, J141_19, J141_22, J141_25, J141_26, J141_29, J141_30, J141_33, J141_34, J141_35, J141_36, J141_39, J141_40, J141_41, J141_44, J141_45, J141_48, J141_49, J141_50, J141_53, J141_56, J141_57, J141_60, J141_61, J141_62, J141_65, J141_68, J141_70, am_gg_c, am_gf_c, am_pf_c, am_af_c, am_sf_c, am_bf_c, am_qf_c, am_ap_c, am_bp_c, am_qp_c, am_lf_c, am_kt_s, am_kt_n, am_wst, am_wstop, am_ns_0, am_ns_1, Bool.not_true, Bool.not_false, Bool.true_and, Bool.false_and, Nat.reduceBEq, ↓reduceIte, am_k2_n, am_k2_i, am_k2_r, am_k2_u, am_k2_f, am_k2_l, Nat.zero_le, true_and, and_true, true_or, or_true, am_cat_0, am_cat_i, am_cat_r, am_cat_l, am_cat_n, Nat.reduceLeDiff, Nat.reduceAdd, Option.isSome_some, List.getElem?_cons_zero, List.getElem?_cons_succ, am_fit_i, am_fit_r, am_fit_a, b1]
    refine sp_adv hD hE (hm G hF) (fun _ G' d1 d2 => ?_) (fun a R' e => by cases e)
    simp only [J141_0, J141_1, J141_4, J141_5, J141_6, J141_7, J141_10, J141_13, J141_14, J141_15, J141_16, J141_17, J141_18, J141_19, J141_22, J141_25, J141_26, J141_29, J141_30, J141_33, J141_34, J141_35, J141_36, J141_39, J141_40, J141_41, J141_44, J141_45, J141_48, J141_49, J141_50, J141_53, J141_56, J141_57, J141_60, J141_61, J141_62, J141_65, J141_68, J141_70, am_gg_c, am_gf_c, am_pf_c, am_af_c, am_sf_c, am_bf_c, am_qf_c, am_ap_c, am_bp_c, am_qp_c, am_lf_c, am_kt_s, am_kt_n, am_wst, am_wstop, am_ns_0, am_ns_1, Bool.not_true, Bool.not_false, Bool.true_and, Bool.false_and, Nat.reduceBEq, ↓reduceIte, am_k2_n, am_k2_i, am_k2_r, am_k2_u, am_k2_f, am_k2_l, Nat.zero_le, true_and, and_true, true_or, or_true, am_cat_0, am_cat_i, am_cat_r, am_cat_l, am_cat_n, Nat.reduceLeDiff, Nat.reduceAdd, Option.isSome_some, List.getElem?_cons_zero, List.getElem?_cons_succ, am_fit_i, am_fit_r, am_fit_a, if_true]
    exact hP G' d1.a (hF.tr d2)
  | cons a R ih =>
    intro c G hR hE hF hP
    obtain ⟨len, T, m, ip, due, dep, b1⟩ := hE.a.1
    have ha := hR a List.mem_cons_self
    refine am_wps 60 [17, 65] ?_
    simp only [J141_0, J141_1, J141_4, J141_5, J141_6, J141_7, J141_10, J141_13, J141_14, J141_15, J141_16, J141_17, J141_18, J141_19, J141_22, J141_25, J141_26, J141_29, J141_30, J141_33, J141_34, J141_35, J141_36, J141_39, J141_40, J141_41, J141_44, J141_45, J141_48, J141_49, J141_50, J141_53, J141_56, J141_57, J141_60, J141_61, J141_62, J141_65, J141_68, J141_70, am_gg_c, am_gf_c, am_pf_c, am_af_c, am_sf_c, am_bf_c, am_qf_c, am_ap_c, am_bp_c, am_qp_c, am_lf_c, am_kt_s, am_kt_n, am_wst, am_wstop, am_ns_0, am_ns_1, Bool.not_true, Bool.not_false, Bool.true_and, Bool.false_and, Nat.reduceBEq, ↓reduceIte, am_k2_n, am_k2_i, am_k2_r, am_k2_u, am_k2_f, am_k2_l, Nat.zero_le, true_and, and_true, true_or, or_true, am_cat_0, am_cat_i, am_cat_r, am_cat_l, am_cat_n, Nat.reduceLeDiff, Nat.reduceAdd, Option.isSome_some, List.getElem?_cons_zero, List.getElem?_cons_succ, am_fit_i, am_fit_r, am_fit_a, b1]
    refine sp_adv hD hE (hm G hF) (fun e => by cases e) (fun a' R' e G' d1 d2 d3 => ?_)
    cases e
    obtain ⟨T, m, ip, due, dep, b2⟩ := d1.lgt
    simp only [J141_0, J141_1, J141_4, J141_5, J141_6, J141_7, J141_10, J141_13, J141_14, J141_15, J141_16, J141_17, J141_18, J141_19, J141_22, J141_25, J141_26, J141_29, J141_30, J141_33, J141_34, J141_35, J141_36, J141_39, J141_40, J141_41, J141_44, J141_45, J141_48, J141_49, J141_50, J141_53, J141_56, J141_57, J141_60, J141_61, J141_62, J141_65, J141_68, J141_70, am_gg_c, am_gf_c, am_pf_c, am_af_c, am_sf_c, am_bf_c, am_qf_c, am_ap_c, am_bp_c, am_qp_c, am_lf_c, am_kt_s, am_kt_n, am_wst, am_wstop, am_ns_0, am_ns_1, Bool.not_true, Bool.not_false, Bool.true_and, Bool.false_and, Nat.reduceBEq, ↓reduceIte, am_k2_n, am_k2_i, am_k2_r, am_k2_u, am_k2_f, am_k2_l, Nat.zero_le, true_and, and_true, true_or, or_true, am_cat_0, am_cat_i, am_cat_r, am_cat_l, am_cat_n, Nat.reduceLeDiff, Nat.reduceAdd, Option.isSome_some, List.getElem?_cons_zero, List.getElem?_cons_succ, am_fit_i, am_fit_r, am_fit_a, if_neg (show ¬ (1 : Int32) = 0 by decide)]
    have hs : nlF (fun a => eqR (rwN a) g l) (a :: R) c = if eqR (rwN a) g l = true then nI c else nlF (fun a => eqR (rwN a) g l) R (c + 1) := rfl
    rw [hs] at hP
    refine lp_nlIn hl b2 d2 (hL G' (hF.tr d3)) ha hg ?_ l 0 (by omega)
    refine am_wps 60 [65] ?_
    simp only [J141_0, J141_1, J141_4, J141_5, J141_6, J141_7, J141_10, J141_13, J141_14, J141_15, J141_16, J141_17, J141_18, J141_19, J141_22, J141_25, J141_26, J141_29, J141_30, J141_33, J141_34, J141_35, J141_36, J141_39, J141_40, J141_41, J141_44, J141_45, J141_48, J141_49, J141_50, J141_53, J141_56, J141_57, J141_60, J141_61, J141_62, J141_65, J141_68, J141_70, am_gg_c, am_gf_c, am_pf_c, am_af_c, am_sf_c, am_bf_c, am_qf_c, am_ap_c, am_bp_c, am_qp_c, am_lf_c, am_kt_s, am_kt_n, am_wst, am_wstop, am_ns_0, am_ns_1, Bool.not_true, Bool.not_false, Bool.true_and, Bool.false_and, Nat.reduceBEq, ↓reduceIte, am_k2_n, am_k2_i, am_k2_r, am_k2_u, am_k2_f, am_k2_l, Nat.zero_le, true_and, and_true, true_or, or_true, am_cat_0, am_cat_i, am_cat_r, am_cat_l, am_cat_n, Nat.reduceLeDiff, Nat.reduceAdd, Option.isSome_some, List.getElem?_cons_zero, List.getElem?_cons_succ, am_fit_i, am_fit_r, am_fit_a]
    cases b : eqR (rwN a) g l with
    | true =>
      rw [b] at hP
      simp only [if_true, if_neg (show ¬ (1 : Int32) = 0 by decide)]
      simpa using hP G' d1.a (hF.tr d3)
    | false =>
      rw [b] at hP
      simp only [Bool.false_eq_true, if_false, if_true]
      refine am_goto I141_65 ?_
      rw [nI_1]
      exact am_WP.fg (ih (c + 1) G' (fun b hb => hR b (List.mem_cons_of_mem _ hb)) d1 (hF.tr d3) (by simpa using hP)) (by simp [am_le])
theorem sp_numLooked {G : am_H} {g : Nat → Nat} (hD : 5 ≤ D) (hE : EnA G pm vp) (hm : MA G l h d f) (hd1 : 1 ≤ (bl d).length) (hd8 : (bl d).length ≤ 8) (hL : LK G l (fun i => nI (g i))) (hg : ∀ i, i < l → g i ≤ 17) (hP : ∀ G', EnA G' pm vp → Fr kE G G' → P (some (.int (nlF (fun a => eqR (rwN a) g l) (arrs true l h d f) 0))) G') : am_CB X D 141 [.ref 23] G P := by
  obtain ⟨D, rfl⟩ : ∃ D0, D = D0 + 1 := ⟨D - 1, by omega⟩
  obtain ⟨len, T, m, ip, due, dep, b1⟩ := hE.1
  have hl := hm.2.2.1
  refine B141 60 [6] ?_
  simp only [J141_0, J141_1, J141_4, J141_5, J141_6, J141_7, J141_10, J141_13, J141_14, J141_15, J141_16, J141_17, J141_18, J141_19, J141_22, J141_25, J141_26, J141_29, J141_30, J141_33, J141_34, J141_35, J141_36, J141_39, J141_40, J141_41, J141_44, J141_45, J141_48, J141_49, J141_50, J141_53, J141_56, J141_57, J141_60, J141_61, J141_62, J141_65, J141_68, J141_70, am_gg_c, am_gf_c, am_pf_c, am_af_c, am_sf_c, am_bf_c, am_qf_c, am_ap_c, am_bp_c, am_qp_c, am_lf_c, am_kt_s, am_kt_n, am_wst, am_wstop, am_ns_0, am_ns_1, Bool.not_true, Bool.not_false, Bool.true_and, Bool.false_and, Nat.reduceBEq, ↓reduceIte, am_k2_n, am_k2_i, am_k2_r, am_k2_u, am_k2_f, am_k2_l, Nat.zero_le, true_and, and_true, true_or, or_true, am_cat_0, am_cat_i, am_cat_r, am_cat_l, am_cat_n, Nat.reduceLeDiff, Nat.reduceAdd, Option.isSome_some, List.getElem?_cons_zero, List.getElem?_cons_succ, am_fit_i, am_fit_r, am_fit_a, b1]
  refine sp_beginOwn (by omega) hE hm hd1 hd8 (fun G1 c1 _ c2 => ?_)
  simp only [J141_0, J141_1, J141_4, J141_5, J141_6, J141_7, J141_10, J141_13, J141_14, J141_15, J141_16, J141_17, J141_18, J141_19, J141_22, J141_25, J141_26, J141_29, J141_30, J141_33, J141_34, J141_35, J141_36, J141_39, J141_40, J141_41, J141_44, J141_45, J141_48, J141_49, J141_50, J141_53, J141_56, J141_57, J141_60, J141_61, J141_62, J141_65, J141_68, J141_70, am_gg_c, am_gf_c, am_pf_c, am_af_c, am_sf_c, am_bf_c, am_qf_c, am_ap_c, am_bp_c, am_qp_c, am_lf_c, am_kt_s, am_kt_n, am_wst, am_wstop, am_ns_0, am_ns_1, Bool.not_true, Bool.not_false, Bool.true_and, Bool.false_and, Nat.reduceBEq, ↓reduceIte, am_k2_n, am_k2_i, am_k2_r, am_k2_u, am_k2_f, am_k2_l, Nat.zero_le, true_and, and_true, true_or, or_true, am_cat_0, am_cat_i, am_cat_r, am_cat_l, am_cat_n, Nat.reduceLeDiff, Nat.reduceAdd, Option.isSome_some, List.getElem?_cons_zero, List.getElem?_cons_succ, am_fit_i, am_fit_r, am_fit_a]
  exact lp_nl (G0 := G1) hl (by omega) (fun G' hF => hm.fr (c2.tr hF) (by decide)) (fun G' hF => hL.fr (c2.tr hF) (by decide)) hg _ 0 G1 (fun a ha q => rwN_lt ha) c1 Fr.rf (fun G' d1 d2 => hP G' d1 (c2.tr d2))
end NL
