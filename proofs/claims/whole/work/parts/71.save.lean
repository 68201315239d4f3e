/-! the reference: save, restore -/
def atN (s : PT) : Nat → Nat
  | 0 => s.1
  | 1 => s.2.1
  | 2 => s.2.2.1
  | k + 3 => s.2.2.2 k
def SLm (G : am_H) (s : Nat → Option PT) : Prop := ∃ sl sv, am_ia G 25 0 = some (42, sl) ∧ am_ia G 26 1 = some (2, sv) ∧ (∀ i, i < 2 → s i = none → sv i = 0) ∧ ∀ i, i < 2 → ∀ q, s i = some q → sv i = 1 ∧ ∀ j, j < 21 → sl (21 * i + j) = nI (atN q j)
theorem SLm.fr {G G' : am_H} {ks : List Nat} {s : Nat → Option PT} (h : SLm G s) (hF : Fr ks G G') (h1 : ¬ 25 ∈ ks) (h2 : ¬ 26 ∈ ks) : SLm G' s := by
  obtain ⟨sl, sv, a, b, c⟩ := h
  exact ⟨sl, sv, by rw [hF.ia h1]; exact a, by rw [hF.ia h2]; exact b, c⟩
def svS (x : Int32) (σ : PT) (s : Nat → Option PT) : Nat → Option PT := if inN x 2 = true then (fun i => if i = x.toInt.toNat then some σ else s i) else s
def svV (x : Int32) (l : Nat) : Int32 := if inN x 2 = true then nI l else -2
def rsS (x : Int32) (σ : PT) (s : Nat → Option PT) : PT := if inN x 2 = true then (s x.toInt.toNat).getD σ else σ
def rsV (x : Int32) (s : Nat → Option PT) : Int32 := if inN x 2 = true then (match s x.toInt.toNat with | none => -5 | some q => nI q.1) else -2
theorem MA.at {af : Nat → Int32} {l h d : Nat} {f : Nat → Nat} (a2 : af 0 = nI l) (a3 : af 1 = nI h) (a4 : af 2 = nI d) (a5 : ∀ q, q < 18 → af (3 + q) = nI (f q)) : ∀ j, j < 21 → af j = nI (atN (l, h, d, f) j) := by
  intro j hj
  match j, hj with
  | 0, _ => exact a2
  | 1, _ => exact a3
  | 2, _ => exact a4
  | k + 3, hj =>
    have := a5 k (by omega)
    rw [Nat.add_comm] at this
    exact this
section SV
variable {X : Nat × (Nat → Int32)} {D : Nat} {P : Option Value → am_H → Prop} {pm len T m ip due dep vp : Int32} {l h d : Nat} {f : Nat → Nat}
theorem lp_save {G0 : am_H} {x : Nat} {af : Nat → Int32} {g0 : Nat → Int32} (hx : x < 2) (h1 : ∀ G, Fr [25] G0 G → am_ob G 23 5 = some (moL pm len T m ip due dep vp)) (ha : ∀ G, Fr [25] G0 G → am_ia G 24 0 = some (21, af)) (hP : ∀ G sl, am_ia G 25 0 = some (42, sl) → (∀ j, j < 42 → sl j = if 21 * x ≤ j ∧ j < 21 * x + 21 then af (j - 21 * x) else g0 j) → Fr [25] G0 G → am_WP X D 163 43 [some (.ref 23), some (.int (nI x)), none] [] G 0 0 P) :
    ∀ (k i : Nat) (G : am_H) (sl : Nat → Int32), i + k = 21 → am_ia G 25 0 = some (42, sl) → (∀ j, j < 42 → sl j = if 21 * x ≤ j ∧ j < 21 * x + i then af (j - 21 * x) else g0 j) → Fr [25] G0 G → am_WP X D 163 14 [some (.ref 23), some (.int (nI x)), some (.int (nI i))] [] G 0 0 P := by
  intro k
  induction k with
  | zero =>
    intro i G sl hi hs hv hF
    refine am_wps 40 [40, 43] ?_
    simp only [J163_0, J163_1, J163_2, J163_3, J163_6, J163_9, J163_11, J163_12, J163_13, J163_14, J163_15, J163_17, J163_20, J163_21, J163_24, J163_26, J163_27, J163_28, J163_29, J163_30, J163_31, J163_34, J163_35, J163_36, J163_37, J163_40, J163_43, J163_44, J163_47, J163_48, J163_49, J163_50, J163_51, J163_54, J163_55, J163_56, am_gg_c, am_gf_c, am_pf_c, am_af_c, am_sf_c, am_bf_c, am_qf_c, am_ap_c, am_bp_c, am_qp_c, am_lf_c, am_kt_s, am_kt_n, am_wst, am_wstop, am_ns_0, am_ns_1, Bool.not_true, Bool.not_false, Bool.true_and, Bool.false_and, Nat.reduceBEq, ↓reduceIte, am_k2_n, am_k2_i, am_k2_r, am_k2_u, am_k2_f, am_k2_l, Nat.zero_le, true_and, and_true, true_or, or_true, am_cat_0, am_cat_i, am_cat_r, am_cat_l, am_cat_n, Nat.reduceLeDiff, Nat.reduceAdd, Option.isSome_some, List.getElem?_cons_zero, List.getElem?_cons_succ, am_fit_i, am_fit_r, am_fit_a]
    rw [if_neg (by rw [show i = 21 by omega]; decide)]
    rw [show i = 21 by omega] at hv
    exact am_WP.fg (hP G sl hs hv hF) (by simp [am_le])
  | succ k ih =>
    intro i G sl hi hs hv hF
    have k1 := h1 G hF
    have a1 := ha G hF
    have k25 := am_ia_lt hs
    refine am_wps 40 [40, 43] ?_
    simp only [J163_0, J163_1, J163_2, J163_3, J163_6, J163_9, J163_11, J163_12, J163_13, J163_14, J163_15, J163_17, J163_20, J163_21, J163_24, J163_26, J163_27, J163_28, J163_29, J163_30, J163_31, J163_34, J163_35, J163_36, J163_37, J163_40, J163_43, J163_44, J163_47, J163_48, J163_49, J163_50, J163_51, J163_54, J163_55, J163_56, am_gg_c, am_gf_c, am_pf_c, am_af_c, am_sf_c, am_bf_c, am_qf_c, am_ap_c, am_bp_c, am_qp_c, am_lf_c, am_kt_s, am_kt_n, am_wst, am_wstop, am_ns_0, am_ns_1, Bool.not_true, Bool.not_false, Bool.true_and, Bool.false_and, Nat.reduceBEq, ↓reduceIte, am_k2_n, am_k2_i, am_k2_r, am_k2_u, am_k2_f, am_k2_l, Nat.zero_le, true_and, and_true, true_or, or_true, am_cat_0, am_cat_i, am_cat_r, am_cat_l, am_cat_n, Nat.reduceLeDiff, Nat.reduceAdd, Option.isSome_some, List.getElem?_cons_zero, List.getElem?_cons_succ, am_fit_i, am_fit_r, am_fit_a, k1, a1, hs]
    rw [if_pos (by rw [show (21 : Int32) = nI 21 by rfl, nI_ltI (by omega) (by omega)]; omega)]
    have e : (21 : Int32) * nI x + nI i = nI (21 * x + i) := by rw [show (21 : Int32) = nI 21 by rfl, pk_mul, nI_add]
    rw [e]
    refine ⟨vp_in_n (by omega) (by omega), vp_in_n (by omega) (by omega), am_goto I163_40 ?_⟩
    rw [nI_1, nI_clamp (by omega), nI_clamp (by omega)]
    refine ih (i + 1) _ _ (by omega) (am_ia_ss k25) (fun j hj => ?_) (hF.tr (Fr.set (by decide)))
    rw [upd_at]
    by_cases c : j = 21 * x + i
    · rw [if_pos c, if_pos (by omega), show j - 21 * x = i by omega]
    · rw [if_neg c, hv j hj]
      by_cases c2 : 21 * x ≤ j ∧ j < 21 * x + i
      · rw [if_pos c2, if_pos (by omega)]
      · rw [if_neg c2, if_neg (by omega)]
theorem sp_msave {G : am_H} {x : Int32} {s : Nat → Option PT} (hD : 2 ≤ D) (h1 : am_ob G 23 5 = some (moL pm len T m ip due dep vp)) (hm : MA G l h d f) (hs : SLm G s) (hP : ∀ G', SLm G' (svS x (l, h, d, f) s) → Fr [25, 26] G G' → P (some (.int (svV x l))) G') : am_CB X D 163 [.ref 23, .int x] G P := by
  obtain ⟨D, rfl⟩ : ∃ D0, D = D0 + 1 := ⟨D - 1, by omega⟩
  obtain ⟨⟨af, a1, a2, a3, a4, a5⟩, hl1, hl, hh, hd, hd0, hf⟩ := id hm
  obtain ⟨sl, sv, b1, b2, b3, b4⟩ := id hs
  have h0 : af (0 : Int32).toNatClampNeg = nI l := a2
  unfold svS svV at hP
  refine B163 60 [14] ?_
  simp only [J163_0, J163_1, J163_2, J163_3, J163_6, J163_9, J163_11, J163_12, J163_13, J163_14, J163_15, J163_17, J163_20, J163_21, J163_24, J163_26, J163_27, J163_28, J163_29, J163_30, J163_31, J163_34, J163_35, J163_36, J163_37, J163_40, J163_43, J163_44, J163_47, J163_48, J163_49, J163_50, J163_51, J163_54, J163_55, J163_56, am_gg_c, am_gf_c, am_pf_c, am_af_c, am_sf_c, am_bf_c, am_qf_c, am_ap_c, am_bp_c, am_qp_c, am_lf_c, am_kt_s, am_kt_n, am_wst, am_wstop, am_ns_0, am_ns_1, Bool.not_true, Bool.not_false, Bool.true_and, Bool.false_and, Nat.reduceBEq, ↓reduceIte, am_k2_n, am_k2_i, am_k2_r, am_k2_u, am_k2_f, am_k2_l, Nat.zero_le, true_and, and_true, true_or, or_true, am_cat_0, am_cat_i, am_cat_r, am_cat_l, am_cat_n, Nat.reduceLeDiff, Nat.reduceAdd, Option.isSome_some, List.getElem?_cons_zero, List.getElem?_cons_succ, am_fit_i, am_fit_r, am_fit_a, h1]
  refine sp_in (by omega) ?_
  simp only [J163_0, J163_1, J163_2, J163_3, J163_6, J163_9, J163_11, J163_12, J163_13, J163_14, J163_15, J163_17, J163_20, J163_21, J163_24, J163_26, J163_27, J163_28, J163_29, J163_30, J163_31, J163_34, J163_35, J163_36, J163_37, J163_40, J163_43, J163_44, J163_47, J163_48, J163_49, J163_50, J163_51, J163_54, J163_55, J163_56, am_gg_c, am_gf_c, am_pf_c, am_af_c, am_sf_c, am_bf_c, am_qf_c, am_ap_c, am_bp_c, am_qp_c, am_lf_c, am_kt_s, am_kt_n, am_wst, am_wstop, am_ns_0, am_ns_1, Bool.not_true, Bool.not_false, Bool.true_and, Bool.false_and, Nat.reduceBEq, ↓reduceIte, am_k2_n, am_k2_i, am_k2_r, am_k2_u, am_k2_f, am_k2_l, Nat.zero_le, true_and, and_true, true_or, or_true, am_cat_0, am_cat_i, am_cat_r, am_cat_l, am_cat_n, Nat.reduceLeDiff, Nat.reduceAdd, Option.isSome_some, List.getElem?_cons_zero, List.getElem?_cons_succ, am_fit_i, am_fit_r, am_fit_a, h1]
  rw [show (0 : Int32).toInt = 0 by rfl, show (1 : Int32).toInt = 1 by rfl]
  by_cases c : 0 ≤ x.toInt ∧ x.toInt ≤ 1
  · have hb : inN x 2 = true := decide_eq_true (by omega)
    rw [hb] at hP
    simp only [if_true] at hP
    rw [if_pos c, if_neg (by decide)]
    obtain ⟨xn, rfl, hx⟩ := inN_of hb (by omega)
    rw [nI_toInt (by omega), Int.toNat_natCast] at hP
    refine am_WP.fg (lp_save (G0 := G) (g0 := sl) hx (fun G' hF => (by rw [hF.ob (by decide)]; exact h1)) (fun G' hF => (by rw [hF.ia (by decide)]; exact a1)) (fun G1 sl1 c1 c2 hF => ?_) 21 0 G sl rfl b1 (fun j hj => by rw [if_neg (by omega)]) Fr.rf) (by simp [am_le, nI_0])
    have k1 : am_ob G1 23 5 = some (moL pm len T m ip due dep vp) := by rw [hF.ob (by decide)]; exact h1
    have q26 : am_ia G1 26 1 = some (2, sv) := by rw [hF.ia (by decide)]; exact b2
    have q24 : am_ia G1 24 0 = some (21, af) := by rw [hF.ia (by decide)]; exact a1
    have k26 := am_ia_lt q26
    have e1 : vp_nar .boolean 1 = 1 := rfl
    refine am_wps 40 [] ?_
    simp only [J163_0, J163_1, J163_2, J163_3, J163_6, J163_9, J163_11, J163_12, J163_13, J163_14, J163_15, J163_17, J163_20, J163_21, J163_24, J163_26, J163_27, J163_28, J163_29, J163_30, J163_31, J163_34, J163_35, J163_36, J163_37, J163_40, J163_43, J163_44, J163_47, J163_48, J163_49, J163_50, J163_51, J163_54, J163_55, J163_56, am_gg_c, am_gf_c, am_pf_c, am_af_c, am_sf_c, am_bf_c, am_qf_c, am_ap_c, am_bp_c, am_qp_c, am_lf_c, am_kt_s, am_kt_n, am_wst, am_wstop, am_ns_0, am_ns_1, Bool.not_true, Bool.not_false, Bool.true_and, Bool.false_and, Nat.reduceBEq, ↓reduceIte, am_k2_n, am_k2_i, am_k2_r, am_k2_u, am_k2_f, am_k2_l, Nat.zero_le, true_and, and_true, true_or, or_true, am_cat_0, am_cat_i, am_cat_r, am_cat_l, am_cat_n, Nat.reduceLeDiff, Nat.reduceAdd, Option.isSome_some, List.getElem?_cons_zero, List.getElem?_cons_succ, am_fit_i, am_fit_r, am_fit_a, k1, q26, q24, am_ob_sn (show 26 ≠ 23 by decide), am_ia_sn (show 26 ≠ 24 by decide), h0]
    refine ⟨vp_in_n (by omega) (by omega), vp_lit (k := 0) rfl (by omega) (by omega), ?_⟩
    rw [nI_clamp (by omega), e1]
    refine hP _ ⟨sl1, _, (by rw [am_ia_sn (show 26 ≠ 25 by decide)]; exact c1), am_ia_ss k26, fun i hi hn => ?_, fun i hi q hq => ?_⟩ ((hF.up (by decide)).tr (Fr.set (by decide)))
    · have hn : (if i = xn then some (l, h, d, f) else s i) = none := hn
      rw [upd_at]
      by_cases z : i = xn
      · simp [z] at hn
      · rw [if_neg z]
        rw [if_neg z] at hn
        exact b3 i hi hn
    · have hq : (if i = xn then some (l, h, d, f) else s i) = some q := hq
      rw [upd_at]
      by_cases z : i = xn
      · rw [if_pos z] at hq
        cases hq
        rw [if_pos z]
        refine ⟨rfl, fun j hj => ?_⟩
        rw [c2 _ (by omega), if_pos (by omega), show 21 * i + j - 21 * xn = j by omega]
        exact MA.at a2 a3 a4 a5 j hj
      · rw [if_neg z] at hq
        rw [if_neg z]
        obtain ⟨u1, u2⟩ := b4 i hi q hq
        refine ⟨u1, fun j hj => ?_⟩
        rw [c2 _ (by omega), if_neg (by omega)]
        exact u2 j hj
  · have hb : inN x 2 = false := decide_eq_false (by omega)
    rw [hb] at hP
    rw [if_neg c, if_pos rfl]
    exact hP G hs Fr.rf
theorem lp_restore {G0 : am_H} {x : Nat} {sl : Nat → Int32} (hx : x < 2) (h1 : ∀ G, Fr [24] G0 G → am_ob G 23 5 = some (moL pm len T m ip due dep vp)) (hs : ∀ G, Fr [24] G0 G → am_ia G 25 0 = some (42, sl)) (hP : ∀ G af, am_ia G 24 0 = some (21, af) → (∀ j, j < 21 → af j = sl (21 * x + j)) → Fr [24] G0 G → am_WP X D 164 55 [some (.ref 23), some (.int (nI x)), none] [] G 0 0 P) :
    ∀ (k i : Nat) (G : am_H) (af : Nat → Int32), i + k = 21 → am_ia G 24 0 = some (21, af) → (∀ j, j < i → af j = sl (21 * x + j)) → Fr [24] G0 G → am_WP X D 164 26 [some (.ref 23), some (.int (nI x)), some (.int (nI i))] [] G 0 0 P := by
  intro k
  induction k with
  | zero =>
    intro i G af hi ha hv hF
    refine am_wps 40 [52, 55] ?_
    simp only [J164_0, J164_1, J164_2, J164_3, J164_6, J164_9, J164_11, J164_12, J164_13, J164_16, J164_17, J164_18, J164_21, J164_23, J164_24, J164_25, J164_26, J164_27, J164_29, J164_32, J164_33, J164_36, J164_37, J164_38, J164_41, J164_43, J164_44, J164_45, J164_46, J164_47, J164_48, J164_49, J164_52, J164_55, J164_56, J164_59, J164_60, J164_61, am_gg_c, am_gf_c, am_pf_c, am_af_c, am_sf_c, am_bf_c, am_qf_c, am_ap_c, am_bp_c, am_qp_c, am_lf_c, am_kt_s, am_kt_n, am_wst, am_wstop, am_ns_0, am_ns_1, Bool.not_true, Bool.not_false, Bool.true_and, Bool.false_and, Nat.reduceBEq, ↓reduceIte, am_k2_n, am_k2_i, am_k2_r, am_k2_u, am_k2_f, am_k2_l, Nat.zero_le, true_and, and_true, true_or, or_true, am_cat_0, am_cat_i, am_cat_r, am_cat_l, am_cat_n, Nat.reduceLeDiff, Nat.reduceAdd, Option.isSome_some, List.getElem?_cons_zero, List.getElem?_cons_succ, am_fit_i, am_fit_r, am_fit_a]
    rw [if_neg (by rw [show i = 21 by omega]; decide)]
    rw [show i = 21 by omega] at hv
    exact am_WP.fg (hP G af ha hv hF) (by simp [am_le])
  | succ k ih =>
    intro i G af hi ha hv hF
    have k1 := h1 G hF
    have b1 := hs G hF
    have k24 := am_ia_lt ha
    refine am_wps 40 [52, 55] ?_
    simp only [J164_0, J164_1, J164_2, J164_3, J164_6, J164_9, J164_11, J164_12, J164_13, J164_16, J164_17, J164_18, J164_21, J164_23, J164_24, J164_25, J164_26, J164_27, J164_29, J164_32, J164_33, J164_36, J164_37, J164_38, J164_41, J164_43, J164_44, J164_45, J164_46, J164_47, J164_48, J164_49, J164_52, J164_55, J164_56, J164_59, J164_60, J164_61, am_gg_c, am_gf_c, am_pf_c, am_af_c, am_sf_c, am_bf_c, am_qf_c, am_ap_c, am_bp_c, am_qp_c, am_lf_c, am_kt_s, am_kt_n, am_wst, am_wstop, am_ns_0, am_ns_1, Bool.not_true, Bool.not_false, Bool.true_and, Bool.false_and, Nat.reduceBEq, ↓reduceIte, am_k2_n, am_k2_i, am_k2_r, am_k2_u, am_k2_f, am_k2_l, Nat.zero_le, true_and, and_true, true_or, or_true, am_cat_0, am_cat_i, am_cat_r, am_cat_l, am_cat_n, Nat.reduceLeDiff, Nat.reduceAdd, Option.isSome_some, List.getElem?_cons_zero, List.getElem?_cons_succ, am_fit_i, am_fit_r, am_fit_a, k1, b1, ha]
    rw [if_pos (by rw [show (21 : Int32) = nI 21 by rfl, nI_ltI (by omega) (by omega)]; omega)]
    have e : (21 : Int32) * nI x + nI i = nI (21 * x + i) := by rw [show (21 : Int32) = nI 21 by rfl, pk_mul, nI_add]
    rw [e]
    refine ⟨vp_in_n (by omega) (by omega), vp_in_n (by omega) (by omega), am_goto I164_52 ?_⟩
    rw [nI_1, nI_clamp (by omega), nI_clamp (by omega)]
    refine ih (i + 1) _ _ (by omega) (am_ia_ss k24) (fun j hj => ?_) (hF.tr (Fr.set (by decide)))
    rw [upd_at]
    by_cases c : j = i
    · rw [if_pos c, c]
    · rw [if_neg c]; exact hv j (by omega)
/-- a problem that may stand -/
def WF (s : PT) : Prop := 1 ≤ s.1 ∧ s.1 ≤ 18 ∧ s.2.1 < 2 ^ s.1 ∧ s.2.2.1 < 2 ^ 18 ∧ s.2.2.1.testBit 0 = false ∧ (∀ j, s.2.2.2 j ≤ 17) ∧ 1 ≤ (bl s.2.2.1).length ∧ (bl s.2.2.1).length ≤ 8
theorem sp_mrestore {G : am_H} {x : Int32} {s : Nat → Option PT} (hD : 2 ≤ D) (h1 : am_ob G 23 5 = some (moL pm len T m ip due dep vp)) (hm : MA G l h d f) (hs : SLm G s) (hw : ∀ i q, i < 2 → s i = some q → WF q) (hP : ∀ G', MA G' (rsS x (l, h, d, f) s).1 (rsS x (l, h, d, f) s).2.1 (rsS x (l, h, d, f) s).2.2.1 (rsS x (l, h, d, f) s).2.2.2 → Fr [24] G G' → P (some (.int (rsV x s))) G') : am_CB X D 164 [.ref 23, .int x] G P := by
  obtain ⟨D, rfl⟩ : ∃ D0, D = D0 + 1 := ⟨D - 1, by omega⟩
  obtain ⟨⟨af, a1, a2, a3, a4, a5⟩, hl1, hl, hh, hd, hd0, hf⟩ := id hm
  obtain ⟨sl, sv, b1, b2, b3, b4⟩ := id hs
  unfold rsS rsV at hP
  refine B164 60 [26] ?_
  simp only [J164_0, J164_1, J164_2, J164_3, J164_6, J164_9, J164_11, J164_12, J164_13, J164_16, J164_17, J164_18, J164_21, J164_23, J164_24, J164_25, J164_26, J164_27, J164_29, J164_32, J164_33, J164_36, J164_37, J164_38, J164_41, J164_43, J164_44, J164_45, J164_46, J164_47, J164_48, J164_49, J164_52, J164_55, J164_56, J164_59, J164_60, J164_61, am_gg_c, am_gf_c, am_pf_c, am_af_c, am_sf_c, am_bf_c, am_qf_c, am_ap_c, am_bp_c, am_qp_c, am_lf_c, am_kt_s, am_kt_n, am_wst, am_wstop, am_ns_0, am_ns_1, Bool.not_true, Bool.not_false, Bool.true_and, Bool.false_and, Nat.reduceBEq, ↓reduceIte, am_k2_n, am_k2_i, am_k2_r, am_k2_u, am_k2_f, am_k2_l, Nat.zero_le, true_and, and_true, true_or, or_true, am_cat_0, am_cat_i, am_cat_r, am_cat_l, am_cat_n, Nat.reduceLeDiff, Nat.reduceAdd, Option.isSome_some, List.getElem?_cons_zero, List.getElem?_cons_succ, am_fit_i, am_fit_r, am_fit_a, h1]
  refine sp_in (by omega) ?_
  simp only [J164_0, J164_1, J164_2, J164_3, J164_6, J164_9, J164_11, J164_12, J164_13, J164_16, J164_17, J164_18, J164_21, J164_23, J164_24, J164_25, J164_26, J164_27, J164_29, J164_32, J164_33, J164_36, J164_37, J164_38, J164_41, J164_43, J164_44, J164_45, J164_46, J164_47, J164_48, J164_49, J164_52, J164_55, J164_56, J164_59, J164_60, J164_61, am_gg_c, am_gf_c, am_pf_c, am_af_c, am_sf_c, am_bf_c, am_qf_c, am_ap_c, am_bp_c, am_qp_c, am_lf_c, am_kt_s, am_kt_n, am_wst, am_wstop, am_ns_0, am_ns_1, Bool.not_true, Bool.not_false, Bool.true_and, Bool.false_and, Nat.reduceBEq, ↓reduceIte, am_k2_n, am_k2_i, am_k2_r, am_k2_u, am_k2_f, am_k2_l, Nat.zero_le, true_and, and_true, true_or, or_true, am_cat_0, am_cat_i, am_cat_r, am_cat_l, am_cat_n, Nat.reduceLeDiff, Nat.reduceAdd, Option.isSome_some, List.getElem?_cons_zero, List.getElem?_cons_succ, am_fit_i, am_fit_r, am_fit_a, h1, b2]
  rw [show (0 : Int32).toInt = 0 by rfl, show (1 : Int32).toInt = 1 by rfl]
  by_cases c : 0 ≤ x.toInt ∧ x.toInt ≤ 1
  · have hb : inN x 2 = true := decide_eq_true (by omega)
    rw [hb] at hP
    simp only [if_true] at hP
    rw [if_pos c, if_neg (by decide)]
    obtain ⟨xn, rfl, hx⟩ := inN_of hb (by omega)
    rw [nI_toInt (by omega), Int.toNat_natCast] at hP
    refine ⟨vp_in_n (by omega) (by omega), ?_⟩
    rw [nI_clamp (by omega)]
    cases hsx : s xn with
    | none =>
      rw [hsx] at hP
      rw [b3 xn hx hsx, if_pos rfl]
      exact hP G hm Fr.rf
    | some q =>
      rw [hsx] at hP
      simp only [Option.getD_some] at hP
      obtain ⟨u1, u2⟩ := b4 xn hx q hsx
      obtain ⟨w1, w2, w3, w4, w5, w6, w7, w8⟩ := hw xn q hx hsx
      rw [u1, if_neg (by decide)]
      refine am_WP.fg (lp_restore (G0 := G) (sl := sl) hx (fun G' hF => (by rw [hF.ob (by decide)]; exact h1)) (fun G' hF => (by rw [hF.ia (by decide)]; exact b1)) (fun G1 af1 c1 c2 hF => ?_) 21 0 G af rfl a1 (fun j hj => by omega) Fr.rf) (by simp [am_le, nI_0])
      have k1 : am_ob G1 23 5 = some (moL pm len T m ip due dep vp) := by rw [hF.ob (by decide)]; exact h1
      have h0 : af1 (0 : Int32).toNatClampNeg = nI q.1 := (c2 0 (by omega)).trans (u2 0 (by omega))
      refine am_wps 40 [] ?_
      simp only [J164_0, J164_1, J164_2, J164_3, J164_6, J164_9, J164_11, J164_12, J164_13, J164_16, J164_17, J164_18, J164_21, J164_23, J164_24, J164_25, J164_26, J164_27, J164_29, J164_32, J164_33, J164_36, J164_37, J164_38, J164_41, J164_43, J164_44, J164_45, J164_46, J164_47, J164_48, J164_49, J164_52, J164_55, J164_56, J164_59, J164_60, J164_61, am_gg_c, am_gf_c, am_pf_c, am_af_c, am_sf_c, am_bf_c, am_qf_c, am_ap_c, am_bp_c, am_qp_c, am_lf_c, am_kt_s, am_kt_n, am_wst, am_wstop, am_ns_0, am_ns_1, Bool.not_true, Bool.not_false, Bool.true_and, Bool.false_and, Nat.reduceBEq, ↓reduceIte, am_k2_n, am_k2_i, am_k2_r, am_k2_u, am_k2_f, am_k2_l, Nat.zero_le, true_and, and_true, true_or, or_true, am_cat_0, am_cat_i, am_cat_r, am_cat_l, am_cat_n, Nat.reduceLeDiff, Nat.reduceAdd, Option.isSome_some, List.getElem?_cons_zero, List.getElem?_cons_succ, am_fit_i, am_fit_r, am_fit_a, k1, c1, h0]
      refine ⟨vp_lit (k := 0) rfl (by omega) (by omega), ?_⟩
      refine hP G1 ⟨⟨af1, c1, h0, (c2 1 (by omega)).trans (u2 1 (by omega)), (c2 2 (by omega)).trans (u2 2 (by omega)), fun j hj => ?_⟩, w1, w2, w3, w4, w5, w6⟩ hF
      have := (c2 (3 + j) (by omega)).trans (u2 (3 + j) (by omega))
      rw [Nat.add_comm 3 j] at this ⊢
      exact this
  · have hb : inN x 2 = false := decide_eq_false (by omega)
    rw [hb] at hP
    rw [if_neg c, if_pos rfl]
    exact hP G hm Fr.rf
end SV
