/-! the reference: lay, set, layFor, langford, near -/
abbrev PT : Type := Nat × Nat × Nat × (Nat → Nat)
def stOK (x y z : Int32) : Bool := decide (1 ≤ x.toInt ∧ x.toInt ≤ 18 ∧ 0 ≤ y.toInt ∧ y.toInt < ((2 ^ x.toInt.toNat : Nat) : Int) ∧ 0 ≤ z.toInt ∧ z.toInt < 262144) && !z.toInt.toNat.testBit 0 && decide (1 ≤ (bl z.toInt.toNat).length ∧ (bl z.toInt.toNat).length ≤ 8)
def stS (x y z : Int32) (s : PT) : PT := if stOK x y z = true then (x.toInt.toNat, y.toInt.toNat, z.toInt.toNat, fun _ => 0) else s
def stV (x y z : Int32) : Int32 := if stOK x y z = true then nI (bl z.toInt.toNat).length else -2
def tgS (d : Nat) (b : Bool) : PT := (2 * (bl d).length + (if b = true then 1 else 0), if b = true then 2 ^ (2 * (bl d).length + 1 - 2) else 0, d, fun _ => 0)
def lgD (x y : Int32) : Nat := (2 ^ y.toInt.toNat - 1) * 2 ^ x.toInt.toNat
def lgOK (x y : Int32) : Bool := decide (1 ≤ x.toInt ∧ x.toInt ≤ 10 ∧ 1 ≤ y.toInt ∧ y.toInt ≤ 8)
def lgS (x y : Int32) (b : Bool) (s : PT) : PT := if lgOK x y = true then tgS (lgD x y) b else s
def lgV (x y : Int32) (b : Bool) : Int32 := if lgOK x y = true then nI (tgS (lgD x y) b).1 else -2
def nrD (x y : Int32) : Nat := (2 ^ x.toInt.toNat - 1) * 2 &&& (2 ^ y.toInt.toNat ^^^ 4294967295)
def nrOK (x y : Int32) : Bool := decide (2 ≤ x.toInt ∧ x.toInt ≤ 9 ∧ 1 ≤ y.toInt ∧ y.toInt ≤ x.toInt)
def nrS (x y : Int32) (b : Bool) (s : PT) : PT := if nrOK x y = true then tgS (nrD x y) b else s
def nrV (x y : Int32) (b : Bool) : Int32 := if nrOK x y = true then nI (tgS (nrD x y) b).1 else -2
def lgC (m : Nat) : Bool := decide (m < 2 ^ 18) && !m.testBit 0 && decide (1 ≤ (bl m).length) && decide ((bl m).length ≤ 8)
theorem lgC_s {m : Nat} (h : lgC m = true) : m < 2 ^ 18 ∧ m.testBit 0 = false ∧ 1 ≤ (bl m).length ∧ (bl m).length ≤ 8 := by
  unfold lgC at h
  simp only [Bool.and_eq_true, decide_eq_true_eq, Bool.not_eq_true'] at h
  exact ⟨h.1.1.1, h.1.1.2, h.1.2, h.2⟩
theorem lgD_c : ∀ x, x < 10 → ∀ y, y < 8 → lgC ((2 ^ (y + 1) - 1) * 2 ^ (x + 1)) = true := by decide +kernel
theorem nrD_c : ∀ x, x < 8 → ∀ y, y < x + 2 → lgC ((2 ^ (x + 2) - 1) * 2 &&& (2 ^ (y + 1) ^^^ 4294967295)) = true := by decide +kernel
theorem lgD_ok (x : Nat) (hx : x ≤ 10) (y : Nat) (hy : y ≤ 8) (h1 : 1 ≤ x) (h2 : 1 ≤ y) : (2 ^ y - 1) * 2 ^ x < 2 ^ 18 ∧ ((2 ^ y - 1) * 2 ^ x).testBit 0 = false ∧ 1 ≤ (bl ((2 ^ y - 1) * 2 ^ x)).length ∧ (bl ((2 ^ y - 1) * 2 ^ x)).length ≤ 8 := by
  have := lgC_s (lgD_c (x - 1) (by omega) (y - 1) (by omega))
  rw [show y - 1 + 1 = y by omega, show x - 1 + 1 = x by omega] at this
  exact this
theorem nrD_ok (x : Nat) (hx : x ≤ 9) (y : Nat) (hy : y ≤ x) (h1 : 2 ≤ x) (h2 : 1 ≤ y) : ((2 ^ x - 1) * 2 &&& (2 ^ y ^^^ 4294967295)) < 2 ^ 18 ∧ ((2 ^ x - 1) * 2 &&& (2 ^ y ^^^ 4294967295)).testBit 0 = false ∧ 1 ≤ (bl ((2 ^ x - 1) * 2 &&& (2 ^ y ^^^ 4294967295))).length ∧ (bl ((2 ^ x - 1) * 2 &&& (2 ^ y ^^^ 4294967295))).length ≤ 8 := by
  have := lgC_s (nrD_c (x - 2) (by omega) (y - 1) (by omega))
  rw [show y - 1 + 1 = y by omega, show x - 2 + 2 = x by omega] at this
  exact this
theorem bl_ge2 {d : Nat} (hd : d < 2 ^ 18) (h0 : d.testBit 0 = false) : 2 ≤ d ↔ 1 ≤ (bl d).length := by
  constructor
  · intro h
    rcases Nat.eq_zero_or_pos (bl d).length with z | z
    · have := bl_zero hd (List.eq_nil_of_length_eq_zero z)
      omega
    · exact z
  · intro h
    rcases Nat.lt_or_ge d 2 with z | z
    · have : d = 0 ∨ d = 1 := by omega
      rcases this with e | e
      · subst e
        have : bl 0 = [] := by decide +kernel
        rw [this] at h; simp at h
      · subst e
        cases h0
    · exact z
section ST
variable {X : Nat × (Nat → Int32)} {D : Nat} {P : Option Value → am_H → Prop} {pm len T m ip due dep vp : Int32} {l h d : Nat} {f : Nat → Nat}
theorem lp_lay {G0 : am_H} {lx hx dx : Int32} (h1 : ∀ G, Fr [24] G0 G → am_ob G 23 5 = some (moL pm len T m ip due dep vp)) (hP : ∀ G' af, am_ia G' 24 0 = some (21, af) → af 0 = lx → af 1 = hx → af 2 = dx → (∀ q, q < 18 → af (3 + q) = 0) → Fr [24] G0 G' → P none G') : ∀ (k i : Nat) (G : am_H) (af : Nat → Int32), i + k = 18 → am_ia G 24 0 = some (21, af) → af 0 = lx → af 1 = hx → af 2 = dx → (∀ q, q < i → af (3 + q) = 0) → Fr [24] G0 G → am_WP X D 96 24 [some (.ref 23), some (.int lx), some (.int hx), some (.int dx), some (.int (nI i))] [] G 0 0 P := by
  intro k
  induction k with
  | zero =>
    intro i G af hi a1 a2 a3 a4 a5 hF
    refine am_wps 40 [44] ?_
    simp only [J96_0, J96_1, J96_4, J96_5, J96_6, J96_7, J96_8, J96_11, J96_12, J96_13, J96_14, J96_15, J96_18, J96_19, J96_20, J96_21, J96_22, J96_24, J96_26, J96_28, J96_31, J96_32, J96_35, J96_36, J96_38, J96_39, J96_40, J96_41, J96_44, J96_47, am_gg_c, am_gf_c, am_pf_c, am_af_c, am_sf_c, am_bf_c, am_qf_c, am_ap_c, am_bp_c, am_qp_c, am_lf_c, am_kt_s, am_kt_n, am_wst, am_wstop, am_ns_0, am_ns_1, Bool.not_true, Bool.not_false, Bool.true_and, Bool.false_and, Nat.reduceBEq, ↓reduceIte, am_k2_n, am_k2_i, am_k2_r, am_k2_u, am_k2_f, am_k2_l, Nat.zero_le, true_and, and_true, true_or, or_true, am_cat_0, am_cat_i, am_cat_r, am_cat_l, am_cat_n, Nat.reduceLeDiff, Nat.reduceAdd, Option.isSome_some, List.getElem?_cons_zero, List.getElem?_cons_succ, am_fit_i, am_fit_r, am_fit_a]
    rw [if_neg (by rw [show i = 18 by omega]; decide)]
    exact hP G af a1 a2 a3 a4 (fun q hq => a5 q (by omega)) hF
  | succ k ih =>
    intro i G af hi a1 a2 a3 a4 a5 hF
    have k1 := h1 G hF
    have k24 := am_ia_lt a1
    refine am_wps 40 [44] ?_
    simp only [J96_0, J96_1, J96_4, J96_5, J96_6, J96_7, J96_8, J96_11, J96_12, J96_13, J96_14, J96_15, J96_18, J96_19, J96_20, J96_21, J96_22, J96_24, J96_26, J96_28, J96_31, J96_32, J96_35, J96_36, J96_38, J96_39, J96_40, J96_41, J96_44, J96_47, am_gg_c, am_gf_c, am_pf_c, am_af_c, am_sf_c, am_bf_c, am_qf_c, am_ap_c, am_bp_c, am_qp_c, am_lf_c, am_kt_s, am_kt_n, am_wst, am_wstop, am_ns_0, am_ns_1, Bool.not_true, Bool.not_false, Bool.true_and, Bool.false_and, Nat.reduceBEq, ↓reduceIte, am_k2_n, am_k2_i, am_k2_r, am_k2_u, am_k2_f, am_k2_l, Nat.zero_le, true_and, and_true, true_or, or_true, am_cat_0, am_cat_i, am_cat_r, am_cat_l, am_cat_n, Nat.reduceLeDiff, Nat.reduceAdd, Option.isSome_some, List.getElem?_cons_zero, List.getElem?_cons_succ, am_fit_i, am_fit_r, am_fit_a, k1, a1]
    rw [if_pos (by rw [show (18 : Int32) = nI 18 by rfl, nI_ltI (by omega) (by omega)]; omega)]
    have hin : vp_in (3 + nI i) 21 := vp_lit (k := 3 + i) (by rw [show (3 : Int32) = nI 3 by rfl, nI_add]) (by omega) (by omega)
    have ec : (3 + nI i).toNatClampNeg = 3 + i := by rw [show (3 : Int32) = nI 3 by rfl, nI_add, nI_clamp (by omega)]
    refine ⟨hin, am_goto I96_44 ?_⟩
    rw [nI_1, ec]
    refine ih (i + 1) _ (upd af (3 + i) 0) (by omega) (am_ia_ss k24) ?_ ?_ ?_ (fun q hq => ?_) (hF.tr (Fr.set (by decide)))
    · rw [upd_at, if_neg (by omega)]; exact a2
    · rw [upd_at, if_neg (by omega)]; exact a3
    · rw [upd_at, if_neg (by omega)]; exact a4
    · rw [upd_at]
      by_cases z : 3 + q = 3 + i
      · rw [if_pos z]
      · rw [if_neg z]; exact a5 q (by omega)
theorem sp_lay {G : am_H} (hD : 1 ≤ D) (h1 : am_ob G 23 5 = some (moL pm len T m ip due dep vp)) (h2 : ∃ af, am_ia G 24 0 = some (21, af)) (hl1 : 1 ≤ l) (hl : l ≤ 18) (hh : h < 2 ^ l) (hd : d < 2 ^ 18) (hd0 : d.testBit 0 = false) (hP : ∀ G', MA G' l h d (fun _ => 0) → Fr [24] G G' → P none G') : am_CB X D 96 [.ref 23, .int (nI l), .int (nI h), .int (nI d)] G P := by
  obtain ⟨D, rfl⟩ : ∃ D0, D = D0 + 1 := ⟨D - 1, by omega⟩
  obtain ⟨af, a1⟩ := h2
  have k24 := am_ia_lt a1
  refine B96 60 [24] ?_
  simp only [J96_0, J96_1, J96_4, J96_5, J96_6, J96_7, J96_8, J96_11, J96_12, J96_13, J96_14, J96_15, J96_18, J96_19, J96_20, J96_21, J96_22, J96_24, J96_26, J96_28, J96_31, J96_32, J96_35, J96_36, J96_38, J96_39, J96_40, J96_41, J96_44, J96_47, am_gg_c, am_gf_c, am_pf_c, am_af_c, am_sf_c, am_bf_c, am_qf_c, am_ap_c, am_bp_c, am_qp_c, am_lf_c, am_kt_s, am_kt_n, am_wst, am_wstop, am_ns_0, am_ns_1, Bool.not_true, Bool.not_false, Bool.true_and, Bool.false_and, Nat.reduceBEq, ↓reduceIte, am_k2_n, am_k2_i, am_k2_r, am_k2_u, am_k2_f, am_k2_l, Nat.zero_le, true_and, and_true, true_or, or_true, am_cat_0, am_cat_i, am_cat_r, am_cat_l, am_cat_n, Nat.reduceLeDiff, Nat.reduceAdd, Option.isSome_some, List.getElem?_cons_zero, List.getElem?_cons_succ, am_fit_i, am_fit_r, am_fit_a, h1, a1, am_ob_sn (show 24 ≠ 23 by decide), am_ia_ss, k24, List.length_set]
  refine ⟨vp_lit (k := 0) rfl (by omega) (by omega), vp_lit (k := 1) rfl (by omega) (by omega), vp_lit (k := 2) rfl (by omega) (by omega), ?_⟩
  have hF : ∀ c1 c2 c3, Fr [24] G (((G.set 24 c1).set 24 c2).set 24 c3) := fun c1 c2 c3 => (Fr.set (by decide)).tr ((Fr.set (by decide)).tr (Fr.set (by decide)))
  refine lp_lay (G0 := G) (fun G' hF => (by rw [hF.ob (by decide)]; exact h1)) (fun G' af b1 b2 b3 b4 b5 hF => hP G' ⟨⟨af, b1, b2, b3, b4, fun q hq => b5 q hq⟩, hl1, hl, hh, hd, hd0, fun _ => Nat.zero_le _⟩ hF) 18 0 _ _ rfl (am_ia_ss (by simp only [List.length_set]; exact k24)) ?_ ?_ ?_ (fun q hq => by omega) (hF _ _ _)
  · rfl
  · rfl
  · rfl
theorem sp_mset {G : am_H} {x y z : Int32} (hD : 3 ≤ D) (h1 : am_ob G 23 5 = some (moL pm len T m ip due dep vp)) (hm : MA G l h d f) (hP : ∀ G', MA G' (stS x y z (l, h, d, f)).1 (stS x y z (l, h, d, f)).2.1 (stS x y z (l, h, d, f)).2.2.1 (stS x y z (l, h, d, f)).2.2.2 → Fr [24] G G' → P (some (.int (stV x y z))) G') : am_CB X D 100 [.ref 23, .int x, .int y, .int z] G P := by
  obtain ⟨D, rfl⟩ : ∃ D0, D = D0 + 1 := ⟨D - 1, by omega⟩
  have bad : stOK x y z = false → P (some (.int (-2))) G := fun hb => by
    unfold stS stV at hP
    rw [hb] at hP
    exact hP G hm Fr.rf
  refine B100 60 [] ?_
  simp only [J100_0, J100_1, J100_2, J100_4, J100_7, J100_10, J100_11, J100_12, J100_13, J100_14, J100_15, J100_16, J100_17, J100_20, J100_23, J100_24, J100_25, J100_27, J100_30, J100_33, J100_34, J100_35, J100_38, J100_41, J100_43, J100_44, J100_45, J100_48, J100_50, J100_52, J100_54, J100_57, J100_59, J100_60, J100_61, J100_62, J100_63, J100_64, J100_67, J100_69, am_gg_c, am_gf_c, am_pf_c, am_af_c, am_sf_c, am_bf_c, am_qf_c, am_ap_c, am_bp_c, am_qp_c, am_lf_c, am_kt_s, am_kt_n, am_wst, am_wstop, am_ns_0, am_ns_1, Bool.not_true, Bool.not_false, Bool.true_and, Bool.false_and, Nat.reduceBEq, ↓reduceIte, am_k2_n, am_k2_i, am_k2_r, am_k2_u, am_k2_f, am_k2_l, Nat.zero_le, true_and, and_true, true_or, or_true, am_cat_0, am_cat_i, am_cat_r, am_cat_l, am_cat_n, Nat.reduceLeDiff, Nat.reduceAdd, Option.isSome_some, List.getElem?_cons_zero, List.getElem?_cons_succ, am_fit_i, am_fit_r, am_fit_a, h1]
  refine sp_in (by omega) ?_
  simp only [J100_0, J100_1, J100_2, J100_4, J100_7, J100_10, J100_11, J100_12, J100_13, J100_14, J100_15, J100_16, J100_17, J100_20, J100_23, J100_24, J100_25, J100_27, J100_30, J100_33, J100_34, J100_35, J100_38, J100_41, J100_43, J100_44, J100_45, J100_48, J100_50, J100_52, J100_54, J100_57, J100_59, J100_60, J100_61, J100_62, J100_63, J100_64, J100_67, J100_69, am_gg_c, am_gf_c, am_pf_c, am_af_c, am_sf_c, am_bf_c, am_qf_c, am_ap_c, am_bp_c, am_qp_c, am_lf_c, am_kt_s, am_kt_n, am_wst, am_wstop, am_ns_0, am_ns_1, Bool.not_true, Bool.not_false, Bool.true_and, Bool.false_and, Nat.reduceBEq, ↓reduceIte, am_k2_n, am_k2_i, am_k2_r, am_k2_u, am_k2_f, am_k2_l, Nat.zero_le, true_and, and_true, true_or, or_true, am_cat_0, am_cat_i, am_cat_r, am_cat_l, am_cat_n, Nat.reduceLeDiff, Nat.reduceAdd, Option.isSome_some, List.getElem?_cons_zero, List.getElem?_cons_succ, am_fit_i, am_fit_r, am_fit_a, h1]
  rw [show (1 : Int32).toInt = 1 by rfl, show (18 : Int32).toInt = 18 by rfl]
  by_cases c1 : 1 ≤ x.toInt ∧ x.toInt ≤ 18
  · rw [if_pos c1, if_neg (by decide)]
    refine sp_in (by omega) ?_
    simp only [J100_0, J100_1, J100_2, J100_4, J100_7, J100_10, J100_11, J100_12, J100_13, J100_14, J100_15, J100_16, J100_17, J100_20, J100_23, J100_24, J100_25, J100_27, J100_30, J100_33, J100_34, J100_35, J100_38, J100_41, J100_43, J100_44, J100_45, J100_48, J100_50, J100_52, J100_54, J100_57, J100_59, J100_60, J100_61, J100_62, J100_63, J100_64, J100_67, J100_69, am_gg_c, am_gf_c, am_pf_c, am_af_c, am_sf_c, am_bf_c, am_qf_c, am_ap_c, am_bp_c, am_qp_c, am_lf_c, am_kt_s, am_kt_n, am_wst, am_wstop, am_ns_0, am_ns_1, Bool.not_true, Bool.not_false, Bool.true_and, Bool.false_and, Nat.reduceBEq, ↓reduceIte, am_k2_n, am_k2_i, am_k2_r, am_k2_u, am_k2_f, am_k2_l, Nat.zero_le, true_and, and_true, true_or, or_true, am_cat_0, am_cat_i, am_cat_r, am_cat_l, am_cat_n, Nat.reduceLeDiff, Nat.reduceAdd, Option.isSome_some, List.getElem?_cons_zero, List.getElem?_cons_succ, am_fit_i, am_fit_r, am_fit_a, h1]
    obtain ⟨ex, ex2⟩ := bi_nat (x := x) (by omega)
    have hp : 2 ^ x.toInt.toNat ≤ 2 ^ 18 := Nat.pow_le_pow_right (by omega) (by omega)
    have hp1 := Nat.two_pow_pos x.toInt.toNat
    have e1 : ((1 : Int32) <<< (x &&& 31) - 1).toInt = ((2 ^ x.toInt.toNat : Nat) : Int) - 1 := by
      conv => lhs; rw [ex]
      rw [show (1 : Int32) = nI 1 by rfl, bi_shl (by omega), Nat.one_mul, pk_sub hp1, nI_toInt (by omega)]
      omega
    rw [e1, show (0 : Int32).toInt = 0 by rfl]
    by_cases c2 : 0 ≤ y.toInt ∧ y.toInt ≤ ((2 ^ x.toInt.toNat : Nat) : Int) - 1
    · rw [if_pos c2, if_neg (by decide)]
      refine sp_in (by omega) ?_
      simp only [J100_0, J100_1, J100_2, J100_4, J100_7, J100_10, J100_11, J100_12, J100_13, J100_14, J100_15, J100_16, J100_17, J100_20, J100_23, J100_24, J100_25, J100_27, J100_30, J100_33, J100_34, J100_35, J100_38, J100_41, J100_43, J100_44, J100_45, J100_48, J100_50, J100_52, J100_54, J100_57, J100_59, J100_60, J100_61, J100_62, J100_63, J100_64, J100_67, J100_69, am_gg_c, am_gf_c, am_pf_c, am_af_c, am_sf_c, am_bf_c, am_qf_c, am_ap_c, am_bp_c, am_qp_c, am_lf_c, am_kt_s, am_kt_n, am_wst, am_wstop, am_ns_0, am_ns_1, Bool.not_true, Bool.not_false, Bool.true_and, Bool.false_and, Nat.reduceBEq, ↓reduceIte, am_k2_n, am_k2_i, am_k2_r, am_k2_u, am_k2_f, am_k2_l, Nat.zero_le, true_and, and_true, true_or, or_true, am_cat_0, am_cat_i, am_cat_r, am_cat_l, am_cat_n, Nat.reduceLeDiff, Nat.reduceAdd, Option.isSome_some, List.getElem?_cons_zero, List.getElem?_cons_succ, am_fit_i, am_fit_r, am_fit_a, h1]
      rw [show (2 : Int32).toInt = 2 by rfl, show (262143 : Int32).toInt = 262143 by rfl]
      by_cases c3 : 2 ≤ z.toInt ∧ z.toInt ≤ 262143
      · rw [if_pos c3, if_neg (by decide)]
        obtain ⟨ez, ez2⟩ := bi_nat (x := z) (by omega)
        obtain ⟨ey, ey2⟩ := bi_nat (x := y) (by omega)
        have hz : z.toInt.toNat < 2 ^ 18 := by omega
        have hok : stOK x y z = (!z.toInt.toNat.testBit 0 && decide (1 ≤ (bl z.toInt.toNat).length ∧ (bl z.toInt.toNat).length ≤ 8)) := by
          unfold stOK
          rw [decide_eq_true (by omega), Bool.true_and]
        have hb8 := bl_le z.toInt.toNat
        have hh2 : y.toInt.toNat < 2 ^ x.toInt.toNat := by omega
        have hz2 : 2 ≤ z.toInt.toNat := by omega
        have hx1 : 1 ≤ x.toInt.toNat ∧ x.toInt.toNat ≤ 18 := by omega
        unfold stS stV at hP
        clear e1 c1 c2 c3 hp hp1
        generalize z.toInt.toNat = zn at *
        generalize y.toInt.toNat = yn at *
        generalize x.toInt.toNat = xn at *
        rw [ez]
        refine sp_has (k := 0) (by omega) (by omega) (by omega) ?_
        simp only [J100_0, J100_1, J100_2, J100_4, J100_7, J100_10, J100_11, J100_12, J100_13, J100_14, J100_15, J100_16, J100_17, J100_20, J100_23, J100_24, J100_25, J100_27, J100_30, J100_33, J100_34, J100_35, J100_38, J100_41, J100_43, J100_44, J100_45, J100_48, J100_50, J100_52, J100_54, J100_57, J100_59, J100_60, J100_61, J100_62, J100_63, J100_64, J100_67, J100_69, am_gg_c, am_gf_c, am_pf_c, am_af_c, am_sf_c, am_bf_c, am_qf_c, am_ap_c, am_bp_c, am_qp_c, am_lf_c, am_kt_s, am_kt_n, am_wst, am_wstop, am_ns_0, am_ns_1, Bool.not_true, Bool.not_false, Bool.true_and, Bool.false_and, Nat.reduceBEq, ↓reduceIte, am_k2_n, am_k2_i, am_k2_r, am_k2_u, am_k2_f, am_k2_l, Nat.zero_le, true_and, and_true, true_or, or_true, am_cat_0, am_cat_i, am_cat_r, am_cat_l, am_cat_n, Nat.reduceLeDiff, Nat.reduceAdd, Option.isSome_some, List.getElem?_cons_zero, List.getElem?_cons_succ, am_fit_i, am_fit_r, am_fit_a, h1]
        cases cb : zn.testBit 0 with
        | true =>
          simp only [if_true, if_neg (show ¬ (1 : Int32) = 0 by decide)]
          exact bad (by rw [hok, cb]; rfl)
        | false =>
          simp only [Bool.false_eq_true, if_false, if_true]
          have h1b := (bl_ge2 hz cb).mp hz2
          rw [cb, Bool.not_false, Bool.true_and] at hok
          refine sp_sizeOf (by omega) (by omega) ?_
          simp only [J100_0, J100_1, J100_2, J100_4, J100_7, J100_10, J100_11, J100_12, J100_13, J100_14, J100_15, J100_16, J100_17, J100_20, J100_23, J100_24, J100_25, J100_27, J100_30, J100_33, J100_34, J100_35, J100_38, J100_41, J100_43, J100_44, J100_45, J100_48, J100_50, J100_52, J100_54, J100_57, J100_59, J100_60, J100_61, J100_62, J100_63, J100_64, J100_67, J100_69, am_gg_c, am_gf_c, am_pf_c, am_af_c, am_sf_c, am_bf_c, am_qf_c, am_ap_c, am_bp_c, am_qp_c, am_lf_c, am_kt_s, am_kt_n, am_wst, am_wstop, am_ns_0, am_ns_1, Bool.not_true, Bool.not_false, Bool.true_and, Bool.false_and, Nat.reduceBEq, ↓reduceIte, am_k2_n, am_k2_i, am_k2_r, am_k2_u, am_k2_f, am_k2_l, Nat.zero_le, true_and, and_true, true_or, or_true, am_cat_0, am_cat_i, am_cat_r, am_cat_l, am_cat_n, Nat.reduceLeDiff, Nat.reduceAdd, Option.isSome_some, List.getElem?_cons_zero, List.getElem?_cons_succ, am_fit_i, am_fit_r, am_fit_a, h1]
          by_cases c8 : (bl zn).length ≤ 8
          · rw [if_neg (by rw [show (8 : Int32) = nI 8 by rfl, nI_ltI (by omega) (by omega)]; omega)]
            rw [decide_eq_true (by omega)] at hok
            rw [ex, ey]
            refine sp_lay (by omega) h1 (by obtain ⟨⟨af, a, _⟩, _⟩ := hm; exact ⟨af, a⟩) hx1.1 hx1.2 hh2 hz cb (fun G' q1 q2 => ?_)
            simp only [J100_0, J100_1, J100_2, J100_4, J100_7, J100_10, J100_11, J100_12, J100_13, J100_14, J100_15, J100_16, J100_17, J100_20, J100_23, J100_24, J100_25, J100_27, J100_30, J100_33, J100_34, J100_35, J100_38, J100_41, J100_43, J100_44, J100_45, J100_48, J100_50, J100_52, J100_54, J100_57, J100_59, J100_60, J100_61, J100_62, J100_63, J100_64, J100_67, J100_69, am_gg_c, am_gf_c, am_pf_c, am_af_c, am_sf_c, am_bf_c, am_qf_c, am_ap_c, am_bp_c, am_qp_c, am_lf_c, am_kt_s, am_kt_n, am_wst, am_wstop, am_ns_0, am_ns_1, Bool.not_true, Bool.not_false, Bool.true_and, Bool.false_and, Nat.reduceBEq, ↓reduceIte, am_k2_n, am_k2_i, am_k2_r, am_k2_u, am_k2_f, am_k2_l, Nat.zero_le, true_and, and_true, true_or, or_true, am_cat_0, am_cat_i, am_cat_r, am_cat_l, am_cat_n, Nat.reduceLeDiff, Nat.reduceAdd, Option.isSome_some, List.getElem?_cons_zero, List.getElem?_cons_succ, am_fit_i, am_fit_r, am_fit_a]
            rw [hok] at hP
            exact hP G' q1 q2
          · rw [if_pos (by rw [show (8 : Int32) = nI 8 by rfl, nI_ltI (by omega) (by omega)]; omega)]
            exact bad (by rw [hok, decide_eq_false (by omega)])
      · rw [if_neg c3, if_pos rfl]
        refine bad ?_
        unfold stOK
        by_cases c4 : 0 ≤ z.toInt ∧ z.toInt < 262144
        · have hz : z.toInt.toNat < 2 ^ 18 := by omega
          cases cb : z.toInt.toNat.testBit 0 with
          | true => simp
          | false =>
            have := bl_ge2 hz cb
            rw [decide_eq_false (p := 1 ≤ (bl z.toInt.toNat).length ∧ _) (by omega)]
            simp
        · rw [decide_eq_false (by omega)]; rfl
    · rw [if_neg c2, if_pos rfl]
      exact bad (by unfold stOK; rw [decide_eq_false (by omega)]; rfl)
  · rw [if_neg c1, if_pos rfl]
    exact bad (by unfold stOK; rw [decide_eq_false (by omega)]; rfl)
theorem sp_layFor {G : am_H} {b : Bool} (hD : 2 ≤ D) (h1 : am_ob G 23 5 = some (moL pm len T m ip due dep vp)) (h2 : ∃ af, am_ia G 24 0 = some (21, af)) (hd : d < 2 ^ 18) (hd0 : d.testBit 0 = false) (hd1 : 1 ≤ (bl d).length) (hd8 : (bl d).length ≤ 8) (hP : ∀ G', MA G' (tgS d b).1 (tgS d b).2.1 (tgS d b).2.2.1 (tgS d b).2.2.2 → Fr [24] G G' → P (some (.int (nI (tgS d b).1))) G') : am_CB X D 101 [.ref 23, .int (nI d), .int (if b = true then 1 else 0)] G P := by
  obtain ⟨D, rfl⟩ : ∃ D0, D = D0 + 1 := ⟨D - 1, by omega⟩
  unfold tgS at hP
  refine B101 60 [] ?_
  simp only [J101_0, J101_1, J101_2, J101_5, J101_6, J101_7, J101_10, J101_11, J101_14, J101_15, J101_16, J101_17, J101_18, J101_19, J101_20, J101_23, J101_24, J101_25, J101_26, J101_27, J101_28, J101_31, J101_32, J101_33, J101_36, J101_37, am_gg_c, am_gf_c, am_pf_c, am_af_c, am_sf_c, am_bf_c, am_qf_c, am_ap_c, am_bp_c, am_qp_c, am_lf_c, am_kt_s, am_kt_n, am_wst, am_wstop, am_ns_0, am_ns_1, Bool.not_true, Bool.not_false, Bool.true_and, Bool.false_and, Nat.reduceBEq, ↓reduceIte, am_k2_n, am_k2_i, am_k2_r, am_k2_u, am_k2_f, am_k2_l, Nat.zero_le, true_and, and_true, true_or, or_true, am_cat_0, am_cat_i, am_cat_r, am_cat_l, am_cat_n, Nat.reduceLeDiff, Nat.reduceAdd, Option.isSome_some, List.getElem?_cons_zero, List.getElem?_cons_succ, am_fit_i, am_fit_r, am_fit_a, h1]
  refine sp_sizeOf (by omega) (by omega) ?_
  simp only [J101_0, J101_1, J101_2, J101_5, J101_6, J101_7, J101_10, J101_11, J101_14, J101_15, J101_16, J101_17, J101_18, J101_19, J101_20, J101_23, J101_24, J101_25, J101_26, J101_27, J101_28, J101_31, J101_32, J101_33, J101_36, J101_37, am_gg_c, am_gf_c, am_pf_c, am_af_c, am_sf_c, am_bf_c, am_qf_c, am_ap_c, am_bp_c, am_qp_c, am_lf_c, am_kt_s, am_kt_n, am_wst, am_wstop, am_ns_0, am_ns_1, Bool.not_true, Bool.not_false, Bool.true_and, Bool.false_and, Nat.reduceBEq, ↓reduceIte, am_k2_n, am_k2_i, am_k2_r, am_k2_u, am_k2_f, am_k2_l, Nat.zero_le, true_and, and_true, true_or, or_true, am_cat_0, am_cat_i, am_cat_r, am_cat_l, am_cat_n, Nat.reduceLeDiff, Nat.reduceAdd, Option.isSome_some, List.getElem?_cons_zero, List.getElem?_cons_succ, am_fit_i, am_fit_r, am_fit_a, h1]
  rw [show (2 : Int32) = nI 2 by rfl, pk_mul]
  cases b with
  | true =>
    simp only [if_true, if_neg (show ¬ (1 : Int32) = 0 by decide)] at hP ⊢
    have e : (1 : Int32) <<< ((nI (2 * (bl d).length + 1) - nI 2) &&& 31) = nI (2 ^ (2 * (bl d).length + 1 - 2)) := by
      rw [pk_sub (by omega), show (1 : Int32) = nI 1 by rfl, bi_shl (by omega), Nat.one_mul]
    rw [nI_1, e]
    refine sp_lay (by omega) h1 h2 (by omega) (by omega) (Nat.pow_lt_pow_right (by omega) (by omega)) hd hd0 (fun G' q1 q2 => ?_)
    simp only [J101_0, J101_1, J101_2, J101_5, J101_6, J101_7, J101_10, J101_11, J101_14, J101_15, J101_16, J101_17, J101_18, J101_19, J101_20, J101_23, J101_24, J101_25, J101_26, J101_27, J101_28, J101_31, J101_32, J101_33, J101_36, J101_37, am_gg_c, am_gf_c, am_pf_c, am_af_c, am_sf_c, am_bf_c, am_qf_c, am_ap_c, am_bp_c, am_qp_c, am_lf_c, am_kt_s, am_kt_n, am_wst, am_wstop, am_ns_0, am_ns_1, Bool.not_true, Bool.not_false, Bool.true_and, Bool.false_and, Nat.reduceBEq, ↓reduceIte, am_k2_n, am_k2_i, am_k2_r, am_k2_u, am_k2_f, am_k2_l, Nat.zero_le, true_and, and_true, true_or, or_true, am_cat_0, am_cat_i, am_cat_r, am_cat_l, am_cat_n, Nat.reduceLeDiff, Nat.reduceAdd, Option.isSome_some, List.getElem?_cons_zero, List.getElem?_cons_succ, am_fit_i, am_fit_r, am_fit_a]
    exact hP G' q1 q2
  | false =>
    simp only [Bool.false_eq_true, if_false, if_true] at hP ⊢
    rw [show nI (2 * (bl d).length) + 0 = nI (2 * (bl d).length) by rw [show (0 : Int32) = nI 0 by rfl, nI_add, Nat.add_zero]]
    rw [show (0 : Int32) = nI 0 by rfl]
    refine sp_lay (by omega) h1 h2 (by omega) (by omega) (Nat.two_pow_pos _) hd hd0 (fun G' q1 q2 => ?_)
    simp only [J101_0, J101_1, J101_2, J101_5, J101_6, J101_7, J101_10, J101_11, J101_14, J101_15, J101_16, J101_17, J101_18, J101_19, J101_20, J101_23, J101_24, J101_25, J101_26, J101_27, J101_28, J101_31, J101_32, J101_33, J101_36, J101_37, am_gg_c, am_gf_c, am_pf_c, am_af_c, am_sf_c, am_bf_c, am_qf_c, am_ap_c, am_bp_c, am_qp_c, am_lf_c, am_kt_s, am_kt_n, am_wst, am_wstop, am_ns_0, am_ns_1, Bool.not_true, Bool.not_false, Bool.true_and, Bool.false_and, Nat.reduceBEq, ↓reduceIte, am_k2_n, am_k2_i, am_k2_r, am_k2_u, am_k2_f, am_k2_l, Nat.zero_le, true_and, and_true, true_or, or_true, am_cat_0, am_cat_i, am_cat_r, am_cat_l, am_cat_n, Nat.reduceLeDiff, Nat.reduceAdd, Option.isSome_some, List.getElem?_cons_zero, List.getElem?_cons_succ, am_fit_i, am_fit_r, am_fit_a]
    exact hP G' q1 q2
theorem sp_mlangford {G : am_H} {x y : Int32} {b : Bool} (hD : 3 ≤ D) (h1 : am_ob G 23 5 = some (moL pm len T m ip due dep vp)) (hm : MA G l h d f) (hP : ∀ G', MA G' (lgS x y b (l, h, d, f)).1 (lgS x y b (l, h, d, f)).2.1 (lgS x y b (l, h, d, f)).2.2.1 (lgS x y b (l, h, d, f)).2.2.2 → Fr [24] G G' → P (some (.int (lgV x y b))) G') : am_CB X D 102 [.ref 23, .int x, .int y, .int (if b = true then 1 else 0)] G P := by
  obtain ⟨D, rfl⟩ : ∃ D0, D = D0 + 1 := ⟨D - 1, by omega⟩
  unfold lgS lgV at hP
  have bad : lgOK x y = false → P (some (.int (-2))) G := fun hb => by
    rw [hb] at hP
    exact hP G hm Fr.rf
  refine B102 60 [] ?_
  simp only [J102_0, J102_1, J102_2, J102_4, J102_7, J102_10, J102_11, J102_12, J102_14, J102_17, J102_20, J102_21, J102_22, J102_23, J102_24, J102_25, J102_26, J102_27, J102_28, J102_29, J102_32, J102_35, J102_37, am_gg_c, am_gf_c, am_pf_c, am_af_c, am_sf_c, am_bf_c, am_qf_c, am_ap_c, am_bp_c, am_qp_c, am_lf_c, am_kt_s, am_kt_n, am_wst, am_wstop, am_ns_0, am_ns_1, Bool.not_true, Bool.not_false, Bool.true_and, Bool.false_and, Nat.reduceBEq, ↓reduceIte, am_k2_n, am_k2_i, am_k2_r, am_k2_u, am_k2_f, am_k2_l, Nat.zero_le, true_and, and_true, true_or, or_true, am_cat_0, am_cat_i, am_cat_r, am_cat_l, am_cat_n, Nat.reduceLeDiff, Nat.reduceAdd, Option.isSome_some, List.getElem?_cons_zero, List.getElem?_cons_succ, am_fit_i, am_fit_r, am_fit_a, h1]
  refine sp_in (by omega) ?_
  simp only [J102_0, J102_1, J102_2, J102_4, J102_7, J102_10, J102_11, J102_12, J102_14, J102_17, J102_20, J102_21, J102_22, J102_23, J102_24, J102_25, J102_26, J102_27, J102_28, J102_29, J102_32, J102_35, J102_37, am_gg_c, am_gf_c, am_pf_c, am_af_c, am_sf_c, am_bf_c, am_qf_c, am_ap_c, am_bp_c, am_qp_c, am_lf_c, am_kt_s, am_kt_n, am_wst, am_wstop, am_ns_0, am_ns_1, Bool.not_true, Bool.not_false, Bool.true_and, Bool.false_and, Nat.reduceBEq, ↓reduceIte, am_k2_n, am_k2_i, am_k2_r, am_k2_u, am_k2_f, am_k2_l, Nat.zero_le, true_and, and_true, true_or, or_true, am_cat_0, am_cat_i, am_cat_r, am_cat_l, am_cat_n, Nat.reduceLeDiff, Nat.reduceAdd, Option.isSome_some, List.getElem?_cons_zero, List.getElem?_cons_succ, am_fit_i, am_fit_r, am_fit_a, h1]
  rw [show (1 : Int32).toInt = 1 by rfl, show (10 : Int32).toInt = 10 by rfl]
  by_cases c1 : 1 ≤ x.toInt ∧ x.toInt ≤ 10
  · rw [if_pos c1, if_neg (by decide)]
    refine sp_in (by omega) ?_
    simp only [J102_0, J102_1, J102_2, J102_4, J102_7, J102_10, J102_11, J102_12, J102_14, J102_17, J102_20, J102_21, J102_22, J102_23, J102_24, J102_25, J102_26, J102_27, J102_28, J102_29, J102_32, J102_35, J102_37, am_gg_c, am_gf_c, am_pf_c, am_af_c, am_sf_c, am_bf_c, am_qf_c, am_ap_c, am_bp_c, am_qp_c, am_lf_c, am_kt_s, am_kt_n, am_wst, am_wstop, am_ns_0, am_ns_1, Bool.not_true, Bool.not_false, Bool.true_and, Bool.false_and, Nat.reduceBEq, ↓reduceIte, am_k2_n, am_k2_i, am_k2_r, am_k2_u, am_k2_f, am_k2_l, Nat.zero_le, true_and, and_true, true_or, or_true, am_cat_0, am_cat_i, am_cat_r, am_cat_l, am_cat_n, Nat.reduceLeDiff, Nat.reduceAdd, Option.isSome_some, List.getElem?_cons_zero, List.getElem?_cons_succ, am_fit_i, am_fit_r, am_fit_a, h1]
    rw [show (1 : Int32).toInt = 1 by rfl, show (8 : Int32).toInt = 8 by rfl]
    by_cases c2 : 1 ≤ y.toInt ∧ y.toInt ≤ 8
    · rw [if_pos c2, if_neg (by decide)]
      obtain ⟨ex, ex2⟩ := bi_nat (x := x) (by omega)
      obtain ⟨ey, ey2⟩ := bi_nat (x := y) (by omega)
      have hok : lgOK x y = true := decide_eq_true (by omega)
      rw [hok] at hP
      simp only [if_true] at hP
      obtain ⟨q1, q2, q3, q4⟩ := lgD_ok x.toInt.toNat (by omega) y.toInt.toNat (by omega) (by omega) (by omega)
      have e : ((1 : Int32) <<< (y &&& 31) - 1) <<< (x &&& 31) = nI (lgD x y) := by
        unfold lgD
        conv => lhs; rw [ex, ey]
        rw [show (1 : Int32) = nI 1 by rfl, bi_shl (by omega), Nat.one_mul, pk_sub (Nat.two_pow_pos _), bi_shl (by omega)]
      rw [e]
      refine sp_layFor (by omega) h1 (by obtain ⟨⟨af, a, _⟩, _⟩ := hm; exact ⟨af, a⟩) q1 q2 q3 q4 (fun G' r1 r2 => ?_)
      simp only [J102_0, J102_1, J102_2, J102_4, J102_7, J102_10, J102_11, J102_12, J102_14, J102_17, J102_20, J102_21, J102_22, J102_23, J102_24, J102_25, J102_26, J102_27, J102_28, J102_29, J102_32, J102_35, J102_37, am_gg_c, am_gf_c, am_pf_c, am_af_c, am_sf_c, am_bf_c, am_qf_c, am_ap_c, am_bp_c, am_qp_c, am_lf_c, am_kt_s, am_kt_n, am_wst, am_wstop, am_ns_0, am_ns_1, Bool.not_true, Bool.not_false, Bool.true_and, Bool.false_and, Nat.reduceBEq, ↓reduceIte, am_k2_n, am_k2_i, am_k2_r, am_k2_u, am_k2_f, am_k2_l, Nat.zero_le, true_and, and_true, true_or, or_true, am_cat_0, am_cat_i, am_cat_r, am_cat_l, am_cat_n, Nat.reduceLeDiff, Nat.reduceAdd, Option.isSome_some, List.getElem?_cons_zero, List.getElem?_cons_succ, am_fit_i, am_fit_r, am_fit_a]
      exact hP G' r1 r2
    · rw [if_neg c2, if_pos rfl]
      exact bad (decide_eq_false (by omega))
  · rw [if_neg c1, if_pos rfl]
    exact bad (decide_eq_false (by omega))
theorem sp_mnear {G : am_H} {x y : Int32} {b : Bool} (hD : 3 ≤ D) (h1 : am_ob G 23 5 = some (moL pm len T m ip due dep vp)) (hm : MA G l h d f) (hP : ∀ G', MA G' (nrS x y b (l, h, d, f)).1 (nrS x y b (l, h, d, f)).2.1 (nrS x y b (l, h, d, f)).2.2.1 (nrS x y b (l, h, d, f)).2.2.2 → Fr [24] G G' → P (some (.int (nrV x y b))) G') : am_CB X D 103 [.ref 23, .int x, .int y, .int (if b = true then 1 else 0)] G P := by
  obtain ⟨D, rfl⟩ : ∃ D0, D = D0 + 1 := ⟨D - 1, by omega⟩
  unfold nrS nrV at hP
  have bad : nrOK x y = false → P (some (.int (-2))) G := fun hb => by
    rw [hb] at hP
    exact hP G hm Fr.rf
  refine B103 60 [] ?_
  simp only [J103_0, J103_1, J103_2, J103_4, J103_7, J103_10, J103_11, J103_12, J103_13, J103_16, J103_19, J103_21, J103_22, J103_23, J103_24, J103_25, J103_26, J103_27, J103_28, J103_29, J103_30, J103_31, J103_32, J103_33, J103_34, J103_35, J103_36, J103_37, J103_40, am_gg_c, am_gf_c, am_pf_c, am_af_c, am_sf_c, am_bf_c, am_qf_c, am_ap_c, am_bp_c, am_qp_c, am_lf_c, am_kt_s, am_kt_n, am_wst, am_wstop, am_ns_0, am_ns_1, Bool.not_true, Bool.not_false, Bool.true_and, Bool.false_and, Nat.reduceBEq, ↓reduceIte, am_k2_n, am_k2_i, am_k2_r, am_k2_u, am_k2_f, am_k2_l, Nat.zero_le, true_and, and_true, true_or, or_true, am_cat_0, am_cat_i, am_cat_r, am_cat_l, am_cat_n, Nat.reduceLeDiff, Nat.reduceAdd, Option.isSome_some, List.getElem?_cons_zero, List.getElem?_cons_succ, am_fit_i, am_fit_r, am_fit_a, h1]
  refine sp_in (by omega) ?_
  simp only [J103_0, J103_1, J103_2, J103_4, J103_7, J103_10, J103_11, J103_12, J103_13, J103_16, J103_19, J103_21, J103_22, J103_23, J103_24, J103_25, J103_26, J103_27, J103_28, J103_29, J103_30, J103_31, J103_32, J103_33, J103_34, J103_35, J103_36, J103_37, J103_40, am_gg_c, am_gf_c, am_pf_c, am_af_c, am_sf_c, am_bf_c, am_qf_c, am_ap_c, am_bp_c, am_qp_c, am_lf_c, am_kt_s, am_kt_n, am_wst, am_wstop, am_ns_0, am_ns_1, Bool.not_true, Bool.not_false, Bool.true_and, Bool.false_and, Nat.reduceBEq, ↓reduceIte, am_k2_n, am_k2_i, am_k2_r, am_k2_u, am_k2_f, am_k2_l, Nat.zero_le, true_and, and_true, true_or, or_true, am_cat_0, am_cat_i, am_cat_r, am_cat_l, am_cat_n, Nat.reduceLeDiff, Nat.reduceAdd, Option.isSome_some, List.getElem?_cons_zero, List.getElem?_cons_succ, am_fit_i, am_fit_r, am_fit_a, h1]
  rw [show (2 : Int32).toInt = 2 by rfl, show (9 : Int32).toInt = 9 by rfl]
  by_cases c1 : 2 ≤ x.toInt ∧ x.toInt ≤ 9
  · rw [if_pos c1, if_neg (by decide)]
    refine sp_in (by omega) ?_
    simp only [J103_0, J103_1, J103_2, J103_4, J103_7, J103_10, J103_11, J103_12, J103_13, J103_16, J103_19, J103_21, J103_22, J103_23, J103_24, J103_25, J103_26, J103_27, J103_28, J103_29, J103_30, J103_31, J103_32, J103_33, J103_34, J103_35, J103_36, J103_37, J103_40, am_gg_c, am_gf_c, am_pf_c, am_af_c, am_sf_c, am_bf_c, am_qf_c, am_ap_c, am_bp_c, am_qp_c, am_lf_c, am_kt_s, am_kt_n, am_wst, am_wstop, am_ns_0, am_ns_1, Bool.not_true, Bool.not_false, Bool.true_and, Bool.false_and, Nat.reduceBEq, ↓reduceIte, am_k2_n, am_k2_i, am_k2_r, am_k2_u, am_k2_f, am_k2_l, Nat.zero_le, true_and, and_true, true_or, or_true, am_cat_0, am_cat_i, am_cat_r, am_cat_l, am_cat_n, Nat.reduceLeDiff, Nat.reduceAdd, Option.isSome_some, List.getElem?_cons_zero, List.getElem?_cons_succ, am_fit_i, am_fit_r, am_fit_a, h1]
    rw [show (1 : Int32).toInt = 1 by rfl]
    by_cases c2 : 1 ≤ y.toInt ∧ y.toInt ≤ x.toInt
    · rw [if_pos c2, if_neg (by decide)]
      obtain ⟨ex, ex2⟩ := bi_nat (x := x) (by omega)
      obtain ⟨ey, ey2⟩ := bi_nat (x := y) (by omega)
      have hok : nrOK x y = true := decide_eq_true (by omega)
      rw [hok] at hP
      simp only [if_true] at hP
      obtain ⟨q1, q2, q3, q4⟩ := nrD_ok x.toInt.toNat (by omega) y.toInt.toNat (by omega) (by omega) (by omega)
      have e : ((1 : Int32) <<< (x &&& 31) - 1) <<< ((1 : Int32) &&& 31) &&& ((1 : Int32) <<< (y &&& 31) ^^^ (-1)) = nI (nrD x y) := by
        unfold nrD
        conv => lhs; rw [ex, ey]
        rw [show (1 : Int32) = nI 1 by rfl, bi_shl (by omega), bi_shl (by omega), Nat.one_mul, Nat.one_mul, pk_sub (Nat.two_pow_pos _), bi_shl (by omega), show (-nI 1 : Int32) = -1 by rfl, bi_not]
      rw [e]
      refine sp_layFor (by omega) h1 (by obtain ⟨⟨af, a, _⟩, _⟩ := hm; exact ⟨af, a⟩) q1 q2 q3 q4 (fun G' r1 r2 => ?_)
      simp only [J103_0, J103_1, J103_2, J103_4, J103_7, J103_10, J103_11, J103_12, J103_13, J103_16, J103_19, J103_21, J103_22, J103_23, J103_24, J103_25, J103_26, J103_27, J103_28, J103_29, J103_30, J103_31, J103_32, J103_33, J103_34, J103_35, J103_36, J103_37, J103_40, am_gg_c, am_gf_c, am_pf_c, am_af_c, am_sf_c, am_bf_c, am_qf_c, am_ap_c, am_bp_c, am_qp_c, am_lf_c, am_kt_s, am_kt_n, am_wst, am_wstop, am_ns_0, am_ns_1, Bool.not_true, Bool.not_false, Bool.true_and, Bool.false_and, Nat.reduceBEq, ↓reduceIte, am_k2_n, am_k2_i, am_k2_r, am_k2_u, am_k2_f, am_k2_l, Nat.zero_le, true_and, and_true, true_or, or_true, am_cat_0, am_cat_i, am_cat_r, am_cat_l, am_cat_n, Nat.reduceLeDiff, Nat.reduceAdd, Option.isSome_some, List.getElem?_cons_zero, List.getElem?_cons_succ, am_fit_i, am_fit_r, am_fit_a]
      exact hP G' r1 r2
    · rw [if_neg c2, if_pos rfl]
      exact bad (decide_eq_false (by omega))
  · rw [if_neg c1, if_pos rfl]
    exact bad (decide_eq_false (by omega))
end ST
