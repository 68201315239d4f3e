theorem lN_inj {a b : Nat} (ha : a < 2 ^ 64) (hb : b < 2 ^ 64) (h : lN a = lN b) : a = b := by
  have h1 := lN_tn ha
  have h2 := lN_tn hb
  rw [h] at h1
  omega
theorem lg_cmp0 {x y : Int64} : lg_cmp x y = 0 ↔ x = y := by
  unfold lg_cmp
  constructor
  · intro h
    split at h
    · cases h
    · split at h
      · assumption
      · cases h
  · intro h
    subst h
    rw [if_neg (show ¬ x > x from Int64.lt_irrefl), if_pos rfl]
def rvK (l d : Nat) (a : List (Nat × Nat)) : Nat → Nat
  | 0 => 0
  | i + 1 => rvK l d a i ||| (l - 1 - ddN d i - bgN a (ddN d i)) * 2 ^ (5 * i)
def fdI (q : List (Nat × Nat) → Bool) : List (List (Nat × Nat)) → Nat → Int32
  | [], _ => -1
  | a :: R, k => if q a = true then nI k else fdI q R (k + 1)
section RVO
variable {X : Nat × (Nat → Int32)} {D : Nat} {G : am_H} {P : Option Value → am_H → Prop} {l h d : Nat} {f : Nat → Nat} {a b : List (Nat × Nat)} {q p : Nat}
theorem rvK_lt (hl : l ≤ 18) : ∀ n, rvK l d a n < 2 ^ (5 * n)
  | 0 => Nat.two_pow_pos _
  | n + 1 => by
    have ih := rvK_lt hl n
    have hp := Nat.two_pow_pos (5 * n)
    refine or_lt ?_ ?_
    · rw [p5]; omega
    · have : (l - 1 - ddN d n - bgN a (ddN d n)) * 2 ^ (5 * n) < 2 ^ 5 * 2 ^ (5 * n) := Nat.mul_lt_mul_of_pos_right (by omega) hp
      rw [← Nat.pow_add] at this
      rw [show 5 * (n + 1) = 5 + 5 * n by omega]
      exact this
theorem rvK_fld (hl : l ≤ 18) : ∀ n i, i < n → rvK l d a n / 2 ^ (5 * i) % 32 = l - 1 - ddN d i - bgN a (ddN d i)
  | 0, i, hi => by omega
  | n + 1, i, hi => by
    have hlt := rvK_lt (d := d) (a := a) hl n
    apply Nat.eq_of_testBit_eq
    intro c
    rw [show (32 : Nat) = 2 ^ 5 by rfl, Nat.testBit_mod_two_pow, Nat.testBit_div_two_pow]
    show (decide (c < 5) && (rvK l d a n ||| (l - 1 - ddN d n - bgN a (ddN d n)) * 2 ^ (5 * n)).testBit (c + 5 * i)) = _
    rw [Nat.testBit_or, Nat.add_comm c]
    by_cases c5 : c < 5
    · rw [decide_eq_true c5, Bool.true_and, bit_fld (by omega) c5]
      by_cases e : i = n
      · subst e
        rw [bt_hi hlt (by omega), decide_eq_true rfl]; simp
      · have ih := congrArg (fun t => t.testBit c) (rvK_fld hl n i (by omega))
        simp only [show (32 : Nat) = 2 ^ 5 by rfl, Nat.testBit_mod_two_pow, Nat.testBit_div_two_pow] at ih
        rw [decide_eq_true c5, Bool.true_and, Nat.add_comm c] at ih
        rw [ih, decide_eq_false e]; simp
    · rw [decide_eq_false c5, bt_hi (show l - 1 - ddN d i - bgN a (ddN d i) < 2 ^ 5 by omega) (by omega)]; rfl
theorem eqR_s {x y : Nat → Nat} : ∀ k, eqR x y k = true ↔ ∀ i, i < k → x i = y i
  | 0 => ⟨fun _ i hi => by omega, fun _ => rfl⟩
  | k + 1 => by
    show (eqR x y k && (x k == y k)) = true ↔ _
    rw [Bool.and_eq_true, eqR_s k, beq_iff_eq]
    constructor
    · rintro ⟨h1, h2⟩ i hi
      by_cases e : i = k
      · rw [e]; exact h2
      · exact h1 i (by omega)
    · intro h
      exact ⟨fun i hi => h i (by omega), h k (by omega)⟩
theorem rvK_eq (hl : l ≤ 18) (hd : d < 2 ^ 18) (hd0 : d.testBit 0 = false) (ha : a ∈ arrs true l h d f) (hb : b ∈ arrs true l h d f) : pkA d b = rvK l d a (bl d).length ↔ eqR (rwN b) (rvN l a) l = true := by
  have arb := arrs_arr hl hd hd0 hb
  have fact : ∀ {x : List (Nat × Nat)}, x ∈ arrs true l h d f → ∀ w, d.testBit w = true → bgN x w + w < l := fun hx w hw => (arrs_wit hl hd0 hx (bgN_mem hd hx hw)).2.2.2.2.2
  rw [eqR_s]
  constructor
  · intro e q hq
    refine rev_of hl hd hd0 ha hb (fun w hw => ?_) hq
    have hw18 : w < 18 := by
      rcases Nat.lt_or_ge w 18 with z | z
      · exact z
      · rw [bt_hi hd z] at hw; cases hw
    have hi := ix_lt hw18 hw
    have e1 := pk_start arb hi
    rw [e, rvK_fld hl _ _ hi, dd_ix hw18 hw] at e1
    have := fact ha w hw
    omega
  · intro hr
    refine pkA_eq (d := d) (pk_hi arb) (rvK_lt hl _) (fun i hi => ?_)
    obtain ⟨m1, m2⟩ := dd_mem hi
    rw [pk_start arb hi, rvK_fld hl _ _ hi]
    have := rev_to hl hd hd0 ha hb hr m2
    omega
theorem lp_rvK (hl : l ≤ 18) (hd : d < 2 ^ 18) (hd0 : d.testBit 0 = false) (h8 : (bl d).length ≤ 8) (hD : 3 ≤ D) (hf : FO G l h d f) (hq : (arrs true l h d f)[q]? = some a) (hK : am_WP X D 14 62 [some (.ref 3), some (.int (nI q)), some (.long (lN (rvK l d a (bl d).length))), none, none, none, none] [] G 0 0 P) : ∀ (k i : Nat), i + k = (bl d).length → am_WP X D 14 5 [some (.ref 3), some (.int (nI q)), some (.long (lN (rvK l d a i))), none, some (.int (nI i)), none, none] [] G 0 0 P := by
  obtain ⟨pr, df, sf, ha, _, _, hne⟩ := id hf
  have ham := List.mem_of_getElem? hq
  obtain ⟨hpr, hdf⟩ := hne (List.ne_nil_of_mem ham)
  subst hpr
  have h1 := ha.1
  have h4 := ha.2.2.1
  intro k
  induction k with
  | zero =>
    intro i hi
    refine am_wps 60 [59, 62] ?_
    simp only [J14_0, J14_1, J14_2, J14_3, J14_5, J14_7, J14_8, J14_11, J14_14, J14_16, J14_18, J14_21, J14_22, J14_25, J14_26, J14_27, J14_28, J14_31, J14_33, J14_34, J14_35, J14_36, J14_37, J14_39, J14_42, J14_43, J14_44, J14_46, J14_47, J14_49, J14_50, J14_52, J14_53, J14_54, J14_55, J14_56, J14_59, J14_62, J14_63, J14_65, J14_67, J14_68, J14_71, J14_74, J14_75, J14_77, J14_80, J14_81, J14_82, J14_85, J14_87, J14_88, J14_91, J14_94, J14_95, am_gg_c, am_gf_c, am_pf_c, am_af_c, am_sf_c, am_bf_c, am_qf_c, am_ap_c, am_bp_c, am_qp_c, am_lf_c, am_kt_s, am_kt_n, am_wst, am_wstop, am_ns_0, am_ns_1, Bool.not_true, Bool.not_false, Bool.true_and, Bool.false_and, Nat.reduceBEq, ↓reduceIte, am_k2_n, am_k2_i, am_k2_r, am_k2_u, am_k2_f, am_k2_l, Nat.zero_le, true_and, and_true, true_or, or_true, am_cat_0, am_cat_i, am_cat_r, am_cat_l, am_cat_n, Nat.reduceLeDiff, Nat.reduceAdd, Option.isSome_some, List.getElem?_cons_zero, List.getElem?_cons_succ, am_fit_i, am_fit_r, am_fit_a, h1, h4]
    rw [if_neg (by rw [nI_ltI (by omega) (by omega)]; omega), show i = (bl d).length by omega]
    exact am_WP.fg hK (by simp [am_le])
  | succ k ih =>
    intro i hi
    have hii : i < (bl d).length := by omega
    obtain ⟨m1, m2⟩ := dd_mem hii
    have hfa := (arrs_wit hl hd0 ham (bgN_mem hd ham m2)).2.2.2.2.2
    refine am_wps 60 [59, 62] ?_
    simp only [J14_0, J14_1, J14_2, J14_3, J14_5, J14_7, J14_8, J14_11, J14_14, J14_16, J14_18, J14_21, J14_22, J14_25, J14_26, J14_27, J14_28, J14_31, J14_33, J14_34, J14_35, J14_36, J14_37, J14_39, J14_42, J14_43, J14_44, J14_46, J14_47, J14_49, J14_50, J14_52, J14_53, J14_54, J14_55, J14_56, J14_59, J14_62, J14_63, J14_65, J14_67, J14_68, J14_71, J14_74, J14_75, J14_77, J14_80, J14_81, J14_82, J14_85, J14_87, J14_88, J14_91, J14_94, J14_95, am_gg_c, am_gf_c, am_pf_c, am_af_c, am_sf_c, am_bf_c, am_qf_c, am_ap_c, am_bp_c, am_qp_c, am_lf_c, am_kt_s, am_kt_n, am_wst, am_wstop, am_ns_0, am_ns_1, Bool.not_true, Bool.not_false, Bool.true_and, Bool.false_and, Nat.reduceBEq, ↓reduceIte, am_k2_n, am_k2_i, am_k2_r, am_k2_u, am_k2_f, am_k2_l, Nat.zero_le, true_and, and_true, true_or, or_true, am_cat_0, am_cat_i, am_cat_r, am_cat_l, am_cat_n, Nat.reduceLeDiff, Nat.reduceAdd, Option.isSome_some, List.getElem?_cons_zero, List.getElem?_cons_succ, am_fit_i, am_fit_r, am_fit_a, h1, h4]
    rw [if_pos (by rw [nI_ltI (by omega) (by omega)]; omega), if_pos (by rw [show (8 : Int32) = nI 8 by rfl, nI_ltI (by omega) (by omega)]; omega)]
    refine ⟨vp_in_n (by omega) (by omega), ?_⟩
    rw [nI_clamp (by omega), hdf i hii]
    refine sp_startAt hl hd hd0 h8 hD hf hq hii ?_
    simp only [J14_0, J14_1, J14_2, J14_3, J14_5, J14_7, J14_8, J14_11, J14_14, J14_16, J14_18, J14_21, J14_22, J14_25, J14_26, J14_27, J14_28, J14_31, J14_33, J14_34, J14_35, J14_36, J14_37, J14_39, J14_42, J14_43, J14_44, J14_46, J14_47, J14_49, J14_50, J14_52, J14_53, J14_54, J14_55, J14_56, J14_59, J14_62, J14_63, J14_65, J14_67, J14_68, J14_71, J14_74, J14_75, J14_77, J14_80, J14_81, J14_82, J14_85, J14_87, J14_88, J14_91, J14_94, J14_95, am_gg_c, am_gf_c, am_pf_c, am_af_c, am_sf_c, am_bf_c, am_qf_c, am_ap_c, am_bp_c, am_qp_c, am_lf_c, am_kt_s, am_kt_n, am_wst, am_wstop, am_ns_0, am_ns_1, Bool.not_true, Bool.not_false, Bool.true_and, Bool.false_and, Nat.reduceBEq, ↓reduceIte, am_k2_n, am_k2_i, am_k2_r, am_k2_u, am_k2_f, am_k2_l, Nat.zero_le, true_and, and_true, true_or, or_true, am_cat_0, am_cat_i, am_cat_r, am_cat_l, am_cat_n, Nat.reduceLeDiff, Nat.reduceAdd, Option.isSome_some, List.getElem?_cons_zero, List.getElem?_cons_succ, am_fit_i, am_fit_r, am_fit_a]
    have e1 : nI l - 1 - nI (ddN d i) - nI (bgN a (ddN d i)) = nI (l - 1 - ddN d i - bgN a (ddN d i)) := by
      rw [show (1 : Int32) = nI 1 by rfl, pk_sub (by omega), pk_sub (by omega), pk_sub (by omega)]
    rw [e1, nI_l (by omega), show (5 : Int32) = nI 5 by rfl, pk_mul, lN_shl (by omega), lN_or]
    refine am_goto I14_59 ?_
    rw [nI_1]
    exact am_WP.fg (ih (i + 1) (by omega)) (by simp [am_le]; rfl)
theorem lp_rvF {v : Nat} (hv : v < 2 ^ 40) (hl : l ≤ 18) (hd : d < 2 ^ 18) (hd0 : d.testBit 0 = false) (h8 : (bl d).length ≤ 8) (hD : 2 ≤ D) (hf : FO G l h d f) {V : Int32} (hP : P (some (.int V)) G) : ∀ (R : List (List (Nat × Nat))) (k : Nat), (arrs true l h d f).drop k = R → k ≤ (arrs true l h d f).length → V = fdI (fun b => decide (pkA d b = v)) R k → am_WP X D 14 65 [some (.ref 3), some (.int (nI q)), some (.long (lN v)), none, some (.int (nI k)), none, none] [] G 0 0 P := by
  obtain ⟨pr, df, sf, ha, _⟩ := id hf
  have h1 := ha.1
  have hlen := ha.2.2.2.2.1
  rw [List.length_map] at h1 hlen
  intro R
  induction R with
  | nil =>
    intro k hk hkl hV
    have : (arrs true l h d f).length = k := by
      have := congrArg List.length hk
      simp only [List.length_drop, List.length_nil] at this
      omega
    refine am_wps 40 [91] ?_
    simp only [J14_0, J14_1, J14_2, J14_3, J14_5, J14_7, J14_8, J14_11, J14_14, J14_16, J14_18, J14_21, J14_22, J14_25, J14_26, J14_27, J14_28, J14_31, J14_33, J14_34, J14_35, J14_36, J14_37, J14_39, J14_42, J14_43, J14_44, J14_46, J14_47, J14_49, J14_50, J14_52, J14_53, J14_54, J14_55, J14_56, J14_59, J14_62, J14_63, J14_65, J14_67, J14_68, J14_71, J14_74, J14_75, J14_77, J14_80, J14_81, J14_82, J14_85, J14_87, J14_88, J14_91, J14_94, J14_95, am_gg_c, am_gf_c, am_pf_c, am_af_c, am_sf_c, am_bf_c, am_qf_c, am_ap_c, am_bp_c, am_qp_c, am_lf_c, am_kt_s, am_kt_n, am_wst, am_wstop, am_ns_0, am_ns_1, Bool.not_true, Bool.not_false, Bool.true_and, Bool.false_and, Nat.reduceBEq, ↓reduceIte, am_k2_n, am_k2_i, am_k2_r, am_k2_u, am_k2_f, am_k2_l, Nat.zero_le, true_and, and_true, true_or, or_true, am_cat_0, am_cat_i, am_cat_r, am_cat_l, am_cat_n, Nat.reduceLeDiff, Nat.reduceAdd, Option.isSome_some, List.getElem?_cons_zero, List.getElem?_cons_succ, am_fit_i, am_fit_r, am_fit_a, h1]
    rw [if_neg (by rw [nI_ltI (by omega) (by omega)]; omega)]
    rw [hV] at hP
    exact hP
  | cons b R ih =>
    intro k hk hkl hV
    have hkA : k < (arrs true l h d f).length := by
      have := congrArg List.length hk
      simp only [List.length_drop, List.length_cons] at this
      omega
    have hkb : (arrs true l h d f)[k]? = some b := by
      have := congrArg (fun t => t[0]?) hk
      simpa using this
    have hpb : pkA d b < 2 ^ 40 := Nat.lt_of_lt_of_le (pk_hi (arrs_arr hl hd hd0 (List.mem_of_getElem? hkb))) (Nat.pow_le_pow_right (by omega) (by omega))
    have hs : fdI (fun b => decide (pkA d b = v)) (b :: R) k = if decide (pkA d b = v) = true then nI k else fdI (fun b => decide (pkA d b = v)) R (k + 1) := rfl
    rw [hs] at hV
    refine am_wps 40 [91] ?_
    simp only [J14_0, J14_1, J14_2, J14_3, J14_5, J14_7, J14_8, J14_11, J14_14, J14_16, J14_18, J14_21, J14_22, J14_25, J14_26, J14_27, J14_28, J14_31, J14_33, J14_34, J14_35, J14_36, J14_37, J14_39, J14_42, J14_43, J14_44, J14_46, J14_47, J14_49, J14_50, J14_52, J14_53, J14_54, J14_55, J14_56, J14_59, J14_62, J14_63, J14_65, J14_67, J14_68, J14_71, J14_74, J14_75, J14_77, J14_80, J14_81, J14_82, J14_85, J14_87, J14_88, J14_91, J14_94, J14_95, am_gg_c, am_gf_c, am_pf_c, am_af_c, am_sf_c, am_bf_c, am_qf_c, am_ap_c, am_bp_c, am_qp_c, am_lf_c, am_kt_s, am_kt_n, am_wst, am_wstop, am_ns_0, am_ns_1, Bool.not_true, Bool.not_false, Bool.true_and, Bool.false_and, Nat.reduceBEq, ↓reduceIte, am_k2_n, am_k2_i, am_k2_r, am_k2_u, am_k2_f, am_k2_l, Nat.zero_le, true_and, and_true, true_or, or_true, am_cat_0, am_cat_i, am_cat_r, am_cat_l, am_cat_n, Nat.reduceLeDiff, Nat.reduceAdd, Option.isSome_some, List.getElem?_cons_zero, List.getElem?_cons_succ, am_fit_i, am_fit_r, am_fit_a, h1]
    rw [if_pos (by rw [nI_ltI (by omega) (by omega)]; exact hkA)]
    refine sp_fpacked hD hf hkb ?_
    simp only [J14_0, J14_1, J14_2, J14_3, J14_5, J14_7, J14_8, J14_11, J14_14, J14_16, J14_18, J14_21, J14_22, J14_25, J14_26, J14_27, J14_28, J14_31, J14_33, J14_34, J14_35, J14_36, J14_37, J14_39, J14_42, J14_43, J14_44, J14_46, J14_47, J14_49, J14_50, J14_52, J14_53, J14_54, J14_55, J14_56, J14_59, J14_62, J14_63, J14_65, J14_67, J14_68, J14_71, J14_74, J14_75, J14_77, J14_80, J14_81, J14_82, J14_85, J14_87, J14_88, J14_91, J14_94, J14_95, am_gg_c, am_gf_c, am_pf_c, am_af_c, am_sf_c, am_bf_c, am_qf_c, am_ap_c, am_bp_c, am_qp_c, am_lf_c, am_kt_s, am_kt_n, am_wst, am_wstop, am_ns_0, am_ns_1, Bool.not_true, Bool.not_false, Bool.true_and, Bool.false_and, Nat.reduceBEq, ↓reduceIte, am_k2_n, am_k2_i, am_k2_r, am_k2_u, am_k2_f, am_k2_l, Nat.zero_le, true_and, and_true, true_or, or_true, am_cat_0, am_cat_i, am_cat_r, am_cat_l, am_cat_n, Nat.reduceLeDiff, Nat.reduceAdd, Option.isSome_some, List.getElem?_cons_zero, List.getElem?_cons_succ, am_fit_i, am_fit_r, am_fit_a]
    by_cases c : pkA d b = v
    · rw [if_pos (lg_cmp0.mpr (by rw [c]))]
      rw [if_pos (by simpa using c)] at hV
      rw [hV] at hP
      exact hP
    · rw [if_neg (fun e => c (lN_inj (by omega) (by omega) (lg_cmp0.mp e)))]
      rw [if_neg (by simpa using c)] at hV
      refine am_goto I14_91 ?_
      rw [nI_1]
      exact ih (k + 1) (by rw [← List.drop_drop, hk]; rfl) (by omega) hV
theorem fdI_congr {q q' : List (Nat × Nat) → Bool} : ∀ {R : List (List (Nat × Nat))}, (∀ b ∈ R, q b = q' b) → ∀ k, fdI q R k = fdI q' R k
  | [], _, _ => rfl
  | b :: R, h, k => by
    unfold fdI
    rw [h b List.mem_cons_self, fdI_congr (fun c hc => h c (List.mem_cons_of_mem _ hc))]
theorem sp_revOf (hl : l ≤ 18) (hd : d < 2 ^ 18) (hd0 : d.testBit 0 = false) (h8 : (bl d).length ≤ 8) (hD : 4 ≤ D) (hf : FO G l h d f) (hq : (arrs true l h d f)[q]? = some a) (hP : P (some (.int (fdI (fun b => eqR (rwN b) (rvN l a) l) (arrs true l h d f) 0))) G) : am_CB X D 14 [.ref 3, .int (nI q)] G P := by
  obtain ⟨D, rfl⟩ : ∃ D0, D = D0 + 1 := ⟨D - 1, by omega⟩
  have ham := List.mem_of_getElem? hq
  have hv : rvK l d a (bl d).length < 2 ^ 40 := Nat.lt_of_lt_of_le (rvK_lt hl _) (Nat.pow_le_pow_right (by omega) (by omega))
  refine B14 40 [5] ?_
  simp only [J14_0, J14_1, J14_2, J14_3, J14_5, J14_7, J14_8, J14_11, J14_14, J14_16, J14_18, J14_21, J14_22, J14_25, J14_26, J14_27, J14_28, J14_31, J14_33, J14_34, J14_35, J14_36, J14_37, J14_39, J14_42, J14_43, J14_44, J14_46, J14_47, J14_49, J14_50, J14_52, J14_53, J14_54, J14_55, J14_56, J14_59, J14_62, J14_63, J14_65, J14_67, J14_68, J14_71, J14_74, J14_75, J14_77, J14_80, J14_81, J14_82, J14_85, J14_87, J14_88, J14_91, J14_94, J14_95, am_gg_c, am_gf_c, am_pf_c, am_af_c, am_sf_c, am_bf_c, am_qf_c, am_ap_c, am_bp_c, am_qp_c, am_lf_c, am_kt_s, am_kt_n, am_wst, am_wstop, am_ns_0, am_ns_1, Bool.not_true, Bool.not_false, Bool.true_and, Bool.false_and, Nat.reduceBEq, ↓reduceIte, am_k2_n, am_k2_i, am_k2_r, am_k2_u, am_k2_f, am_k2_l, Nat.zero_le, true_and, and_true, true_or, or_true, am_cat_0, am_cat_i, am_cat_r, am_cat_l, am_cat_n, Nat.reduceLeDiff, Nat.reduceAdd, Option.isSome_some, List.getElem?_cons_zero, List.getElem?_cons_succ, am_fit_i, am_fit_r, am_fit_a]
  refine am_WP.fg (lp_rvK hl hd hd0 h8 (by omega) hf hq ?_ (bl d).length 0 (by omega)) (by simp [am_le, nI_0, rvK]; rfl)
  refine am_wps 40 [65] ?_
  simp only [J14_0, J14_1, J14_2, J14_3, J14_5, J14_7, J14_8, J14_11, J14_14, J14_16, J14_18, J14_21, J14_22, J14_25, J14_26, J14_27, J14_28, J14_31, J14_33, J14_34, J14_35, J14_36, J14_37, J14_39, J14_42, J14_43, J14_44, J14_46, J14_47, J14_49, J14_50, J14_52, J14_53, J14_54, J14_55, J14_56, J14_59, J14_62, J14_63, J14_65, J14_67, J14_68, J14_71, J14_74, J14_75, J14_77, J14_80, J14_81, J14_82, J14_85, J14_87, J14_88, J14_91, J14_94, J14_95, am_gg_c, am_gf_c, am_pf_c, am_af_c, am_sf_c, am_bf_c, am_qf_c, am_ap_c, am_bp_c, am_qp_c, am_lf_c, am_kt_s, am_kt_n, am_wst, am_wstop, am_ns_0, am_ns_1, Bool.not_true, Bool.not_false, Bool.true_and, Bool.false_and, Nat.reduceBEq, ↓reduceIte, am_k2_n, am_k2_i, am_k2_r, am_k2_u, am_k2_f, am_k2_l, Nat.zero_le, true_and, and_true, true_or, or_true, am_cat_0, am_cat_i, am_cat_r, am_cat_l, am_cat_n, Nat.reduceLeDiff, Nat.reduceAdd, Option.isSome_some, List.getElem?_cons_zero, List.getElem?_cons_succ, am_fit_i, am_fit_r, am_fit_a]
  have hgo := lp_rvF (X := X) (D := D) (P := P) (q := q) hv hl hd hd0 h8 (by omega) hf hP (arrs true l h d f) 0 (by rw [List.drop_zero]) (by omega) (by
    apply fdI_congr
    intro b hb
    have := rvK_eq hl hd hd0 ham hb
    cases c : eqR (rwN b) (rvN l a) l with
    | true => rw [decide_eq_true (this.mpr c)]
    | false =>
      symm
      exact decide_eq_false (fun e => by rw [this.mp e] at c; cases c))
  exact am_WP.fg hgo (by simp [am_le, nI_0])
end RVO
