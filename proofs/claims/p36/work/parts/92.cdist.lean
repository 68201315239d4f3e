def lb1 (m : Nat) : Nat := m - (m / 2 ^ 1 &&& 6148914691236517205)
def lb2 (m : Nat) : Nat := (lb1 m &&& 3689348814741910323) + (lb1 m / 2 ^ 2 &&& 3689348814741910323)
def lb3 (m : Nat) : Nat := (lb2 m + lb2 m / 2 ^ 4) &&& 1085102592571150095
def lb4 (m : Nat) : Nat := lb3 m + lb3 m / 2 ^ 8
def lb5 (m : Nat) : Nat := lb4 m + lb4 m / 2 ^ 16
def lb6 (m : Nat) : Nat := lb5 m + lb5 m / 2 ^ 32
def lbN (m : Nat) : Nat := lb6 m &&& 127
theorem sp_lbit {X : Nat × (Nat → Int32)} {D m : Nat} {G : am_H} {P : Option Value → am_H → Prop} (hD : 1 ≤ D) (hm : m < 2 ^ 40) (h : P (some (.int (nI (lbN m)))) G) : am_CB X D 93 [.long (lN m)] G P := by
  obtain ⟨D, rfl⟩ : ∃ D0, D = D0 + 1 := ⟨D - 1, by omega⟩
  refine B93 60 [] ?_
  simp only [J93_0, J93_1, J93_2, J93_3, J93_4, J93_7, J93_8, J93_9, J93_10, J93_11, J93_14, J93_15, J93_16, J93_17, J93_18, J93_21, J93_22, J93_23, J93_24, J93_25, J93_26, J93_27, J93_28, J93_29, J93_32, J93_33, J93_34, J93_35, J93_36, J93_38, J93_39, J93_40, J93_41, J93_42, J93_43, J93_45, J93_46, J93_47, J93_48, J93_49, J93_50, J93_52, J93_53, J93_54, J93_55, J93_56, J93_57, J93_59, J93_60, am_gg_c, am_gf_c, am_pf_c, am_af_c, am_sf_c, am_bf_c, am_qf_c, am_ap_c, am_bp_c, am_qp_c, am_lf_c, am_kt_s, am_kt_n, am_wst, am_wstop, am_ns_0, am_ns_1, Bool.not_true, Bool.not_false, Bool.true_and, Bool.false_and, Nat.reduceBEq, ↓reduceIte, am_k2_n, am_k2_i, am_k2_r, am_k2_u, am_k2_f, am_k2_l, Nat.zero_le, true_and, and_true, true_or, or_true, am_cat_0, am_cat_i, am_cat_r, am_cat_l, am_cat_n, Nat.reduceLeDiff, Nat.reduceAdd, Option.isSome_some, List.getElem?_cons_zero, List.getElem?_cons_succ, am_fit_i, am_fit_r, am_fit_a]
  have hs1 : lb1 m < 2 ^ 40 := by unfold lb1; omega
  have hs2 : lb2 m < 2 ^ 42 := by
    have a : lb1 m &&& 3689348814741910323 ≤ lb1 m := Nat.and_le_left
    have b : lb1 m / 2 ^ 2 &&& 3689348814741910323 ≤ lb1 m / 2 ^ 2 := Nat.and_le_left
    unfold lb2; omega
  have hs3 : lb3 m < 2 ^ 43 := by
    have a : (lb2 m + lb2 m / 2 ^ 4) &&& 1085102592571150095 ≤ lb2 m + lb2 m / 2 ^ 4 := Nat.and_le_left
    unfold lb3; omega
  have hs4 : lb4 m < 2 ^ 44 := by unfold lb4; omega
  have hs5 : lb5 m < 2 ^ 45 := by unfold lb5; omega
  have l1 : (1 : Int32) = nI 1 := rfl
  have l2 : (2 : Int32) = nI 2 := rfl
  have l4 : (4 : Int32) = nI 4 := rfl
  have l8 : (8 : Int32) = nI 8 := rfl
  have l16 : (16 : Int32) = nI 16 := rfl
  have l32 : (32 : Int32) = nI 32 := rfl
  have f1 : lN m - (((lN m).toUInt64 >>> ((1 : Int32).toInt64.toUInt64 &&& Int64.toUInt64 63)).toInt64 &&& 6148914691236517205) = lN (lb1 m) := by
    rw [l1, lN_ushr (by omega) (by omega), show (6148914691236517205 : Int64) = lN 6148914691236517205 by rfl, lN_and, lN_sub (Nat.le_trans Nat.and_le_left (by omega))]; rfl
  rw [f1]
  have f2 : (lN (lb1 m) &&& 3689348814741910323) + (((lN (lb1 m)).toUInt64 >>> ((2 : Int32).toInt64.toUInt64 &&& Int64.toUInt64 63)).toInt64 &&& 3689348814741910323) = lN (lb2 m) := by
    rw [l2, lN_ushr (by omega) (by omega), show (3689348814741910323 : Int64) = lN 3689348814741910323 by rfl, lN_and, lN_and, lN_add]; rfl
  rw [f2]
  have f3 : lN (lb2 m) + ((lN (lb2 m)).toUInt64 >>> ((4 : Int32).toInt64.toUInt64 &&& Int64.toUInt64 63)).toInt64 &&& 1085102592571150095 = lN (lb3 m) := by
    rw [l4, lN_ushr (by omega) (by omega), show (1085102592571150095 : Int64) = lN 1085102592571150095 by rfl, lN_add, lN_and]; rfl
  rw [f3]
  have f4 : lN (lb3 m) + ((lN (lb3 m)).toUInt64 >>> ((8 : Int32).toInt64.toUInt64 &&& Int64.toUInt64 63)).toInt64 = lN (lb4 m) := by
    rw [l8, lN_ushr (by omega) (by omega), lN_add]; rfl
  rw [f4]
  have f5 : lN (lb4 m) + ((lN (lb4 m)).toUInt64 >>> ((16 : Int32).toInt64.toUInt64 &&& Int64.toUInt64 63)).toInt64 = lN (lb5 m) := by
    rw [l16, lN_ushr (by omega) (by omega), lN_add]; rfl
  rw [f5]
  have f6 : lN (lb5 m) + ((lN (lb5 m)).toUInt64 >>> ((32 : Int32).toInt64.toUInt64 &&& Int64.toUInt64 63)).toInt64 = lN (lb6 m) := by
    rw [l32, lN_ushr (by omega) (by omega), lN_add]; rfl
  rw [f6, lN_i, show (127 : Int32) = nI 127 by rfl, bi_and]
  exact h
theorem en_or1 {a b x y k : Nat} (ha : a < 2 ^ k) (hb : b < 2 ^ k) : (a + x * 2 ^ k) ||| (b + y * 2 ^ k) = (a ||| b) + (x ||| y) * 2 ^ k := by
  have hab : a ||| b < 2 ^ k := or_lt ha hb
  rw [Nat.add_comm a, Nat.add_comm b, Nat.add_comm (a ||| b), Nat.mul_comm x, Nat.mul_comm y, Nat.mul_comm (x ||| y)]
  apply Nat.eq_of_testBit_eq
  intro i
  rw [Nat.testBit_or, Nat.testBit_two_pow_mul_add _ ha, Nat.testBit_two_pow_mul_add _ hb, Nat.testBit_two_pow_mul_add _ hab]
  split <;> simp
def loM : Nat → Nat
  | 0 => 0
  | n + 1 => loM n + 15 * 2 ^ (5 * n)
def hiM : Nat → Nat
  | 0 => 0
  | n + 1 => hiM n + 16 * 2 ^ (5 * n)
def flM (n c : Nat) : Nat := ((c &&& loM n) + loM n ||| c) &&& hiM n
def sprG (g : Nat → Bool) : Nat → Nat
  | 0 => 0
  | n + 1 => sprG g n + (if g n = true then 16 else 0) * 2 ^ (5 * n)
theorem p5 (n : Nat) : 2 ^ (5 * (n + 1)) = 32 * 2 ^ (5 * n) := by rw [show 5 * (n + 1) = 5 + 5 * n by omega, Nat.pow_add]
theorem loM_lt : ∀ n, 2 * loM n < 2 ^ (5 * n)
  | 0 => by decide
  | n + 1 => by
    have := loM_lt n
    have hp := Nat.two_pow_pos (5 * n)
    rw [p5]
    unfold loM
    omega
theorem hiM_lt : ∀ n, hiM n < 2 ^ (5 * n)
  | 0 => by decide
  | n + 1 => by
    have := hiM_lt n
    rw [p5]
    unfold hiM
    omega
theorem fl_32 : ∀ c, c < 32 → ((c &&& 15) + 15 ||| c) &&& 16 = if decide (c ≠ 0) = true then 16 else 0 := by decide +kernel
theorem sprG_congr {g g' : Nat → Bool} : ∀ n, (∀ i, i < n → g i = g' i) → sprG g n = sprG g' n
  | 0, _ => rfl
  | n + 1, h => by
    unfold sprG
    rw [sprG_congr n (fun i hi => h i (by omega)), h n (by omega)]
theorem fld_mod {c n i : Nat} (hi : i < n) : c % 2 ^ (5 * n) / 2 ^ (5 * i) % 32 = c / 2 ^ (5 * i) % 32 := by
  apply Nat.eq_of_testBit_eq
  intro b
  rw [show (32 : Nat) = 2 ^ 5 by rfl, Nat.testBit_mod_two_pow, Nat.testBit_mod_two_pow, Nat.testBit_div_two_pow, Nat.testBit_div_two_pow, Nat.testBit_mod_two_pow]
  by_cases c : b < 5
  · rw [decide_eq_true c, decide_eq_true (show b + 5 * i < 5 * n by omega)]; simp
  · rw [decide_eq_false c]; simp
theorem flM_s : ∀ (n c : Nat), c < 2 ^ (5 * n) → flM n c = sprG (fun i => decide (c / 2 ^ (5 * i) % 32 ≠ 0)) n
  | 0, c, h => by
    have : c = 0 := by simpa using h
    subst this
    rfl
  | n + 1, c, h => by
    rw [p5] at h
    have hp := Nat.two_pow_pos (5 * n)
    have hc : c = c % 2 ^ (5 * n) + c / 2 ^ (5 * n) * 2 ^ (5 * n) := (Nat.mod_add_div' c (2 ^ (5 * n))).symm
    have hct : c / 2 ^ (5 * n) < 32 := by rw [Nat.div_lt_iff_lt_mul hp]; exact h
    have hc0 : c % 2 ^ (5 * n) < 2 ^ (5 * n) := Nat.mod_lt _ hp
    have ih := flM_s n (c % 2 ^ (5 * n)) hc0
    have hlo := loM_lt n
    have hhi := hiM_lt n
    have e1 : (c &&& loM (n + 1)) = (c % 2 ^ (5 * n) &&& loM n) + (c / 2 ^ (5 * n) &&& 15) * 2 ^ (5 * n) := by
      conv => lhs; rw [hc]
      exact en_and1 hc0 (by omega)
    have hle : (c % 2 ^ (5 * n) &&& loM n) ≤ loM n := Nat.and_le_right
    have e2 : (c &&& loM (n + 1)) + loM (n + 1) = ((c % 2 ^ (5 * n) &&& loM n) + loM n) + ((c / 2 ^ (5 * n) &&& 15) + 15) * 2 ^ (5 * n) := by
      rw [e1, Nat.add_mul]
      show _ + (loM n + 15 * 2 ^ (5 * n)) = _
      omega
    have e3 : ((c &&& loM (n + 1)) + loM (n + 1) ||| c) = ((c % 2 ^ (5 * n) &&& loM n) + loM n ||| c % 2 ^ (5 * n)) + ((c / 2 ^ (5 * n) &&& 15) + 15 ||| c / 2 ^ (5 * n)) * 2 ^ (5 * n) := by
      rw [e2]
      conv => lhs; rw [hc]
      have hm : (c % 2 ^ (5 * n) + c / 2 ^ (5 * n) * 2 ^ (5 * n)) % 2 ^ (5 * n) = c % 2 ^ (5 * n) := by rw [← hc]
      have hd : (c % 2 ^ (5 * n) + c / 2 ^ (5 * n) * 2 ^ (5 * n)) / 2 ^ (5 * n) = c / 2 ^ (5 * n) := by rw [← hc]
      rw [hm, hd]
      exact en_or1 (by omega) hc0
    unfold flM at ih ⊢
    rw [e3]
    show _ &&& (hiM n + 16 * 2 ^ (5 * n)) = sprG _ n + _
    rw [en_and1 (or_lt (by omega) hc0) hhi, ih, fl_32 _ hct]
    congr 1
    · exact sprG_congr n (fun i hi => by rw [fld_mod hi])
    · show _ = (if decide (c / 2 ^ (5 * n) % 32 ≠ 0) = true then 16 else 0) * 2 ^ (5 * n)
      rw [Nat.mod_eq_of_lt hct]
theorem xor_0 {a b : Nat} (h : a ^^^ b = 0) : a = b := by
  apply Nat.eq_of_testBit_eq
  intro i
  have e := congrArg (fun t => t.testBit i) h
  simp only [Nat.testBit_xor, Nat.zero_testBit] at e
  cases x : a.testBit i <;> cases y : b.testBit i <;> simp_all
def cnG (g : Nat → Bool) : Nat → Nat
  | 0 => 0
  | n + 1 => cnG g n + (if g n = true then 1 else 0)
theorem cnG_congr {g g' : Nat → Bool} : ∀ n, (∀ i, i < n → g i = g' i) → cnG g n = cnG g' n
  | 0, _ => rfl
  | n + 1, h => by
    unfold cnG
    rw [cnG_congr n (fun i hi => h i (by omega)), h n (by omega)]
theorem lb_256 : ∀ m, m < 256 → lbN (sprG (fun i => m.testBit i) 8) = cnG (fun i => m.testBit i) 8 := by decide +kernel
theorem lb_spr (g : Nat → Bool) : lbN (sprG g 8) = cnG g 8 := by
  have h := lb_256 (mkm g 8) (mkm_lt g 8)
  have e : ∀ i, i < 8 → (mkm g 8).testBit i = g i := fun i hi => by rw [mkm_bit, decide_eq_true hi, Bool.true_and]
  rw [sprG_congr 8 e, cnG_congr 8 e] at h
  exact h
theorem cnG_len (g : Nat → Bool) : ∀ n, cnG g n = ((List.range n).filter g).length
  | 0 => rfl
  | n + 1 => by
    unfold cnG
    rw [cnG_len g n, List.range_succ, List.filter_append, List.length_append]
    congr 1
    simp only [List.filter_cons, List.filter_nil]
    split <;> rfl
theorem apC_len {d : Nat} {x y : Nat → Int32} : ∀ n, apC d x y n = ((List.range n).filter (fun w => d.testBit w && !(x w == y w))).length
  | 0 => rfl
  | n + 1 => by
    unfold apC
    rw [apC_len n, List.range_succ, List.filter_append, List.length_append]
    congr 1
    simp only [List.filter_cons, List.filter_nil]
    split <;> rfl
theorem lb_dist {d : Nat} {a b : List (Nat × Nat)} (h8 : (bl d).length ≤ 8) (ha : Arr d a) (hb : Arr d b) : lbN (flM 8 (pkA d a ^^^ pkA d b)) = dsN d a b := by
  have h2 : ∀ {x : List (Nat × Nat)}, Arr d x → pkA d x < 2 ^ 40 := fun hx => Nat.lt_of_lt_of_le (pk_hi hx) (Nat.pow_le_pow_right (by omega) (by omega))
  have hx : pkA d a ^^^ pkA d b < 2 ^ (5 * 8) := Nat.xor_lt_two_pow (h2 ha) (h2 hb)
  rw [flM_s 8 _ hx, lb_spr, cnG_len]
  unfold dsN
  rw [apC_len]
  have hf : ∀ i, (pkA d a ^^^ pkA d b) / 2 ^ (5 * i) % 32 = (pkA d a / 2 ^ (5 * i) % 32) ^^^ (pkA d b / 2 ^ (5 * i) % 32) := by
    intro i
    apply Nat.eq_of_testBit_eq
    intro j
    rw [show (32 : Nat) = 2 ^ 5 by rfl]
    simp only [Nat.testBit_mod_two_pow, Nat.testBit_div_two_pow, Nat.testBit_xor]
    by_cases c : j < 5
    · rw [decide_eq_true c]; simp
    · rw [decide_eq_false c]; simp
  have e1 : (List.range 8).filter (fun i => decide ((pkA d a ^^^ pkA d b) / 2 ^ (5 * i) % 32 ≠ 0)) = (List.range (bl d).length).filter (fun i => !(nI (bgN a (ddN d i)) == nI (bgN b (ddN d i)))) := by
    have e8 : List.range (bl d).length = (List.range 8).filter (fun i => decide (i < (bl d).length)) := by
      generalize (bl d).length = n at h8
      have : ∀ n, n < 9 → List.range n = (List.range 8).filter (fun i => decide (i < n)) := by decide +kernel
      exact this n (by omega)
    rw [e8, List.filter_filter]
    apply List.filter_congr
    intro i hi
    have hi8 := List.mem_range.mp hi
    rw [hf i]
    by_cases c : i < (bl d).length
    · rw [pk_start ha c, pk_start hb c, decide_eq_true c, Bool.and_true]
      have b1 := bgN_lt (v := ddN d i) ha
      have b2 := bgN_lt (v := ddN d i) hb
      by_cases z : bgN a (ddN d i) = bgN b (ddN d i)
      · rw [z]; simp
      · have z1 : ¬ nI (bgN a (ddN d i)) = nI (bgN b (ddN d i)) := fun e => z (bi_inj (by omega) (by omega) e)
        have z2 : ¬ (bgN a (ddN d i) ^^^ bgN b (ddN d i)) = 0 := fun e => z (xor_0 e)
        simp [z1, z2]
    · have p0 : ∀ {x : List (Nat × Nat)}, Arr d x → pkA d x / 2 ^ (5 * i) = 0 := fun hx => Nat.div_eq_of_lt (Nat.lt_of_lt_of_le (pk_hi hx) (Nat.pow_le_pow_right (by omega) (by omega)))
      rw [p0 ha, p0 hb, decide_eq_false c]
      simp
  have e2 : (List.range 18).filter (fun w => d.testBit w && !(nI (bgN a w) == nI (bgN b w))) = (bl d).filter (fun w => !(nI (bgN a w) == nI (bgN b w))) := by
    unfold bl
    rw [List.filter_filter]
    apply List.filter_congr
    intro w _
    exact Bool.and_comm _ _
  rw [e1, e2]
  conv => rhs; rw [bl_map d, List.filter_map, List.length_map]
  rfl
section DST
variable {X : Nat × (Nat → Int32)} {D : Nat} {G : am_H} {P : Option Value → am_H → Prop} {l h d : Nat} {f : Nat → Nat} {a b : List (Nat × Nat)} {q p : Nat}
theorem loM_8 : loM 8 = 532021755375 := by decide +kernel
theorem hiM_8 : hiM 8 = 567489872400 := by decide +kernel
theorem sp_distOf (hl : l ≤ 18) (hd : d < 2 ^ 18) (hd0 : d.testBit 0 = false) (h8 : (bl d).length ≤ 8) (hD : 3 ≤ D) (hf : FO G l h d f) (hq : (arrs true l h d f)[q]? = some a) (hp : (arrs true l h d f)[p]? = some b) (hP : P (some (.int (nI (dsN d a b)))) G) : am_CB X D 13 [.ref 3, .int (nI q), .int (nI p)] G P := by
  obtain ⟨D, rfl⟩ : ∃ D0, D = D0 + 1 := ⟨D - 1, by omega⟩
  have ha := arrs_arr hl hd hd0 (List.mem_of_getElem? hq)
  have hb := arrs_arr hl hd hd0 (List.mem_of_getElem? hp)
  have h2 : ∀ {x : List (Nat × Nat)}, Arr d x → pkA d x < 2 ^ 40 := fun hx => Nat.lt_of_lt_of_le (pk_hi hx) (Nat.pow_le_pow_right (by omega) (by omega))
  have hob : ∃ fs, am_ob G 3 0 = some fs := by obtain ⟨pr, df, sf, ha, _⟩ := hf; exact ⟨_, ha.1⟩
  obtain ⟨fs, hob⟩ := hob
  rw [← lb_dist h8 ha hb] at hP
  unfold flM at hP
  rw [loM_8, hiM_8] at hP
  refine B13 40 [] ?_
  simp only [J13_0, J13_1, J13_2, J13_5, J13_6, J13_7, J13_10, J13_11, J13_12, J13_13, J13_16, J13_17, J13_20, J13_21, J13_22, J13_23, J13_26, J13_27, J13_30, am_gg_c, am_gf_c, am_pf_c, am_af_c, am_sf_c, am_bf_c, am_qf_c, am_ap_c, am_bp_c, am_qp_c, am_lf_c, am_kt_s, am_kt_n, am_wst, am_wstop, am_ns_0, am_ns_1, Bool.not_true, Bool.not_false, Bool.true_and, Bool.false_and, Nat.reduceBEq, ↓reduceIte, am_k2_n, am_k2_i, am_k2_r, am_k2_u, am_k2_f, am_k2_l, Nat.zero_le, true_and, and_true, true_or, or_true, am_cat_0, am_cat_i, am_cat_r, am_cat_l, am_cat_n, Nat.reduceLeDiff, Nat.reduceAdd, Option.isSome_some, List.getElem?_cons_zero, List.getElem?_cons_succ, am_fit_i, am_fit_r, am_fit_a, hob]
  refine sp_fpacked (by omega) hf hq ?_
  simp only [J13_0, J13_1, J13_2, J13_5, J13_6, J13_7, J13_10, J13_11, J13_12, J13_13, J13_16, J13_17, J13_20, J13_21, J13_22, J13_23, J13_26, J13_27, J13_30, am_gg_c, am_gf_c, am_pf_c, am_af_c, am_sf_c, am_bf_c, am_qf_c, am_ap_c, am_bp_c, am_qp_c, am_lf_c, am_kt_s, am_kt_n, am_wst, am_wstop, am_ns_0, am_ns_1, Bool.not_true, Bool.not_false, Bool.true_and, Bool.false_and, Nat.reduceBEq, ↓reduceIte, am_k2_n, am_k2_i, am_k2_r, am_k2_u, am_k2_f, am_k2_l, Nat.zero_le, true_and, and_true, true_or, or_true, am_cat_0, am_cat_i, am_cat_r, am_cat_l, am_cat_n, Nat.reduceLeDiff, Nat.reduceAdd, Option.isSome_some, List.getElem?_cons_zero, List.getElem?_cons_succ, am_fit_i, am_fit_r, am_fit_a, hob]
  refine sp_fpacked (by omega) hf hp ?_
  simp only [J13_0, J13_1, J13_2, J13_5, J13_6, J13_7, J13_10, J13_11, J13_12, J13_13, J13_16, J13_17, J13_20, J13_21, J13_22, J13_23, J13_26, J13_27, J13_30, am_gg_c, am_gf_c, am_pf_c, am_af_c, am_sf_c, am_bf_c, am_qf_c, am_ap_c, am_bp_c, am_qp_c, am_lf_c, am_kt_s, am_kt_n, am_wst, am_wstop, am_ns_0, am_ns_1, Bool.not_true, Bool.not_false, Bool.true_and, Bool.false_and, Nat.reduceBEq, ↓reduceIte, am_k2_n, am_k2_i, am_k2_r, am_k2_u, am_k2_f, am_k2_l, Nat.zero_le, true_and, and_true, true_or, or_true, am_cat_0, am_cat_i, am_cat_r, am_cat_l, am_cat_n, Nat.reduceLeDiff, Nat.reduceAdd, Option.isSome_some, List.getElem?_cons_zero, List.getElem?_cons_succ, am_fit_i, am_fit_r, am_fit_a]
  rw [lN_xor, show (532021755375 : Int64) = lN 532021755375 by rfl, lN_and, lN_add, lN_or, show (567489872400 : Int64) = lN 567489872400 by rfl, lN_and]
  refine sp_lbit (by omega) (Nat.lt_of_le_of_lt Nat.and_le_right (by omega)) ?_
  simp only [J13_0, J13_1, J13_2, J13_5, J13_6, J13_7, J13_10, J13_11, J13_12, J13_13, J13_16, J13_17, J13_20, J13_21, J13_22, J13_23, J13_26, J13_27, J13_30, am_gg_c, am_gf_c, am_pf_c, am_af_c, am_sf_c, am_bf_c, am_qf_c, am_ap_c, am_bp_c, am_qp_c, am_lf_c, am_kt_s, am_kt_n, am_wst, am_wstop, am_ns_0, am_ns_1, Bool.not_true, Bool.not_false, Bool.true_and, Bool.false_and, Nat.reduceBEq, ↓reduceIte, am_k2_n, am_k2_i, am_k2_r, am_k2_u, am_k2_f, am_k2_l, Nat.zero_le, true_and, and_true, true_or, or_true, am_cat_0, am_cat_i, am_cat_r, am_cat_l, am_cat_n, Nat.reduceLeDiff, Nat.reduceAdd, Option.isSome_some, List.getElem?_cons_zero, List.getElem?_cons_succ, am_fit_i, am_fit_r, am_fit_a]
  exact hP
end DST
