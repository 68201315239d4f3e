/-! ofTriple, triple, cover -/
theorem lN_shr {a k : Nat} (ha : a < 2 ^ 31) (hk : k < 64) : lN a >>> ((nI k).toInt64 &&& 63) = lN (a / 2 ^ k) := by
  apply Int64.toInt_inj.mp
  have h2 : a / 2 ^ k ≤ a := Nat.div_le_self _ _
  have e : (lN a >>> ((nI k).toInt64 &&& 63)).toInt = (lN a).toInt >>> k := by
    show ((lN a).toBitVec.sshiftRight (((nI k).toInt64 &&& 63).toBitVec.smod 64).toNat).toInt = _
    rw [lN_sl k hk, BitVec.toInt_sshiftRight]
    rfl
  rw [e, lN_toInt ha, lN_toInt (by omega), Int.shiftRight_eq_div_pow]
  rfl
theorem lN_cmp1 {a : Nat} (ha : a < 2 ^ 31) : lg_cmp (lN a) 1 = 0 ↔ a = 1 := by
  have e1 : (1 : Int64) = lN 1 := rfl
  constructor
  · intro h
    unfold lg_cmp at h
    split at h
    · cases h
    · split at h
      · next q =>
        rw [e1] at q
        have := congrArg Int64.toInt q
        rw [lN_toInt ha, lN_toInt (by omega)] at this
        omega
      · cases h
  · intro h
    subst h
    rfl
theorem ens_wit {ok : Nat → Nat → Bool} : ∀ (k O m : Nat), O < 2 ^ 18 → m.testBit 0 = false → (bl O).length = 2 * k → ∀ a ∈ ens ok k O m, ∀ p w, (p, w) ∈ a → O.testBit p = true ∧ O.testBit (p + w) = true ∧ ok p w = true ∧ m.testBit w = true ∧ 0 < w
  | 0, O, m, hO, h0, hk, a, ha, p, w, hp => by
    have : a = [] := by simpa [ens] using ha
    subst this
    cases hp
  | k + 1, O, m, hO, h0, hk, a, ha, p, w, hp => by
    have hne : bl O ≠ [] := fun q => by rw [q] at hk; simp at hk
    obtain ⟨l1, l2, l3⟩ := lo_s hne
    unfold ens at ha
    rw [List.mem_flatMap] at ha
    obtain ⟨e, he, h2⟩ := ha
    split at h2
    · next c =>
      rw [Bool.and_eq_true, Bool.and_eq_true] at c
      rw [List.mem_map] at h2
      obtain ⟨b, hb, rfl⟩ := h2
      have e0 : 0 < e := by
        rcases Nat.eq_zero_or_pos e with z | z
        · rw [z, h0] at c; cases c.1
        · exact z
      rcases List.mem_cons.mp hp with q | q
      · cases q
        exact ⟨l1, c.2.1, c.2.2, c.1, e0⟩
      · have h18 : lo O + e < 18 := by
          rcases Nat.lt_or_ge (lo O + e) 18 with z | z
          · exact z
          · rw [bt_hi hO z] at c; cases c.2.1
        have hl2 := bl_sub2_len l2 h18 l1 c.2.1 (by omega)
        obtain ⟨r1, r2, r3, r4, r5⟩ := ens_wit k (O - (2 ^ lo O + 2 ^ (lo O + e))) (m - 2 ^ e) (Nat.lt_of_le_of_lt (Nat.sub_le _ _) hO) (by rw [bt_sub c.1, h0]; rfl) (by omega) b hb p w q
        have t := (bt_two_s l1 c.2.1 (by omega)).2
        rw [t] at r1 r2
        rw [bt_sub c.1] at r4
        simp only [Bool.and_eq_true] at r1 r2 r4
        exact ⟨r1.1.1, r2.1.1, r3, r4.1, r5⟩
    · cases h2
theorem arrs_wit {ipb : Bool} {l h d : Nat} {f : Nat → Nat} {a : List (Nat × Nat)} (hl : l ≤ 18) (hd0 : d.testBit 0 = false) (ha : a ∈ arrs ipb l h d f) {p w : Nat} (hp : (p, w) ∈ a) : (frN l h).testBit p = true ∧ (frN l h).testBit (p + w) = true ∧ okB ipb f p w = true ∧ d.testBit w = true ∧ 0 < w ∧ p + w < l := by
  unfold arrs at ha
  split at ha
  · next c =>
    rw [Bool.and_eq_true] at c
    obtain ⟨r1, r2, r3, r4, r5⟩ := ens_wit _ _ _ (frN_lt hl) hd0 (by simpa [filledB] using c.1) a ha p w hp
    refine ⟨r1, r2, r3, r4, r5, ?_⟩
    rw [frN_bit hl, Bool.and_eq_true, decide_eq_true_eq] at r2
    exact r2.1
  · cases ha
/-- a number of a triple -/
def trN (n : Nat) (a : List (Nat × Nat)) (w x : Nat) : Nat := if x = 0 then w else if x = 1 then bgN a w + 1 + n else bgN a w + 1 + n + w
def tpI (A : List (List (Nat × Nat))) (d : Nat) (z x y : Int32) : Int32 := if ownB d x = true then (match goA A z with
  | none => -1
  | some a => if 0 ≤ y.toInt ∧ y.toInt ≤ 2 then nI (trN (bl d).length a x.toInt.toNat y.toInt.toNat) else -2) else -1
def cvF : List Nat → Nat → Nat → Nat
  | [], _, g => g
  | v :: L, s, g => if s.testBit v = true then 0 else cvF L (s ||| 2 ^ v) (if g < v then v else g)
def cvT (n : Nat) (a : List (Nat × Nat)) (w j : Nat) : List Nat := (List.range' j (3 - j)).map (trN n a w)
def cvL (d : Nat) (a : List (Nat × Nat)) : Nat → Nat → List Nat
  | 0, _ => []
  | k + 1, i => (if d.testBit i = true then cvT (bl d).length a i 0 else []) ++ cvL d a k (i + 1)
def cvI (A : List (List (Nat × Nat))) (d : Nat) (z : Int32) : Int32 := match goA A z with
  | none => -1
  | some a => nI (cvF (cvL d a 17 1) 0 0)
section TR
variable {X : Nat × (Nat → Int32)} {D : Nat} {P : Option Value → am_H → Prop} {pm len T m ip due dep vp : Int32} {l h d : Nat} {f : Nat → Nat}
theorem sp_ofTriple {G : am_H} {a : List (Nat × Nat)} {w x : Nat} (hD : 2 ≤ D) (h1 : am_ob G 23 5 = some (moL pm len T m ip due dep vp)) (hm : MA G l h d f) (hr : RW G a) (hw : w < 18) (hwa : (bgN a w, w) ∈ a) (hx : x ≤ 2) (hP : P (some (.int (nI (trN (bl d).length a w x)))) G) : am_CB X D 158 [.ref 23, .int (nI w), .int (nI x)] G P := by
  obtain ⟨D, rfl⟩ : ∃ D0, D = D0 + 1 := ⟨D - 1, by omega⟩
  obtain ⟨⟨af, a1, a2, a3, a4, a5⟩, hl1, hl, hh, hd, hd0, hf⟩ := id hm
  have h2 : af (2 : Int32).toNatClampNeg = nI d := a4
  obtain ⟨r, bg, r1, r2, r3, r4⟩ := hr
  unfold trN at hP
  refine B158 60 [] ?_
  simp only [J158_0, J158_1, J158_4, J158_5, J158_6, J158_9, J158_10, J158_11, J158_14, J158_15, J158_16, J158_17, J158_18, J158_19, J158_20, J158_22, J158_23, J158_26, J158_27, J158_30, J158_31, J158_32, J158_35, J158_37, J158_40, J158_42, J158_43, J158_44, am_gg_c, am_gf_c, am_pf_c, am_af_c, am_sf_c, am_bf_c, am_qf_c, am_ap_c, am_bp_c, am_qp_c, am_lf_c, am_kt_s, am_kt_n, am_wst, am_wstop, am_ns_0, am_ns_1, Bool.not_true, Bool.not_false, Bool.true_and, Bool.false_and, Nat.reduceBEq, ↓reduceIte, am_k2_n, am_k2_i, am_k2_r, am_k2_u, am_k2_f, am_k2_l, Nat.zero_le, true_and, and_true, true_or, or_true, am_cat_0, am_cat_i, am_cat_r, am_cat_l, am_cat_n, Nat.reduceLeDiff, Nat.reduceAdd, Option.isSome_some, List.getElem?_cons_zero, List.getElem?_cons_succ, am_fit_i, am_fit_r, am_fit_a, h1, a1, h2]
  refine ⟨vp_lit (k := 2) rfl (by omega) (by omega), ?_⟩
  refine sp_sizeOf (by omega) (by omega) ?_
  simp only [J158_0, J158_1, J158_4, J158_5, J158_6, J158_9, J158_10, J158_11, J158_14, J158_15, J158_16, J158_17, J158_18, J158_19, J158_20, J158_22, J158_23, J158_26, J158_27, J158_30, J158_31, J158_32, J158_35, J158_37, J158_40, J158_42, J158_43, J158_44, am_gg_c, am_gf_c, am_pf_c, am_af_c, am_sf_c, am_bf_c, am_qf_c, am_ap_c, am_bp_c, am_qp_c, am_lf_c, am_kt_s, am_kt_n, am_wst, am_wstop, am_ns_0, am_ns_1, Bool.not_true, Bool.not_false, Bool.true_and, Bool.false_and, Nat.reduceBEq, ↓reduceIte, am_k2_n, am_k2_i, am_k2_r, am_k2_u, am_k2_f, am_k2_l, Nat.zero_le, true_and, and_true, true_or, or_true, am_cat_0, am_cat_i, am_cat_r, am_cat_l, am_cat_n, Nat.reduceLeDiff, Nat.reduceAdd, Option.isSome_some, List.getElem?_cons_zero, List.getElem?_cons_succ, am_fit_i, am_fit_r, am_fit_a, h1, r2]
  refine ⟨vp_in_n (by omega) (by omega), ?_⟩
  rw [nI_clamp (by omega), r4 _ w hwa, nI_1, nI_add]
  by_cases c0 : x = 0
  · rw [if_pos c0] at hP
    rw [if_pos (by rw [c0]; rfl)]
    exact hP
  · rw [if_neg c0] at hP
    rw [if_neg (by rw [bi_eq0 (by omega)]; exact c0)]
    by_cases c1 : x = 1
    · rw [if_pos c1] at hP
      rw [if_pos (by rw [c1]; rfl)]
      exact hP
    · rw [if_neg c1] at hP
      rw [if_neg (fun e => c1 (bi_inj (by omega) (by omega) (e.trans (show (1 : Int32) = nI 1 by rfl)))), nI_add]
      exact hP
theorem sp_mtriple {G : am_H} {z x y : Int32} (hD : 6 ≤ D) (hE : EnA G pm vp) (hm : MA G l h d f) (hd1 : 1 ≤ (bl d).length) (hd8 : (bl d).length ≤ 8) (hP : ∀ G', EnA G' pm vp → Fr kE G G' → P (some (.int (tpI (arrs true l h d f) d z x y))) G') : am_CB X D 159 [.ref 23, .int z, .int x, .int y] G P := by
  obtain ⟨D, rfl⟩ : ∃ D0, D = D0 + 1 := ⟨D - 1, by omega⟩
  obtain ⟨len, T, m, ip, due, dep, b1⟩ := hE.1
  have hd := hm.2.2.2.2.1
  unfold tpI at hP
  refine B159 60 [] ?_
  simp only [J159_0, J159_1, J159_2, J159_5, J159_8, J159_9, J159_10, J159_13, J159_16, J159_17, J159_18, J159_19, J159_20, J159_21, J159_24, J159_27, J159_28, J159_29, J159_30, J159_33, J159_36, J159_38, am_gg_c, am_gf_c, am_pf_c, am_af_c, am_sf_c, am_bf_c, am_qf_c, am_ap_c, am_bp_c, am_qp_c, am_lf_c, am_kt_s, am_kt_n, am_wst, am_wstop, am_ns_0, am_ns_1, Bool.not_true, Bool.not_false, Bool.true_and, Bool.false_and, Nat.reduceBEq, ↓reduceIte, am_k2_n, am_k2_i, am_k2_r, am_k2_u, am_k2_f, am_k2_l, Nat.zero_le, true_and, and_true, true_or, or_true, am_cat_0, am_cat_i, am_cat_r, am_cat_l, am_cat_n, Nat.reduceLeDiff, Nat.reduceAdd, Option.isSome_some, List.getElem?_cons_zero, List.getElem?_cons_succ, am_fit_i, am_fit_r, am_fit_a, b1]
  refine sp_isOwn (by omega) b1 hm ?_
  simp only [J159_0, J159_1, J159_2, J159_5, J159_8, J159_9, J159_10, J159_13, J159_16, J159_17, J159_18, J159_19, J159_20, J159_21, J159_24, J159_27, J159_28, J159_29, J159_30, J159_33, J159_36, J159_38, am_gg_c, am_gf_c, am_pf_c, am_af_c, am_sf_c, am_bf_c, am_qf_c, am_ap_c, am_bp_c, am_qp_c, am_lf_c, am_kt_s, am_kt_n, am_wst, am_wstop, am_ns_0, am_ns_1, Bool.not_true, Bool.not_false, Bool.true_and, Bool.false_and, Nat.reduceBEq, ↓reduceIte, am_k2_n, am_k2_i, am_k2_r, am_k2_u, am_k2_f, am_k2_l, Nat.zero_le, true_and, and_true, true_or, or_true, am_cat_0, am_cat_i, am_cat_r, am_cat_l, am_cat_n, Nat.reduceLeDiff, Nat.reduceAdd, Option.isSome_some, List.getElem?_cons_zero, List.getElem?_cons_succ, am_fit_i, am_fit_r, am_fit_a, b1]
  cases hb : ownB d x with
  | false =>
    rw [hb] at hP
    simp only [Bool.false_eq_true, if_false, if_true]
    simpa using hP G hE Fr.rf
  | true =>
    rw [hb] at hP
    simp only [if_true] at hP
    unfold ownB at hb
    rw [Bool.and_eq_true, decide_eq_true_eq] at hb
    obtain ⟨e, e2⟩ := bi_nat (x := x) (by omega)
    have hk : x.toInt.toNat ≤ 17 := by omega
    generalize x.toInt.toNat = w at *
    subst e
    simp only [if_true, if_neg (show ¬ (1 : Int32) = 0 by decide)]
    refine sp_goTo (by omega) hE hm hd1 hd8 (fun e G' d1 d2 => ?_) (fun a e G' d1 d2 d3 => ?_)
    · simp only [J159_0, J159_1, J159_2, J159_5, J159_8, J159_9, J159_10, J159_13, J159_16, J159_17, J159_18, J159_19, J159_20, J159_21, J159_24, J159_27, J159_28, J159_29, J159_30, J159_33, J159_36, J159_38, am_gg_c, am_gf_c, am_pf_c, am_af_c, am_sf_c, am_bf_c, am_qf_c, am_ap_c, am_bp_c, am_qp_c, am_lf_c, am_kt_s, am_kt_n, am_wst, am_wstop, am_ns_0, am_ns_1, Bool.not_true, Bool.not_false, Bool.true_and, Bool.false_and, Nat.reduceBEq, ↓reduceIte, am_k2_n, am_k2_i, am_k2_r, am_k2_u, am_k2_f, am_k2_l, Nat.zero_le, true_and, and_true, true_or, or_true, am_cat_0, am_cat_i, am_cat_r, am_cat_l, am_cat_n, Nat.reduceLeDiff, Nat.reduceAdd, Option.isSome_some, List.getElem?_cons_zero, List.getElem?_cons_succ, am_fit_i, am_fit_r, am_fit_a, if_true]
      have := hP G' d1 d2
      rw [e] at this
      exact this
    · obtain ⟨len, T, m, ip, due, dep, b2⟩ := d1.1
      have hh := hP G' d1 d3
      rw [e] at hh
      simp only at hh
      simp only [J159_0, J159_1, J159_2, J159_5, J159_8, J159_9, J159_10, J159_13, J159_16, J159_17, J159_18, J159_19, J159_20, J159_21, J159_24, J159_27, J159_28, J159_29, J159_30, J159_33, J159_36, J159_38, am_gg_c, am_gf_c, am_pf_c, am_af_c, am_sf_c, am_bf_c, am_qf_c, am_ap_c, am_bp_c, am_qp_c, am_lf_c, am_kt_s, am_kt_n, am_wst, am_wstop, am_ns_0, am_ns_1, Bool.not_true, Bool.not_false, Bool.true_and, Bool.false_and, Nat.reduceBEq, ↓reduceIte, am_k2_n, am_k2_i, am_k2_r, am_k2_u, am_k2_f, am_k2_l, Nat.zero_le, true_and, and_true, true_or, or_true, am_cat_0, am_cat_i, am_cat_r, am_cat_l, am_cat_n, Nat.reduceLeDiff, Nat.reduceAdd, Option.isSome_some, List.getElem?_cons_zero, List.getElem?_cons_succ, am_fit_i, am_fit_r, am_fit_a, if_neg (show ¬ (1 : Int32) = 0 by decide), b2]
      refine sp_in (by omega) ?_
      simp only [J159_0, J159_1, J159_2, J159_5, J159_8, J159_9, J159_10, J159_13, J159_16, J159_17, J159_18, J159_19, J159_20, J159_21, J159_24, J159_27, J159_28, J159_29, J159_30, J159_33, J159_36, J159_38, am_gg_c, am_gf_c, am_pf_c, am_af_c, am_sf_c, am_bf_c, am_qf_c, am_ap_c, am_bp_c, am_qp_c, am_lf_c, am_kt_s, am_kt_n, am_wst, am_wstop, am_ns_0, am_ns_1, Bool.not_true, Bool.not_false, Bool.true_and, Bool.false_and, Nat.reduceBEq, ↓reduceIte, am_k2_n, am_k2_i, am_k2_r, am_k2_u, am_k2_f, am_k2_l, Nat.zero_le, true_and, and_true, true_or, or_true, am_cat_0, am_cat_i, am_cat_r, am_cat_l, am_cat_n, Nat.reduceLeDiff, Nat.reduceAdd, Option.isSome_some, List.getElem?_cons_zero, List.getElem?_cons_succ, am_fit_i, am_fit_r, am_fit_a, b2]
      rw [show (0 : Int32).toInt = 0 by rfl, show (2 : Int32).toInt = 2 by rfl]
      by_cases c : 0 ≤ y.toInt ∧ y.toInt ≤ 2
      · rw [if_pos c] at hh
        rw [if_pos c, if_neg (by decide)]
        obtain ⟨ey, ey2⟩ := bi_nat c.1
        have hk2 : y.toInt.toNat ≤ 2 := by omega
        generalize y.toInt.toNat = yn at *
        subst ey
        refine sp_ofTriple (by omega) b2 (hm.fr d3 (by decide)) d2 (by omega) (bgN_mem hd (goA_mem e) hb.2) hk2 ?_
        simp only [J159_0, J159_1, J159_2, J159_5, J159_8, J159_9, J159_10, J159_13, J159_16, J159_17, J159_18, J159_19, J159_20, J159_21, J159_24, J159_27, J159_28, J159_29, J159_30, J159_33, J159_36, J159_38, am_gg_c, am_gf_c, am_pf_c, am_af_c, am_sf_c, am_bf_c, am_qf_c, am_ap_c, am_bp_c, am_qp_c, am_lf_c, am_kt_s, am_kt_n, am_wst, am_wstop, am_ns_0, am_ns_1, Bool.not_true, Bool.not_false, Bool.true_and, Bool.false_and, Nat.reduceBEq, ↓reduceIte, am_k2_n, am_k2_i, am_k2_r, am_k2_u, am_k2_f, am_k2_l, Nat.zero_le, true_and, and_true, true_or, or_true, am_cat_0, am_cat_i, am_cat_r, am_cat_l, am_cat_n, Nat.reduceLeDiff, Nat.reduceAdd, Option.isSome_some, List.getElem?_cons_zero, List.getElem?_cons_succ, am_fit_i, am_fit_r, am_fit_a]
        exact hh
      · rw [if_neg c] at hh
        rw [if_neg c, if_pos rfl]
        exact hh
theorem cvT_s {n w j : Nat} {a : List (Nat × Nat)} (hj : j < 3) : cvT n a w j = trN n a w j :: cvT n a w (j + 1) := by
  unfold cvT
  rw [show 3 - j = (3 - (j + 1)) + 1 by omega, List.range'_succ, List.map_cons]
theorem lp_cvIn {G : am_H} {a : List (Nat × Nat)} {z : Int32} {w : Nat} {R : List Nat} {V : Nat} (hD : 2 ≤ D) (h1 : am_ob G 23 5 = some (moL pm len T m ip due dep vp)) (hm : MA G l h d f) (hr : RW G a) (hw : w < 18) (hdw : d.testBit w = true) (hwa : (bgN a w, w) ∈ a) (hlt : ∀ x, trN (bl d).length a w x < 31) (hP : P (some (.int (nI V))) G)
    (hK : ∀ s g, s < 2 ^ 31 → g < 31 → V = cvF R s g → am_WP X D 160 91 [some (.ref 23), some (.int z), some (.int (nI g)), some (.long (lN s)), none, some (.int (nI w)), none, none] [] G 0 0 P) :
    ∀ (k j : Nat) (s g : Nat), j + k = 3 → s < 2 ^ 31 → g < 31 → V = cvF (cvT (bl d).length a w j ++ R) s g → am_WP X D 160 27 [some (.ref 23), some (.int z), some (.int (nI g)), some (.long (lN s)), none, some (.int (nI w)), some (.int (nI j)), none] [] G 0 0 P := by
  intro k
  induction k with
  | zero =>
    intro j s g hj hs hg hV
    refine am_wps 60 [88, 91] ?_
    simp only [J160_0, J160_1, J160_2, J160_5, J160_8, J160_9, J160_10, J160_11, J160_12, J160_13, J160_14, J160_15, J160_17, J160_19, J160_21, J160_24, J160_25, J160_27, J160_29, J160_30, J160_33, J160_34, J160_36, J160_39, J160_42, J160_43, J160_45, J160_47, J160_50, J160_52, J160_53, J160_55, J160_56, J160_57, J160_58, J160_59, J160_60, J160_63, J160_64, J160_65, J160_66, J160_67, J160_69, J160_70, J160_71, J160_72, J160_74, J160_75, J160_78, J160_80, J160_83, J160_84, J160_85, J160_88, J160_91, J160_94, J160_97, J160_98, am_gg_c, am_gf_c, am_pf_c, am_af_c, am_sf_c, am_bf_c, am_qf_c, am_ap_c, am_bp_c, am_qp_c, am_lf_c, am_kt_s, am_kt_n, am_wst, am_wstop, am_ns_0, am_ns_1, Bool.not_true, Bool.not_false, Bool.true_and, Bool.false_and, Nat.reduceBEq, ↓reduceIte, am_k2_n, am_k2_i, am_k2_r, am_k2_u, am_k2_f, am_k2_l, Nat.zero_le, true_and, and_true, true_or, or_true, am_cat_0, am_cat_i, am_cat_r, am_cat_l, am_cat_n, Nat.reduceLeDiff, Nat.reduceAdd, Option.isSome_some, List.getElem?_cons_zero, List.getElem?_cons_succ, am_fit_i, am_fit_r, am_fit_a]
    rw [if_neg (by rw [show j = 3 by omega]; decide)]
    refine am_WP.fg (hK s g hs hg ?_) (by simp [am_le])
    rw [show j = 3 by omega] at hV
    exact hV
  | succ k ih =>
    intro j s g hj hs hg hV
    have hv := hlt j
    rw [cvT_s (by omega), List.cons_append] at hV
    have hs2 : cvF (trN (bl d).length a w j :: (cvT (bl d).length a w (j + 1) ++ R)) s g = if s.testBit (trN (bl d).length a w j) = true then 0 else cvF (cvT (bl d).length a w (j + 1) ++ R) (s ||| 2 ^ trN (bl d).length a w j) (if g < trN (bl d).length a w j then trN (bl d).length a w j else g) := rfl
    rw [hs2] at hV
    refine am_wps 60 [88, 91] ?_
    simp only [J160_0, J160_1, J160_2, J160_5, J160_8, J160_9, J160_10, J160_11, J160_12, J160_13, J160_14, J160_15, J160_17, J160_19, J160_21, J160_24, J160_25, J160_27, J160_29, J160_30, J160_33, J160_34, J160_36, J160_39, J160_42, J160_43, J160_45, J160_47, J160_50, J160_52, J160_53, J160_55, J160_56, J160_57, J160_58, J160_59, J160_60, J160_63, J160_64, J160_65, J160_66, J160_67, J160_69, J160_70, J160_71, J160_72, J160_74, J160_75, J160_78, J160_80, J160_83, J160_84, J160_85, J160_88, J160_91, J160_94, J160_97, J160_98, am_gg_c, am_gf_c, am_pf_c, am_af_c, am_sf_c, am_bf_c, am_qf_c, am_ap_c, am_bp_c, am_qp_c, am_lf_c, am_kt_s, am_kt_n, am_wst, am_wstop, am_ns_0, am_ns_1, Bool.not_true, Bool.not_false, Bool.true_and, Bool.false_and, Nat.reduceBEq, ↓reduceIte, am_k2_n, am_k2_i, am_k2_r, am_k2_u, am_k2_f, am_k2_l, Nat.zero_le, true_and, and_true, true_or, or_true, am_cat_0, am_cat_i, am_cat_r, am_cat_l, am_cat_n, Nat.reduceLeDiff, Nat.reduceAdd, Option.isSome_some, List.getElem?_cons_zero, List.getElem?_cons_succ, am_fit_i, am_fit_r, am_fit_a, h1]
    rw [if_pos (by rw [show (3 : Int32) = nI 3 by rfl, nI_ltI (by omega) (by omega)]; omega)]
    refine sp_isOwn hD h1 hm ?_
    rw [ownB_n hm.2.2.2.2.1 hm.2.2.2.2.2.1 (by omega), hdw]
    simp only [J160_0, J160_1, J160_2, J160_5, J160_8, J160_9, J160_10, J160_11, J160_12, J160_13, J160_14, J160_15, J160_17, J160_19, J160_21, J160_24, J160_25, J160_27, J160_29, J160_30, J160_33, J160_34, J160_36, J160_39, J160_42, J160_43, J160_45, J160_47, J160_50, J160_52, J160_53, J160_55, J160_56, J160_57, J160_58, J160_59, J160_60, J160_63, J160_64, J160_65, J160_66, J160_67, J160_69, J160_70, J160_71, J160_72, J160_74, J160_75, J160_78, J160_80, J160_83, J160_84, J160_85, J160_88, J160_91, J160_94, J160_97, J160_98, am_gg_c, am_gf_c, am_pf_c, am_af_c, am_sf_c, am_bf_c, am_qf_c, am_ap_c, am_bp_c, am_qp_c, am_lf_c, am_kt_s, am_kt_n, am_wst, am_wstop, am_ns_0, am_ns_1, Bool.not_true, Bool.not_false, Bool.true_and, Bool.false_and, Nat.reduceBEq, ↓reduceIte, am_k2_n, am_k2_i, am_k2_r, am_k2_u, am_k2_f, am_k2_l, Nat.zero_le, true_and, and_true, true_or, or_true, am_cat_0, am_cat_i, am_cat_r, am_cat_l, am_cat_n, Nat.reduceLeDiff, Nat.reduceAdd, Option.isSome_some, List.getElem?_cons_zero, List.getElem?_cons_succ, am_fit_i, am_fit_r, am_fit_a, h1, if_true, if_neg (show ¬ (1 : Int32) = 0 by decide)]
    refine sp_ofTriple hD h1 hm hr hw hwa (by omega) ?_
    simp only [J160_0, J160_1, J160_2, J160_5, J160_8, J160_9, J160_10, J160_11, J160_12, J160_13, J160_14, J160_15, J160_17, J160_19, J160_21, J160_24, J160_25, J160_27, J160_29, J160_30, J160_33, J160_34, J160_36, J160_39, J160_42, J160_43, J160_45, J160_47, J160_50, J160_52, J160_53, J160_55, J160_56, J160_57, J160_58, J160_59, J160_60, J160_63, J160_64, J160_65, J160_66, J160_67, J160_69, J160_70, J160_71, J160_72, J160_74, J160_75, J160_78, J160_80, J160_83, J160_84, J160_85, J160_88, J160_91, J160_94, J160_97, J160_98, am_gg_c, am_gf_c, am_pf_c, am_af_c, am_sf_c, am_bf_c, am_qf_c, am_ap_c, am_bp_c, am_qp_c, am_lf_c, am_kt_s, am_kt_n, am_wst, am_wstop, am_ns_0, am_ns_1, Bool.not_true, Bool.not_false, Bool.true_and, Bool.false_and, Nat.reduceBEq, ↓reduceIte, am_k2_n, am_k2_i, am_k2_r, am_k2_u, am_k2_f, am_k2_l, Nat.zero_le, true_and, and_true, true_or, or_true, am_cat_0, am_cat_i, am_cat_r, am_cat_l, am_cat_n, Nat.reduceLeDiff, Nat.reduceAdd, Option.isSome_some, List.getElem?_cons_zero, List.getElem?_cons_succ, am_fit_i, am_fit_r, am_fit_a]
    generalize trN (bl d).length a w j = v at *
    rw [lN_shr (by omega) (by omega), show (1 : Int64) = lN 1 by rfl, lN_and, Nat.and_one_is_mod]
    have hb := Nat.testBit_eq_decide_div_mod_eq (x := s) (i := v)
    have hc := lN_cmp1 (a := s / 2 ^ v % 2) (by omega)
    rw [show (1 : Int64) = lN 1 by rfl] at hc
    by_cases c : s / 2 ^ v % 2 = 1
    · rw [if_pos (hc.mpr c)]
      rw [hb, decide_eq_true c, if_pos rfl] at hV
      rw [hV] at hP
      exact hP
    · rw [if_neg (fun q => c (hc.mp q))]
      rw [hb, decide_eq_false c, if_neg (by decide)] at hV
      have hs3 : s ||| 2 ^ v < 2 ^ 31 := or_lt hs (Nat.pow_lt_pow_right (by omega) (by omega))
      have e1 : lN s ||| (lN 1 <<< ((nI v).toInt64 &&& 63)) = lN (s ||| 2 ^ v) := by
        rw [lN_shl (by omega), Nat.one_mul, lN_or]
      rw [e1]
      by_cases c2 : g < v
      · rw [if_pos c2] at hV
        rw [if_pos (by rw [nI_ltI (by omega) (by omega)]; exact c2)]
        refine am_goto I160_88 ?_
        rw [nI_1]
        exact am_WP.fg (ih (j + 1) _ _ (by omega) hs3 hv hV) (by simp [am_le])
      · rw [if_neg c2] at hV
        rw [if_neg (by rw [nI_ltI (by omega) (by omega)]; exact c2)]
        refine am_goto I160_88 ?_
        rw [nI_1]
        exact am_WP.fg (ih (j + 1) _ _ (by omega) hs3 hg hV) (by simp [am_le])
theorem lp_cover {G : am_H} {a : List (Nat × Nat)} {z : Int32} {V : Nat} (hD : 2 ≤ D) (h1 : am_ob G 23 5 = some (moL pm len T m ip due dep vp)) (hm : MA G l h d f) (hr : RW G a) (hwa : ∀ w, d.testBit w = true → (bgN a w, w) ∈ a) (hlt : ∀ w, d.testBit w = true → ∀ x, trN (bl d).length a w x < 31) (hP : P (some (.int (nI V))) G) :
    ∀ (k i : Nat) (s g : Nat), i + k = 18 → s < 2 ^ 31 → g < 31 → V = cvF (cvL d a k i) s g → am_WP X D 160 17 [some (.ref 23), some (.int z), some (.int (nI g)), some (.long (lN s)), none, some (.int (nI i)), none, none] [] G 0 0 P := by
  intro k
  induction k with
  | zero =>
    intro i s g hi hs hg hV
    refine am_wps 60 [27, 94] ?_
    simp only [J160_0, J160_1, J160_2, J160_5, J160_8, J160_9, J160_10, J160_11, J160_12, J160_13, J160_14, J160_15, J160_17, J160_19, J160_21, J160_24, J160_25, J160_27, J160_29, J160_30, J160_33, J160_34, J160_36, J160_39, J160_42, J160_43, J160_45, J160_47, J160_50, J160_52, J160_53, J160_55, J160_56, J160_57, J160_58, J160_59, J160_60, J160_63, J160_64, J160_65, J160_66, J160_67, J160_69, J160_70, J160_71, J160_72, J160_74, J160_75, J160_78, J160_80, J160_83, J160_84, J160_85, J160_88, J160_91, J160_94, J160_97, J160_98, am_gg_c, am_gf_c, am_pf_c, am_af_c, am_sf_c, am_bf_c, am_qf_c, am_ap_c, am_bp_c, am_qp_c, am_lf_c, am_kt_s, am_kt_n, am_wst, am_wstop, am_ns_0, am_ns_1, Bool.not_true, Bool.not_false, Bool.true_and, Bool.false_and, Nat.reduceBEq, ↓reduceIte, am_k2_n, am_k2_i, am_k2_r, am_k2_u, am_k2_f, am_k2_l, Nat.zero_le, true_and, and_true, true_or, or_true, am_cat_0, am_cat_i, am_cat_r, am_cat_l, am_cat_n, Nat.reduceLeDiff, Nat.reduceAdd, Option.isSome_some, List.getElem?_cons_zero, List.getElem?_cons_succ, am_fit_i, am_fit_r, am_fit_a]
    rw [if_pos (by rw [show i = 18 by omega]; decide)]
    rw [hV] at hP
    exact hP
  | succ k ih =>
    intro i s g hi hs hg hV
    have hs2 : cvL d a (k + 1) i = (if d.testBit i = true then cvT (bl d).length a i 0 else []) ++ cvL d a k (i + 1) := rfl
    rw [hs2] at hV
    have tail : ∀ s g, s < 2 ^ 31 → g < 31 → V = cvF (cvL d a k (i + 1)) s g → am_WP X D 160 91 [some (.ref 23), some (.int z), some (.int (nI g)), some (.long (lN s)), none, some (.int (nI i)), none, none] [] G 0 0 P := by
      intro s g hs hg hV
      refine am_wps 60 [94] ?_
      simp only [J160_0, J160_1, J160_2, J160_5, J160_8, J160_9, J160_10, J160_11, J160_12, J160_13, J160_14, J160_15, J160_17, J160_19, J160_21, J160_24, J160_25, J160_27, J160_29, J160_30, J160_33, J160_34, J160_36, J160_39, J160_42, J160_43, J160_45, J160_47, J160_50, J160_52, J160_53, J160_55, J160_56, J160_57, J160_58, J160_59, J160_60, J160_63, J160_64, J160_65, J160_66, J160_67, J160_69, J160_70, J160_71, J160_72, J160_74, J160_75, J160_78, J160_80, J160_83, J160_84, J160_85, J160_88, J160_91, J160_94, J160_97, J160_98, am_gg_c, am_gf_c, am_pf_c, am_af_c, am_sf_c, am_bf_c, am_qf_c, am_ap_c, am_bp_c, am_qp_c, am_lf_c, am_kt_s, am_kt_n, am_wst, am_wstop, am_ns_0, am_ns_1, Bool.not_true, Bool.not_false, Bool.true_and, Bool.false_and, Nat.reduceBEq, ↓reduceIte, am_k2_n, am_k2_i, am_k2_r, am_k2_u, am_k2_f, am_k2_l, Nat.zero_le, true_and, and_true, true_or, or_true, am_cat_0, am_cat_i, am_cat_r, am_cat_l, am_cat_n, Nat.reduceLeDiff, Nat.reduceAdd, Option.isSome_some, List.getElem?_cons_zero, List.getElem?_cons_succ, am_fit_i, am_fit_r, am_fit_a]
      refine am_goto I160_94 ?_
      rw [nI_1]
      exact ih (i + 1) s g (by omega) hs hg hV
    refine am_wps 60 [27, 94] ?_
    simp only [J160_0, J160_1, J160_2, J160_5, J160_8, J160_9, J160_10, J160_11, J160_12, J160_13, J160_14, J160_15, J160_17, J160_19, J160_21, J160_24, J160_25, J160_27, J160_29, J160_30, J160_33, J160_34, J160_36, J160_39, J160_42, J160_43, J160_45, J160_47, J160_50, J160_52, J160_53, J160_55, J160_56, J160_57, J160_58, J160_59, J160_60, J160_63, J160_64, J160_65, J160_66, J160_67, J160_69, J160_70, J160_71, J160_72, J160_74, J160_75, J160_78, J160_80, J160_83, J160_84, J160_85, J160_88, J160_91, J160_94, J160_97, J160_98, am_gg_c, am_gf_c, am_pf_c, am_af_c, am_sf_c, am_bf_c, am_qf_c, am_ap_c, am_bp_c, am_qp_c, am_lf_c, am_kt_s, am_kt_n, am_wst, am_wstop, am_ns_0, am_ns_1, Bool.not_true, Bool.not_false, Bool.true_and, Bool.false_and, Nat.reduceBEq, ↓reduceIte, am_k2_n, am_k2_i, am_k2_r, am_k2_u, am_k2_f, am_k2_l, Nat.zero_le, true_and, and_true, true_or, or_true, am_cat_0, am_cat_i, am_cat_r, am_cat_l, am_cat_n, Nat.reduceLeDiff, Nat.reduceAdd, Option.isSome_some, List.getElem?_cons_zero, List.getElem?_cons_succ, am_fit_i, am_fit_r, am_fit_a]
    rw [if_neg (by rw [show (17 : Int32) = nI 17 by rfl, nI_ltI (by omega) (by omega)]; omega)]
    cases cb : d.testBit i with
    | true =>
      rw [cb, if_pos rfl] at hV
      exact am_WP.fg (lp_cvIn hD h1 hm hr (show i < 18 by omega) cb (hwa i cb) (hlt i cb) hP tail 3 0 s g rfl hs hg hV) (by simp [am_le, nI_0])
    | false =>
      rw [cb, if_neg (by decide), List.nil_append] at hV
      refine am_wps 60 [88, 91] ?_
      simp only [J160_0, J160_1, J160_2, J160_5, J160_8, J160_9, J160_10, J160_11, J160_12, J160_13, J160_14, J160_15, J160_17, J160_19, J160_21, J160_24, J160_25, J160_27, J160_29, J160_30, J160_33, J160_34, J160_36, J160_39, J160_42, J160_43, J160_45, J160_47, J160_50, J160_52, J160_53, J160_55, J160_56, J160_57, J160_58, J160_59, J160_60, J160_63, J160_64, J160_65, J160_66, J160_67, J160_69, J160_70, J160_71, J160_72, J160_74, J160_75, J160_78, J160_80, J160_83, J160_84, J160_85, J160_88, J160_91, J160_94, J160_97, J160_98, am_gg_c, am_gf_c, am_pf_c, am_af_c, am_sf_c, am_bf_c, am_qf_c, am_ap_c, am_bp_c, am_qp_c, am_lf_c, am_kt_s, am_kt_n, am_wst, am_wstop, am_ns_0, am_ns_1, Bool.not_true, Bool.not_false, Bool.true_and, Bool.false_and, Nat.reduceBEq, ↓reduceIte, am_k2_n, am_k2_i, am_k2_r, am_k2_u, am_k2_f, am_k2_l, Nat.zero_le, true_and, and_true, true_or, or_true, am_cat_0, am_cat_i, am_cat_r, am_cat_l, am_cat_n, Nat.reduceLeDiff, Nat.reduceAdd, Option.isSome_some, List.getElem?_cons_zero, List.getElem?_cons_succ, am_fit_i, am_fit_r, am_fit_a, h1]
      rw [if_pos (by decide)]
      refine sp_isOwn hD h1 hm ?_
      rw [ownB_n hm.2.2.2.2.1 hm.2.2.2.2.2.1 (by omega), cb]
      simp only [J160_0, J160_1, J160_2, J160_5, J160_8, J160_9, J160_10, J160_11, J160_12, J160_13, J160_14, J160_15, J160_17, J160_19, J160_21, J160_24, J160_25, J160_27, J160_29, J160_30, J160_33, J160_34, J160_36, J160_39, J160_42, J160_43, J160_45, J160_47, J160_50, J160_52, J160_53, J160_55, J160_56, J160_57, J160_58, J160_59, J160_60, J160_63, J160_64, J160_65, J160_66, J160_67, J160_69, J160_70, J160_71, J160_72, J160_74, J160_75, J160_78, J160_80, J160_83, J160_84, J160_85, J160_88, J160_91, J160_94, J160_97, J160_98, am_gg_c, am_gf_c, am_pf_c, am_af_c, am_sf_c, am_bf_c, am_qf_c, am_ap_c, am_bp_c, am_qp_c, am_lf_c, am_kt_s, am_kt_n, am_wst, am_wstop, am_ns_0, am_ns_1, Bool.not_true, Bool.not_false, Bool.true_and, Bool.false_and, Nat.reduceBEq, ↓reduceIte, am_k2_n, am_k2_i, am_k2_r, am_k2_u, am_k2_f, am_k2_l, Nat.zero_le, true_and, and_true, true_or, or_true, am_cat_0, am_cat_i, am_cat_r, am_cat_l, am_cat_n, Nat.reduceLeDiff, Nat.reduceAdd, Option.isSome_some, List.getElem?_cons_zero, List.getElem?_cons_succ, am_fit_i, am_fit_r, am_fit_a, Bool.false_eq_true, if_false, if_true]
      exact am_WP.fg (tail s g hs hg hV) (by simp [am_le])
theorem sp_mcover {G : am_H} {z : Int32} (hD : 6 ≤ D) (hE : EnA G pm vp) (hm : MA G l h d f) (hd1 : 1 ≤ (bl d).length) (hd8 : (bl d).length ≤ 8) (hP : ∀ G', EnA G' pm vp → Fr kE G G' → P (some (.int (cvI (arrs true l h d f) d z))) G') : am_CB X D 160 [.ref 23, .int z] G P := by
  obtain ⟨D, rfl⟩ : ∃ D0, D = D0 + 1 := ⟨D - 1, by omega⟩
  obtain ⟨len, T, m, ip, due, dep, b1⟩ := hE.1
  have hd := hm.2.2.2.2.1
  have hl := hm.2.2.1
  have hd0 := hm.2.2.2.2.2.1
  unfold cvI at hP
  refine B160 60 [17] ?_
  simp only [J160_0, J160_1, J160_2, J160_5, J160_8, J160_9, J160_10, J160_11, J160_12, J160_13, J160_14, J160_15, J160_17, J160_19, J160_21, J160_24, J160_25, J160_27, J160_29, J160_30, J160_33, J160_34, J160_36, J160_39, J160_42, J160_43, J160_45, J160_47, J160_50, J160_52, J160_53, J160_55, J160_56, J160_57, J160_58, J160_59, J160_60, J160_63, J160_64, J160_65, J160_66, J160_67, J160_69, J160_70, J160_71, J160_72, J160_74, J160_75, J160_78, J160_80, J160_83, J160_84, J160_85, J160_88, J160_91, J160_94, J160_97, J160_98, am_gg_c, am_gf_c, am_pf_c, am_af_c, am_sf_c, am_bf_c, am_qf_c, am_ap_c, am_bp_c, am_qp_c, am_lf_c, am_kt_s, am_kt_n, am_wst, am_wstop, am_ns_0, am_ns_1, Bool.not_true, Bool.not_false, Bool.true_and, Bool.false_and, Nat.reduceBEq, ↓reduceIte, am_k2_n, am_k2_i, am_k2_r, am_k2_u, am_k2_f, am_k2_l, Nat.zero_le, true_and, and_true, true_or, or_true, am_cat_0, am_cat_i, am_cat_r, am_cat_l, am_cat_n, Nat.reduceLeDiff, Nat.reduceAdd, Option.isSome_some, List.getElem?_cons_zero, List.getElem?_cons_succ, am_fit_i, am_fit_r, am_fit_a, b1]
  refine sp_goTo (by omega) hE hm hd1 hd8 (fun e G' d1 d2 => ?_) (fun a e G' d1 d2 d3 => ?_)
  · simp only [J160_0, J160_1, J160_2, J160_5, J160_8, J160_9, J160_10, J160_11, J160_12, J160_13, J160_14, J160_15, J160_17, J160_19, J160_21, J160_24, J160_25, J160_27, J160_29, J160_30, J160_33, J160_34, J160_36, J160_39, J160_42, J160_43, J160_45, J160_47, J160_50, J160_52, J160_53, J160_55, J160_56, J160_57, J160_58, J160_59, J160_60, J160_63, J160_64, J160_65, J160_66, J160_67, J160_69, J160_70, J160_71, J160_72, J160_74, J160_75, J160_78, J160_80, J160_83, J160_84, J160_85, J160_88, J160_91, J160_94, J160_97, J160_98, am_gg_c, am_gf_c, am_pf_c, am_af_c, am_sf_c, am_bf_c, am_qf_c, am_ap_c, am_bp_c, am_qp_c, am_lf_c, am_kt_s, am_kt_n, am_wst, am_wstop, am_ns_0, am_ns_1, Bool.not_true, Bool.not_false, Bool.true_and, Bool.false_and, Nat.reduceBEq, ↓reduceIte, am_k2_n, am_k2_i, am_k2_r, am_k2_u, am_k2_f, am_k2_l, Nat.zero_le, true_and, and_true, true_or, or_true, am_cat_0, am_cat_i, am_cat_r, am_cat_l, am_cat_n, Nat.reduceLeDiff, Nat.reduceAdd, Option.isSome_some, List.getElem?_cons_zero, List.getElem?_cons_succ, am_fit_i, am_fit_r, am_fit_a, if_true]
    have := hP G' d1 d2
    rw [e] at this
    exact this
  · obtain ⟨len, T, m, ip, due, dep, b2⟩ := d1.1
    have hh := hP G' d1 d3
    rw [e] at hh
    simp only at hh
    simp only [J160_0, J160_1, J160_2, J160_5, J160_8, J160_9, J160_10, J160_11, J160_12, J160_13, J160_14, J160_15, J160_17, J160_19, J160_21, J160_24, J160_25, J160_27, J160_29, J160_30, J160_33, J160_34, J160_36, J160_39, J160_42, J160_43, J160_45, J160_47, J160_50, J160_52, J160_53, J160_55, J160_56, J160_57, J160_58, J160_59, J160_60, J160_63, J160_64, J160_65, J160_66, J160_67, J160_69, J160_70, J160_71, J160_72, J160_74, J160_75, J160_78, J160_80, J160_83, J160_84, J160_85, J160_88, J160_91, J160_94, J160_97, J160_98, am_gg_c, am_gf_c, am_pf_c, am_af_c, am_sf_c, am_bf_c, am_qf_c, am_ap_c, am_bp_c, am_qp_c, am_lf_c, am_kt_s, am_kt_n, am_wst, am_wstop, am_ns_0, am_ns_1, Bool.not_true, Bool.not_false, Bool.true_and, Bool.false_and, Nat.reduceBEq, ↓reduceIte, am_k2_n, am_k2_i, am_k2_r, am_k2_u, am_k2_f, am_k2_l, Nat.zero_le, true_and, and_true, true_or, or_true, am_cat_0, am_cat_i, am_cat_r, am_cat_l, am_cat_n, Nat.reduceLeDiff, Nat.reduceAdd, Option.isSome_some, List.getElem?_cons_zero, List.getElem?_cons_succ, am_fit_i, am_fit_r, am_fit_a, if_neg (show ¬ (1 : Int32) = 0 by decide), b2]
    have hwa : ∀ w, d.testBit w = true → (bgN a w, w) ∈ a := fun w hw => bgN_mem hd (goA_mem e) hw
    have hlt : ∀ w, d.testBit w = true → ∀ x, trN (bl d).length a w x < 31 := fun w hw x => by
      obtain ⟨_, _, _, _, _, q⟩ := arrs_wit hl hd0 (goA_mem e) (hwa w hw)
      unfold trN
      split
      · omega
      · split <;> omega
    exact am_WP.fg (lp_cover (z := z) (by omega) b2 (hm.fr d3 (by decide)) d2 hwa hlt hh 17 1 0 0 rfl (by omega) (by omega) rfl) (by simp [am_le, nI_0]; exact ⟨rfl, rfl⟩)
end TR
