/-! frequencies(): the numbers at a place add up; a pin leaves just these -/
theorem ens_filter {ok0 ok1 okx : Nat → Nat → Bool} (hk : ∀ p w, ok1 p w = (ok0 p w && okx p w)) : ∀ (k O m : Nat), ens ok1 k O m = (ens ok0 k O m).filter (fun a => a.all (fun e => okx e.1 e.2))
  | 0, _, _ => rfl
  | k + 1, O, m => by
    unfold ens
    rw [List.filter_flatMap]
    apply flat_congr
    intro w _
    rw [hk]
    cases c1 : m.testBit w && (O.testBit (lo O + w) && ok0 (lo O) w) with
    | false =>
      have e : (m.testBit w && (O.testBit (lo O + w) && (ok0 (lo O) w && okx (lo O) w))) = false := by
        rw [← Bool.and_assoc (O.testBit (lo O + w)), ← Bool.and_assoc, c1, Bool.false_and]
      rw [e, if_neg (by decide), if_neg (by decide)]; rfl
    | true =>
      have e : (m.testBit w && (O.testBit (lo O + w) && (ok0 (lo O) w && okx (lo O) w))) = okx (lo O) w := by
        rw [← Bool.and_assoc (O.testBit (lo O + w)), ← Bool.and_assoc, c1, Bool.true_and]
      rw [e, if_pos rfl, List.filter_map]
      cases c2 : okx (lo O) w with
      | false =>
        rw [if_neg (by decide), List.filter_eq_nil_iff.mpr (fun a _ => by simp [c2])]; rfl
      | true =>
        rw [if_pos rfl, ens_filter hk k]
        congr 1
        apply List.filter_congr
        intro a _
        simp [c2]
def pn1 (q w : Nat) : Nat → Nat := fun j => if j = q then w else 0
section PN
variable {l h d q w : Nat}
theorem bad_0 : badP h d (fun _ => 0) l = false := by
  unfold badP
  rw [List.any_eq_false]
  intro x _
  simp
theorem bad_1 (hq : q < l) (hw : w ≠ 0) : badP h d (pn1 q w) l = (h.testBit q || !d.testBit w) := by
  cases e : (h.testBit q || !d.testBit w) with
  | true => exact bad_of hq (by unfold pn1; rw [if_pos rfl]; exact hw) (by unfold pn1; rw [if_pos rfl]; exact e)
  | false =>
    unfold badP
    rw [List.any_eq_false]
    intro x _
    unfold pn1
    by_cases c : x = q
    · subst c
      rw [if_pos rfl, e]; simp
    · rw [if_neg c]; simp
theorem okb_0 (p v : Nat) : okB true (fun _ => 0) p v = true := by unfold okB pnB; simp
theorem pin_list (hl : l ≤ 18) (hd : d < 2 ^ 18) (hd0 : d.testBit 0 = false) (hq : q < l) (hw : w ≠ 0) : arrs true l h d (pn1 q w) = (arrs true l h d (fun _ => 0)).filter (fun a => rwN a q == w) := by
  by_cases hf : filledB l h d = true
  · cases hb : (h.testBit q || !d.testBit w) with
    | true =>
      have e1 : arrs true l h d (pn1 q w) = [] := by
        unfold arrs
        rw [bad_1 hq hw, hb]
        rw [if_neg (by simp)]
      rw [e1]
      symm
      rw [List.filter_eq_nil_iff]
      intro a ha hr
      have hr : rwN a q = w := by simpa using hr
      have h1 := row_in hl hd0 ha (q := q) (by omega)
      rw [hr] at h1
      rw [h1] at hb
      have h2 := arrs_hole hl hd0 ha (q := q) (by rw [frN_bit hl]; simp at hb; rw [hb]; simp)
      omega
    | false =>
      have e1 : arrs true l h d (pn1 q w) = ens (okB true (pn1 q w)) (bl d).length (frN l h) d := by
        unfold arrs
        rw [bad_1 hq hw, hb, hf]; rfl
      have e0 : arrs true l h d (fun _ => 0) = ens (okB true (fun _ => 0)) (bl d).length (frN l h) d := by
        unfold arrs
        rw [bad_0, hf]; rfl
      rw [e1, ens_filter (ok0 := okB true (fun _ => 0)) (okx := okB true (pn1 q w)) (fun p v => by rw [okb_0, Bool.true_and]), ← e0]
      apply List.filter_congr
      intro a ha
      have da := arrs_dis hl hd0 ha
      rw [Bool.eq_iff_iff, List.all_eq_true, beq_iff_eq]
      rw [Bool.or_eq_false_iff] at hb
      constructor
      · intro hall
        obtain ⟨p, v, hm, hc⟩ := arrs_cov hl hd0 ha (q := q) (by rw [frN_bit hl, decide_eq_true hq, hb.1]; rfl)
        have h1 := hall _ hm
        have h2 := rwN_in da hm hc
        rw [h2]
        unfold okB pnB pn1 at h1
        simp only [Bool.and_eq_true, Bool.or_eq_true, beq_iff_eq, Bool.not_true, Bool.false_eq_true, false_or] at h1
        rcases hc with rfl | rfl
        · rw [if_pos rfl] at h1
          rcases h1.1 with z | z
          · exact absurd z hw
          · exact z.symm
        · have h3 := h1.2
          rw [if_pos rfl] at h3
          rcases h3 with z | z
          · exact absurd z hw
          · exact z.symm
      · intro hr e hm
        obtain ⟨p, v⟩ := e
        unfold okB pnB pn1
        simp only [Bool.and_eq_true, Bool.or_eq_true, beq_iff_eq, Bool.not_true, Bool.false_eq_true, false_or]
        refine ⟨?_, ?_⟩
        · by_cases c : p = q
          · rw [if_pos c]; right
            rw [← hr]; exact rwN_in da hm (Or.inl c.symm)
          · rw [if_neg c]; left; rfl
        · by_cases c : p + v = q
          · rw [if_pos c]; right
            rw [← hr]; exact rwN_in da hm (Or.inr c.symm)
          · rw [if_neg c]; left; rfl
  · have e : ∀ f, arrs true l h d f = [] := fun f => by
      unfold arrs
      rw [if_neg (by simp [hf])]
    rw [e, e]; rfl
theorem pin_len (hl : l ≤ 18) (hd : d < 2 ^ 18) (hd0 : d.testBit 0 = false) (hq : q < l) (hw : w ≠ 0) : (arrs true l h d (pn1 q w)).length = fqA (arrs true l h d (fun _ => 0)) q w := by
  rw [pin_list hl hd hd0 hq hw]; rfl
theorem pnF_on (hq : q < l) (hl : l ≤ 18) (hw : w ≤ 17) : pnF l (fun _ => 0) (nI q) (nI w) = pn1 q w ∧ pnV l (fun _ => 0) (nI q) (nI w) = 0 := by
  unfold pnF pnV
  rw [inN_n (by omega), decide_eq_true hq, if_pos rfl, if_pos rfl, nI_toInt (by omega), nI_toInt (by omega), if_pos (by omega), if_pos (by omega)]
  refine ⟨?_, rfl⟩
  funext j
  unfold pn1
  rw [Int.toNat_natCast, Int.toNat_natCast]
theorem pnF_off (hq : q < l) (hl : l ≤ 18) : pnF l (pn1 q w) (nI q) 0 = (fun _ => 0) ∧ pnV l (pn1 q w) (nI q) 0 = nI w := by
  unfold pnF pnV
  rw [inN_n (by omega), decide_eq_true hq, if_pos rfl, if_pos rfl, nI_toInt (by omega), if_pos (by decide), if_pos (by decide), Int.toNat_natCast]
  refine ⟨?_, by unfold pn1; rw [if_pos rfl]⟩
  funext j
  unfold pn1
  show (if j = q then 0 else if j = q then w else 0) = 0
  by_cases c : j = q
  · rw [if_pos c]
  · rw [if_neg c, if_neg c]
end PN
def fsN (A : List (List (Nat × Nat))) (q : Nat) : Nat → Nat
  | 0 => 0
  | k + 1 => fsN A q k + fqA A q k
theorem fsN_nil (q : Nat) : ∀ k, fsN [] q k = 0
  | 0 => rfl
  | k + 1 => by unfold fsN; rw [fsN_nil q k]; rfl
theorem fqA_cons {a : List (Nat × Nat)} {A : List (List (Nat × Nat))} {q w : Nat} : fqA (a :: A) q w = fqA A q w + (if rwN a q = w then 1 else 0) := by
  unfold fqA
  by_cases c : rwN a q = w
  · rw [if_pos c, List.filter_cons_of_pos (by simpa using c), List.length_cons]
  · rw [if_neg c, List.filter_cons_of_neg (by simpa using c)]; rfl
theorem fsN_cons {a : List (Nat × Nat)} {A : List (List (Nat × Nat))} {q : Nat} : ∀ k, fsN (a :: A) q k = fsN A q k + (if rwN a q < k then 1 else 0)
  | 0 => rfl
  | k + 1 => by
    unfold fsN
    rw [fsN_cons k, fqA_cons]
    by_cases c : rwN a q < k
    · rw [if_pos c, if_neg (by omega), if_pos (by omega)]; omega
    · rw [if_neg c]
      by_cases c2 : rwN a q = k
      · rw [if_pos c2, if_pos (by omega)]; omega
      · rw [if_neg c2, if_neg (by omega)]; omega
theorem fsN_all {q : Nat} : ∀ {A : List (List (Nat × Nat))}, (∀ a ∈ A, rwN a q < 18) → fsN A q 18 = A.length
  | [], _ => fsN_nil q 18
  | a :: A, h => by
    rw [fsN_cons, fsN_all (fun b hb => h b (List.mem_cons_of_mem _ hb)), if_pos (h a List.mem_cons_self), List.length_cons]
def fmB (A : List (List (Nat × Nat))) (q w : Nat) : Bool := decide (0 < w) && decide (0 < fqA A q w)
theorem fm_op {A : List (List (Nat × Nat))} {q : Nat} (hA : ∀ a ∈ A, rwN a q < 18) : mkm (fmB A q) 18 = opA q A 0 := by
  apply Nat.eq_of_testBit_eq
  intro w
  rw [mkm_bit, opA_bit, Nat.zero_testBit, Bool.false_or]
  unfold fmB fqA
  rw [Bool.eq_iff_iff]
  simp only [Bool.and_eq_true, decide_eq_true_eq, List.any_eq_true, Bool.not_eq_true', decide_eq_false_iff_not, List.length_pos_iff_exists_mem, List.mem_filter, beq_iff_eq]
  constructor
  · rintro ⟨_, h2, a, h3, h4⟩
    exact ⟨by omega, a, h3, h4⟩
  · rintro ⟨h2, a, h3, h4⟩
    have := hA a h3
    exact ⟨by omega, by omega, a, h3, h4⟩
section FRQ
variable {X : Nat × (Nat → Int32)} {D : Nat} {G : am_H} {P : Option Value → am_H → Prop} {l h d q : Nat} {n : Nat} {t : Nat → Int32} {s : Nat → Option PT}
theorem lp_frq1 {f : Nat → Nat} (hD : 17 ≤ D) (hq : q < l) (hP : ∀ G1, ST G1 l h d f n t s → am_WP X D 101 54 [some (.ref 0), some (.int (nI (arrs true l h d f).length)), some (.int (nI q)), some (.int (nI (arrs true l h d f).length)), some (.int (nI (opA q (arrs true l h d f) 0))), none, none] [] G1 0 0 P) : ∀ (m w : Nat), w + m = 18 → ∀ (G : am_H), ST G l h d f n t s → am_WP X D 101 8 [some (.ref 0), some (.int (nI (arrs true l h d f).length)), some (.int (nI q)), some (.int (nI (fsN (arrs true l h d f) q w))), some (.int (nI (mkm (fmB (arrs true l h d f) q) w))), some (.int (nI w)), none] [] G 0 0 P := by
  intro m
  induction m with
  | zero =>
    intro w hw G hS
    have e : w = 18 := by omega
    subst e
    refine am_wps 60 [51, 54] ?_
    simp only [J101_0, J101_1, J101_2, J101_3, J101_5, J101_6, J101_8, J101_10, J101_12, J101_15, J101_16, J101_17, J101_19, J101_22, J101_24, J101_25, J101_27, J101_28, J101_29, J101_31, J101_34, J101_36, J101_39, J101_41, J101_42, J101_44, J101_45, J101_46, J101_48, J101_51, J101_54, J101_55, J101_56, J101_59, J101_60, J101_61, J101_64, J101_66, J101_69, J101_70, J101_73, J101_74, J101_75, J101_76, J101_77, J101_79, J101_82, J101_83, J101_86, J101_87, J101_90, J101_91, J101_94, J101_95, J101_96, J101_97, J101_99, J101_101, J101_103, J101_106, J101_107, J101_108, J101_110, J101_113, J101_115, J101_116, J101_117, J101_119, J101_122, J101_125, J101_126, J101_129, J101_131, J101_134, J101_135, J101_136, J101_137, J101_140, J101_142, J101_145, J101_146, J101_147, J101_150, J101_153, J101_154, J101_157, J101_158, J101_161, J101_162, J101_165, J101_166, am_gg_c, am_gf_c, am_pf_c, am_af_c, am_sf_c, am_bf_c, am_qf_c, am_ap_c, am_bp_c, am_qp_c, am_lf_c, am_kt_s, am_kt_n, am_wst, am_wstop, am_ns_0, am_ns_1, Bool.not_true, Bool.not_false, Bool.true_and, Bool.false_and, Nat.reduceBEq, ↓reduceIte, am_k2_n, am_k2_i, am_k2_r, am_k2_u, am_k2_f, am_k2_l, Nat.zero_le, true_and, and_true, true_or, or_true, am_cat_0, am_cat_i, am_cat_r, am_cat_l, am_cat_n, Nat.reduceLeDiff, Nat.reduceAdd, Option.isSome_some, List.getElem?_cons_zero, List.getElem?_cons_succ, am_fit_i, am_fit_r, am_fit_a]
    rw [if_neg (by rw [show (18 : Int32) = nI 18 by rfl, nI_ltI (by omega) (by omega)]; omega)]
    rw [fsN_all (fun a ha => rwN_lt ha), fm_op (fun a ha => rwN_lt ha)]
    exact am_WP.fg (hP _ hS) (by simp [am_le])
  | succ m ih =>
    intro w hw G hS
    obtain ⟨w1, w2, w3, w4, w5, w6, w7, w8⟩ := hS.wf
    have hA := hS.len
    have hfl : fqA (arrs true l h d f) q w ≤ (arrs true l h d f).length := List.length_filter_le _ _
    have hlt := mkm_lt (fmB (arrs true l h d f) q) w
    have hs : mkm (fmB (arrs true l h d f) q) (w + 1) = mkm (fmB (arrs true l h d f) q) w + (if fmB (arrs true l h d f) q w = true then 2 ^ w else 0) := rfl
    have nx : ∀ (G1 : am_H) (v : Option Value), ST G1 l h d f n t s → am_WP X D 101 51 [some (.ref 0), some (.int (nI (arrs true l h d f).length)), some (.int (nI q)), some (.int (nI (fsN (arrs true l h d f) q (w + 1)))), some (.int (nI (mkm (fmB (arrs true l h d f) q) (w + 1)))), some (.int (nI w + 1)), v] [] G1 0 0 P := fun G1 v hS1 => by
      refine am_goto I101_51 ?_
      rw [nI_1]
      exact am_WP.fg (ih (w + 1) (by omega) G1 hS1) (by simp [am_le])
    refine am_wps 100 [51] ?_
    simp only [J101_0, J101_1, J101_2, J101_3, J101_5, J101_6, J101_8, J101_10, J101_12, J101_15, J101_16, J101_17, J101_19, J101_22, J101_24, J101_25, J101_27, J101_28, J101_29, J101_31, J101_34, J101_36, J101_39, J101_41, J101_42, J101_44, J101_45, J101_46, J101_48, J101_51, J101_54, J101_55, J101_56, J101_59, J101_60, J101_61, J101_64, J101_66, J101_69, J101_70, J101_73, J101_74, J101_75, J101_76, J101_77, J101_79, J101_82, J101_83, J101_86, J101_87, J101_90, J101_91, J101_94, J101_95, J101_96, J101_97, J101_99, J101_101, J101_103, J101_106, J101_107, J101_108, J101_110, J101_113, J101_115, J101_116, J101_117, J101_119, J101_122, J101_125, J101_126, J101_129, J101_131, J101_134, J101_135, J101_136, J101_137, J101_140, J101_142, J101_145, J101_146, J101_147, J101_150, J101_153, J101_154, J101_157, J101_158, J101_161, J101_162, J101_165, J101_166, am_gg_c, am_gf_c, am_pf_c, am_af_c, am_sf_c, am_bf_c, am_qf_c, am_ap_c, am_bp_c, am_qp_c, am_lf_c, am_kt_s, am_kt_n, am_wst, am_wstop, am_ns_0, am_ns_1, Bool.not_true, Bool.not_false, Bool.true_and, Bool.false_and, Nat.reduceBEq, ↓reduceIte, am_k2_n, am_k2_i, am_k2_r, am_k2_u, am_k2_f, am_k2_l, Nat.zero_le, true_and, and_true, true_or, or_true, am_cat_0, am_cat_i, am_cat_r, am_cat_l, am_cat_n, Nat.reduceLeDiff, Nat.reduceAdd, Option.isSome_some, List.getElem?_cons_zero, List.getElem?_cons_succ, am_fit_i, am_fit_r, am_fit_a]
    rw [if_pos (by rw [show (18 : Int32) = nI 18 by rfl, nI_ltI (by omega) (by omega)]; omega)]
    refine k_freq hD hS (v_fq hq w2 (by omega)) (fun G1 hS => ?_)
    simp only [J101_0, J101_1, J101_2, J101_3, J101_5, J101_6, J101_8, J101_10, J101_12, J101_15, J101_16, J101_17, J101_19, J101_22, J101_24, J101_25, J101_27, J101_28, J101_29, J101_31, J101_34, J101_36, J101_39, J101_41, J101_42, J101_44, J101_45, J101_46, J101_48, J101_51, J101_54, J101_55, J101_56, J101_59, J101_60, J101_61, J101_64, J101_66, J101_69, J101_70, J101_73, J101_74, J101_75, J101_76, J101_77, J101_79, J101_82, J101_83, J101_86, J101_87, J101_90, J101_91, J101_94, J101_95, J101_96, J101_97, J101_99, J101_101, J101_103, J101_106, J101_107, J101_108, J101_110, J101_113, J101_115, J101_116, J101_117, J101_119, J101_122, J101_125, J101_126, J101_129, J101_131, J101_134, J101_135, J101_136, J101_137, J101_140, J101_142, J101_145, J101_146, J101_147, J101_150, J101_153, J101_154, J101_157, J101_158, J101_161, J101_162, J101_165, J101_166, am_gg_c, am_gf_c, am_pf_c, am_af_c, am_sf_c, am_bf_c, am_qf_c, am_ap_c, am_bp_c, am_qp_c, am_lf_c, am_kt_s, am_kt_n, am_wst, am_wstop, am_ns_0, am_ns_1, Bool.not_true, Bool.not_false, Bool.true_and, Bool.false_and, Nat.reduceBEq, ↓reduceIte, am_k2_n, am_k2_i, am_k2_r, am_k2_u, am_k2_f, am_k2_l, Nat.zero_le, true_and, and_true, true_or, or_true, am_cat_0, am_cat_i, am_cat_r, am_cat_l, am_cat_n, Nat.reduceLeDiff, Nat.reduceAdd, Option.isSome_some, List.getElem?_cons_zero, List.getElem?_cons_succ, am_fit_i, am_fit_r, am_fit_a]
    rw [nI_add, show fsN (arrs true l h d f) q w + fqA (arrs true l h d f) q w = fsN (arrs true l h d f) q (w + 1) from rfl]
    by_cases c0 : 0 < w
    · rw [if_pos (by rw [show (0 : Int32) = nI 0 by rfl, nI_ltI (by omega) (by omega)]; exact c0)]
      by_cases c1 : 0 < fqA (arrs true l h d f) q w
      · rw [if_pos (by rw [show (0 : Int32) = nI 0 by rfl, nI_ltI (by omega) (by omega)]; exact c1)]
        have e : nI (mkm (fmB (arrs true l h d f) q) w) ||| (1 : Int32) <<< (nI w &&& 31) = nI (mkm (fmB (arrs true l h d f) q) (w + 1)) := by
          rw [bi_lit1, bi_shl (by omega), Nat.one_mul, bi_or, mkm_or, hs, if_pos (by unfold fmB; rw [decide_eq_true c0, decide_eq_true c1]; rfl)]
        rw [e]
        exact nx _ _ hS
      · rw [if_neg (by rw [show (0 : Int32) = nI 0 by rfl, nI_ltI (by omega) (by omega)]; exact c1)]
        have := nx G1 (some (.int (nI (fqA (arrs true l h d f) q w)))) hS
        rw [hs, if_neg (by unfold fmB; rw [decide_eq_false c1]; simp), Nat.add_zero] at this
        exact this
    · rw [if_neg (by rw [show (0 : Int32) = nI 0 by rfl, nI_ltI (by omega) (by omega)]; exact c0)]
      have := nx G1 (some (.int (nI (fqA (arrs true l h d f) q w)))) hS
      rw [hs, if_neg (by unfold fmB; rw [decide_eq_false c0]; simp), Nat.add_zero] at this
      exact this
theorem lp_frq2 (hD : 17 ≤ D) (hq : q < l) (hP : ∀ G1, ST G1 l h d (fun _ => 0) n t s → P (some (.int 1)) G1) : ∀ (m w : Nat), w + m = 18 → 1 ≤ w → ∀ (G : am_H), ST G l h d (fun _ => 0) n t s → am_WP X D 101 99 [some (.ref 0), some (.int (nI (arrs true l h d (fun _ => 0)).length)), some (.int (nI q)), none, none, some (.int (nI w)), none] [] G 0 0 P := by
  intro m
  induction m with
  | zero =>
    intro w hw hw1 G hS
    have e : w = 18 := by omega
    subst e
    refine am_wps 60 [150] ?_
    simp only [J101_0, J101_1, J101_2, J101_3, J101_5, J101_6, J101_8, J101_10, J101_12, J101_15, J101_16, J101_17, J101_19, J101_22, J101_24, J101_25, J101_27, J101_28, J101_29, J101_31, J101_34, J101_36, J101_39, J101_41, J101_42, J101_44, J101_45, J101_46, J101_48, J101_51, J101_54, J101_55, J101_56, J101_59, J101_60, J101_61, J101_64, J101_66, J101_69, J101_70, J101_73, J101_74, J101_75, J101_76, J101_77, J101_79, J101_82, J101_83, J101_86, J101_87, J101_90, J101_91, J101_94, J101_95, J101_96, J101_97, J101_99, J101_101, J101_103, J101_106, J101_107, J101_108, J101_110, J101_113, J101_115, J101_116, J101_117, J101_119, J101_122, J101_125, J101_126, J101_129, J101_131, J101_134, J101_135, J101_136, J101_137, J101_140, J101_142, J101_145, J101_146, J101_147, J101_150, J101_153, J101_154, J101_157, J101_158, J101_161, J101_162, J101_165, J101_166, am_gg_c, am_gf_c, am_pf_c, am_af_c, am_sf_c, am_bf_c, am_qf_c, am_ap_c, am_bp_c, am_qp_c, am_lf_c, am_kt_s, am_kt_n, am_wst, am_wstop, am_ns_0, am_ns_1, Bool.not_true, Bool.not_false, Bool.true_and, Bool.false_and, Nat.reduceBEq, ↓reduceIte, am_k2_n, am_k2_i, am_k2_r, am_k2_u, am_k2_f, am_k2_l, Nat.zero_le, true_and, and_true, true_or, or_true, am_cat_0, am_cat_i, am_cat_r, am_cat_l, am_cat_n, Nat.reduceLeDiff, Nat.reduceAdd, Option.isSome_some, List.getElem?_cons_zero, List.getElem?_cons_succ, am_fit_i, am_fit_r, am_fit_a]
    rw [if_neg (by rw [show (18 : Int32) = nI 18 by rfl, nI_ltI (by omega) (by omega)]; omega)]
    refine k_count hD hS rfl (fun G1 hS => ?_)
    simp only [J101_0, J101_1, J101_2, J101_3, J101_5, J101_6, J101_8, J101_10, J101_12, J101_15, J101_16, J101_17, J101_19, J101_22, J101_24, J101_25, J101_27, J101_28, J101_29, J101_31, J101_34, J101_36, J101_39, J101_41, J101_42, J101_44, J101_45, J101_46, J101_48, J101_51, J101_54, J101_55, J101_56, J101_59, J101_60, J101_61, J101_64, J101_66, J101_69, J101_70, J101_73, J101_74, J101_75, J101_76, J101_77, J101_79, J101_82, J101_83, J101_86, J101_87, J101_90, J101_91, J101_94, J101_95, J101_96, J101_97, J101_99, J101_101, J101_103, J101_106, J101_107, J101_108, J101_110, J101_113, J101_115, J101_116, J101_117, J101_119, J101_122, J101_125, J101_126, J101_129, J101_131, J101_134, J101_135, J101_136, J101_137, J101_140, J101_142, J101_145, J101_146, J101_147, J101_150, J101_153, J101_154, J101_157, J101_158, J101_161, J101_162, J101_165, J101_166, am_gg_c, am_gf_c, am_pf_c, am_af_c, am_sf_c, am_bf_c, am_qf_c, am_ap_c, am_bp_c, am_qp_c, am_lf_c, am_kt_s, am_kt_n, am_wst, am_wstop, am_ns_0, am_ns_1, Bool.not_true, Bool.not_false, Bool.true_and, Bool.false_and, Nat.reduceBEq, ↓reduceIte, am_k2_n, am_k2_i, am_k2_r, am_k2_u, am_k2_f, am_k2_l, Nat.zero_le, true_and, and_true, true_or, or_true, am_cat_0, am_cat_i, am_cat_r, am_cat_l, am_cat_n, Nat.reduceLeDiff, Nat.reduceAdd, Option.isSome_some, List.getElem?_cons_zero, List.getElem?_cons_succ, am_fit_i, am_fit_r, am_fit_a, eq_self, if_true]
    exact hP _ hS
  | succ m ih =>
    intro w hw hw1 G hS
    obtain ⟨w1, w2, w3, w4, w5, w6, w7, w8⟩ := hS.wf
    have hA := hS.len
    obtain ⟨p1, p2⟩ := pnF_on (w := w) hq w2 (by omega)
    obtain ⟨p3, p4⟩ := pnF_off (w := w) hq w2
    refine am_wps 100 [150] ?_
    simp only [J101_0, J101_1, J101_2, J101_3, J101_5, J101_6, J101_8, J101_10, J101_12, J101_15, J101_16, J101_17, J101_19, J101_22, J101_24, J101_25, J101_27, J101_28, J101_29, J101_31, J101_34, J101_36, J101_39, J101_41, J101_42, J101_44, J101_45, J101_46, J101_48, J101_51, J101_54, J101_55, J101_56, J101_59, J101_60, J101_61, J101_64, J101_66, J101_69, J101_70, J101_73, J101_74, J101_75, J101_76, J101_77, J101_79, J101_82, J101_83, J101_86, J101_87, J101_90, J101_91, J101_94, J101_95, J101_96, J101_97, J101_99, J101_101, J101_103, J101_106, J101_107, J101_108, J101_110, J101_113, J101_115, J101_116, J101_117, J101_119, J101_122, J101_125, J101_126, J101_129, J101_131, J101_134, J101_135, J101_136, J101_137, J101_140, J101_142, J101_145, J101_146, J101_147, J101_150, J101_153, J101_154, J101_157, J101_158, J101_161, J101_162, J101_165, J101_166, am_gg_c, am_gf_c, am_pf_c, am_af_c, am_sf_c, am_bf_c, am_qf_c, am_ap_c, am_bp_c, am_qp_c, am_lf_c, am_kt_s, am_kt_n, am_wst, am_wstop, am_ns_0, am_ns_1, Bool.not_true, Bool.not_false, Bool.true_and, Bool.false_and, Nat.reduceBEq, ↓reduceIte, am_k2_n, am_k2_i, am_k2_r, am_k2_u, am_k2_f, am_k2_l, Nat.zero_le, true_and, and_true, true_or, or_true, am_cat_0, am_cat_i, am_cat_r, am_cat_l, am_cat_n, Nat.reduceLeDiff, Nat.reduceAdd, Option.isSome_some, List.getElem?_cons_zero, List.getElem?_cons_succ, am_fit_i, am_fit_r, am_fit_a]
    rw [if_pos (by rw [show (18 : Int32) = nI 18 by rfl, nI_ltI (by omega) (by omega)]; omega)]
    refine k_freq hD hS (v_fq hq w2 (by omega)) (fun G1 hS => ?_)
    simp only [J101_0, J101_1, J101_2, J101_3, J101_5, J101_6, J101_8, J101_10, J101_12, J101_15, J101_16, J101_17, J101_19, J101_22, J101_24, J101_25, J101_27, J101_28, J101_29, J101_31, J101_34, J101_36, J101_39, J101_41, J101_42, J101_44, J101_45, J101_46, J101_48, J101_51, J101_54, J101_55, J101_56, J101_59, J101_60, J101_61, J101_64, J101_66, J101_69, J101_70, J101_73, J101_74, J101_75, J101_76, J101_77, J101_79, J101_82, J101_83, J101_86, J101_87, J101_90, J101_91, J101_94, J101_95, J101_96, J101_97, J101_99, J101_101, J101_103, J101_106, J101_107, J101_108, J101_110, J101_113, J101_115, J101_116, J101_117, J101_119, J101_122, J101_125, J101_126, J101_129, J101_131, J101_134, J101_135, J101_136, J101_137, J101_140, J101_142, J101_145, J101_146, J101_147, J101_150, J101_153, J101_154, J101_157, J101_158, J101_161, J101_162, J101_165, J101_166, am_gg_c, am_gf_c, am_pf_c, am_af_c, am_sf_c, am_bf_c, am_qf_c, am_ap_c, am_bp_c, am_qp_c, am_lf_c, am_kt_s, am_kt_n, am_wst, am_wstop, am_ns_0, am_ns_1, Bool.not_true, Bool.not_false, Bool.true_and, Bool.false_and, Nat.reduceBEq, ↓reduceIte, am_k2_n, am_k2_i, am_k2_r, am_k2_u, am_k2_f, am_k2_l, Nat.zero_le, true_and, and_true, true_or, or_true, am_cat_0, am_cat_i, am_cat_r, am_cat_l, am_cat_n, Nat.reduceLeDiff, Nat.reduceAdd, Option.isSome_some, List.getElem?_cons_zero, List.getElem?_cons_succ, am_fit_i, am_fit_r, am_fit_a]
    refine k_pin hD hS p1 p2 (fun G1 hS => ?_)
    simp only [J101_0, J101_1, J101_2, J101_3, J101_5, J101_6, J101_8, J101_10, J101_12, J101_15, J101_16, J101_17, J101_19, J101_22, J101_24, J101_25, J101_27, J101_28, J101_29, J101_31, J101_34, J101_36, J101_39, J101_41, J101_42, J101_44, J101_45, J101_46, J101_48, J101_51, J101_54, J101_55, J101_56, J101_59, J101_60, J101_61, J101_64, J101_66, J101_69, J101_70, J101_73, J101_74, J101_75, J101_76, J101_77, J101_79, J101_82, J101_83, J101_86, J101_87, J101_90, J101_91, J101_94, J101_95, J101_96, J101_97, J101_99, J101_101, J101_103, J101_106, J101_107, J101_108, J101_110, J101_113, J101_115, J101_116, J101_117, J101_119, J101_122, J101_125, J101_126, J101_129, J101_131, J101_134, J101_135, J101_136, J101_137, J101_140, J101_142, J101_145, J101_146, J101_147, J101_150, J101_153, J101_154, J101_157, J101_158, J101_161, J101_162, J101_165, J101_166, am_gg_c, am_gf_c, am_pf_c, am_af_c, am_sf_c, am_bf_c, am_qf_c, am_ap_c, am_bp_c, am_qp_c, am_lf_c, am_kt_s, am_kt_n, am_wst, am_wstop, am_ns_0, am_ns_1, Bool.not_true, Bool.not_false, Bool.true_and, Bool.false_and, Nat.reduceBEq, ↓reduceIte, am_k2_n, am_k2_i, am_k2_r, am_k2_u, am_k2_f, am_k2_l, Nat.zero_le, true_and, and_true, true_or, or_true, am_cat_0, am_cat_i, am_cat_r, am_cat_l, am_cat_n, Nat.reduceLeDiff, Nat.reduceAdd, Option.isSome_some, List.getElem?_cons_zero, List.getElem?_cons_succ, am_fit_i, am_fit_r, am_fit_a, eq_self, if_true]
    refine k_count hD hS (V := nI (fqA (arrs true l h d (fun _ => 0)) q w)) (by rw [pin_len w2 w4 w5 hq (by omega)]) (fun G1 hS => ?_)
    simp only [J101_0, J101_1, J101_2, J101_3, J101_5, J101_6, J101_8, J101_10, J101_12, J101_15, J101_16, J101_17, J101_19, J101_22, J101_24, J101_25, J101_27, J101_28, J101_29, J101_31, J101_34, J101_36, J101_39, J101_41, J101_42, J101_44, J101_45, J101_46, J101_48, J101_51, J101_54, J101_55, J101_56, J101_59, J101_60, J101_61, J101_64, J101_66, J101_69, J101_70, J101_73, J101_74, J101_75, J101_76, J101_77, J101_79, J101_82, J101_83, J101_86, J101_87, J101_90, J101_91, J101_94, J101_95, J101_96, J101_97, J101_99, J101_101, J101_103, J101_106, J101_107, J101_108, J101_110, J101_113, J101_115, J101_116, J101_117, J101_119, J101_122, J101_125, J101_126, J101_129, J101_131, J101_134, J101_135, J101_136, J101_137, J101_140, J101_142, J101_145, J101_146, J101_147, J101_150, J101_153, J101_154, J101_157, J101_158, J101_161, J101_162, J101_165, J101_166, am_gg_c, am_gf_c, am_pf_c, am_af_c, am_sf_c, am_bf_c, am_qf_c, am_ap_c, am_bp_c, am_qp_c, am_lf_c, am_kt_s, am_kt_n, am_wst, am_wstop, am_ns_0, am_ns_1, Bool.not_true, Bool.not_false, Bool.true_and, Bool.false_and, Nat.reduceBEq, ↓reduceIte, am_k2_n, am_k2_i, am_k2_r, am_k2_u, am_k2_f, am_k2_l, Nat.zero_le, true_and, and_true, true_or, or_true, am_cat_0, am_cat_i, am_cat_r, am_cat_l, am_cat_n, Nat.reduceLeDiff, Nat.reduceAdd, Option.isSome_some, List.getElem?_cons_zero, List.getElem?_cons_succ, am_fit_i, am_fit_r, am_fit_a, eq_self, if_true]
    refine k_pin hD hS p3 p4 (fun G1 hS => ?_)
    simp only [J101_0, J101_1, J101_2, J101_3, J101_5, J101_6, J101_8, J101_10, J101_12, J101_15, J101_16, J101_17, J101_19, J101_22, J101_24, J101_25, J101_27, J101_28, J101_29, J101_31, J101_34, J101_36, J101_39, J101_41, J101_42, J101_44, J101_45, J101_46, J101_48, J101_51, J101_54, J101_55, J101_56, J101_59, J101_60, J101_61, J101_64, J101_66, J101_69, J101_70, J101_73, J101_74, J101_75, J101_76, J101_77, J101_79, J101_82, J101_83, J101_86, J101_87, J101_90, J101_91, J101_94, J101_95, J101_96, J101_97, J101_99, J101_101, J101_103, J101_106, J101_107, J101_108, J101_110, J101_113, J101_115, J101_116, J101_117, J101_119, J101_122, J101_125, J101_126, J101_129, J101_131, J101_134, J101_135, J101_136, J101_137, J101_140, J101_142, J101_145, J101_146, J101_147, J101_150, J101_153, J101_154, J101_157, J101_158, J101_161, J101_162, J101_165, J101_166, am_gg_c, am_gf_c, am_pf_c, am_af_c, am_sf_c, am_bf_c, am_qf_c, am_ap_c, am_bp_c, am_qp_c, am_lf_c, am_kt_s, am_kt_n, am_wst, am_wstop, am_ns_0, am_ns_1, Bool.not_true, Bool.not_false, Bool.true_and, Bool.false_and, Nat.reduceBEq, ↓reduceIte, am_k2_n, am_k2_i, am_k2_r, am_k2_u, am_k2_f, am_k2_l, Nat.zero_le, true_and, and_true, true_or, or_true, am_cat_0, am_cat_i, am_cat_r, am_cat_l, am_cat_n, Nat.reduceLeDiff, Nat.reduceAdd, Option.isSome_some, List.getElem?_cons_zero, List.getElem?_cons_succ, am_fit_i, am_fit_r, am_fit_a, eq_self, if_true]
    refine am_goto I101_150 ?_
    rw [nI_1]
    exact am_WP.fg (ih (w + 1) (by omega) (by omega) _ hS) (by simp [am_le])
theorem sp_frequencies (hD : 19 ≤ D) (hq : q < l) (hS : ST G l h d (fun _ => 0) n t s) (hP : ∀ G1, ST G1 l h d (fun _ => 0) n t s → P (some (.int 1)) G1) : am_CB X D 101 [.ref 0, .int (nI (arrs true l h d (fun _ => 0)).length), .int (nI q)] G P := by
  obtain ⟨D, rfl⟩ : ∃ D0, D = D0 + 1 := ⟨D - 1, by omega⟩
  obtain ⟨w1, w2, w3, w4, w5, w6, w7, w8⟩ := hS.wf
  have hA := hS.len
  have mid : ∀ (G1 : am_H), ST G1 l h d (fun _ => 0) n t s → am_WP X D 101 96 [some (.ref 0), some (.int (nI (arrs true l h d (fun _ => 0)).length)), some (.int (nI q)), none, none, none, none] [] G1 0 0 P := fun G1 hS => by
    refine am_wps 60 [99] ?_
    simp only [J101_0, J101_1, J101_2, J101_3, J101_5, J101_6, J101_8, J101_10, J101_12, J101_15, J101_16, J101_17, J101_19, J101_22, J101_24, J101_25, J101_27, J101_28, J101_29, J101_31, J101_34, J101_36, J101_39, J101_41, J101_42, J101_44, J101_45, J101_46, J101_48, J101_51, J101_54, J101_55, J101_56, J101_59, J101_60, J101_61, J101_64, J101_66, J101_69, J101_70, J101_73, J101_74, J101_75, J101_76, J101_77, J101_79, J101_82, J101_83, J101_86, J101_87, J101_90, J101_91, J101_94, J101_95, J101_96, J101_97, J101_99, J101_101, J101_103, J101_106, J101_107, J101_108, J101_110, J101_113, J101_115, J101_116, J101_117, J101_119, J101_122, J101_125, J101_126, J101_129, J101_131, J101_134, J101_135, J101_136, J101_137, J101_140, J101_142, J101_145, J101_146, J101_147, J101_150, J101_153, J101_154, J101_157, J101_158, J101_161, J101_162, J101_165, J101_166, am_gg_c, am_gf_c, am_pf_c, am_af_c, am_sf_c, am_bf_c, am_qf_c, am_ap_c, am_bp_c, am_qp_c, am_lf_c, am_kt_s, am_kt_n, am_wst, am_wstop, am_ns_0, am_ns_1, Bool.not_true, Bool.not_false, Bool.true_and, Bool.false_and, Nat.reduceBEq, ↓reduceIte, am_k2_n, am_k2_i, am_k2_r, am_k2_u, am_k2_f, am_k2_l, Nat.zero_le, true_and, and_true, true_or, or_true, am_cat_0, am_cat_i, am_cat_r, am_cat_l, am_cat_n, Nat.reduceLeDiff, Nat.reduceAdd, Option.isSome_some, List.getElem?_cons_zero, List.getElem?_cons_succ, am_fit_i, am_fit_r, am_fit_a]
    exact am_WP.fg (lp_frq2 (by omega) hq hP 17 1 (by omega) (by omega) _ hS) (by simp [am_le, show nI 1 = 1 from rfl])
  refine B101 100 [8] ?_
  simp only [J101_0, J101_1, J101_2, J101_3, J101_5, J101_6, J101_8, J101_10, J101_12, J101_15, J101_16, J101_17, J101_19, J101_22, J101_24, J101_25, J101_27, J101_28, J101_29, J101_31, J101_34, J101_36, J101_39, J101_41, J101_42, J101_44, J101_45, J101_46, J101_48, J101_51, J101_54, J101_55, J101_56, J101_59, J101_60, J101_61, J101_64, J101_66, J101_69, J101_70, J101_73, J101_74, J101_75, J101_76, J101_77, J101_79, J101_82, J101_83, J101_86, J101_87, J101_90, J101_91, J101_94, J101_95, J101_96, J101_97, J101_99, J101_101, J101_103, J101_106, J101_107, J101_108, J101_110, J101_113, J101_115, J101_116, J101_117, J101_119, J101_122, J101_125, J101_126, J101_129, J101_131, J101_134, J101_135, J101_136, J101_137, J101_140, J101_142, J101_145, J101_146, J101_147, J101_150, J101_153, J101_154, J101_157, J101_158, J101_161, J101_162, J101_165, J101_166, am_gg_c, am_gf_c, am_pf_c, am_af_c, am_sf_c, am_bf_c, am_qf_c, am_ap_c, am_bp_c, am_qp_c, am_lf_c, am_kt_s, am_kt_n, am_wst, am_wstop, am_ns_0, am_ns_1, Bool.not_true, Bool.not_false, Bool.true_and, Bool.false_and, Nat.reduceBEq, ↓reduceIte, am_k2_n, am_k2_i, am_k2_r, am_k2_u, am_k2_f, am_k2_l, Nat.zero_le, true_and, and_true, true_or, or_true, am_cat_0, am_cat_i, am_cat_r, am_cat_l, am_cat_n, Nat.reduceLeDiff, Nat.reduceAdd, Option.isSome_some, List.getElem?_cons_zero, List.getElem?_cons_succ, am_fit_i, am_fit_r, am_fit_a]
  refine am_WP.fg (lp_frq1 (by omega) hq (fun G1 hS => ?_) 18 0 (by omega) _ hS) (by simp [am_le, nI_0, fsN, mkm])
  refine am_wps 100 [96] ?_
  simp only [J101_0, J101_1, J101_2, J101_3, J101_5, J101_6, J101_8, J101_10, J101_12, J101_15, J101_16, J101_17, J101_19, J101_22, J101_24, J101_25, J101_27, J101_28, J101_29, J101_31, J101_34, J101_36, J101_39, J101_41, J101_42, J101_44, J101_45, J101_46, J101_48, J101_51, J101_54, J101_55, J101_56, J101_59, J101_60, J101_61, J101_64, J101_66, J101_69, J101_70, J101_73, J101_74, J101_75, J101_76, J101_77, J101_79, J101_82, J101_83, J101_86, J101_87, J101_90, J101_91, J101_94, J101_95, J101_96, J101_97, J101_99, J101_101, J101_103, J101_106, J101_107, J101_108, J101_110, J101_113, J101_115, J101_116, J101_117, J101_119, J101_122, J101_125, J101_126, J101_129, J101_131, J101_134, J101_135, J101_136, J101_137, J101_140, J101_142, J101_145, J101_146, J101_147, J101_150, J101_153, J101_154, J101_157, J101_158, J101_161, J101_162, J101_165, J101_166, am_gg_c, am_gf_c, am_pf_c, am_af_c, am_sf_c, am_bf_c, am_qf_c, am_ap_c, am_bp_c, am_qp_c, am_lf_c, am_kt_s, am_kt_n, am_wst, am_wstop, am_ns_0, am_ns_1, Bool.not_true, Bool.not_false, Bool.true_and, Bool.false_and, Nat.reduceBEq, ↓reduceIte, am_k2_n, am_k2_i, am_k2_r, am_k2_u, am_k2_f, am_k2_l, Nat.zero_le, true_and, and_true, true_or, or_true, am_cat_0, am_cat_i, am_cat_r, am_cat_l, am_cat_n, Nat.reduceLeDiff, Nat.reduceAdd, Option.isSome_some, List.getElem?_cons_zero, List.getElem?_cons_succ, am_fit_i, am_fit_r, am_fit_a, eq_self, if_true]
  refine k_options (by omega) hS (v_op hq w2) (fun G1 hS => ?_)
  simp only [J101_0, J101_1, J101_2, J101_3, J101_5, J101_6, J101_8, J101_10, J101_12, J101_15, J101_16, J101_17, J101_19, J101_22, J101_24, J101_25, J101_27, J101_28, J101_29, J101_31, J101_34, J101_36, J101_39, J101_41, J101_42, J101_44, J101_45, J101_46, J101_48, J101_51, J101_54, J101_55, J101_56, J101_59, J101_60, J101_61, J101_64, J101_66, J101_69, J101_70, J101_73, J101_74, J101_75, J101_76, J101_77, J101_79, J101_82, J101_83, J101_86, J101_87, J101_90, J101_91, J101_94, J101_95, J101_96, J101_97, J101_99, J101_101, J101_103, J101_106, J101_107, J101_108, J101_110, J101_113, J101_115, J101_116, J101_117, J101_119, J101_122, J101_125, J101_126, J101_129, J101_131, J101_134, J101_135, J101_136, J101_137, J101_140, J101_142, J101_145, J101_146, J101_147, J101_150, J101_153, J101_154, J101_157, J101_158, J101_161, J101_162, J101_165, J101_166, am_gg_c, am_gf_c, am_pf_c, am_af_c, am_sf_c, am_bf_c, am_qf_c, am_ap_c, am_bp_c, am_qp_c, am_lf_c, am_kt_s, am_kt_n, am_wst, am_wstop, am_ns_0, am_ns_1, Bool.not_true, Bool.not_false, Bool.true_and, Bool.false_and, Nat.reduceBEq, ↓reduceIte, am_k2_n, am_k2_i, am_k2_r, am_k2_u, am_k2_f, am_k2_l, Nat.zero_le, true_and, and_true, true_or, or_true, am_cat_0, am_cat_i, am_cat_r, am_cat_l, am_cat_n, Nat.reduceLeDiff, Nat.reduceAdd, Option.isSome_some, List.getElem?_cons_zero, List.getElem?_cons_succ, am_fit_i, am_fit_r, am_fit_a, eq_self, if_true]
  refine k_forced (by omega) hS rfl (fun G1 hS => ?_)
  simp only [J101_0, J101_1, J101_2, J101_3, J101_5, J101_6, J101_8, J101_10, J101_12, J101_15, J101_16, J101_17, J101_19, J101_22, J101_24, J101_25, J101_27, J101_28, J101_29, J101_31, J101_34, J101_36, J101_39, J101_41, J101_42, J101_44, J101_45, J101_46, J101_48, J101_51, J101_54, J101_55, J101_56, J101_59, J101_60, J101_61, J101_64, J101_66, J101_69, J101_70, J101_73, J101_74, J101_75, J101_76, J101_77, J101_79, J101_82, J101_83, J101_86, J101_87, J101_90, J101_91, J101_94, J101_95, J101_96, J101_97, J101_99, J101_101, J101_103, J101_106, J101_107, J101_108, J101_110, J101_113, J101_115, J101_116, J101_117, J101_119, J101_122, J101_125, J101_126, J101_129, J101_131, J101_134, J101_135, J101_136, J101_137, J101_140, J101_142, J101_145, J101_146, J101_147, J101_150, J101_153, J101_154, J101_157, J101_158, J101_161, J101_162, J101_165, J101_166, am_gg_c, am_gf_c, am_pf_c, am_af_c, am_sf_c, am_bf_c, am_qf_c, am_ap_c, am_bp_c, am_qp_c, am_lf_c, am_kt_s, am_kt_n, am_wst, am_wstop, am_ns_0, am_ns_1, Bool.not_true, Bool.not_false, Bool.true_and, Bool.false_and, Nat.reduceBEq, ↓reduceIte, am_k2_n, am_k2_i, am_k2_r, am_k2_u, am_k2_f, am_k2_l, Nat.zero_le, true_and, and_true, true_or, or_true, am_cat_0, am_cat_i, am_cat_r, am_cat_l, am_cat_n, Nat.reduceLeDiff, Nat.reduceAdd, Option.isSome_some, List.getElem?_cons_zero, List.getElem?_cons_succ, am_fit_i, am_fit_r, am_fit_a, eq_self, if_true]
  have hop := opA_lt (x := q) (arrs true l h d (fun _ => 0)) 0 (fun a ha => rwN_lt ha) (by omega)
  have hfb : (mkm (fcB (arrs true l h d (fun _ => 0))) l).testBit q = decide ((bl (opA q (arrs true l h d (fun _ => 0)) 0)).length = 1) := by
    rw [mkm_bit, decide_eq_true hq, Bool.true_and]; rfl
  have hlt := mkm_lt (fcB (arrs true l h d (fun _ => 0))) l
  have h18 : 2 ^ l ≤ 2 ^ 18 := Nat.pow_le_pow_right (by omega) w2
  rw [bi_shr (by omega) (by omega), bi_bit, hfb]
  refine sp_bits (by omega) hop ?_
  have hbl := bl_le (opA q (arrs true l h d (fun _ => 0)) 0)
  simp only [J101_0, J101_1, J101_2, J101_3, J101_5, J101_6, J101_8, J101_10, J101_12, J101_15, J101_16, J101_17, J101_19, J101_22, J101_24, J101_25, J101_27, J101_28, J101_29, J101_31, J101_34, J101_36, J101_39, J101_41, J101_42, J101_44, J101_45, J101_46, J101_48, J101_51, J101_54, J101_55, J101_56, J101_59, J101_60, J101_61, J101_64, J101_66, J101_69, J101_70, J101_73, J101_74, J101_75, J101_76, J101_77, J101_79, J101_82, J101_83, J101_86, J101_87, J101_90, J101_91, J101_94, J101_95, J101_96, J101_97, J101_99, J101_101, J101_103, J101_106, J101_107, J101_108, J101_110, J101_113, J101_115, J101_116, J101_117, J101_119, J101_122, J101_125, J101_126, J101_129, J101_131, J101_134, J101_135, J101_136, J101_137, J101_140, J101_142, J101_145, J101_146, J101_147, J101_150, J101_153, J101_154, J101_157, J101_158, J101_161, J101_162, J101_165, J101_166, am_gg_c, am_gf_c, am_pf_c, am_af_c, am_sf_c, am_bf_c, am_qf_c, am_ap_c, am_bp_c, am_qp_c, am_lf_c, am_kt_s, am_kt_n, am_wst, am_wstop, am_ns_0, am_ns_1, Bool.not_true, Bool.not_false, Bool.true_and, Bool.false_and, Nat.reduceBEq, ↓reduceIte, am_k2_n, am_k2_i, am_k2_r, am_k2_u, am_k2_f, am_k2_l, Nat.zero_le, true_and, and_true, true_or, or_true, am_cat_0, am_cat_i, am_cat_r, am_cat_l, am_cat_n, Nat.reduceLeDiff, Nat.reduceAdd, Option.isSome_some, List.getElem?_cons_zero, List.getElem?_cons_succ, am_fit_i, am_fit_r, am_fit_a]
  by_cases c : (bl (opA q (arrs true l h d (fun _ => 0)) 0)).length = 1
  · rw [if_pos (show nI _ = 1 by rw [c]; rfl), decide_eq_true c]
    simp only [if_true, eq_self]
    exact am_WP.fg (mid _ hS) (by simp [am_le])
  · rw [if_neg (fun e => c ((nI_eq (b := 1) (by omega) (by omega)).mp (by rw [e]; rfl))), decide_eq_false c]
    simp only [Bool.false_eq_true, if_false, if_true, eq_self]
    exact am_WP.fg (mid _ hS) (by simp [am_le])
end FRQ
