/-! runs over the list of arrangements: goTo, count -/
/-- the row of an arrangement stands in the engine -/
def RW (G : am_H) (a : List (Nat × Nat)) : Prop := ∃ r bg, am_ia G 30 0 = some (18, r) ∧ am_ia G 31 0 = some (18, bg) ∧ (∀ q, q < 18 → r q = nI (rwZ a.reverse q)) ∧ ∀ p d, (p, d) ∈ a → bg d = nI p
theorem RW.fr {G G' : am_H} {ks : List Nat} {a : List (Nat × Nat)} (h : RW G a) (hF : Fr ks G G') (h1 : ¬ 30 ∈ ks) (h2 : ¬ 31 ∈ ks) : RW G' a := by
  obtain ⟨r, bg, a1, a2, a3⟩ := h
  exact ⟨r, bg, by rw [hF.ia h1]; exact a1, by rw [hF.ia h2]; exact a2, a3⟩
theorem arrs_len {ipb : Bool} {l h d : Nat} {f : Nat → Nat} (hl : l ≤ 18) (hd : d < 2 ^ 18) (hd0 : d.testBit 0 = false) (hd8 : (bl d).length ≤ 8) : (arrs ipb l h d f).length ≤ 512 := by
  unfold arrs
  split
  · next c =>
    rw [Bool.and_eq_true] at c
    exact ens_512 (frN_lt hl) hd hd0 rfl hd8 (by simpa [filledB] using c.1)
  · exact Nat.zero_le _
section GT
variable {X : Nat × (Nat → Int32)} {D : Nat} {P : Option Value → am_H → Prop} {pm vp : Int32} {ipb : Bool} {l h d : Nat} {f : Nat → Nat} {n ln O0 m0 : Nat} {R : List (List (Nat × Nat))}
theorem EnS.a {G : am_H} (h : EnS G pm vp ipb f n ln O0 m0 R) : EnA G pm vp := by
  rcases h with ⟨_, h⟩ | ⟨_, Z, b, h, _⟩
  · exact h.a
  · exact h.a
theorem sp_adv {G : am_H} (hD : 4 ≤ D) (hE : EnS G pm vp ipb f n ln O0 m0 R) (hm : MA G l h d f) (h0 : R = [] → ∀ G', EnS G' pm vp ipb f n ln O0 m0 [] → Fr kE G G' → P (some (.int 0)) G') (h1 : ∀ a R', R = a :: R' → ∀ G', EnS G' pm vp ipb f n ln O0 m0 R' → RW G' a → Fr kE G G' → P (some (.int 1)) G') : am_CB X D 121 [.ref 23] G P := by
  refine sp_advance hD hE hm (fun v G' hp hF => ?_)
  rcases hp with ⟨rfl, rfl, hX⟩ | ⟨Z, rfl, rfl, hlen, hG⟩
  · exact h0 rfl G' (Or.inl ⟨rfl, hX⟩) hF
  · have hc : PC n ln O0 m0 := by
      rcases hE with ⟨e, _⟩ | ⟨hc, _⟩
      · cases e
      · exact hc
    refine h1 _ _ rfl G' (Or.inr ⟨hc, Z, 0, hG, Or.inl ⟨hlen, rfl⟩⟩) ?_ hF
    obtain ⟨T, pl, ch, r, bg, b1, b2, b3, b4, b5, b6, b7, b8, b9, b10, b11, b12⟩ := hG
    exact ⟨r, bg, b6, b7, fun q hq => by rw [List.reverse_reverse]; exact b10 q hq, fun p d hm => b11 p d (List.mem_reverse.mp hm)⟩
/-- an arrangement by its number -/
def goA (A : List (List (Nat × Nat))) (z : Int32) : Option (List (Nat × Nat)) := if z < 0 then none else A[z.toInt.toNat]?
theorem lp_goto {G0 : am_H} {A : List (List (Nat × Nat))} {z : Int32} (hz : ¬ z < 0) (hA : A.length ≤ 512) (hD : 4 ≤ D) (hm : ∀ G, Fr kE G0 G → MA G l h d f)
    (h0 : goA A z = none → ∀ G', EnA G' pm vp → Fr kE G0 G' → P (some (.int 0)) G') (h1 : ∀ a, goA A z = some a → ∀ G', (∃ R, EnS G' pm vp ipb f n ln O0 m0 R) → RW G' a → Fr kE G0 G' → P (some (.int 1)) G') :
    ∀ (R : List (List (Nat × Nat))) (k : Nat) (G : am_H), A.drop k = R → k ≤ A.length → k ≤ z.toInt.toNat + 1 → EnS G pm vp ipb f n ln O0 m0 R → (k = z.toInt.toNat + 1 → ∃ a, A[z.toInt.toNat]? = some a ∧ RW G a) → Fr kE G0 G → am_WP X D 122 12 [some (.ref 23), some (.int z), some (.int (nI k))] [] G 0 0 P := by
  have hz0 : 0 ≤ z.toInt := by
    rw [bi_lt] at hz
    simpa using hz
  obtain ⟨hz1, hz2⟩ := bi_nat hz0
  intro R
  induction R with
  | nil =>
    intro k G hk hkl hkz hE hr hF
    obtain ⟨len, T, m, ip, due, dep, b1⟩ := hE.a.1
    have hkA : A.length = k := by
      have := congrArg List.length hk
      simp only [List.length_drop, List.length_nil] at this
      omega
    have e0 : (nI k).toInt = k := nI_toInt (by omega)
    refine am_wps 40 [29] ?_
    simp only [J122_0, J122_1, J122_4, J122_5, J122_6, J122_7, J122_10, J122_11, J122_12, J122_13, J122_14, J122_17, J122_18, J122_21, J122_24, J122_25, J122_26, J122_29, J122_32, J122_33, am_gg_c, am_gf_c, am_pf_c, am_af_c, am_sf_c, am_bf_c, am_qf_c, am_ap_c, am_bp_c, am_qp_c, am_lf_c, am_kt_s, am_kt_n, am_wst, am_wstop, am_ns_0, am_ns_1, Bool.not_true, Bool.not_false, Bool.true_and, Bool.false_and, Nat.reduceBEq, ↓reduceIte, am_k2_n, am_k2_i, am_k2_r, am_k2_u, am_k2_f, am_k2_l, Nat.zero_le, true_and, and_true, true_or, or_true, am_cat_0, am_cat_i, am_cat_r, am_cat_l, am_cat_n, Nat.reduceLeDiff, Nat.reduceAdd, Option.isSome_some, List.getElem?_cons_zero, List.getElem?_cons_succ, am_fit_i, am_fit_r, am_fit_a, b1]
    split
    · next q =>
      rw [bi_lt, e0] at q
      obtain ⟨a, c1, c2⟩ := hr (by omega)
      exact h1 a (by unfold goA; rw [if_neg hz]; exact c1) G ⟨_, hE⟩ c2 hF
    · next q =>
      rw [bi_lt, e0] at q
      refine sp_adv hD hE (hm G hF) (fun _ G' d1 d2 => ?_) (fun a R' e => by cases e)
      simp only [J122_0, J122_1, J122_4, J122_5, J122_6, J122_7, J122_10, J122_11, J122_12, J122_13, J122_14, J122_17, J122_18, J122_21, J122_24, J122_25, J122_26, J122_29, J122_32, J122_33, am_gg_c, am_gf_c, am_pf_c, am_af_c, am_sf_c, am_bf_c, am_qf_c, am_ap_c, am_bp_c, am_qp_c, am_lf_c, am_kt_s, am_kt_n, am_wst, am_wstop, am_ns_0, am_ns_1, Bool.not_true, Bool.not_false, Bool.true_and, Bool.false_and, Nat.reduceBEq, ↓reduceIte, am_k2_n, am_k2_i, am_k2_r, am_k2_u, am_k2_f, am_k2_l, Nat.zero_le, true_and, and_true, true_or, or_true, am_cat_0, am_cat_i, am_cat_r, am_cat_l, am_cat_n, Nat.reduceLeDiff, Nat.reduceAdd, Option.isSome_some, List.getElem?_cons_zero, List.getElem?_cons_succ, am_fit_i, am_fit_r, am_fit_a, if_true]
      exact h0 (by unfold goA; rw [if_neg hz]; exact List.getElem?_eq_none (by omega)) G' d1.a (hF.tr d2)
  | cons a R ih =>
    intro k G hk hkl hkz hE hr hF
    obtain ⟨len, T, m, ip, due, dep, b1⟩ := hE.a.1
    have hkA : k < A.length := by
      have := congrArg List.length hk
      simp only [List.length_drop, List.length_cons] at this
      omega
    have hka : A[k]? = some a := by
      have := congrArg (fun t => t[0]?) hk
      simpa using this
    have e0 : (nI k).toInt = k := nI_toInt (by omega)
    refine am_wps 40 [29] ?_
    simp only [J122_0, J122_1, J122_4, J122_5, J122_6, J122_7, J122_10, J122_11, J122_12, J122_13, J122_14, J122_17, J122_18, J122_21, J122_24, J122_25, J122_26, J122_29, J122_32, J122_33, am_gg_c, am_gf_c, am_pf_c, am_af_c, am_sf_c, am_bf_c, am_qf_c, am_ap_c, am_bp_c, am_qp_c, am_lf_c, am_kt_s, am_kt_n, am_wst, am_wstop, am_ns_0, am_ns_1, Bool.not_true, Bool.not_false, Bool.true_and, Bool.false_and, Nat.reduceBEq, ↓reduceIte, am_k2_n, am_k2_i, am_k2_r, am_k2_u, am_k2_f, am_k2_l, Nat.zero_le, true_and, and_true, true_or, or_true, am_cat_0, am_cat_i, am_cat_r, am_cat_l, am_cat_n, Nat.reduceLeDiff, Nat.reduceAdd, Option.isSome_some, List.getElem?_cons_zero, List.getElem?_cons_succ, am_fit_i, am_fit_r, am_fit_a, b1]
    split
    · next q =>
      rw [bi_lt, e0] at q
      obtain ⟨a, c1, c2⟩ := hr (by omega)
      exact h1 a (by unfold goA; rw [if_neg hz]; exact c1) G ⟨_, hE⟩ c2 hF
    · next q =>
      rw [bi_lt, e0] at q
      refine sp_adv hD hE (hm G hF) (fun e => by cases e) (fun a' R' e G' d1 d2 d3 => ?_)
      cases e
      simp only [J122_0, J122_1, J122_4, J122_5, J122_6, J122_7, J122_10, J122_11, J122_12, J122_13, J122_14, J122_17, J122_18, J122_21, J122_24, J122_25, J122_26, J122_29, J122_32, J122_33, am_gg_c, am_gf_c, am_pf_c, am_af_c, am_sf_c, am_bf_c, am_qf_c, am_ap_c, am_bp_c, am_qp_c, am_lf_c, am_kt_s, am_kt_n, am_wst, am_wstop, am_ns_0, am_ns_1, Bool.not_true, Bool.not_false, Bool.true_and, Bool.false_and, Nat.reduceBEq, ↓reduceIte, am_k2_n, am_k2_i, am_k2_r, am_k2_u, am_k2_f, am_k2_l, Nat.zero_le, true_and, and_true, true_or, or_true, am_cat_0, am_cat_i, am_cat_r, am_cat_l, am_cat_n, Nat.reduceLeDiff, Nat.reduceAdd, Option.isSome_some, List.getElem?_cons_zero, List.getElem?_cons_succ, am_fit_i, am_fit_r, am_fit_a, if_neg (show ¬ (1 : Int32) = 0 by decide)]
      refine am_goto I122_29 ?_
      rw [nI_1]
      refine ih (k + 1) G' ?_ (by omega) (by omega) d1 (fun c => ⟨a, ?_, d2⟩) (hF.tr d3)
      · rw [← List.drop_drop, hk]; rfl
      · rw [show z.toInt.toNat = k by omega]; exact hka
theorem sp_goToS {G : am_H} {z : Int32} (hD : 5 ≤ D) (hE : EnA G pm vp) (hm : MA G l h d f) (hd1 : 1 ≤ (bl d).length) (hd8 : (bl d).length ≤ 8)
    (h0 : goA (arrs true l h d f) z = none → ∀ G', EnA G' pm vp → Fr kE G G' → P (some (.int 0)) G') (h1 : ∀ a, goA (arrs true l h d f) z = some a → ∀ G', (∃ R, EnS G' pm vp true f (bl d).length l (frN l h) d R) → RW G' a → Fr kE G G' → P (some (.int 1)) G') : am_CB X D 122 [.ref 23, .int z] G P := by
  obtain ⟨D, rfl⟩ : ∃ D0, D = D0 + 1 := ⟨D - 1, by omega⟩
  obtain ⟨⟨af, a1, a2, a3, a4, a5⟩, hl1, hl, hh, hd, hd0, hf⟩ := id hm
  obtain ⟨len, T, m, ip, due, dep, b1⟩ := hE.1
  refine B122 40 [12] ?_
  simp only [J122_0, J122_1, J122_4, J122_5, J122_6, J122_7, J122_10, J122_11, J122_12, J122_13, J122_14, J122_17, J122_18, J122_21, J122_24, J122_25, J122_26, J122_29, J122_32, J122_33, am_gg_c, am_gf_c, am_pf_c, am_af_c, am_sf_c, am_bf_c, am_qf_c, am_ap_c, am_bp_c, am_qp_c, am_lf_c, am_kt_s, am_kt_n, am_wst, am_wstop, am_ns_0, am_ns_1, Bool.not_true, Bool.not_false, Bool.true_and, Bool.false_and, Nat.reduceBEq, ↓reduceIte, am_k2_n, am_k2_i, am_k2_r, am_k2_u, am_k2_f, am_k2_l, Nat.zero_le, true_and, and_true, true_or, or_true, am_cat_0, am_cat_i, am_cat_r, am_cat_l, am_cat_n, Nat.reduceLeDiff, Nat.reduceAdd, Option.isSome_some, List.getElem?_cons_zero, List.getElem?_cons_succ, am_fit_i, am_fit_r, am_fit_a, b1]
  split
  · next q =>
    exact h0 (by unfold goA; rw [if_pos q]) G hE Fr.rf
  · next q =>
    refine sp_beginOwn (by omega) hE hm hd1 hd8 (fun G1 c1 _ c2 => ?_)
    simp only [J122_0, J122_1, J122_4, J122_5, J122_6, J122_7, J122_10, J122_11, J122_12, J122_13, J122_14, J122_17, J122_18, J122_21, J122_24, J122_25, J122_26, J122_29, J122_32, J122_33, am_gg_c, am_gf_c, am_pf_c, am_af_c, am_sf_c, am_bf_c, am_qf_c, am_ap_c, am_bp_c, am_qp_c, am_lf_c, am_kt_s, am_kt_n, am_wst, am_wstop, am_ns_0, am_ns_1, Bool.not_true, Bool.not_false, Bool.true_and, Bool.false_and, Nat.reduceBEq, ↓reduceIte, am_k2_n, am_k2_i, am_k2_r, am_k2_u, am_k2_f, am_k2_l, Nat.zero_le, true_and, and_true, true_or, or_true, am_cat_0, am_cat_i, am_cat_r, am_cat_l, am_cat_n, Nat.reduceLeDiff, Nat.reduceAdd, Option.isSome_some, List.getElem?_cons_zero, List.getElem?_cons_succ, am_fit_i, am_fit_r, am_fit_a]
    exact lp_goto (ipb := true) (G0 := G1) (A := arrs true l h d f) q (arrs_len hl hd hd0 hd8) (by omega) (fun G' hF => hm.fr (c2.tr hF) (by decide)) (fun e G' d1 d2 => h0 e G' d1 (c2.tr d2)) (fun a e G' d1 d2 d3 => h1 a e G' d1 d2 (c2.tr d3)) _ 0 G1 (by rw [List.drop_zero]) (by omega) (by omega) c1 (fun e => by omega) Fr.rf
theorem sp_goTo {G : am_H} {z : Int32} (hD : 5 ≤ D) (hE : EnA G pm vp) (hm : MA G l h d f) (hd1 : 1 ≤ (bl d).length) (hd8 : (bl d).length ≤ 8)
    (h0 : goA (arrs true l h d f) z = none → ∀ G', EnA G' pm vp → Fr kE G G' → P (some (.int 0)) G') (h1 : ∀ a, goA (arrs true l h d f) z = some a → ∀ G', EnA G' pm vp → RW G' a → Fr kE G G' → P (some (.int 1)) G') : am_CB X D 122 [.ref 23, .int z] G P := sp_goToS hD hE hm hd1 hd8 h0 (fun a e G' d1 d2 d3 => h1 a e G' (d1.elim fun _ q => q.a) d2 d3)
end GT
