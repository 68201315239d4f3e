def FG (G : am_H) (l h d : Nat) (f : Nat → Nat) (old : Bool) : Prop := (∃ ln pr df sf Ls, AR G 3 4 5 6 512 ln pr df sf Ls ∧ sma df ∧ ∀ j, j < 8 → ∃ x, sf j = nI x) ∧ (old = false → FO G l h d f)
def TB (G : am_H) : Prop := ∃ l h d f, PB G 12 13 l h d f
def SB (G : am_H) : Prop := ∃ ln pr df sf Ls, AR G 14 15 16 17 1 ln pr df sf Ls ∧ sma df ∧ ∀ j, j < 8 → ∃ x, sf j = nI x
def KP (G : am_H) (k pk : Nat) (o : Option PT) : Prop := match o with
  | none => ∃ h d f, PB G k pk 0 h d f
  | some q => PB G k pk q.1 q.2.1 q.2.2.1 q.2.2.2
def KS (G : am_H) (s : Nat → Option PT) : Prop := (∃ z, am_ra G 18 = some (2, z) ∧ z 0 = some 19 ∧ z 1 = some 21) ∧ KP G 19 20 (s 0) ∧ KP G 21 22 (s 1)
def CO (G : am_H) (old : Bool) : Prop := am_ob G 0 4 = some [.ref 1, .ref 3, .ref 7, .ref 10, .ref 12, .ref 14, .ref 18, .int (if old = true then 1 else 0)]
def CSs (G : am_H) (l h d : Nat) (f : Nat → Nat) (n : Nat) (t : Nat → Int32) (s : Nat → Option PT) (old : Bool) : Prop := CO G old ∧ PB G 1 2 l h d f ∧ FG G l h d f old ∧ WK G ∧ PD G n t ∧ TB G ∧ SB G ∧ KS G s
theorem AR.fr {G G' : am_H} {ks : List Nat} {k pa da sa room : Nat} {ln pr : Int32} {df sf : Nat → Int32} {Ls : List Nat} (hh : AR G k pa da sa room ln pr df sf Ls) (hF : Fr ks G G') (h1 : ¬ k ∈ ks) (h2 : ¬ pa ∈ ks) (h3 : ¬ da ∈ ks) (h4 : ¬ sa ∈ ks) : AR G' k pa da sa room ln pr df sf Ls := by
  obtain ⟨a, ⟨q, b, b2⟩, c, e, g⟩ := hh
  exact ⟨by rw [hF.ob h1]; exact a, ⟨q, by rw [hF.la h2]; exact b, b2⟩, by rw [hF.ia h3]; exact c, by rw [hF.ia h4]; exact e, g⟩
section CST
variable {G G' : am_H} {ks : List Nat} {l h d : Nat} {f : Nat → Nat} {n : Nat} {t : Nat → Int32} {s : Nat → Option PT} {old : Bool}
theorem CO.fr (hh : CO G old) (hF : Fr ks G G') (h0 : ¬ 0 ∈ ks) : CO G' old := by unfold CO; rw [hF.ob h0]; exact hh
theorem FG.fr (hh : FG G l h d f old) (hF : Fr ks G G') (h1 : ¬ 3 ∈ ks) (h2 : ¬ 4 ∈ ks) (h3 : ¬ 5 ∈ ks) (h4 : ¬ 6 ∈ ks) : FG G' l h d f old := by
  obtain ⟨⟨ln, pr, df, sf, Ls, a, b⟩, c⟩ := hh
  exact ⟨⟨ln, pr, df, sf, Ls, a.fr hF h1 h2 h3 h4, b⟩, fun e => (c e).fr hF h1 h2 h3 h4⟩
theorem TB.fr (hh : TB G) (hF : Fr ks G G') (h1 : ¬ 12 ∈ ks) (h2 : ¬ 13 ∈ ks) : TB G' := by
  obtain ⟨a, b, c, e, g⟩ := hh
  exact ⟨a, b, c, e, g.fr hF h1 h2⟩
theorem SB.fr (hh : SB G) (hF : Fr ks G G') (h1 : ¬ 14 ∈ ks) (h2 : ¬ 15 ∈ ks) (h3 : ¬ 16 ∈ ks) (h4 : ¬ 17 ∈ ks) : SB G' := by
  obtain ⟨ln, pr, df, sf, Ls, a, b⟩ := hh
  exact ⟨ln, pr, df, sf, Ls, a.fr hF h1 h2 h3 h4, b⟩
theorem KP.fr {k pk : Nat} {o : Option PT} (hh : KP G k pk o) (hF : Fr ks G G') (h1 : ¬ k ∈ ks) (h2 : ¬ pk ∈ ks) : KP G' k pk o := by
  cases o with
  | none =>
    obtain ⟨a, b, c, e⟩ := hh
    exact ⟨a, b, c, e.fr hF h1 h2⟩
  | some q => exact PB.fr hh hF h1 h2
theorem KS.fr (hh : KS G s) (hF : Fr ks G G') (h0 : ¬ 18 ∈ ks) (h1 : ¬ 19 ∈ ks) (h2 : ¬ 20 ∈ ks) (h3 : ¬ 21 ∈ ks) (h4 : ¬ 22 ∈ ks) : KS G' s := by
  obtain ⟨⟨z, a, b⟩, c, e⟩ := hh
  exact ⟨⟨z, by rw [hF.ra h0]; exact a, b⟩, c.fr hF h1 h2, e.fr hF h3 h4⟩
theorem CSs.fr (hh : CSs G l h d f n t s old) (hF : Fr ks G G') (hk : ∀ j, j ∈ ks → 23 ≤ j) : CSs G' l h d f n t s old := by
  have hn : ∀ j, j < 23 → ¬ j ∈ ks := fun j hj hm => by have := hk j hm; omega
  obtain ⟨a, b, c, e, g, i, j, k⟩ := hh
  exact ⟨a.fr hF (hn 0 (by omega)), b.fr hF (hn 1 (by omega)) (hn 2 (by omega)), c.fr hF (hn 3 (by omega)) (hn 4 (by omega)) (hn 5 (by omega)) (hn 6 (by omega)), e.fr hF (hn 7 (by omega)) (hn 8 (by omega)) (hn 9 (by omega)), g.fr hF (hn 10 (by omega)) (hn 11 (by omega)), i.fr hF (hn 12 (by omega)) (hn 13 (by omega)), j.fr hF (hn 14 (by omega)) (hn 15 (by omega)) (hn 16 (by omega)) (hn 17 (by omega)), k.fr hF (hn 18 (by omega)) (hn 19 (by omega)) (hn 20 (by omega)) (hn 21 (by omega)) (hn 22 (by omega))⟩
end CST
abbrev kC : List Nat := [0, 1, 2, 3, 4, 5, 6, 7, 8, 9, 10, 11, 12, 13, 14, 15, 16, 17, 18, 19, 20, 21, 22]
theorem WF.o {l h d : Nat} {f : Nat → Nat} (hw : WF (l, h, d, f)) : 1 ≤ l ∧ l ≤ 18 ∧ h < 2 ^ l ∧ d < 2 ^ 18 ∧ d.testBit 0 = false ∧ (∀ j, f j ≤ 17) ∧ 1 ≤ (bl d).length ∧ (bl d).length ≤ 8 := hw
section CM
variable {X : Nat × (Nat → Int32)} {D : Nat} {G : am_H} {P : Option Value → am_H → Prop} {l h d : Nat} {f : Nat → Nat} {n : Nat} {t : Nat → Int32} {s : Nat → Option PT} {old : Bool}
theorem sp_searched (hw : WF (l, h, d, f)) (hD : 15 ≤ D) (hC : CSs G l h d f n t s old) (hP : ∀ G', CSs G' l h d f n t s false → FO G' l h d f → Fr [0, 3, 4, 5, 6] G G' → P (some (.ref 3)) G') : am_CB X D 61 [.ref 0] G P := by
  obtain ⟨D, rfl⟩ : ∃ D0, D = D0 + 1 := ⟨D - 1, by omega⟩
  obtain ⟨w1, w2, w3, w4, w5, w6, w7, w8⟩ := hw
  have w2 : l ≤ 18 := w2
  have w4 : d < 2 ^ 18 := w4
  have w5 : d.testBit 0 = false := w5
  have w8 : (bl d).length ≤ 8 := w8
  obtain ⟨c1, c2, c3, c4, c5, c6, c7, c8⟩ := id hC
  have o1 := c1
  unfold CO at o1
  cases old with
  | false =>
    refine B61 40 [] ?_
    simp only [J61_0, J61_1, J61_4, J61_7, J61_8, J61_11, J61_12, J61_15, J61_18, J61_19, J61_20, J61_23, J61_24, J61_27, J61_27n, am_gg_c, am_gf_c, am_pf_c, am_af_c, am_sf_c, am_bf_c, am_qf_c, am_ap_c, am_bp_c, am_qp_c, am_lf_c, am_kt_s, am_kt_n, am_wst, am_wstop, am_ns_0, am_ns_1, Bool.not_true, Bool.not_false, Bool.true_and, Bool.false_and, Nat.reduceBEq, ↓reduceIte, am_k2_n, am_k2_i, am_k2_r, am_k2_u, am_k2_f, am_k2_l, Nat.zero_le, true_and, and_true, true_or, or_true, am_cat_0, am_cat_i, am_cat_r, am_cat_l, am_cat_n, Nat.reduceLeDiff, Nat.reduceAdd, Option.isSome_some, List.getElem?_cons_zero, List.getElem?_cons_succ, am_fit_i, am_fit_r, am_fit_a, o1, Bool.false_eq_true, if_false, if_true]
    exact hP G hC (c3.2 rfl) Fr.rf
  | true =>
    obtain ⟨⟨ln, pr, df, sf, Ls, ha, hs1, hs2⟩, _⟩ := c3
    obtain ⟨a1, ⟨q0, a2, a3⟩, a4, a5, a6, a7⟩ := id ha
    refine B61 40 [] ?_
    simp only [J61_0, J61_1, J61_4, J61_7, J61_8, J61_11, J61_12, J61_15, J61_18, J61_19, J61_20, J61_23, J61_24, J61_27, J61_27n, am_gg_c, am_gf_c, am_pf_c, am_af_c, am_sf_c, am_bf_c, am_qf_c, am_ap_c, am_bp_c, am_qp_c, am_lf_c, am_kt_s, am_kt_n, am_wst, am_wstop, am_ns_0, am_ns_1, Bool.not_true, Bool.not_false, Bool.true_and, Bool.false_and, Nat.reduceBEq, ↓reduceIte, am_k2_n, am_k2_i, am_k2_r, am_k2_u, am_k2_f, am_k2_l, Nat.zero_le, true_and, and_true, true_or, or_true, am_cat_0, am_cat_i, am_cat_r, am_cat_l, am_cat_n, Nat.reduceLeDiff, Nat.reduceAdd, Option.isSome_some, List.getElem?_cons_zero, List.getElem?_cons_succ, am_fit_i, am_fit_r, am_fit_a, o1, a1, if_true, if_neg (show ¬ (1 : Int32) = 0 by decide)]
    refine sp_search (by omega) c2 w5 w8 (by decide) (by decide) (by omega) a1 a2 a4 a5 hs1 hs2 (fun G1 df1 sf1 b1 b2 b3 b4 b5 => ?_)
    have o2 : am_ob G1 0 4 = some [.ref 1, .ref 3, .ref 7, .ref 10, .ref 12, .ref 14, .ref 18, .int 1] := by rw [b5.ob (by decide)]; exact o1
    have k0 := am_ob_lt o2
    simp only [J61_0, J61_1, J61_4, J61_7, J61_8, J61_11, J61_12, J61_15, J61_18, J61_19, J61_20, J61_23, J61_24, J61_27, J61_27n, am_gg_c, am_gf_c, am_pf_c, am_af_c, am_sf_c, am_bf_c, am_qf_c, am_ap_c, am_bp_c, am_qp_c, am_lf_c, am_kt_s, am_kt_n, am_wst, am_wstop, am_ns_0, am_ns_1, Bool.not_true, Bool.not_false, Bool.true_and, Bool.false_and, Nat.reduceBEq, ↓reduceIte, am_k2_n, am_k2_i, am_k2_r, am_k2_u, am_k2_f, am_k2_l, Nat.zero_le, true_and, and_true, true_or, or_true, am_cat_0, am_cat_i, am_cat_r, am_cat_l, am_cat_n, Nat.reduceLeDiff, Nat.reduceAdd, Option.isSome_some, List.getElem?_cons_zero, List.getElem?_cons_succ, am_fit_i, am_fit_r, am_fit_a, o2, am_fit_b, List.length_cons, List.length_nil, Nat.reduceLT, List.set_cons_succ, List.set_cons_zero, am_ob_ss, k0]
    have hF2 : Fr [0] G1 (G1.set 0 (am_o 4 [.ref 1, .ref 3, .ref 7, .ref 10, .ref 12, .ref 14, .ref 18, .int 0])) := Fr.set (by decide)
    have hFF : Fr [0, 3, 4, 5, 6] G (G1.set 0 (am_o 4 [.ref 1, .ref 3, .ref 7, .ref 10, .ref 12, .ref 14, .ref 18, .int 0])) := (b5.up (by decide)).tr (hF2.up (by decide))
    obtain ⟨e1, e2⟩ := srL_eq (l := l) (h := h) (d := d) (f := f) w2 w4 w5 w8
    have hlen : (arrs true l h d f).length ≤ 512 := arrs_len w2 w4 w5 w8
    rw [e1, List.take_of_length_le (by rw [List.length_map]; exact hlen)] at b1
    have hFO : FO (G1.set 0 (am_o 4 [.ref 1, .ref 3, .ref 7, .ref 10, .ref 12, .ref 14, .ref 18, .int 0])) l h d f := by
      refine ⟨_, df1, sf1, b1.fr hF2 (by decide) (by decide) (by decide) (by decide), b2, b3, fun hne => ?_⟩
      have hm := e2 hne
      unfold srN at b4 ⊢
      rw [hm] at b4 ⊢
      exact ⟨rfl, b4⟩
    refine hP _ ⟨am_ob_ss k0, c2.fr hFF (by decide) (by decide), ⟨⟨_, _, df1, sf1, _, b1.fr hF2 (by decide) (by decide) (by decide) (by decide), b2, b3⟩, fun _ => hFO⟩, c4.fr hFF (by decide) (by decide) (by decide), c5.fr hFF (by decide) (by decide), c6.fr hFF (by decide) (by decide), c7.fr hFF (by decide) (by decide) (by decide) (by decide), c8.fr hFF (by decide) (by decide) (by decide) (by decide) (by decide)⟩ hFO hFF
end CM
