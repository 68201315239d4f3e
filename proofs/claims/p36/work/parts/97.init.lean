theorem ap_ob {Gp : am_H} {ci : Nat} {fs : List Value} {R : am_H} : am_ob (Gp ++ am_o ci fs :: R) Gp.length ci = some fs := by simp [am_ob]
theorem ap_set {Gp : am_H} {x y : am_C} {R : am_H} : (Gp ++ x :: R).set Gp.length y = Gp ++ y :: R := by
  rw [List.set_append_right _ _ (Nat.le_refl _), Nat.sub_self]; rfl
theorem ap_len {Gp : am_H} {R : am_H} {n : Nat} (h : R.length = n) : (Gp ++ R).length = Gp.length + n := by rw [List.length_append, h]
def GF (G : am_H) : Prop := ∀ c ∈ G, am_fC G.length c
theorem am_fC_mono {n m : Nat} (h : n ≤ m) {c : am_C} (hc : am_fC n c) : am_fC m c := by
  match c, hc with
  | .inl _, _ => trivial
  | .inr (.inl _), _ => trivial
  | .inr (.inr (.inl (_, f))), hc => exact fun j k e => Nat.lt_of_lt_of_le (hc j k e) h
  | .inr (.inr (.inr (_, fs))), hc =>
    intro v hv
    have := hc v hv
    cases v with
    | ref k => exact Nat.lt_of_lt_of_le this h
    | _ => trivial
theorem fr_ap {Gp R : am_H} {x : am_C} {L : List (Option Value)} {st : List Value} (hg : GF (Gp ++ [x])) (hn : 1 ≤ R.length) (hR : ∀ c ∈ R, am_fC (Gp.length + R.length) c) (hL : ∀ o ∈ L, ∀ v, o = some v → am_fv (Gp.length + R.length) v) (hst : ∀ v ∈ st, am_fv (Gp.length + R.length) v) : am_fr L st (Gp ++ R) := by
  unfold am_fr
  rw [List.length_append]
  refine ⟨hL, hst, fun c hc => ?_⟩
  rcases List.mem_append.mp hc with h | h
  · have := hg c (List.mem_append.mpr (Or.inl h))
    rw [List.length_append] at this
    exact am_fC_mono (by simp only [List.length_cons, List.length_nil]; omega) this
  · exact hR c h
section INI
variable {X : Nat × (Nat → Int32)} {D : Nat} {P : Option Value → am_H → Prop} {Gp : am_H}
theorem sp_initP (hD : 2 ≤ D) (hg : GF (Gp ++ [am_o 2 (am_df 2)])) (hP : P none (Gp ++ [am_o 2 [.int 0, .int 0, .int 0, .ref (Gp.length + 1)], am_ai 0 18 (fun _ => 0)])) : am_CB X D 23 [.ref Gp.length] (Gp ++ [am_o 2 (am_df 2)]) P := by
  obtain ⟨D, rfl⟩ : ∃ D0, D = D0 + 1 := ⟨D - 1, by omega⟩
  have hl : (Gp ++ [am_o 2 (am_df 2)]).length = Gp.length + 1 := ap_len rfl
  refine B23 40 [] ?_
  simp only [J23_0, J23_1, J23_4, J23_5, J23_7, J23_9, J23_12, am_gg_c, am_gf_c, am_pf_c, am_af_c, am_sf_c, am_bf_c, am_qf_c, am_ap_c, am_bp_c, am_qp_c, am_lf_c, am_kt_s, am_kt_n, am_wst, am_wstop, am_ns_0, am_ns_1, Bool.not_true, Bool.not_false, Bool.true_and, Bool.false_and, Nat.reduceBEq, ↓reduceIte, am_k2_n, am_k2_i, am_k2_r, am_k2_u, am_k2_f, am_k2_l, Nat.zero_le, true_and, and_true, true_or, or_true, am_cat_0, am_cat_i, am_cat_r, am_cat_l, am_cat_n, Nat.reduceLeDiff, Nat.reduceAdd, Option.isSome_some, List.getElem?_cons_zero, List.getElem?_cons_succ, am_fit_i, am_fit_r, am_fit_a, List.append_assoc, List.cons_append, List.nil_append, ap_ob]
  refine ⟨by omega, by decide, by decide, by decide, by decide, ⟨?_, ?_, hg⟩, by decide, ?_⟩
  · simp [am_fv]
  · simp [am_fv]
  · rw [hl, ap_set]
    exact ⟨by decide, by decide, hP⟩
theorem sp_initA {room : Nat} (hr : room ≤ 512) (hD : 2 ≤ D) (hg : GF (Gp ++ [am_o 0 (am_df 0)])) (hP : P none (Gp ++ [am_o 0 [.ref (Gp.length + 1), .int 0, .int 0, .ref (Gp.length + 2), .ref (Gp.length + 3), .int 0], am_al room (fun _ => 0), am_ai 0 8 (fun _ => 0), am_ai 0 8 (fun _ => 0)])) : am_CB X D 0 [.ref Gp.length, .int (nI room)] (Gp ++ [am_o 0 (am_df 0)]) P := by
  obtain ⟨D, rfl⟩ : ∃ D0, D = D0 + 1 := ⟨D - 1, by omega⟩
  have e0 : (if nI room < 0 then (0 : Int32) else nI room) = nI room := if_neg (nI_pos (by omega))
  have hl : (Gp ++ [am_o 0 (am_df 0)]).length = Gp.length + 1 := ap_len rfl
  have e1 : ∀ m, am_na 2 m = am_al m (fun _ => 0) := fun m => rfl
  have e2 : ∀ m, am_na 0 m = am_ai 0 m (fun _ => 0) := fun m => rfl
  refine B0 40 [] ?_
  simp only [J0_0, J0_1, J0_4, J0_5, J0_6, J0_7, J0_10, J0_12, J0_15, J0_16, J0_18, J0_20, J0_23, J0_24, J0_26, J0_28, J0_31, am_gg_c, am_gf_c, am_pf_c, am_af_c, am_sf_c, am_bf_c, am_qf_c, am_ap_c, am_bp_c, am_qp_c, am_lf_c, am_kt_s, am_kt_n, am_wst, am_wstop, am_ns_0, am_ns_1, Bool.not_true, Bool.not_false, Bool.true_and, Bool.false_and, Nat.reduceBEq, ↓reduceIte, am_k2_n, am_k2_i, am_k2_r, am_k2_u, am_k2_f, am_k2_l, Nat.zero_le, true_and, and_true, true_or, or_true, am_cat_0, am_cat_i, am_cat_r, am_cat_l, am_cat_n, Nat.reduceLeDiff, Nat.reduceAdd, Option.isSome_some, List.getElem?_cons_zero, List.getElem?_cons_succ, am_fit_i, am_fit_r, am_fit_a, e0, List.append_assoc, List.cons_append, List.nil_append, ap_ob, nI_clamp (show room < 2 ^ 31 by omega), ap_set, hl, e1, e2]
  refine ⟨by omega, by omega, nI_pos (by omega), by omega, by decide, ?_, ⟨?_, ?_, hg⟩, by decide, ?_⟩
  · show 0 + room ≤ 528; omega
  · simp [am_fv]
  · simp [am_fv]
  · have l2 : ∀ x y : am_C, (Gp ++ [x, y]).length = Gp.length + 2 := fun x y => ap_len rfl
    have l3 : ∀ x y z : am_C, (Gp ++ [x, y, z]).length = Gp.length + 3 := fun x y z => ap_len rfl
    have ms : am_ms 0 = 528 := rfl
    have t8 : Int32.toNatClampNeg 8 = 8 := rfl
    rw [l2, l3, ms, t8]
    refine ⟨by decide, by omega, by decide, by omega, ?_, Nat.le_of_ble_eq_true rfl, by decide, by omega, by decide, by omega, ?_, Nat.le_of_ble_eq_true rfl, by decide, by omega, hP⟩
    · refine fr_ap hg (Nat.le_of_ble_eq_true rfl) ?_ ?_ ?_ <;> simp [am_fv, am_fC, am_df]
    · refine fr_ap hg (Nat.le_of_ble_eq_true rfl) ?_ ?_ ?_ <;> simp [am_fv, am_fC, am_df]
theorem sp_initD (hD : 2 ≤ D) (hg : GF (Gp ++ [am_o 1 (am_df 1)])) (hP : P none (Gp ++ [am_o 1 [.ref (Gp.length + 1), .int 0], am_ai 0 18 (fun _ => 0)])) : am_CB X D 15 [.ref Gp.length] (Gp ++ [am_o 1 (am_df 1)]) P := by
  obtain ⟨D, rfl⟩ : ∃ D0, D = D0 + 1 := ⟨D - 1, by omega⟩
  have hl : (Gp ++ [am_o 1 (am_df 1)]).length = Gp.length + 1 := ap_len rfl
  have e2 : ∀ m, am_na 0 m = am_ai 0 m (fun _ => 0) := fun m => rfl
  refine B15 40 [] ?_
  simp only [J15_0, J15_1, J15_4, J15_5, J15_7, J15_9, J15_12, J15_13, J15_14, J15_17, am_gg_c, am_gf_c, am_pf_c, am_af_c, am_sf_c, am_bf_c, am_qf_c, am_ap_c, am_bp_c, am_qp_c, am_lf_c, am_kt_s, am_kt_n, am_wst, am_wstop, am_ns_0, am_ns_1, Bool.not_true, Bool.not_false, Bool.true_and, Bool.false_and, Nat.reduceBEq, ↓reduceIte, am_k2_n, am_k2_i, am_k2_r, am_k2_u, am_k2_f, am_k2_l, Nat.zero_le, true_and, and_true, true_or, or_true, am_cat_0, am_cat_i, am_cat_r, am_cat_l, am_cat_n, Nat.reduceLeDiff, Nat.reduceAdd, Option.isSome_some, List.getElem?_cons_zero, List.getElem?_cons_succ, am_fit_i, am_fit_r, am_fit_a, List.append_assoc, List.cons_append, List.nil_append, ap_ob, ap_set, hl, e2]
  refine ⟨by omega, by decide, by decide, by decide, by decide, ⟨?_, ?_, hg⟩, by decide, Nat.le_of_ble_eq_true rfl, by decide, by decide, hP⟩
  · simp [am_fv]
  · simp [am_fv]
theorem sp_initW (hD : 2 ≤ D) (hg : GF (Gp ++ [am_o 3 (am_df 3)])) (hP : P none (Gp ++ [am_o 3 [.ref (Gp.length + 1), .ref (Gp.length + 2), .int 0], am_ai 0 300 (fun _ => 0), am_ai 0 300 (fun _ => 0)])) : am_CB X D 40 [.ref Gp.length] (Gp ++ [am_o 3 (am_df 3)]) P := by
  obtain ⟨D, rfl⟩ : ∃ D0, D = D0 + 1 := ⟨D - 1, by omega⟩
  have hl : (Gp ++ [am_o 3 (am_df 3)]).length = Gp.length + 1 := ap_len rfl
  have l2 : ∀ x y : am_C, (Gp ++ [x, y]).length = Gp.length + 2 := fun x y => ap_len rfl
  have e2 : ∀ m, am_na 0 m = am_ai 0 m (fun _ => 0) := fun m => rfl
  refine B40 40 [] ?_
  simp only [J40_0, J40_1, J40_4, J40_5, J40_8, J40_10, J40_13, J40_14, J40_17, J40_19, J40_22, am_gg_c, am_gf_c, am_pf_c, am_af_c, am_sf_c, am_bf_c, am_qf_c, am_ap_c, am_bp_c, am_qp_c, am_lf_c, am_kt_s, am_kt_n, am_wst, am_wstop, am_ns_0, am_ns_1, Bool.not_true, Bool.not_false, Bool.true_and, Bool.false_and, Nat.reduceBEq, ↓reduceIte, am_k2_n, am_k2_i, am_k2_r, am_k2_u, am_k2_f, am_k2_l, Nat.zero_le, true_and, and_true, true_or, or_true, am_cat_0, am_cat_i, am_cat_r, am_cat_l, am_cat_n, Nat.reduceLeDiff, Nat.reduceAdd, Option.isSome_some, List.getElem?_cons_zero, List.getElem?_cons_succ, am_fit_i, am_fit_r, am_fit_a, List.append_assoc, List.cons_append, List.nil_append, ap_ob, ap_set, hl, l2, e2]
  refine ⟨by omega, by decide, by decide, by decide, by decide, ⟨?_, ?_, hg⟩, by decide, by decide, by decide, by decide, by decide, ?_, Nat.le_of_ble_eq_true rfl, by decide, by decide, hP⟩
  · simp [am_fv]
  · simp [am_fv]
  · refine fr_ap hg (Nat.le_of_ble_eq_true rfl) ?_ ?_ ?_ <;> simp [am_fv, am_fC, am_df]
end INI
