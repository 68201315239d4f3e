/-! the law's loop -/
theorem ite3 {A B c : Prop} [Decidable c] (ha : c → A) (hb : ¬ c → B) : if c then A else B := by split; exact ha (by assumption); exact hb (by assumption)
theorem ite2 {A B c : Prop} [Decidable c] (ha : A) (hb : B) : if c then A else B := by split <;> assumption
section LOOP
variable {L : Nat} {xs : Nat → Int32} {D : Nat} {c s : Nat}
theorem lw_loop (hcs : c ≤ am_mc 170 ∧ s ≤ am_ms 170) (hD : 20 ≤ D) (hL : L ≤ 2048) : ∀ (m i : Nat) (G : am_H), L + 4 - i ≤ m → i ≤ L + 3 → INV G → am_WP (L, xs) D 170 18 [some (.float 0), some (.ref 0), some (.ref 23), some (.int (nI i))] [] G c s (fun v _ => v = some (.int 1))
  | 0, i, G, hm, hi, _ => by omega
  | m + 1, i, G, hm, hi, hI => by
    refine am_wpc 60 [180, 223, 282, 341, 374, 397, 410, 423, 446, 459, 492, 525, 558, 581, 594, 617, 630, 643, 666, 679, 702, 725, 748, 771, 784, 817, 850, 883, 926, 949, 962, 975, 998, 1021] hcs ?_
    simp only [J170_0, J170_3, J170_4, J170_7, J170_8, J170_11, J170_12, J170_15, J170_16, J170_17, J170_18, J170_19, J170_19f, J170_20, J170_21, J170_22, J170_23, J170_26, J170_26f, J170_27, J170_28, J170_29, J170_31, J170_32, J170_1021, J170_1024, J170_1027, J170_1028, am_gg_c, am_gf_c, am_pf_c, am_af_c, am_sf_c, am_bf_c, am_qf_c, am_ap_c, am_bp_c, am_qp_c, am_lf_c, am_kt_s, am_kt_n, am_wst, am_wstop, am_ns_0, am_ns_1, Bool.not_true, Bool.not_false, Bool.true_and, Bool.false_and, Nat.reduceBEq, ↓reduceIte, am_k2_n, am_k2_i, am_k2_r, am_k2_u, am_k2_f, am_k2_l, Nat.zero_le, true_and, and_true, true_or, or_true, am_cat_0, am_cat_i, am_cat_r, am_cat_l, am_cat_n, Nat.reduceLeDiff, Nat.reduceAdd, Option.isSome_some, List.getElem?_cons_zero, List.getElem?_cons_succ, am_fit_i, am_fit_r, am_fit_a]
    have e4 : (Int32.ofNat L - 4).toInt = (L : Int) - 4 := pk_sub_toInt (a := L) (b := 4) (by omega) (by omega)
    have ei : (nI i).toInt = i := nI_toInt (by omega)
    refine ite3 (fun q => hcs) (fun q => ?_)
    · rw [bi_lt, e4, ei] at q
      have hi4 : i + 4 ≤ L := by omega
      have e0 : vp_in (nI i) L := vp_in_nI (by omega) (by omega)
      have e1 : vp_in (nI i + 1) L := by rw [nI_1]; exact vp_in_nI (by omega) (by omega)
      have e2 : vp_in (nI i + 2) L := by rw [show (2 : Int32) = nI 2 from rfl, nI_add]; exact vp_in_nI (by omega) (by omega)
      have e3 : vp_in (nI i + 3) L := by rw [show (3 : Int32) = nI 3 from rfl, nI_add]; exact vp_in_nI (by omega) (by omega)
      have K : ∀ G2, INV G2 → am_WP (L, xs) D 170 1021 [some (.float 0), some (.ref 0), some (.ref 23), some (.int (nI i))] [] G2 c s (fun v _ => v = some (.int 1)) := fun G2 h2 => by
        refine am_wpc 60 [1024] hcs ?_
        simp only [J170_1021, J170_1024, J170_1027, J170_1028, am_gg_c, am_gf_c, am_pf_c, am_af_c, am_sf_c, am_bf_c, am_qf_c, am_ap_c, am_bp_c, am_qp_c, am_lf_c, am_kt_s, am_kt_n, am_wst, am_wstop, am_ns_0, am_ns_1, Bool.not_true, Bool.not_false, Bool.true_and, Bool.false_and, Nat.reduceBEq, ↓reduceIte, am_k2_n, am_k2_i, am_k2_r, am_k2_u, am_k2_f, am_k2_l, Nat.zero_le, true_and, and_true, true_or, or_true, am_cat_0, am_cat_i, am_cat_r, am_cat_l, am_cat_n, Nat.reduceLeDiff, Nat.reduceAdd, Option.isSome_some, List.getElem?_cons_zero, List.getElem?_cons_succ, am_fit_i, am_fit_r, am_fit_a]
        refine am_gotoc hcs I170_1024 ?_
        rw [show nI i + 4 = nI (i + 4) by rw [show (4 : Int32) = nI 4 from rfl, nI_add]]
        exact lw_loop hcs hD hL m (i + 4) G2 (by omega) (by omega) h2
      refine ⟨e0, ?_⟩
      refine ite2 (lc_set hcs hD hI e1 e2 e3 K) ?_
      refine ite2 (lc_langford hcs hD hI e1 e2 e3 K) ?_
      refine ite2 (lc_near hcs hD hI e1 e2 e3 K) ?_
      refine ite2 (lc_pin hcs hD hI e1 e2 K) ?_
      refine ite2 (lc_problem hcs hD hI e1 K) ?_
      refine ite2 (lc_startSum hcs hD hI K) ?_
      refine ite2 (lc_slack hcs hD hI K) ?_
      refine ite2 (lc_starts hcs hD hI e1 K) ?_
      refine ite2 (lc_count hcs hD hI K) ?_
      refine ite2 (lc_at hcs hD hI e1 e2 K) ?_
      refine ite2 (lc_start hcs hD hI e1 e2 K) ?_
      refine ite2 (lc_frequency hcs hD hI e1 e2 K) ?_
      refine ite2 (lc_options hcs hD hI e1 K) ?_
      refine ite2 (lc_forced hcs hD hI K) ?_
      refine ite2 (lc_say hcs hD hI e1 K) ?_
      refine ite2 (lc_wipe hcs hD hI K) ?_
      refine ite2 (lc_fault hcs hD hI K) ?_
      refine ite2 (lc_judge hcs hD hI e1 K) ?_
      refine ite2 (lc_rank hcs hD hI K) ?_
      refine ite2 (lc_match hcs hD hI e1 K) ?_
      refine ite2 (lc_spell hcs hD hI e1 K) ?_
      refine ite2 (lc_letter hcs hD hI e1 K) ?_
      refine ite2 (lc_reversed hcs hD hI e1 K) ?_
      refine ite2 (lc_classes hcs hD hI K) ?_
      refine ite2 (lc_distance hcs hD hI e1 e2 K) ?_
      refine ite2 (lc_neighbour hcs hD hI e1 e2 K) ?_
      refine ite2 (lc_steps hcs hD hI e1 e2 K) ?_
      refine ite2 (lc_triple hcs hD hI e1 e2 e3 K) ?_
      refine ite2 (lc_cover hcs hD hI e1 K) ?_
      refine ite2 (lc_hooks hcs hD hI K) ?_
      refine ite2 (lc_omissions hcs hD hI K) ?_
      refine ite2 (lc_save hcs hD hI e1 K) ?_
      refine ite2 (lc_restore hcs hD hI e1 K) ?_
      exact K G hI
end LOOP
