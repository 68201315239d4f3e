def sw1 (m : Nat) : Nat := m - (m / 2 ^ 1 &&& 1431655765)
def sw2 (m : Nat) : Nat := (sw1 m &&& 858993459) + (sw1 m / 2 ^ 2 &&& 858993459)
def sw3 (m : Nat) : Nat := (sw2 m + sw2 m / 2 ^ 4) &&& 252645135
def sw4 (m : Nat) : Nat := sw3 m + sw3 m / 2 ^ 8
def sw5 (m : Nat) : Nat := sw4 m + sw4 m / 2 ^ 16
def swN (m : Nat) : Nat := sw5 m &&& 63
def all2 (f : Nat → Bool) : Nat → Nat → Bool
  | 0, b => f b
  | k + 1, b => all2 f k b && all2 f k (b + 2 ^ k)
theorem all2_s {f : Nat → Bool} : ∀ {k b : Nat}, all2 f k b = true → ∀ m, b ≤ m → m < b + 2 ^ k → f m = true
  | 0, b, h, m, h1, h2 => by
    have : m = b := by simp at h2; omega
    subst this; exact h
  | k + 1, b, h, m, h1, h2 => by
    simp only [all2, Bool.and_eq_true] at h
    rw [Nat.pow_succ] at h2
    rcases Nat.lt_or_ge m (b + 2 ^ k) with q | q
    · exact all2_s h.1 m h1 q
    · exact all2_s h.2 m q (by omega)
def swf (j m : Nat) : Bool := Nat.beq (swN (2 ^ j + m)) (swN m + 1)
theorem sw_a : (List.range 14).all (fun j => all2 (swf j) j 0) = true := by decide +kernel
theorem sw_14 : all2 (swf 14) 14 0 = true := by decide +kernel
theorem sw_15 : all2 (swf 15) 15 0 = true := by decide +kernel
theorem sw_16a : all2 (swf 16) 15 0 = true := by decide +kernel
theorem sw_16b : all2 (swf 16) 15 (2 ^ 15) = true := by decide +kernel
theorem sw_17a : all2 (swf 17) 15 0 = true := by decide +kernel
theorem sw_17b : all2 (swf 17) 15 (2 ^ 15) = true := by decide +kernel
theorem sw_17c : all2 (swf 17) 15 (2 ^ 16) = true := by decide +kernel
theorem sw_17d : all2 (swf 17) 15 (2 ^ 16 + 2 ^ 15) = true := by decide +kernel
theorem sw_17 : all2 (swf 17) 17 0 = true := by
  show ((all2 (swf 17) 15 0 && all2 (swf 17) 15 (0 + 2 ^ 15)) && (all2 (swf 17) 15 (0 + 2 ^ 16) && all2 (swf 17) 15 (0 + 2 ^ 16 + 2 ^ 15))) = true
  rw [Nat.zero_add, Nat.zero_add, sw_17a, sw_17b, sw_17c, sw_17d]; rfl
theorem sw_16 : all2 (swf 16) 16 0 = true := by
  show (all2 (swf 16) 15 0 && all2 (swf 16) 15 (0 + 2 ^ 15)) = true
  rw [Nat.zero_add, sw_16a, sw_16b]; rfl
theorem sw_all {j : Nat} (hj : j < 18) : all2 (swf j) j 0 = true := by
  by_cases h : j < 14
  · exact List.all_eq_true.mp sw_a j (List.mem_range.mpr h)
  · rcases (show j = 14 ∨ j = 15 ∨ j = 16 ∨ j = 17 by omega) with rfl | rfl | rfl | rfl
    · exact sw_14
    · exact sw_15
    · exact sw_16
    · exact sw_17
theorem sw_top {j m : Nat} (hj : j < 18) (hm : m < 2 ^ j) : swN (2 ^ j + m) = swN m + 1 := Nat.eq_of_beq_eq_true (all2_s (sw_all hj) m (Nat.zero_le _) (by omega))
theorem sw_bl : ∀ (j m : Nat), j ≤ 18 → m < 2 ^ j → swN m = (bl m).length
  | 0, m, _, hm => by
    have : m = 0 := by simp at hm; exact hm
    subst this; decide +kernel
  | j + 1, m, hj, hm => by
    rcases Nat.lt_or_ge m (2 ^ j) with q | q
    · exact sw_bl j m (by omega) q
    · rw [Nat.pow_succ] at hm
      have e : m = 2 ^ j + (m - 2 ^ j) := by omega
      have hb : m.testBit j = true := by rw [e, Nat.testBit_two_pow_add_eq, Nat.testBit_lt_two_pow (by omega)]; rfl
      have h1 := bl_sub_len (m := m) (d := j) (by omega) hb
      have h2 := sw_bl j (m - 2 ^ j) (by omega) (by omega)
      have h3 := sw_top (j := j) (m := m - 2 ^ j) (by omega) (by omega)
      rw [← e] at h3
      omega
theorem sp_bitCount {X : Nat × (Nat → Int32)} {D m : Nat} {G : am_H} {P : Option Value → am_H → Prop} (hD : 1 ≤ D) (hm : m < 2 ^ 18) (h : P (some (.int (nI (bl m).length))) G) : am_CB X D 92 [.int (nI m)] G P := by
  obtain ⟨D, rfl⟩ : ∃ D0, D = D0 + 1 := ⟨D - 1, by omega⟩
  refine B92 60 [] ?_
  simp only [J92_0, J92_1, J92_2, J92_3, J92_4, J92_7, J92_8, J92_9, J92_10, J92_11, J92_14, J92_15, J92_16, J92_17, J92_18, J92_21, J92_22, J92_23, J92_24, J92_25, J92_26, J92_27, J92_28, J92_29, J92_32, J92_33, J92_34, J92_35, J92_36, J92_38, J92_39, J92_40, J92_41, J92_42, J92_43, J92_45, J92_46, J92_47, J92_48, J92_49, J92_51, J92_52, am_gg_c, am_gf_c, am_pf_c, am_af_c, am_sf_c, am_bf_c, am_qf_c, am_ap_c, am_bp_c, am_qp_c, am_lf_c, am_kt_s, am_kt_n, am_wst, am_wstop, am_ns_0, am_ns_1, Bool.not_true, Bool.not_false, Bool.true_and, Bool.false_and, Nat.reduceBEq, ↓reduceIte, am_k2_n, am_k2_i, am_k2_r, am_k2_u, am_k2_f, am_k2_l, Nat.zero_le, true_and, and_true, true_or, or_true, am_cat_0, am_cat_i, am_cat_r, am_cat_l, am_cat_n, Nat.reduceLeDiff, Nat.reduceAdd, Option.isSome_some, List.getElem?_cons_zero, List.getElem?_cons_succ, am_fit_i, am_fit_r, am_fit_a]
  rw [← sw_bl 18 m (by omega) hm] at h
  have hs1 : sw1 m < 2 ^ 18 := by unfold sw1; omega
  have hs2 : sw2 m < 2 ^ 20 := by
    have a : sw1 m &&& 858993459 ≤ sw1 m := Nat.and_le_left
    have b : sw1 m / 2 ^ 2 &&& 858993459 ≤ sw1 m / 2 ^ 2 := Nat.and_le_left
    unfold sw2; omega
  have hs3 : sw3 m < 2 ^ 21 := by
    have a : (sw2 m + sw2 m / 2 ^ 4) &&& 252645135 ≤ sw2 m + sw2 m / 2 ^ 4 := Nat.and_le_left
    unfold sw3; omega
  have hs4 : sw4 m < 2 ^ 22 := by unfold sw4; omega
  have l1 : (1 : Int32) = nI 1 := rfl
  have l2 : (2 : Int32) = nI 2 := rfl
  have l4 : (4 : Int32) = nI 4 := rfl
  have l8 : (8 : Int32) = nI 8 := rfl
  have l16 : (16 : Int32) = nI 16 := rfl
  have e1 : nI m - ((nI m).toUInt32 >>> ((1 : Int32).toUInt32 &&& Int32.toUInt32 31)).toInt32 &&& 1431655765 = nI m - ((nI m).toUInt32 >>> ((1 : Int32).toUInt32 &&& Int32.toUInt32 31)).toInt32 &&& 1431655765 := rfl
  have f1 : nI m - (((nI m).toUInt32 >>> ((1 : Int32).toUInt32 &&& Int32.toUInt32 31)).toInt32 &&& 1431655765) = nI (sw1 m) := by
    rw [l1, bi_ushr (by omega) (by omega), show (1431655765 : Int32) = nI 1431655765 by rfl, bi_and, pk_sub (Nat.le_trans Nat.and_le_left (by omega))]; rfl
  rw [f1]
  have f2 : (nI (sw1 m) &&& 858993459) + (((nI (sw1 m)).toUInt32 >>> ((2 : Int32).toUInt32 &&& Int32.toUInt32 31)).toInt32 &&& 858993459) = nI (sw2 m) := by
    rw [l2, bi_ushr (by omega) (by omega), show (858993459 : Int32) = nI 858993459 by rfl, bi_and, bi_and, nI_add]; rfl
  rw [f2]
  have f3 : nI (sw2 m) + ((nI (sw2 m)).toUInt32 >>> ((4 : Int32).toUInt32 &&& Int32.toUInt32 31)).toInt32 &&& 252645135 = nI (sw3 m) := by
    rw [l4, bi_ushr (by omega) (by omega), show (252645135 : Int32) = nI 252645135 by rfl, nI_add, bi_and]; rfl
  rw [f3]
  have f4 : nI (sw3 m) + ((nI (sw3 m)).toUInt32 >>> ((8 : Int32).toUInt32 &&& Int32.toUInt32 31)).toInt32 = nI (sw4 m) := by
    rw [l8, bi_ushr (by omega) (by omega), nI_add]; rfl
  rw [f4]
  have f5 : nI (sw4 m) + ((nI (sw4 m)).toUInt32 >>> ((16 : Int32).toUInt32 &&& Int32.toUInt32 31)).toInt32 = nI (sw5 m) := by
    rw [l16, bi_ushr (by omega) (by omega), nI_add]; rfl
  rw [f5, show (63 : Int32) = nI 63 by rfl, bi_and]
  exact h

