/-! advance: the next arrangement -/
def okB (ipb : Bool) (f : Nat → Nat) (p d : Nat) : Bool := pnB ipb f p d && pnB ipb f (p + d) d
def EnG (G : am_H) (pm vp : Int32) (ipb : Bool) (f : Nat → Nat) (n ln O0 m0 : Nat) (Z : List (Nat × Nat)) (b : Nat) : Prop :=
  ∃ (T : Nat) (pl ch rw_ bg : Nat → Int32), am_ob G 23 5 = some (moL pm (nI ln) (nI T) (nI (ndM m0 Z)) (if ipb = true then 1 else 0) (nI n) (nI Z.length) vp) ∧ T < 2 ^ 18 ∧ (∀ q, (ndO O0 Z).testBit q = (decide (q < ln) && !T.testBit q)) ∧
    am_ia G 28 0 = some (9, pl) ∧ am_ia G 29 0 = some (9, ch) ∧ am_ia G 30 0 = some (18, rw_) ∧ am_ia G 31 0 = some (18, bg) ∧ stk pl ch Z ∧ (Z.length < n → ch Z.length = nI b) ∧ (∀ q, q < 18 → rw_ q = nI (rwZ Z q)) ∧ (∀ p d, (p, d) ∈ Z → bg d = nI p) ∧ vld (okB ipb f) O0 m0 Z
/-- the engine stands, whatever it holds -/
def EnA (G : am_H) (pm vp : Int32) : Prop := (∃ len T m ip due dep, am_ob G 23 5 = some (moL pm len T m ip due dep vp)) ∧ (∃ pl, am_ia G 28 0 = some (9, pl)) ∧ (∃ ch, am_ia G 29 0 = some (9, ch)) ∧ (∃ r, am_ia G 30 0 = some (18, r)) ∧ ∃ bg, am_ia G 31 0 = some (18, bg)
def EnX (G : am_H) (pm vp : Int32) (ln : Nat) : Prop := (∃ T m ip dep, am_ob G 23 5 = some (moL pm (nI ln) T m ip (-6) dep vp)) ∧ (∃ pl, am_ia G 28 0 = some (9, pl)) ∧ (∃ ch, am_ia G 29 0 = some (9, ch)) ∧ (∃ r, am_ia G 30 0 = some (18, r)) ∧ ∃ bg, am_ia G 31 0 = some (18, bg)
theorem EnX.a {G : am_H} {pm vp : Int32} {ln : Nat} (h : EnX G pm vp ln) : EnA G pm vp := by
  obtain ⟨⟨T, m, ip, dep, a⟩, b⟩ := h
  exact ⟨⟨_, _, _, _, _, _, a⟩, b⟩
theorem EnG.a {G : am_H} {pm vp : Int32} {ipb : Bool} {f : Nat → Nat} {n ln O0 m0 : Nat} {Z : List (Nat × Nat)} {b : Nat} (h : EnG G pm vp ipb f n ln O0 m0 Z b) : EnA G pm vp := by
  obtain ⟨T, pl, ch, r, bg, a, _, _, c1, c2, c3, c4, _⟩ := h
  exact ⟨⟨_, _, _, _, _, _, a⟩, ⟨_, c1⟩, ⟨_, c2⟩, ⟨_, c3⟩, ⟨_, c4⟩⟩
theorem nc_eq {ipb : Bool} {f : Nat → Nat} {ln T mn O w : Nat} (hrel : ∀ q, O.testBit q = (decide (q < ln) && !T.testBit q)) (hp : O.testBit (lo O) = true) : ncB ipb f ln T mn (lo O) w = (mn.testBit w && (O.testBit (lo O + w) && okB ipb f (lo O) w)) := by
  unfold ncB okB
  rw [← hrel (lo O), ← hrel (lo O + w), hp]
  have h2 := hrel (lo O + w)
  cases c : O.testBit (lo O + w) with
  | false => simp
  | true =>
    rw [c] at h2
    have h3 : decide (lo O + w < ln) = true := by
      cases z : decide (lo O + w < ln) with
      | true => rfl
      | false => rw [z] at h2; cases h2
    rw [h3]
    cases mn.testBit w <;> cases pnB ipb f (lo O) w <;> simp
theorem itm_no {ok : Nat → Nat → Bool} {k O m d : Nat} (h : (m.testBit d && (O.testBit (lo O + d) && ok (lo O) d)) = false) : itm ok k O m d = [] := by
  unfold itm
  rw [h]; rfl
def PA (R : List (List (Nat × Nat))) (pm vp : Int32) (ipb : Bool) (f : Nat → Nat) (n ln O0 m0 : Nat) (v : Option Value) (G' : am_H) : Prop :=
  (R = [] ∧ v = some (.int 0) ∧ EnX G' pm vp ln) ∨ ∃ Z, R = Z.reverse :: upR (okB ipb f) n O0 m0 Z ∧ v = some (.int 1) ∧ Z.length = n ∧ EnG G' pm vp ipb f n ln O0 m0 Z 0
abbrev kE : List Nat := [23, 28, 29, 30, 31]
/-- a problem that has as many places as its pairs fill -/
def PC (n ln O0 m0 : Nat) : Prop := O0 < 2 ^ 18 ∧ m0 < 2 ^ 18 ∧ m0.testBit 0 = false ∧ (bl m0).length = n ∧ (bl O0).length = 2 * n ∧ 1 ≤ n ∧ n ≤ 8 ∧ ln ≤ 18 ∧ ∀ q, O0.testBit q = true → q < ln
theorem ndO_sub {ok : Nat → Nat → Bool} {n ln O0 m0 : Nat} (hc : PC n ln O0 m0) : ∀ {Z : List (Nat × Nat)}, vld ok O0 m0 Z → ∀ q, (ndO O0 Z).testBit q = true → O0.testBit q = true
  | [], _, q, h => h
  | (p, w) :: Z, hv, q, h => by
    obtain ⟨hO, hm, hm0, hk, hk2, _⟩ := id hc
    obtain ⟨_, _, v3⟩ := vld_len hO hm hm0 hk hk2 hv
    obtain ⟨c1, c2, c3, c4, c5, c6⟩ := v3 p w List.mem_cons_self
    have hne : bl (ndO O0 Z) ≠ [] := List.ne_nil_of_mem (bl_mem.mpr ⟨c3, hv.2.2.2.1⟩)
    obtain ⟨l1, l2, l3⟩ := lo_s hne
    rw [← hv.2.1] at l1
    have h2 : (ndO O0 Z - (2 ^ p + 2 ^ (p + w))).testBit q = true := h
    rw [(bt_two_s l1 hv.2.2.2.1 (by omega)).2] at h2
    simp only [Bool.and_eq_true] at h2
    exact ndO_sub hc hv.1 q h2.1.1
section ADV
variable {X : Nat × (Nat → Int32)} {D : Nat} {G0 : am_H} {P : Option Value → am_H → Prop} {pm vp : Int32} {ipb : Bool} {l h d : Nat} {f : Nat → Nat} {n ln O0 m0 : Nat} {R : List (List (Nat × Nat))}
/-- one pair taken off again -/
theorem adv_off {G : am_H} {p w : Nat} {Z : List (Nat × Nat)} {T : Nat} {pl ch rw_ bg : Nat → Int32} (hc : PC n ln O0 m0)
    (h1 : am_ob G 23 5 = some (moL pm (nI ln) (nI T) (nI (ndM m0 ((p, w) :: Z))) (if ipb = true then 1 else 0) (nI n) (nI Z.length) vp)) (hT : T < 2 ^ 18) (hrel : ∀ q, (ndO O0 ((p, w) :: Z)).testBit q = (decide (q < ln) && !T.testBit q)) (h28 : am_ia G 28 0 = some (9, pl)) (h29 : am_ia G 29 0 = some (9, ch)) (h30 : am_ia G 30 0 = some (18, rw_)) (h31 : am_ia G 31 0 = some (18, bg)) (hst : stk pl ch ((p, w) :: Z)) (hrw : ∀ q, q < 18 → rw_ q = nI (rwZ ((p, w) :: Z) q)) (hbg : ∀ p' d', (p', d') ∈ (p, w) :: Z → bg d' = nI p') (hv : vld (okB ipb f) O0 m0 ((p, w) :: Z)) (hD : 1 ≤ D)
    (hP : ∀ G', EnG G' pm vp ipb f n ln O0 m0 Z w → Fr kE G G' → P none G') : am_CB X D 118 [.ref 23, .int (nI p), .int (nI w), .int 0] G P := by
  obtain ⟨hO, hm, hm0, hk, hk2, hn1, hn8, hln, hO0⟩ := id hc
  obtain ⟨v1, v2, v3⟩ := vld_len hO hm hm0 hk hk2 hv
  obtain ⟨c1, c2, c3, c4, c5, c6⟩ := v3 p w List.mem_cons_self
  obtain ⟨u1, u2, u3⟩ := vld_len hO hm hm0 hk hk2 hv.1
  have hpw := hv.2.2.2.1
  have hdm := hv.2.2.1
  have hne : bl (ndO O0 Z) ≠ [] := List.ne_nil_of_mem (bl_mem.mpr ⟨c3, hpw⟩)
  obtain ⟨l1, l2, l3⟩ := lo_s hne
  rw [← hv.2.1] at l1 l2
  have o2 := (bt_two_s l1 hpw (by omega)).2
  have pl1 : p < ln := hO0 p (ndO_sub hc hv.1 p l1)
  have pl2 : p + w < ln := hO0 (p + w) (ndO_sub hc hv.1 _ hpw)
  have hTb : ∀ q, (q = p ∨ q = p + w) → T.testBit q = true := by
    intro q hq
    have h2 := hrel q
    rw [show (ndO O0 ((p, w) :: Z)).testBit q = false by rcases hq with rfl | rfl; exact c5; exact c6, decide_eq_true (show q < ln by rcases hq with rfl | rfl; exact pl1; exact pl2)] at h2
    cases z : T.testBit q with
    | true => rfl
    | false => rw [z] at h2; cases h2
  have t2 := (bt_two_s (hTb p (Or.inl rfl)) (hTb (p + w) (Or.inr rfl)) (by omega)).2
  refine sp_takeOff hD h1 h30 h31 c3 c2 c1 (hTb p (Or.inl rfl)) (hTb (p + w) (Or.inr rfl)) hT (fun G' a b c e => hP G' ⟨T - (2 ^ p + 2 ^ (p + w)), pl, ch, _, _, ?_, Nat.lt_of_le_of_lt (Nat.sub_le _ _) hT, fun q => ?_, by rw [e.ia (by decide)]; exact h28, by rw [e.ia (by decide)]; exact h29, b, c, hst.2.2, fun _ => hst.2.1, fun q hq => ?_, fun p' d' hmem => ?_, hv.1⟩ (e.up (by decide)))
  · have em : ndM m0 ((p, w) :: Z) ||| 2 ^ w = ndM m0 Z := by
      apply Nat.eq_of_testBit_eq
      intro i
      show ((ndM m0 Z - 2 ^ w) ||| 2 ^ w).testBit i = _
      rw [Nat.testBit_or, bt_sub hdm, Nat.testBit_two_pow]
      by_cases e : w = i
      · subst e; simp [hdm]
      · simp [e, Ne.symm e]
    rw [em] at a
    exact a
  · rw [t2]
    have h2 := hrel q
    have h3 : (ndO O0 ((p, w) :: Z)).testBit q = ((ndO O0 Z).testBit q && !decide (q = p) && !decide (q = p + w)) := o2 q
    by_cases e1 : q = p
    · subst e1; rw [l1]; simp [pl1]
    · by_cases e2 : q = p + w
      · subst e2; rw [hpw]; simp [pl2]
      · rw [h2] at h3
        simp only [e1, e2, decide_false, Bool.not_false, Bool.and_true] at h3 ⊢
        exact h3.symm
  · have hz : ∀ {q : Nat}, (ndO O0 Z).testBit q = true → rwZ Z q = 0 := rwZ_open (O0 := O0) (Z := Z) (fun p d hh => ⟨(u3 p d hh).2.2.2.2.1, (u3 p d hh).2.2.2.2.2⟩)
    rw [upd_at, upd_at]
    by_cases e2 : q = p + w
    · rw [if_pos e2, e2, hz hpw]; rfl
    · rw [if_neg e2]
      by_cases e1 : q = p
      · rw [if_pos e1, e1, hz l1]; rfl
      · rw [if_neg e1, hrw q hq]
        show nI (if q = p ∨ q = p + w then w else rwZ Z q) = _
        rw [if_neg (by rintro (z | z); exact e1 z; exact e2 z)]
  · rw [upd_at]
    by_cases e : d' = w
    · have := (u3 p' d' hmem).2.2.2.1
      rw [e, hdm] at this; cases this
    · rw [if_neg e]; exact hbg p' d' (List.mem_cons_of_mem _ hmem)
theorem adv_step {G : am_H} {Z : List (Nat × Nat)} {b : Nat} (hc : PC n ln O0 m0) (hD : 3 ≤ D) (hm : ∀ G, Fr kE G0 G → MA G l h d f) (hP : ∀ v G', PA R pm vp ipb f n ln O0 m0 v G' → Fr kE G0 G' → P v G') (hlen : Z.length < n) (hb : b < 18) (hE : EnG G pm vp ipb f n ln O0 m0 Z b) (hF : Fr kE G0 G) (hR : rsR (okB ipb f) n O0 m0 Z b = R)
    (hChild : ∀ p w G', b < w → w < 18 → Z.length + 1 < n → EnG G' pm vp ipb f n ln O0 m0 ((p, w) :: Z) 0 → Fr kE G0 G' → rsR (okB ipb f) n O0 m0 ((p, w) :: Z) 0 = R → am_WP X D 121 68 [some (.ref 23), none] [] G' 0 0 P)
    (hCont : ∀ p w Z' G', Z = (p, w) :: Z' → EnG G' pm vp ipb f n ln O0 m0 Z' w → Fr kE G0 G' → rsR (okB ipb f) n O0 m0 Z' w = R → am_WP X D 121 68 [some (.ref 23), none] [] G' 0 0 P) :
    am_WP X D 121 68 [some (.ref 23), none] [] G 0 0 P := by
  obtain ⟨hO, hmm, hm0, hk, hk2, hn1, hn8, hln, hO0⟩ := id hc
  obtain ⟨T, pl, ch, rw_, bg, h1, hT, hrel, h28, h29, h30, h31, hst, hcb, hrw, hbg, hv⟩ := hE
  have hcb := hcb hlen
  obtain ⟨v1, v2, v3⟩ := vld_len hO hmm hm0 hk hk2 hv
  have hne : bl (ndO O0 Z) ≠ [] := fun z => by rw [z] at v2; simp at v2; omega
  obtain ⟨l1, l2, l3⟩ := lo_s hne
  have hm18 : ndM m0 Z < 2 ^ 18 := Nat.lt_of_le_of_lt (ndM_le m0 Z) hmm
  have hO18 : ndO O0 Z < 2 ^ 18 := Nat.lt_of_le_of_lt (ndO_le O0 Z) hO
  have hpln : lo (ndO O0 Z) < ln := hO0 _ (ndO_sub hc hv _ l1)
  have hTp : T.testBit (lo (ndO O0 Z)) = false := by
    have h2 := hrel (lo (ndO O0 Z))
    rw [l1, decide_eq_true hpln] at h2
    cases z : T.testBit (lo (ndO O0 Z)) with
    | false => rfl
    | true => rw [z] at h2; cases h2
  have hTl : ∀ q, q < lo (ndO O0 Z) → T.testBit q = true := by
    intro q hq
    have h2 := hrel q
    rw [l3 q hq, decide_eq_true (show q < ln by omega)] at h2
    cases z : T.testBit q with
    | true => rfl
    | false => rw [z] at h2; cases h2
  have k23 := am_ob_lt h1
  have k28 := am_ia_lt h28
  have k29 := am_ia_lt h29
  refine am_wps 90 [216] ?_
  simp only [J121_0, J121_1, J121_4, J121_7, J121_8, J121_9, J121_10, J121_13, J121_14, J121_17, J121_20, J121_21, J121_24, J121_27, J121_28, J121_30, J121_33, J121_34, J121_35, J121_36, J121_37, J121_40, J121_41, J121_42, J121_45, J121_46, J121_47, J121_50, J121_51, J121_54, J121_55, J121_56, J121_59, J121_60, J121_63, J121_64, J121_65, J121_68, J121_69, J121_72, J121_75, J121_76, J121_79, J121_80, J121_83, J121_84, J121_87, J121_88, J121_89, J121_90, J121_93, J121_94, J121_97, J121_98, J121_99, J121_102, J121_103, J121_106, J121_107, J121_110, J121_111, J121_112, J121_115, J121_116, J121_119, J121_120, J121_123, J121_124, J121_125, J121_126, J121_127, J121_130, J121_131, J121_134, J121_135, J121_136, J121_137, J121_140, J121_141, J121_142, J121_145, J121_146, J121_147, J121_150, J121_151, J121_154, J121_155, J121_158, J121_161, J121_162, J121_163, J121_164, J121_167, J121_168, J121_171, J121_172, J121_173, J121_176, J121_177, J121_178, J121_181, J121_182, J121_183, J121_186, J121_187, J121_190, J121_193, J121_194, J121_195, J121_198, J121_199, J121_202, J121_203, J121_204, J121_207, J121_208, J121_211, J121_212, J121_213, J121_216, J121_219, J121_220, J121_222, J121_225, J121_226, am_gg_c, am_gf_c, am_pf_c, am_af_c, am_sf_c, am_bf_c, am_qf_c, am_ap_c, am_bp_c, am_qp_c, am_lf_c, am_kt_s, am_kt_n, am_wst, am_wstop, am_ns_0, am_ns_1, Bool.not_true, Bool.not_false, Bool.true_and, Bool.false_and, Nat.reduceBEq, ↓reduceIte, am_k2_n, am_k2_i, am_k2_r, am_k2_u, am_k2_f, am_k2_l, Nat.zero_le, true_and, and_true, true_or, or_true, am_cat_0, am_cat_i, am_cat_r, am_cat_l, am_cat_n, Nat.reduceLeDiff, Nat.reduceAdd, Option.isSome_some, List.getElem?_cons_zero, List.getElem?_cons_succ, am_fit_i, am_fit_r, am_fit_a, h1]
  rw [if_neg (nI_pos (by omega))]
  refine sp_lowest (by omega) h1 (by omega) (by omega) hTp hTl ?_
  simp only [J121_0, J121_1, J121_4, J121_7, J121_8, J121_9, J121_10, J121_13, J121_14, J121_17, J121_20, J121_21, J121_24, J121_27, J121_28, J121_30, J121_33, J121_34, J121_35, J121_36, J121_37, J121_40, J121_41, J121_42, J121_45, J121_46, J121_47, J121_50, J121_51, J121_54, J121_55, J121_56, J121_59, J121_60, J121_63, J121_64, J121_65, J121_68, J121_69, J121_72, J121_75, J121_76, J121_79, J121_80, J121_83, J121_84, J121_87, J121_88, J121_89, J121_90, J121_93, J121_94, J121_97, J121_98, J121_99, J121_102, J121_103, J121_106, J121_107, J121_110, J121_111, J121_112, J121_115, J121_116, J121_119, J121_120, J121_123, J121_124, J121_125, J121_126, J121_127, J121_130, J121_131, J121_134, J121_135, J121_136, J121_137, J121_140, J121_141, J121_142, J121_145, J121_146, J121_147, J121_150, J121_151, J121_154, J121_155, J121_158, J121_161, J121_162, J121_163, J121_164, J121_167, J121_168, J121_171, J121_172, J121_173, J121_176, J121_177, J121_178, J121_181, J121_182, J121_183, J121_186, J121_187, J121_190, J121_193, J121_194, J121_195, J121_198, J121_199, J121_202, J121_203, J121_204, J121_207, J121_208, J121_211, J121_212, J121_213, J121_216, J121_219, J121_220, J121_222, J121_225, J121_226, am_gg_c, am_gf_c, am_pf_c, am_af_c, am_sf_c, am_bf_c, am_qf_c, am_ap_c, am_bp_c, am_qp_c, am_lf_c, am_kt_s, am_kt_n, am_wst, am_wstop, am_ns_0, am_ns_1, Bool.not_true, Bool.not_false, Bool.true_and, Bool.false_and, Nat.reduceBEq, ↓reduceIte, am_k2_n, am_k2_i, am_k2_r, am_k2_u, am_k2_f, am_k2_l, Nat.zero_le, true_and, and_true, true_or, or_true, am_cat_0, am_cat_i, am_cat_r, am_cat_l, am_cat_n, Nat.reduceLeDiff, Nat.reduceAdd, Option.isSome_some, List.getElem?_cons_zero, List.getElem?_cons_succ, am_fit_i, am_fit_r, am_fit_a, h1, h28, h29, am_ob_sn (show 28 ≠ 23 by decide), am_ia_ss, k28, am_ia_sn (show 28 ≠ 29 by decide)]
  refine ⟨vp_in_n (by omega) (by omega), vp_in_n (by omega) (by omega), vp_in_n (by omega) (by omega), ?_⟩
  rw [nI_clamp (by omega), hcb, show upd pl Z.length (nI (lo (ndO O0 Z))) Z.length = nI (lo (ndO O0 Z)) by rw [upd_at, if_pos rfl]]
  have hF1 : Fr kE G0 (G.set 28 (am_ai 0 9 (upd pl Z.length (nI (lo (ndO O0 Z)))))) := hF.tr (Fr.set (by decide))
  have g1 : am_ob (G.set 28 (am_ai 0 9 (upd pl Z.length (nI (lo (ndO O0 Z)))))) 23 5 = some (moL pm (nI ln) (nI T) (nI (ndM m0 Z)) (if ipb = true then 1 else 0) (nI n) (nI Z.length) vp) := by rw [am_ob_sn (show 28 ≠ 23 by decide)]; exact h1
  have g28 : am_ia (G.set 28 (am_ai 0 9 (upd pl Z.length (nI (lo (ndO O0 Z)))))) 28 0 = some (9, upd pl Z.length (nI (lo (ndO O0 Z)))) := am_ia_ss k28
  have g29 : am_ia (G.set 28 (am_ai 0 9 (upd pl Z.length (nI (lo (ndO O0 Z)))))) 29 0 = some (9, ch) := by rw [am_ia_sn (show 28 ≠ 29 by decide)]; exact h29
  have g30 : am_ia (G.set 28 (am_ai 0 9 (upd pl Z.length (nI (lo (ndO O0 Z)))))) 30 0 = some (18, rw_) := by rw [am_ia_sn (show 28 ≠ 30 by decide)]; exact h30
  have g31 : am_ia (G.set 28 (am_ai 0 9 (upd pl Z.length (nI (lo (ndO O0 Z)))))) 31 0 = some (18, bg) := by rw [am_ia_sn (show 28 ≠ 31 by decide)]; exact h31
  generalize G.set 28 (am_ai 0 9 (upd pl Z.length (nI (lo (ndO O0 Z))))) = G1 at *
  have q23 := am_ob_lt g1
  have q29 := am_ia_lt g29
  have hnc : ∀ w, ncB ipb f ln T (ndM m0 Z) (lo (ndO O0 Z)) w = ((ndM m0 Z).testBit w && ((ndO O0 Z).testBit (lo (ndO O0 Z) + w) && okB ipb f (lo (ndO O0 Z)) w)) := fun w => nc_eq hrel l1
  refine sp_next (by omega) g1 (hm _ hF1) hln hT hm18 l2 hb (fun w w1 w2 w3 w4 => ?_) (fun hno => ?_)
  · -- a difference is found
    rw [hnc] at w2
    have hskip : ∀ v, b < v → v < w → itm (okB ipb f) (n - Z.length - 1) (ndO O0 Z) (ndM m0 Z) v = [] := fun v b1 b2 => itm_no (by rw [← hnc]; exact w3 v b2 b1)
    have w2' := w2
    simp only [Bool.and_eq_true] at w2'
    obtain ⟨hmb, hob, hok⟩ := w2'
    have hv1 : vld (okB ipb f) O0 m0 ((lo (ndO O0 Z), w) :: Z) := ⟨hv, rfl, hmb, hob, hok⟩
    obtain ⟨x1, x2, x3⟩ := vld_len hO hmm hm0 hk hk2 hv1
    obtain ⟨c1, c2, c3, c4, c5, c6⟩ := x3 _ _ List.mem_cons_self
    have o2 := (bt_two_s l1 hob (by omega)).2
    have pl2 : lo (ndO O0 Z) + w < ln := hO0 _ (ndO_sub hc hv _ hob)
    simp only [J121_0, J121_1, J121_4, J121_7, J121_8, J121_9, J121_10, J121_13, J121_14, J121_17, J121_20, J121_21, J121_24, J121_27, J121_28, J121_30, J121_33, J121_34, J121_35, J121_36, J121_37, J121_40, J121_41, J121_42, J121_45, J121_46, J121_47, J121_50, J121_51, J121_54, J121_55, J121_56, J121_59, J121_60, J121_63, J121_64, J121_65, J121_68, J121_69, J121_72, J121_75, J121_76, J121_79, J121_80, J121_83, J121_84, J121_87, J121_88, J121_89, J121_90, J121_93, J121_94, J121_97, J121_98, J121_99, J121_102, J121_103, J121_106, J121_107, J121_110, J121_111, J121_112, J121_115, J121_116, J121_119, J121_120, J121_123, J121_124, J121_125, J121_126, J121_127, J121_130, J121_131, J121_134, J121_135, J121_136, J121_137, J121_140, J121_141, J121_142, J121_145, J121_146, J121_147, J121_150, J121_151, J121_154, J121_155, J121_158, J121_161, J121_162, J121_163, J121_164, J121_167, J121_168, J121_171, J121_172, J121_173, J121_176, J121_177, J121_178, J121_181, J121_182, J121_183, J121_186, J121_187, J121_190, J121_193, J121_194, J121_195, J121_198, J121_199, J121_202, J121_203, J121_204, J121_207, J121_208, J121_211, J121_212, J121_213, J121_216, J121_219, J121_220, J121_222, J121_225, J121_226, am_gg_c, am_gf_c, am_pf_c, am_af_c, am_sf_c, am_bf_c, am_qf_c, am_ap_c, am_bp_c, am_qp_c, am_lf_c, am_kt_s, am_kt_n, am_wst, am_wstop, am_ns_0, am_ns_1, Bool.not_true, Bool.not_false, Bool.true_and, Bool.false_and, Nat.reduceBEq, ↓reduceIte, am_k2_n, am_k2_i, am_k2_r, am_k2_u, am_k2_f, am_k2_l, Nat.zero_le, true_and, and_true, true_or, or_true, am_cat_0, am_cat_i, am_cat_r, am_cat_l, am_cat_n, Nat.reduceLeDiff, Nat.reduceAdd, Option.isSome_some, List.getElem?_cons_zero, List.getElem?_cons_succ, am_fit_i, am_fit_r, am_fit_a]
    rw [if_pos (by rw [bi_lt, nI_toInt (by omega)]; show (0 : Int) < _; omega)]
    simp only [J121_0, J121_1, J121_4, J121_7, J121_8, J121_9, J121_10, J121_13, J121_14, J121_17, J121_20, J121_21, J121_24, J121_27, J121_28, J121_30, J121_33, J121_34, J121_35, J121_36, J121_37, J121_40, J121_41, J121_42, J121_45, J121_46, J121_47, J121_50, J121_51, J121_54, J121_55, J121_56, J121_59, J121_60, J121_63, J121_64, J121_65, J121_68, J121_69, J121_72, J121_75, J121_76, J121_79, J121_80, J121_83, J121_84, J121_87, J121_88, J121_89, J121_90, J121_93, J121_94, J121_97, J121_98, J121_99, J121_102, J121_103, J121_106, J121_107, J121_110, J121_111, J121_112, J121_115, J121_116, J121_119, J121_120, J121_123, J121_124, J121_125, J121_126, J121_127, J121_130, J121_131, J121_134, J121_135, J121_136, J121_137, J121_140, J121_141, J121_142, J121_145, J121_146, J121_147, J121_150, J121_151, J121_154, J121_155, J121_158, J121_161, J121_162, J121_163, J121_164, J121_167, J121_168, J121_171, J121_172, J121_173, J121_176, J121_177, J121_178, J121_181, J121_182, J121_183, J121_186, J121_187, J121_190, J121_193, J121_194, J121_195, J121_198, J121_199, J121_202, J121_203, J121_204, J121_207, J121_208, J121_211, J121_212, J121_213, J121_216, J121_219, J121_220, J121_222, J121_225, J121_226, am_gg_c, am_gf_c, am_pf_c, am_af_c, am_sf_c, am_bf_c, am_qf_c, am_ap_c, am_bp_c, am_qp_c, am_lf_c, am_kt_s, am_kt_n, am_wst, am_wstop, am_ns_0, am_ns_1, Bool.not_true, Bool.not_false, Bool.true_and, Bool.false_and, Nat.reduceBEq, ↓reduceIte, am_k2_n, am_k2_i, am_k2_r, am_k2_u, am_k2_f, am_k2_l, Nat.zero_le, true_and, and_true, true_or, or_true, am_cat_0, am_cat_i, am_cat_r, am_cat_l, am_cat_n, Nat.reduceLeDiff, Nat.reduceAdd, Option.isSome_some, List.getElem?_cons_zero, List.getElem?_cons_succ, am_fit_i, am_fit_r, am_fit_a, g1, g28, g29, am_ob_sn (show 29 ≠ 23 by decide), am_ia_sn (show 29 ≠ 28 by decide)]
    refine ⟨vp_in_n (by omega) (by omega), vp_in_n (by omega) (by omega), ?_⟩
    rw [nI_clamp (by omega), show upd pl Z.length (nI (lo (ndO O0 Z))) Z.length = nI (lo (ndO O0 Z)) by rw [upd_at, if_pos rfl]]
    refine sp_takeOn (by omega) (show am_ob (G1.set 29 (am_ai 0 9 (upd ch Z.length (nI w)))) 23 5 = _ by rw [am_ob_sn (show 29 ≠ 23 by decide)]; exact g1) (show am_ia (G1.set 29 (am_ai 0 9 (upd ch Z.length (nI w)))) 30 0 = _ by rw [am_ia_sn (show 29 ≠ 30 by decide)]; exact g30) (show am_ia (G1.set 29 (am_ai 0 9 (upd ch Z.length (nI w)))) 31 0 = _ by rw [am_ia_sn (show 29 ≠ 31 by decide)]; exact g31) c3 w1 hmb hm18 (fun G2 y1 y2 y3 y4 => ?_)
    have y28 : am_ia G2 28 0 = some (9, upd pl Z.length (nI (lo (ndO O0 Z)))) := by rw [y4.ia (by decide), am_ia_sn (show 29 ≠ 28 by decide)]; exact g28
    have y29 : am_ia G2 29 0 = some (9, upd ch Z.length (nI w)) := by rw [y4.ia (by decide)]; exact am_ia_ss q29
    have hF2 : Fr kE G0 G2 := hF1.tr ((Fr.set (by decide)).tr (y4.up (by decide)))
    have y23 := am_ob_lt y1
    have z29 := am_ia_lt y29
    simp only [J121_0, J121_1, J121_4, J121_7, J121_8, J121_9, J121_10, J121_13, J121_14, J121_17, J121_20, J121_21, J121_24, J121_27, J121_28, J121_30, J121_33, J121_34, J121_35, J121_36, J121_37, J121_40, J121_41, J121_42, J121_45, J121_46, J121_47, J121_50, J121_51, J121_54, J121_55, J121_56, J121_59, J121_60, J121_63, J121_64, J121_65, J121_68, J121_69, J121_72, J121_75, J121_76, J121_79, J121_80, J121_83, J121_84, J121_87, J121_88, J121_89, J121_90, J121_93, J121_94, J121_97, J121_98, J121_99, J121_102, J121_103, J121_106, J121_107, J121_110, J121_111, J121_112, J121_115, J121_116, J121_119, J121_120, J121_123, J121_124, J121_125, J121_126, J121_127, J121_130, J121_131, J121_134, J121_135, J121_136, J121_137, J121_140, J121_141, J121_142, J121_145, J121_146, J121_147, J121_150, J121_151, J121_154, J121_155, J121_158, J121_161, J121_162, J121_163, J121_164, J121_167, J121_168, J121_171, J121_172, J121_173, J121_176, J121_177, J121_178, J121_181, J121_182, J121_183, J121_186, J121_187, J121_190, J121_193, J121_194, J121_195, J121_198, J121_199, J121_202, J121_203, J121_204, J121_207, J121_208, J121_211, J121_212, J121_213, J121_216, J121_219, J121_220, J121_222, J121_225, J121_226, am_gg_c, am_gf_c, am_pf_c, am_af_c, am_sf_c, am_bf_c, am_qf_c, am_ap_c, am_bp_c, am_qp_c, am_lf_c, am_kt_s, am_kt_n, am_wst, am_wstop, am_ns_0, am_ns_1, Bool.not_true, Bool.not_false, Bool.true_and, Bool.false_and, Nat.reduceBEq, ↓reduceIte, am_k2_n, am_k2_i, am_k2_r, am_k2_u, am_k2_f, am_k2_l, Nat.zero_le, true_and, and_true, true_or, or_true, am_cat_0, am_cat_i, am_cat_r, am_cat_l, am_cat_n, Nat.reduceLeDiff, Nat.reduceAdd, Option.isSome_some, List.getElem?_cons_zero, List.getElem?_cons_succ, am_fit_i, am_fit_r, am_fit_a, y1, Value.category, List.length_cons, List.length_nil, Nat.reduceLT, List.set_cons_succ, List.set_cons_zero, am_ob_ss, y23]
    -- what holds in the new state
    have hT2 : T ||| (2 ^ lo (ndO O0 Z) ||| 2 ^ (lo (ndO O0 Z) + w)) < 2 ^ 18 := or_lt hT (or_lt (Nat.pow_lt_pow_right (by omega) l2) (Nat.pow_lt_pow_right (by omega) c3))
    have hrel2 : ∀ q, (ndO O0 ((lo (ndO O0 Z), w) :: Z)).testBit q = (decide (q < ln) && !(T ||| (2 ^ lo (ndO O0 Z) ||| 2 ^ (lo (ndO O0 Z) + w))).testBit q) := by
      intro q
      show (ndO O0 Z - (2 ^ lo (ndO O0 Z) + 2 ^ (lo (ndO O0 Z) + w))).testBit q = _
      rw [o2, hrel q, Nat.testBit_or, Nat.testBit_or, Nat.testBit_two_pow, Nat.testBit_two_pow]
      by_cases e1 : q = lo (ndO O0 Z)
      · simp [e1]
      · by_cases e2 : q = lo (ndO O0 Z) + w
        · simp [e2]
        · simp [e1, e2, Ne.symm e1, Ne.symm e2]
    have hrw2 : ∀ q, q < 18 → upd (upd rw_ (lo (ndO O0 Z)) (nI w)) (lo (ndO O0 Z) + w) (nI w) q = nI (rwZ ((lo (ndO O0 Z), w) :: Z) q) := by
      intro q hq
      rw [upd_at, upd_at]
      show _ = nI (if q = lo (ndO O0 Z) ∨ q = lo (ndO O0 Z) + w then w else rwZ Z q)
      by_cases e2 : q = lo (ndO O0 Z) + w
      · rw [if_pos e2, if_pos (Or.inr e2)]
      · rw [if_neg e2]
        by_cases e1 : q = lo (ndO O0 Z)
        · rw [if_pos e1, if_pos (Or.inl e1)]
        · rw [if_neg e1, if_neg (by rintro (z | z); exact e1 z; exact e2 z)]
          exact hrw q hq
    have hbg2 : ∀ p' d', (p', d') ∈ (lo (ndO O0 Z), w) :: Z → upd bg w (nI (lo (ndO O0 Z))) d' = nI p' := by
      intro p' d' hmem
      rw [upd_at]
      rcases List.mem_cons.mp hmem with e | hmem
      · cases e; rw [if_pos rfl]
      · have := (v3 p' d' hmem).2.2.2.1
        rw [if_neg (fun e => by rw [e, hmb] at this; cases this)]
        exact hbg p' d' hmem
    have hst2 : stk (upd pl Z.length (nI (lo (ndO O0 Z)))) (upd ch Z.length (nI w)) ((lo (ndO O0 Z), w) :: Z) := ⟨by rw [upd_at, if_pos rfl], by rw [upd_at, if_pos rfl], stk_upd hst (Nat.le_refl _) (Nat.le_refl _)⟩
    rw [nI_1]
    by_cases hleaf : Z.length + 1 = n
    · rw [if_pos (by rw [hleaf])]
      refine hP _ _ (Or.inr ⟨(lo (ndO O0 Z), w) :: Z, ?_, rfl, hleaf, _, _, _, _, _, am_ob_ss y23, hT2, hrel2, by rw [am_ia_sn (show 23 ≠ 28 by decide)]; exact y28, by rw [am_ia_sn (show 23 ≠ 29 by decide)]; exact y29, by rw [am_ia_sn (show 23 ≠ 30 by decide)]; exact y2, by rw [am_ia_sn (show 23 ≠ 31 by decide)]; exact y3, hst2, fun z => by simp only [List.length_cons] at z; omega, hrw2, hbg2, hv1⟩) (hF2.tr (Fr.set (by decide)))
      rw [← hR]
      exact rs_leaf w4 w1 hskip w2 hleaf
    · rw [if_neg (by rw [nI_eq (by omega) (by omega)]; exact hleaf)]
      simp only [J121_0, J121_1, J121_4, J121_7, J121_8, J121_9, J121_10, J121_13, J121_14, J121_17, J121_20, J121_21, J121_24, J121_27, J121_28, J121_30, J121_33, J121_34, J121_35, J121_36, J121_37, J121_40, J121_41, J121_42, J121_45, J121_46, J121_47, J121_50, J121_51, J121_54, J121_55, J121_56, J121_59, J121_60, J121_63, J121_64, J121_65, J121_68, J121_69, J121_72, J121_75, J121_76, J121_79, J121_80, J121_83, J121_84, J121_87, J121_88, J121_89, J121_90, J121_93, J121_94, J121_97, J121_98, J121_99, J121_102, J121_103, J121_106, J121_107, J121_110, J121_111, J121_112, J121_115, J121_116, J121_119, J121_120, J121_123, J121_124, J121_125, J121_126, J121_127, J121_130, J121_131, J121_134, J121_135, J121_136, J121_137, J121_140, J121_141, J121_142, J121_145, J121_146, J121_147, J121_150, J121_151, J121_154, J121_155, J121_158, J121_161, J121_162, J121_163, J121_164, J121_167, J121_168, J121_171, J121_172, J121_173, J121_176, J121_177, J121_178, J121_181, J121_182, J121_183, J121_186, J121_187, J121_190, J121_193, J121_194, J121_195, J121_198, J121_199, J121_202, J121_203, J121_204, J121_207, J121_208, J121_211, J121_212, J121_213, J121_216, J121_219, J121_220, J121_222, J121_225, J121_226, am_gg_c, am_gf_c, am_pf_c, am_af_c, am_sf_c, am_bf_c, am_qf_c, am_ap_c, am_bp_c, am_qp_c, am_lf_c, am_kt_s, am_kt_n, am_wst, am_wstop, am_ns_0, am_ns_1, Bool.not_true, Bool.not_false, Bool.true_and, Bool.false_and, Nat.reduceBEq, ↓reduceIte, am_k2_n, am_k2_i, am_k2_r, am_k2_u, am_k2_f, am_k2_l, Nat.zero_le, true_and, and_true, true_or, or_true, am_cat_0, am_cat_i, am_cat_r, am_cat_l, am_cat_n, Nat.reduceLeDiff, Nat.reduceAdd, Option.isSome_some, List.getElem?_cons_zero, List.getElem?_cons_succ, am_fit_i, am_fit_r, am_fit_a, am_ia_sn (show 23 ≠ 29 by decide), y29]
      refine ⟨vp_in_n (by omega) (by omega), am_goto I121_216 (am_WP.fg (hChild (lo (ndO O0 Z)) w _ w4 w1 (by omega) ⟨_, upd pl Z.length (nI (lo (ndO O0 Z))), upd (upd ch Z.length (nI w)) (Z.length + 1) 0, _, _, ?_, hT2, hrel2, ?_, ?_, ?_, ?_, ?_, fun _ => ?_, hrw2, hbg2, hv1⟩ ?_ ?_) (by simp [am_le]))⟩
      · rw [am_ob_sn (show 29 ≠ 23 by decide)]; exact am_ob_ss y23
      · rw [am_ia_sn (show 29 ≠ 28 by decide), am_ia_sn (show 23 ≠ 28 by decide)]; exact y28
      · rw [nI_clamp (by omega)]; exact am_ia_ss (by rw [List.length_set]; exact z29)
      · rw [am_ia_sn (show 29 ≠ 30 by decide), am_ia_sn (show 23 ≠ 30 by decide)]; exact y2
      · rw [am_ia_sn (show 29 ≠ 31 by decide), am_ia_sn (show 23 ≠ 31 by decide)]; exact y3
      · refine ⟨hst2.1, ?_, ?_⟩
        · rw [upd_at, if_neg (by omega)]; exact hst2.2.1
        · have := stk_upd (i := 100) (x := 0) (j := Z.length + 1) (y := 0) hst2.2.2 (by omega) (by omega)
          have e0 : ∀ (Y : List (Nat × Nat)), Y.length ≤ Z.length → stk (upd pl Z.length (nI (lo (ndO O0 Z)))) (upd ch Z.length (nI w)) Y → stk (upd pl Z.length (nI (lo (ndO O0 Z)))) (upd (upd ch Z.length (nI w)) (Z.length + 1) 0) Y := by
            intro Y
            induction Y with
            | nil => intro _ _; trivial
            | cons x Y ih =>
              obtain ⟨p', d'⟩ := x
              intro hl hs
              simp only [List.length_cons] at hl
              refine ⟨hs.1, ?_, ih (by omega) hs.2.2⟩
              rw [upd_at, if_neg (by omega)]; exact hs.2.1
          exact e0 Z (Nat.le_refl _) hst2.2.2
      · simp only [List.length_cons]; rw [upd_at, if_pos rfl]; rfl
      · exact hF2.tr ((Fr.set (by decide)).tr (Fr.set (by decide)))
      · rw [← hR]
        exact (rs_push w4 w1 hskip w2 (by rw [bt_sub hmb, ndM_0 hm0 hv]; rfl) (by omega)).symm
  · -- none
    have hskip : ∀ v, b < v → v < 18 → itm (okB ipb f) (n - Z.length - 1) (ndO O0 Z) (ndM m0 Z) v = [] := fun v b1 b2 => itm_no (by rw [← hnc]; exact hno v b2 b1)
    have hR2 : upR (okB ipb f) n O0 m0 Z = R := by rw [← hR]; exact (rs_none hb hskip).symm
    simp only [J121_0, J121_1, J121_4, J121_7, J121_8, J121_9, J121_10, J121_13, J121_14, J121_17, J121_20, J121_21, J121_24, J121_27, J121_28, J121_30, J121_33, J121_34, J121_35, J121_36, J121_37, J121_40, J121_41, J121_42, J121_45, J121_46, J121_47, J121_50, J121_51, J121_54, J121_55, J121_56, J121_59, J121_60, J121_63, J121_64, J121_65, J121_68, J121_69, J121_72, J121_75, J121_76, J121_79, J121_80, J121_83, J121_84, J121_87, J121_88, J121_89, J121_90, J121_93, J121_94, J121_97, J121_98, J121_99, J121_102, J121_103, J121_106, J121_107, J121_110, J121_111, J121_112, J121_115, J121_116, J121_119, J121_120, J121_123, J121_124, J121_125, J121_126, J121_127, J121_130, J121_131, J121_134, J121_135, J121_136, J121_137, J121_140, J121_141, J121_142, J121_145, J121_146, J121_147, J121_150, J121_151, J121_154, J121_155, J121_158, J121_161, J121_162, J121_163, J121_164, J121_167, J121_168, J121_171, J121_172, J121_173, J121_176, J121_177, J121_178, J121_181, J121_182, J121_183, J121_186, J121_187, J121_190, J121_193, J121_194, J121_195, J121_198, J121_199, J121_202, J121_203, J121_204, J121_207, J121_208, J121_211, J121_212, J121_213, J121_216, J121_219, J121_220, J121_222, J121_225, J121_226, am_gg_c, am_gf_c, am_pf_c, am_af_c, am_sf_c, am_bf_c, am_qf_c, am_ap_c, am_bp_c, am_qp_c, am_lf_c, am_kt_s, am_kt_n, am_wst, am_wstop, am_ns_0, am_ns_1, Bool.not_true, Bool.not_false, Bool.true_and, Bool.false_and, Nat.reduceBEq, ↓reduceIte, am_k2_n, am_k2_i, am_k2_r, am_k2_u, am_k2_f, am_k2_l, Nat.zero_le, true_and, and_true, true_or, or_true, am_cat_0, am_cat_i, am_cat_r, am_cat_l, am_cat_n, Nat.reduceLeDiff, Nat.reduceAdd, Option.isSome_some, List.getElem?_cons_zero, List.getElem?_cons_succ, am_fit_i, am_fit_r, am_fit_a]
    rw [if_neg (by decide)]
    simp only [J121_0, J121_1, J121_4, J121_7, J121_8, J121_9, J121_10, J121_13, J121_14, J121_17, J121_20, J121_21, J121_24, J121_27, J121_28, J121_30, J121_33, J121_34, J121_35, J121_36, J121_37, J121_40, J121_41, J121_42, J121_45, J121_46, J121_47, J121_50, J121_51, J121_54, J121_55, J121_56, J121_59, J121_60, J121_63, J121_64, J121_65, J121_68, J121_69, J121_72, J121_75, J121_76, J121_79, J121_80, J121_83, J121_84, J121_87, J121_88, J121_89, J121_90, J121_93, J121_94, J121_97, J121_98, J121_99, J121_102, J121_103, J121_106, J121_107, J121_110, J121_111, J121_112, J121_115, J121_116, J121_119, J121_120, J121_123, J121_124, J121_125, J121_126, J121_127, J121_130, J121_131, J121_134, J121_135, J121_136, J121_137, J121_140, J121_141, J121_142, J121_145, J121_146, J121_147, J121_150, J121_151, J121_154, J121_155, J121_158, J121_161, J121_162, J121_163, J121_164, J121_167, J121_168, J121_171, J121_172, J121_173, J121_176, J121_177, J121_178, J121_181, J121_182, J121_183, J121_186, J121_187, J121_190, J121_193, J121_194, J121_195, J121_198, J121_199, J121_202, J121_203, J121_204, J121_207, J121_208, J121_211, J121_212, J121_213, J121_216, J121_219, J121_220, J121_222, J121_225, J121_226, am_gg_c, am_gf_c, am_pf_c, am_af_c, am_sf_c, am_bf_c, am_qf_c, am_ap_c, am_bp_c, am_qp_c, am_lf_c, am_kt_s, am_kt_n, am_wst, am_wstop, am_ns_0, am_ns_1, Bool.not_true, Bool.not_false, Bool.true_and, Bool.false_and, Nat.reduceBEq, ↓reduceIte, am_k2_n, am_k2_i, am_k2_r, am_k2_u, am_k2_f, am_k2_l, Nat.zero_le, true_and, and_true, true_or, or_true, am_cat_0, am_cat_i, am_cat_r, am_cat_l, am_cat_n, Nat.reduceLeDiff, Nat.reduceAdd, Option.isSome_some, List.getElem?_cons_zero, List.getElem?_cons_succ, am_fit_i, am_fit_r, am_fit_a, g1, Value.category, List.length_cons, List.length_nil, Nat.reduceLT, List.set_cons_succ, List.set_cons_zero, am_ob_ss, q23]
    match Z, hlen, hst, hrel, hrw, hbg, hv, hR2, g1, g28, hCont with
    | [], _, _, _, _, _, _, hR2, g1, g28, _ =>
      rw [if_pos (by decide)]
      refine am_goto I121_216 ?_
      refine am_wps 40 [] ?_
      simp only [J121_0, J121_1, J121_4, J121_7, J121_8, J121_9, J121_10, J121_13, J121_14, J121_17, J121_20, J121_21, J121_24, J121_27, J121_28, J121_30, J121_33, J121_34, J121_35, J121_36, J121_37, J121_40, J121_41, J121_42, J121_45, J121_46, J121_47, J121_50, J121_51, J121_54, J121_55, J121_56, J121_59, J121_60, J121_63, J121_64, J121_65, J121_68, J121_69, J121_72, J121_75, J121_76, J121_79, J121_80, J121_83, J121_84, J121_87, J121_88, J121_89, J121_90, J121_93, J121_94, J121_97, J121_98, J121_99, J121_102, J121_103, J121_106, J121_107, J121_110, J121_111, J121_112, J121_115, J121_116, J121_119, J121_120, J121_123, J121_124, J121_125, J121_126, J121_127, J121_130, J121_131, J121_134, J121_135, J121_136, J121_137, J121_140, J121_141, J121_142, J121_145, J121_146, J121_147, J121_150, J121_151, J121_154, J121_155, J121_158, J121_161, J121_162, J121_163, J121_164, J121_167, J121_168, J121_171, J121_172, J121_173, J121_176, J121_177, J121_178, J121_181, J121_182, J121_183, J121_186, J121_187, J121_190, J121_193, J121_194, J121_195, J121_198, J121_199, J121_202, J121_203, J121_204, J121_207, J121_208, J121_211, J121_212, J121_213, J121_216, J121_219, J121_220, J121_222, J121_225, J121_226, am_gg_c, am_gf_c, am_pf_c, am_af_c, am_sf_c, am_bf_c, am_qf_c, am_ap_c, am_bp_c, am_qp_c, am_lf_c, am_kt_s, am_kt_n, am_wst, am_wstop, am_ns_0, am_ns_1, Bool.not_true, Bool.not_false, Bool.true_and, Bool.false_and, Nat.reduceBEq, ↓reduceIte, am_k2_n, am_k2_i, am_k2_r, am_k2_u, am_k2_f, am_k2_l, Nat.zero_le, true_and, and_true, true_or, or_true, am_cat_0, am_cat_i, am_cat_r, am_cat_l, am_cat_n, Nat.reduceLeDiff, Nat.reduceAdd, Option.isSome_some, List.getElem?_cons_zero, List.getElem?_cons_succ, am_fit_i, am_fit_r, am_fit_a, am_ob_ss, q23]
      rw [if_pos (by decide)]
      simp only [J121_0, J121_1, J121_4, J121_7, J121_8, J121_9, J121_10, J121_13, J121_14, J121_17, J121_20, J121_21, J121_24, J121_27, J121_28, J121_30, J121_33, J121_34, J121_35, J121_36, J121_37, J121_40, J121_41, J121_42, J121_45, J121_46, J121_47, J121_50, J121_51, J121_54, J121_55, J121_56, J121_59, J121_60, J121_63, J121_64, J121_65, J121_68, J121_69, J121_72, J121_75, J121_76, J121_79, J121_80, J121_83, J121_84, J121_87, J121_88, J121_89, J121_90, J121_93, J121_94, J121_97, J121_98, J121_99, J121_102, J121_103, J121_106, J121_107, J121_110, J121_111, J121_112, J121_115, J121_116, J121_119, J121_120, J121_123, J121_124, J121_125, J121_126, J121_127, J121_130, J121_131, J121_134, J121_135, J121_136, J121_137, J121_140, J121_141, J121_142, J121_145, J121_146, J121_147, J121_150, J121_151, J121_154, J121_155, J121_158, J121_161, J121_162, J121_163, J121_164, J121_167, J121_168, J121_171, J121_172, J121_173, J121_176, J121_177, J121_178, J121_181, J121_182, J121_183, J121_186, J121_187, J121_190, J121_193, J121_194, J121_195, J121_198, J121_199, J121_202, J121_203, J121_204, J121_207, J121_208, J121_211, J121_212, J121_213, J121_216, J121_219, J121_220, J121_222, J121_225, J121_226, am_gg_c, am_gf_c, am_pf_c, am_af_c, am_sf_c, am_bf_c, am_qf_c, am_ap_c, am_bp_c, am_qp_c, am_lf_c, am_kt_s, am_kt_n, am_wst, am_wstop, am_ns_0, am_ns_1, Bool.not_true, Bool.not_false, Bool.true_and, Bool.false_and, Nat.reduceBEq, ↓reduceIte, am_k2_n, am_k2_i, am_k2_r, am_k2_u, am_k2_f, am_k2_l, Nat.zero_le, true_and, and_true, true_or, or_true, am_cat_0, am_cat_i, am_cat_r, am_cat_l, am_cat_n, Nat.reduceLeDiff, Nat.reduceAdd, Option.isSome_some, List.getElem?_cons_zero, List.getElem?_cons_succ, am_fit_i, am_fit_r, am_fit_a, am_ob_ss, q23, List.length_set, Value.category, List.length_cons, List.length_nil, Nat.reduceLT, List.set_cons_succ, List.set_cons_zero, am_fit_i]
      refine hP _ _ (Or.inl ⟨hR2.symm, rfl, ⟨_, _, _, _, am_ob_ss (by rw [List.length_set]; exact q23)⟩, ⟨_, by rw [am_ia_sn (show 23 ≠ 28 by decide), am_ia_sn (show 23 ≠ 28 by decide)]; exact g28⟩, ⟨_, by rw [am_ia_sn (show 23 ≠ 29 by decide), am_ia_sn (show 23 ≠ 29 by decide)]; exact g29⟩, ⟨_, by rw [am_ia_sn (show 23 ≠ 30 by decide), am_ia_sn (show 23 ≠ 30 by decide)]; exact g30⟩, ⟨_, by rw [am_ia_sn (show 23 ≠ 31 by decide), am_ia_sn (show 23 ≠ 31 by decide)]; exact g31⟩⟩) (hF1.tr ((Fr.set (by decide)).tr (Fr.set (by decide))))
    | (p, w) :: Z', hlen, hst, hrel, hrw, hbg, hv, hR2, g1, g28, hCont =>
      simp only [List.length_cons] at hlen g1 g28 ⊢
      have ed : nI (Z'.length + 1) - 1 = nI Z'.length := nI_pred _
      rw [ed]
      rw [if_neg (nI_pos (by omega))]
      simp only [J121_0, J121_1, J121_4, J121_7, J121_8, J121_9, J121_10, J121_13, J121_14, J121_17, J121_20, J121_21, J121_24, J121_27, J121_28, J121_30, J121_33, J121_34, J121_35, J121_36, J121_37, J121_40, J121_41, J121_42, J121_45, J121_46, J121_47, J121_50, J121_51, J121_54, J121_55, J121_56, J121_59, J121_60, J121_63, J121_64, J121_65, J121_68, J121_69, J121_72, J121_75, J121_76, J121_79, J121_80, J121_83, J121_84, J121_87, J121_88, J121_89, J121_90, J121_93, J121_94, J121_97, J121_98, J121_99, J121_102, J121_103, J121_106, J121_107, J121_110, J121_111, J121_112, J121_115, J121_116, J121_119, J121_120, J121_123, J121_124, J121_125, J121_126, J121_127, J121_130, J121_131, J121_134, J121_135, J121_136, J121_137, J121_140, J121_141, J121_142, J121_145, J121_146, J121_147, J121_150, J121_151, J121_154, J121_155, J121_158, J121_161, J121_162, J121_163, J121_164, J121_167, J121_168, J121_171, J121_172, J121_173, J121_176, J121_177, J121_178, J121_181, J121_182, J121_183, J121_186, J121_187, J121_190, J121_193, J121_194, J121_195, J121_198, J121_199, J121_202, J121_203, J121_204, J121_207, J121_208, J121_211, J121_212, J121_213, J121_216, J121_219, J121_220, J121_222, J121_225, J121_226, am_gg_c, am_gf_c, am_pf_c, am_af_c, am_sf_c, am_bf_c, am_qf_c, am_ap_c, am_bp_c, am_qp_c, am_lf_c, am_kt_s, am_kt_n, am_wst, am_wstop, am_ns_0, am_ns_1, Bool.not_true, Bool.not_false, Bool.true_and, Bool.false_and, Nat.reduceBEq, ↓reduceIte, am_k2_n, am_k2_i, am_k2_r, am_k2_u, am_k2_f, am_k2_l, Nat.zero_le, true_and, and_true, true_or, or_true, am_cat_0, am_cat_i, am_cat_r, am_cat_l, am_cat_n, Nat.reduceLeDiff, Nat.reduceAdd, Option.isSome_some, List.getElem?_cons_zero, List.getElem?_cons_succ, am_fit_i, am_fit_r, am_fit_a, am_ob_ss, q23, am_ia_sn (show 23 ≠ 28 by decide), am_ia_sn (show 23 ≠ 29 by decide), g28, g29]
      refine ⟨vp_in_n (by omega) (by omega), vp_in_n (by omega) (by omega), ?_⟩
      rw [nI_clamp (by omega), upd_at, if_neg (by omega), hst.1, hst.2.1]
      refine adv_off (T := T) (pl := upd pl (Z'.length + 1) (nI (lo (ndO O0 ((p, w) :: Z'))))) (ch := ch) (rw_ := rw_) (bg := bg) (Z := Z') hc (am_ob_ss q23) hT hrel (by rw [am_ia_sn (show 23 ≠ 28 by decide)]; exact g28) (by rw [am_ia_sn (show 23 ≠ 29 by decide)]; exact g29) (by rw [am_ia_sn (show 23 ≠ 30 by decide)]; exact g30) (by rw [am_ia_sn (show 23 ≠ 31 by decide)]; exact g31) ?_ hrw hbg hv (by omega) (fun G' a c => ?_)
      · have e0 : ∀ (Y : List (Nat × Nat)), Y.length ≤ Z'.length + 1 → stk pl ch Y → stk (upd pl (Z'.length + 1) (nI (lo (ndO O0 ((p, w) :: Z'))))) ch Y := by
          intro Y
          induction Y with
          | nil => intro _ _; trivial
          | cons x Y ih =>
            obtain ⟨p', d'⟩ := x
            intro hl hs
            simp only [List.length_cons] at hl
            refine ⟨?_, hs.2.1, ih (by omega) hs.2.2⟩
            rw [upd_at, if_neg (by omega)]; exact hs.1
        exact e0 ((p, w) :: Z') (Nat.le_refl _) hst
      · simp only [J121_0, J121_1, J121_4, J121_7, J121_8, J121_9, J121_10, J121_13, J121_14, J121_17, J121_20, J121_21, J121_24, J121_27, J121_28, J121_30, J121_33, J121_34, J121_35, J121_36, J121_37, J121_40, J121_41, J121_42, J121_45, J121_46, J121_47, J121_50, J121_51, J121_54, J121_55, J121_56, J121_59, J121_60, J121_63, J121_64, J121_65, J121_68, J121_69, J121_72, J121_75, J121_76, J121_79, J121_80, J121_83, J121_84, J121_87, J121_88, J121_89, J121_90, J121_93, J121_94, J121_97, J121_98, J121_99, J121_102, J121_103, J121_106, J121_107, J121_110, J121_111, J121_112, J121_115, J121_116, J121_119, J121_120, J121_123, J121_124, J121_125, J121_126, J121_127, J121_130, J121_131, J121_134, J121_135, J121_136, J121_137, J121_140, J121_141, J121_142, J121_145, J121_146, J121_147, J121_150, J121_151, J121_154, J121_155, J121_158, J121_161, J121_162, J121_163, J121_164, J121_167, J121_168, J121_171, J121_172, J121_173, J121_176, J121_177, J121_178, J121_181, J121_182, J121_183, J121_186, J121_187, J121_190, J121_193, J121_194, J121_195, J121_198, J121_199, J121_202, J121_203, J121_204, J121_207, J121_208, J121_211, J121_212, J121_213, J121_216, J121_219, J121_220, J121_222, J121_225, J121_226, am_gg_c, am_gf_c, am_pf_c, am_af_c, am_sf_c, am_bf_c, am_qf_c, am_ap_c, am_bp_c, am_qp_c, am_lf_c, am_kt_s, am_kt_n, am_wst, am_wstop, am_ns_0, am_ns_1, Bool.not_true, Bool.not_false, Bool.true_and, Bool.false_and, Nat.reduceBEq, ↓reduceIte, am_k2_n, am_k2_i, am_k2_r, am_k2_u, am_k2_f, am_k2_l, Nat.zero_le, true_and, and_true, true_or, or_true, am_cat_0, am_cat_i, am_cat_r, am_cat_l, am_cat_n, Nat.reduceLeDiff, Nat.reduceAdd, Option.isSome_some, List.getElem?_cons_zero, List.getElem?_cons_succ, am_fit_i, am_fit_r, am_fit_a]
        exact am_goto I121_216 (am_WP.fg (hCont p w Z' G' rfl a (hF1.tr ((Fr.set (by decide)).tr c)) hR2) (by simp [am_le]))
theorem lp_adv (hc : PC n ln O0 m0) (hD : 3 ≤ D) (hm : ∀ G, Fr kE G0 G → MA G l h d f) (hP : ∀ v G', PA R pm vp ipb f n ln O0 m0 v G' → Fr kE G0 G' → P v G') :
    ∀ (k t : Nat) (Z : List (Nat × Nat)) (b : Nat) (G : am_H), Z.length + k + 1 = n → 18 ≤ b + t → b < 18 → EnG G pm vp ipb f n ln O0 m0 Z b → Fr kE G0 G → rsR (okB ipb f) n O0 m0 Z b = R →
      (∀ p w Z' G', Z = (p, w) :: Z' → EnG G' pm vp ipb f n ln O0 m0 Z' w → Fr kE G0 G' → rsR (okB ipb f) n O0 m0 Z' w = R → am_WP X D 121 68 [some (.ref 23), none] [] G' 0 0 P) →
      am_WP X D 121 68 [some (.ref 23), none] [] G 0 0 P := by
  intro k
  induction k with
  | zero =>
    intro t Z b G a1 a2 a3 a4 a5 a6 a7
    exact adv_step hc hD hm hP (by omega) a3 a4 a5 a6 (fun p w G' b1 b2 b3 => by omega) a7
  | succ k ihk =>
    intro t
    induction t with
    | zero => intro Z b G a1 a2 a3; omega
    | succ t iht =>
      intro Z b G a1 a2 a3 a4 a5 a6 a7
      refine adv_step hc hD hm hP (by omega) a3 a4 a5 a6 (fun p w G' b1 b2 b3 b4 b5 b6 => ?_) a7
      refine ihk 18 ((p, w) :: Z) 0 G' (by simp only [List.length_cons]; omega) (by omega) (by omega) b4 b5 b6 (fun p' w' Z' G'' e c1 c2 c3 => ?_)
      cases e
      exact iht Z w G'' a1 (by omega) b2 c1 c2 c3 a7
end ADV
