/-! breaks -/
def bk1 (h : Nat) (g : Nat → Nat) (q : Nat) : Bool := (g q == 0) != h.testBit q
def bk2 (d : Nat) (g : Nat → Nat) (q : Nat) : Bool := !(g q == 0) && !d.testBit (g q)
def bk3 (g : Nat → Nat) (q : Nat) : Bool := !(g q == 0) && decide (2 < tmN g (g q) (q + 1))
def bk4 (l : Nat) (g : Nat → Nat) (q : Nat) : Bool := !(g q == 0) && (!(decide (g q ≤ q) && g (q - g q) == g q) && !(decide (q + g q < l) && g (q + g q) == g q))
def bk5 (f g : Nat → Nat) (q : Nat) : Bool := !(f q == 0) && !(f q == g q)
def bkN (l h d : Nat) (f g : Nat → Nat) (r q : Nat) : Bool := if r = 1 then bk1 h g q else if r = 2 then bk2 d g q else if r = 3 then bk3 g q else if r = 4 then bk4 l g q else bk5 f g q
theorem tmN_le {g : Nat → Nat} {w : Nat} : ∀ k, tmN g w k ≤ k
  | 0 => Nat.le_refl _
  | k + 1 => by
    have := tmN_le (g := g) (w := w) k
    show tmN g w k + (if g k = w then 1 else 0) ≤ k + 1
    split <;> omega
section BK
variable {X : Nat × (Nat → Int32)} {D : Nat} {G : am_H} {P : Option Value → am_H → Prop} {pm len T m ip due dep vp : Int32} {l h d : Nat} {f g : Nat → Nat}
theorem sp_breaks {q r : Nat} (hD : 4 ≤ D) (h1 : am_ob G 23 5 = some (moL pm len T m ip due dep vp)) (hm : MA G l h d f) (hL : LK G l (fun i => nI (g i))) (hg : ∀ i, i < l → g i ≤ 17) (hq : q < l) (hr : r ≤ 5) (hr1 : 1 ≤ r) (hP : P (some (.int (if bkN l h d f g r q = true then 1 else 0))) G) : am_CB X D 138 [.ref 23, .int (nI r), .int (nI q)] G P := by
  obtain ⟨D, rfl⟩ : ∃ D0, D = D0 + 1 := ⟨D - 1, by omega⟩
  obtain ⟨⟨af, a1, a2, a3, a4, a5⟩, hl1, hl, hh, hd, hd0, hf⟩ := id hm
  have hfq := hf q
  have hgq := hg q hq
  have hg31 : ∀ i, i < l → g i < 2 ^ 31 := fun i hi => by have := hg i hi; omega
  have hh18 : h < 2 ^ 18 := Nat.lt_of_lt_of_le hh (Nat.pow_le_pow_right (by omega) hl)
  obtain ⟨lf, l1, l2⟩ := id hL
  have l2 : ∀ i, i < l → lf i = nI (g i) := l2
  have hin : vp_in (nI q) 18 := vp_in_n (by omega) (by omega)
  have hlq : lf (nI q).toNatClampNeg = nI (g q) := by rw [nI_clamp (by omega)]; exact l2 q hq
  have pos : ¬ g q = 0 → 0 < nI (g q) := fun c => by rw [bi_lt, nI_toInt (by omega)]; show (0 : Int) < _; omega
  have npos : g q = 0 → ¬ 0 < nI (g q) := fun c => by rw [c]; decide
  have n0 : ¬ (1 : Int32) = 0 := by decide
  refine B138 60 [40, 68, 86, 105, 137] ?_
  simp only [J138_0, J138_1, J138_4, J138_5, J138_6, J138_7, J138_8, J138_40, J138_41, J138_44, J138_45, J138_48, J138_49, J138_50, J138_53, J138_54, J138_55, J138_56, J138_59, J138_62, J138_63, J138_66, J138_67, J138_68, J138_69, J138_72, J138_73, J138_74, J138_77, J138_80, J138_81, J138_84, J138_85, J138_86, J138_87, J138_90, J138_91, J138_92, J138_95, J138_96, J138_99, J138_100, J138_103, J138_104, J138_105, J138_106, J138_109, J138_110, J138_111, J138_112, J138_113, J138_114, J138_117, J138_120, J138_121, J138_122, J138_123, J138_124, J138_125, J138_128, J138_131, J138_132, J138_135, J138_136, J138_137, J138_138, J138_141, J138_142, J138_143, J138_144, J138_145, J138_148, J138_149, J138_152, J138_153, J138_154, J138_155, J138_156, J138_157, J138_160, J138_161, J138_164, J138_165, am_gg_c, am_gf_c, am_pf_c, am_af_c, am_sf_c, am_bf_c, am_qf_c, am_ap_c, am_bp_c, am_qp_c, am_lf_c, am_kt_s, am_kt_n, am_wst, am_wstop, am_ns_0, am_ns_1, Bool.not_true, Bool.not_false, Bool.true_and, Bool.false_and, Nat.reduceBEq, ↓reduceIte, am_k2_n, am_k2_i, am_k2_r, am_k2_u, am_k2_f, am_k2_l, Nat.zero_le, true_and, and_true, true_or, or_true, am_cat_0, am_cat_i, am_cat_r, am_cat_l, am_cat_n, Nat.reduceLeDiff, Nat.reduceAdd, Option.isSome_some, List.getElem?_cons_zero, List.getElem?_cons_succ, am_fit_i, am_fit_r, am_fit_a, h1, l1, hlq]
  refine ⟨hin, ?_⟩
  unfold bkN at hP
  have sw : ∀ k, k < 2 ^ 31 → (nI r = nI k ↔ r = k) := fun k hk => ⟨fun e => bi_inj (by omega) (by omega) e, fun e => by rw [e]⟩
  have s1 : nI r = (1 : Int32) ↔ r = 1 := sw 1 (by omega)
  have s2 : nI r = (2 : Int32) ↔ r = 2 := sw 2 (by omega)
  have s3 : nI r = (3 : Int32) ↔ r = 3 := sw 3 (by omega)
  have s4 : nI r = (4 : Int32) ↔ r = 4 := sw 4 (by omega)
  by_cases r1 : r = 1
  · rw [if_pos r1] at hP
    rw [if_pos (s1.mpr r1)]
    unfold bk1 at hP
    refine am_wps 60 [] ?_
    have has1 : af (1 : Int32).toNatClampNeg = nI h := a3
    simp only [J138_0, J138_1, J138_4, J138_5, J138_6, J138_7, J138_8, J138_40, J138_41, J138_44, J138_45, J138_48, J138_49, J138_50, J138_53, J138_54, J138_55, J138_56, J138_59, J138_62, J138_63, J138_66, J138_67, J138_68, J138_69, J138_72, J138_73, J138_74, J138_77, J138_80, J138_81, J138_84, J138_85, J138_86, J138_87, J138_90, J138_91, J138_92, J138_95, J138_96, J138_99, J138_100, J138_103, J138_104, J138_105, J138_106, J138_109, J138_110, J138_111, J138_112, J138_113, J138_114, J138_117, J138_120, J138_121, J138_122, J138_123, J138_124, J138_125, J138_128, J138_131, J138_132, J138_135, J138_136, J138_137, J138_138, J138_141, J138_142, J138_143, J138_144, J138_145, J138_148, J138_149, J138_152, J138_153, J138_154, J138_155, J138_156, J138_157, J138_160, J138_161, J138_164, J138_165, am_gg_c, am_gf_c, am_pf_c, am_af_c, am_sf_c, am_bf_c, am_qf_c, am_ap_c, am_bp_c, am_qp_c, am_lf_c, am_kt_s, am_kt_n, am_wst, am_wstop, am_ns_0, am_ns_1, Bool.not_true, Bool.not_false, Bool.true_and, Bool.false_and, Nat.reduceBEq, ↓reduceIte, am_k2_n, am_k2_i, am_k2_r, am_k2_u, am_k2_f, am_k2_l, Nat.zero_le, true_and, and_true, true_or, or_true, am_cat_0, am_cat_i, am_cat_r, am_cat_l, am_cat_n, Nat.reduceLeDiff, Nat.reduceAdd, Option.isSome_some, List.getElem?_cons_zero, List.getElem?_cons_succ, am_fit_i, am_fit_r, am_fit_a, h1, a1, has1]
    by_cases c : g q = 0
    · rw [if_pos (by rw [c]; rfl)]
      refine ⟨vp_lit (k := 1) rfl (by omega) (by omega), sp_has (by omega) (by omega) (by omega) ?_⟩
      simp only [J138_0, J138_1, J138_4, J138_5, J138_6, J138_7, J138_8, J138_40, J138_41, J138_44, J138_45, J138_48, J138_49, J138_50, J138_53, J138_54, J138_55, J138_56, J138_59, J138_62, J138_63, J138_66, J138_67, J138_68, J138_69, J138_72, J138_73, J138_74, J138_77, J138_80, J138_81, J138_84, J138_85, J138_86, J138_87, J138_90, J138_91, J138_92, J138_95, J138_96, J138_99, J138_100, J138_103, J138_104, J138_105, J138_106, J138_109, J138_110, J138_111, J138_112, J138_113, J138_114, J138_117, J138_120, J138_121, J138_122, J138_123, J138_124, J138_125, J138_128, J138_131, J138_132, J138_135, J138_136, J138_137, J138_138, J138_141, J138_142, J138_143, J138_144, J138_145, J138_148, J138_149, J138_152, J138_153, J138_154, J138_155, J138_156, J138_157, J138_160, J138_161, J138_164, J138_165, am_gg_c, am_gf_c, am_pf_c, am_af_c, am_sf_c, am_bf_c, am_qf_c, am_ap_c, am_bp_c, am_qp_c, am_lf_c, am_kt_s, am_kt_n, am_wst, am_wstop, am_ns_0, am_ns_1, Bool.not_true, Bool.not_false, Bool.true_and, Bool.false_and, Nat.reduceBEq, ↓reduceIte, am_k2_n, am_k2_i, am_k2_r, am_k2_u, am_k2_f, am_k2_l, Nat.zero_le, true_and, and_true, true_or, or_true, am_cat_0, am_cat_i, am_cat_r, am_cat_l, am_cat_n, Nat.reduceLeDiff, Nat.reduceAdd, Option.isSome_some, List.getElem?_cons_zero, List.getElem?_cons_succ, am_fit_i, am_fit_r, am_fit_a, h1, a1]
      rw [c] at hP
      cases cb : h.testBit q <;> rw [cb] at hP <;> simpa using hP
    · rw [if_neg (fun e => c ((bi_eq0 (by omega)).mp e))]
      refine ⟨vp_lit (k := 1) rfl (by omega) (by omega), sp_has (by omega) (by omega) (by omega) ?_⟩
      simp only [J138_0, J138_1, J138_4, J138_5, J138_6, J138_7, J138_8, J138_40, J138_41, J138_44, J138_45, J138_48, J138_49, J138_50, J138_53, J138_54, J138_55, J138_56, J138_59, J138_62, J138_63, J138_66, J138_67, J138_68, J138_69, J138_72, J138_73, J138_74, J138_77, J138_80, J138_81, J138_84, J138_85, J138_86, J138_87, J138_90, J138_91, J138_92, J138_95, J138_96, J138_99, J138_100, J138_103, J138_104, J138_105, J138_106, J138_109, J138_110, J138_111, J138_112, J138_113, J138_114, J138_117, J138_120, J138_121, J138_122, J138_123, J138_124, J138_125, J138_128, J138_131, J138_132, J138_135, J138_136, J138_137, J138_138, J138_141, J138_142, J138_143, J138_144, J138_145, J138_148, J138_149, J138_152, J138_153, J138_154, J138_155, J138_156, J138_157, J138_160, J138_161, J138_164, J138_165, am_gg_c, am_gf_c, am_pf_c, am_af_c, am_sf_c, am_bf_c, am_qf_c, am_ap_c, am_bp_c, am_qp_c, am_lf_c, am_kt_s, am_kt_n, am_wst, am_wstop, am_ns_0, am_ns_1, Bool.not_true, Bool.not_false, Bool.true_and, Bool.false_and, Nat.reduceBEq, ↓reduceIte, am_k2_n, am_k2_i, am_k2_r, am_k2_u, am_k2_f, am_k2_l, Nat.zero_le, true_and, and_true, true_or, or_true, am_cat_0, am_cat_i, am_cat_r, am_cat_l, am_cat_n, Nat.reduceLeDiff, Nat.reduceAdd, Option.isSome_some, List.getElem?_cons_zero, List.getElem?_cons_succ, am_fit_i, am_fit_r, am_fit_a, h1, a1]
      cases cb : h.testBit q <;> rw [cb] at hP <;> simpa [c] using hP
  · rw [if_neg r1] at hP
    rw [if_neg (fun e => r1 (s1.mp e))]
    by_cases r2 : r = 2
    · rw [if_pos r2] at hP
      rw [if_pos (s2.mpr r2)]
      unfold bk2 at hP
      refine am_wps 60 [] ?_
      simp only [J138_0, J138_1, J138_4, J138_5, J138_6, J138_7, J138_8, J138_40, J138_41, J138_44, J138_45, J138_48, J138_49, J138_50, J138_53, J138_54, J138_55, J138_56, J138_59, J138_62, J138_63, J138_66, J138_67, J138_68, J138_69, J138_72, J138_73, J138_74, J138_77, J138_80, J138_81, J138_84, J138_85, J138_86, J138_87, J138_90, J138_91, J138_92, J138_95, J138_96, J138_99, J138_100, J138_103, J138_104, J138_105, J138_106, J138_109, J138_110, J138_111, J138_112, J138_113, J138_114, J138_117, J138_120, J138_121, J138_122, J138_123, J138_124, J138_125, J138_128, J138_131, J138_132, J138_135, J138_136, J138_137, J138_138, J138_141, J138_142, J138_143, J138_144, J138_145, J138_148, J138_149, J138_152, J138_153, J138_154, J138_155, J138_156, J138_157, J138_160, J138_161, J138_164, J138_165, am_gg_c, am_gf_c, am_pf_c, am_af_c, am_sf_c, am_bf_c, am_qf_c, am_ap_c, am_bp_c, am_qp_c, am_lf_c, am_kt_s, am_kt_n, am_wst, am_wstop, am_ns_0, am_ns_1, Bool.not_true, Bool.not_false, Bool.true_and, Bool.false_and, Nat.reduceBEq, ↓reduceIte, am_k2_n, am_k2_i, am_k2_r, am_k2_u, am_k2_f, am_k2_l, Nat.zero_le, true_and, and_true, true_or, or_true, am_cat_0, am_cat_i, am_cat_r, am_cat_l, am_cat_n, Nat.reduceLeDiff, Nat.reduceAdd, Option.isSome_some, List.getElem?_cons_zero, List.getElem?_cons_succ, am_fit_i, am_fit_r, am_fit_a, h1]
      by_cases c : g q = 0
      · rw [if_neg (npos c)]
        simpa [c] using hP
      · rw [if_pos (pos c)]
        refine sp_isOwn (by omega) h1 hm ?_
        simp only [J138_0, J138_1, J138_4, J138_5, J138_6, J138_7, J138_8, J138_40, J138_41, J138_44, J138_45, J138_48, J138_49, J138_50, J138_53, J138_54, J138_55, J138_56, J138_59, J138_62, J138_63, J138_66, J138_67, J138_68, J138_69, J138_72, J138_73, J138_74, J138_77, J138_80, J138_81, J138_84, J138_85, J138_86, J138_87, J138_90, J138_91, J138_92, J138_95, J138_96, J138_99, J138_100, J138_103, J138_104, J138_105, J138_106, J138_109, J138_110, J138_111, J138_112, J138_113, J138_114, J138_117, J138_120, J138_121, J138_122, J138_123, J138_124, J138_125, J138_128, J138_131, J138_132, J138_135, J138_136, J138_137, J138_138, J138_141, J138_142, J138_143, J138_144, J138_145, J138_148, J138_149, J138_152, J138_153, J138_154, J138_155, J138_156, J138_157, J138_160, J138_161, J138_164, J138_165, am_gg_c, am_gf_c, am_pf_c, am_af_c, am_sf_c, am_bf_c, am_qf_c, am_ap_c, am_bp_c, am_qp_c, am_lf_c, am_kt_s, am_kt_n, am_wst, am_wstop, am_ns_0, am_ns_1, Bool.not_true, Bool.not_false, Bool.true_and, Bool.false_and, Nat.reduceBEq, ↓reduceIte, am_k2_n, am_k2_i, am_k2_r, am_k2_u, am_k2_f, am_k2_l, Nat.zero_le, true_and, and_true, true_or, or_true, am_cat_0, am_cat_i, am_cat_r, am_cat_l, am_cat_n, Nat.reduceLeDiff, Nat.reduceAdd, Option.isSome_some, List.getElem?_cons_zero, List.getElem?_cons_succ, am_fit_i, am_fit_r, am_fit_a]
        rw [ownB_n hd hd0 (by omega)]
        cases cb : d.testBit (g q) <;> rw [cb] at hP <;> simpa [c] using hP
    · rw [if_neg r2] at hP
      rw [if_neg (fun e => r2 (s2.mp e))]
      by_cases r3 : r = 3
      · rw [if_pos r3] at hP
        rw [if_pos (s3.mpr r3)]
        unfold bk3 at hP
        have htm := tmN_le (g := g) (w := g q) (q + 1)
        refine am_wps 60 [] ?_
        simp only [J138_0, J138_1, J138_4, J138_5, J138_6, J138_7, J138_8, J138_40, J138_41, J138_44, J138_45, J138_48, J138_49, J138_50, J138_53, J138_54, J138_55, J138_56, J138_59, J138_62, J138_63, J138_66, J138_67, J138_68, J138_69, J138_72, J138_73, J138_74, J138_77, J138_80, J138_81, J138_84, J138_85, J138_86, J138_87, J138_90, J138_91, J138_92, J138_95, J138_96, J138_99, J138_100, J138_103, J138_104, J138_105, J138_106, J138_109, J138_110, J138_111, J138_112, J138_113, J138_114, J138_117, J138_120, J138_121, J138_122, J138_123, J138_124, J138_125, J138_128, J138_131, J138_132, J138_135, J138_136, J138_137, J138_138, J138_141, J138_142, J138_143, J138_144, J138_145, J138_148, J138_149, J138_152, J138_153, J138_154, J138_155, J138_156, J138_157, J138_160, J138_161, J138_164, J138_165, am_gg_c, am_gf_c, am_pf_c, am_af_c, am_sf_c, am_bf_c, am_qf_c, am_ap_c, am_bp_c, am_qp_c, am_lf_c, am_kt_s, am_kt_n, am_wst, am_wstop, am_ns_0, am_ns_1, Bool.not_true, Bool.not_false, Bool.true_and, Bool.false_and, Nat.reduceBEq, ↓reduceIte, am_k2_n, am_k2_i, am_k2_r, am_k2_u, am_k2_f, am_k2_l, Nat.zero_le, true_and, and_true, true_or, or_true, am_cat_0, am_cat_i, am_cat_r, am_cat_l, am_cat_n, Nat.reduceLeDiff, Nat.reduceAdd, Option.isSome_some, List.getElem?_cons_zero, List.getElem?_cons_succ, am_fit_i, am_fit_r, am_fit_a, h1]
        by_cases c : g q = 0
        · rw [if_neg (npos c)]
          simpa [c] using hP
        · rw [if_pos (pos c)]
          refine sp_timesUpTo (by omega) h1 hl hL hg31 hq ?_
          simp only [J138_0, J138_1, J138_4, J138_5, J138_6, J138_7, J138_8, J138_40, J138_41, J138_44, J138_45, J138_48, J138_49, J138_50, J138_53, J138_54, J138_55, J138_56, J138_59, J138_62, J138_63, J138_66, J138_67, J138_68, J138_69, J138_72, J138_73, J138_74, J138_77, J138_80, J138_81, J138_84, J138_85, J138_86, J138_87, J138_90, J138_91, J138_92, J138_95, J138_96, J138_99, J138_100, J138_103, J138_104, J138_105, J138_106, J138_109, J138_110, J138_111, J138_112, J138_113, J138_114, J138_117, J138_120, J138_121, J138_122, J138_123, J138_124, J138_125, J138_128, J138_131, J138_132, J138_135, J138_136, J138_137, J138_138, J138_141, J138_142, J138_143, J138_144, J138_145, J138_148, J138_149, J138_152, J138_153, J138_154, J138_155, J138_156, J138_157, J138_160, J138_161, J138_164, J138_165, am_gg_c, am_gf_c, am_pf_c, am_af_c, am_sf_c, am_bf_c, am_qf_c, am_ap_c, am_bp_c, am_qp_c, am_lf_c, am_kt_s, am_kt_n, am_wst, am_wstop, am_ns_0, am_ns_1, Bool.not_true, Bool.not_false, Bool.true_and, Bool.false_and, Nat.reduceBEq, ↓reduceIte, am_k2_n, am_k2_i, am_k2_r, am_k2_u, am_k2_f, am_k2_l, Nat.zero_le, true_and, and_true, true_or, or_true, am_cat_0, am_cat_i, am_cat_r, am_cat_l, am_cat_n, Nat.reduceLeDiff, Nat.reduceAdd, Option.isSome_some, List.getElem?_cons_zero, List.getElem?_cons_succ, am_fit_i, am_fit_r, am_fit_a]
          by_cases c2 : 2 < tmN g (g q) (q + 1)
          · rw [if_pos (by rw [bi_lt, nI_toInt (by omega)]; show (2 : Int) < _; omega)]
            simpa [c, c2] using hP
          · rw [if_neg (by rw [bi_lt, nI_toInt (by omega)]; show ¬ (2 : Int) < _; omega)]
            simpa [c, c2] using hP
      · rw [if_neg r3] at hP
        rw [if_neg (fun e => r3 (s3.mp e))]
        by_cases r4 : r = 4
        · rw [if_pos r4] at hP
          rw [if_pos (s4.mpr r4)]
          unfold bk4 at hP
          refine am_wps 60 [] ?_
          simp only [J138_0, J138_1, J138_4, J138_5, J138_6, J138_7, J138_8, J138_40, J138_41, J138_44, J138_45, J138_48, J138_49, J138_50, J138_53, J138_54, J138_55, J138_56, J138_59, J138_62, J138_63, J138_66, J138_67, J138_68, J138_69, J138_72, J138_73, J138_74, J138_77, J138_80, J138_81, J138_84, J138_85, J138_86, J138_87, J138_90, J138_91, J138_92, J138_95, J138_96, J138_99, J138_100, J138_103, J138_104, J138_105, J138_106, J138_109, J138_110, J138_111, J138_112, J138_113, J138_114, J138_117, J138_120, J138_121, J138_122, J138_123, J138_124, J138_125, J138_128, J138_131, J138_132, J138_135, J138_136, J138_137, J138_138, J138_141, J138_142, J138_143, J138_144, J138_145, J138_148, J138_149, J138_152, J138_153, J138_154, J138_155, J138_156, J138_157, J138_160, J138_161, J138_164, J138_165, am_gg_c, am_gf_c, am_pf_c, am_af_c, am_sf_c, am_bf_c, am_qf_c, am_ap_c, am_bp_c, am_qp_c, am_lf_c, am_kt_s, am_kt_n, am_wst, am_wstop, am_ns_0, am_ns_1, Bool.not_true, Bool.not_false, Bool.true_and, Bool.false_and, Nat.reduceBEq, ↓reduceIte, am_k2_n, am_k2_i, am_k2_r, am_k2_u, am_k2_f, am_k2_l, Nat.zero_le, true_and, and_true, true_or, or_true, am_cat_0, am_cat_i, am_cat_r, am_cat_l, am_cat_n, Nat.reduceLeDiff, Nat.reduceAdd, Option.isSome_some, List.getElem?_cons_zero, List.getElem?_cons_succ, am_fit_i, am_fit_r, am_fit_a, h1]
          by_cases c : g q = 0
          · rw [if_neg (npos c)]
            simpa [c] using hP
          · rw [if_pos (pos c)]
            have t1 : (nI q - nI (g q)).toInt = (q : Int) - (g q : Int) := by rw [iI_n, iI_n, iI_sub, iI_toInt (by omega) (by omega)]
            have e1 : (inN (nI q - nI (g q)) l && g (nI q - nI (g q)).toInt.toNat == g q) = (decide (g q ≤ q) && g (q - g q) == g q) := by
              unfold inN
              rw [t1]
              by_cases z : g q ≤ q
              · rw [decide_eq_true (by omega), decide_eq_true z, show ((q : Int) - (g q : Int)).toNat = q - g q by omega]
              · rw [decide_eq_false (by omega), decide_eq_false z, Bool.false_and, Bool.false_and]
            refine sp_hasLooked (by omega) h1 hm hL hg31 (by omega) ?_
            rw [e1]
            simp only [J138_0, J138_1, J138_4, J138_5, J138_6, J138_7, J138_8, J138_40, J138_41, J138_44, J138_45, J138_48, J138_49, J138_50, J138_53, J138_54, J138_55, J138_56, J138_59, J138_62, J138_63, J138_66, J138_67, J138_68, J138_69, J138_72, J138_73, J138_74, J138_77, J138_80, J138_81, J138_84, J138_85, J138_86, J138_87, J138_90, J138_91, J138_92, J138_95, J138_96, J138_99, J138_100, J138_103, J138_104, J138_105, J138_106, J138_109, J138_110, J138_111, J138_112, J138_113, J138_114, J138_117, J138_120, J138_121, J138_122, J138_123, J138_124, J138_125, J138_128, J138_131, J138_132, J138_135, J138_136, J138_137, J138_138, J138_141, J138_142, J138_143, J138_144, J138_145, J138_148, J138_149, J138_152, J138_153, J138_154, J138_155, J138_156, J138_157, J138_160, J138_161, J138_164, J138_165, am_gg_c, am_gf_c, am_pf_c, am_af_c, am_sf_c, am_bf_c, am_qf_c, am_ap_c, am_bp_c, am_qp_c, am_lf_c, am_kt_s, am_kt_n, am_wst, am_wstop, am_ns_0, am_ns_1, Bool.not_true, Bool.not_false, Bool.true_and, Bool.false_and, Nat.reduceBEq, ↓reduceIte, am_k2_n, am_k2_i, am_k2_r, am_k2_u, am_k2_f, am_k2_l, Nat.zero_le, true_and, and_true, true_or, or_true, am_cat_0, am_cat_i, am_cat_r, am_cat_l, am_cat_n, Nat.reduceLeDiff, Nat.reduceAdd, Option.isSome_some, List.getElem?_cons_zero, List.getElem?_cons_succ, am_fit_i, am_fit_r, am_fit_a, h1]
            cases b1 : (decide (g q ≤ q) && g (q - g q) == g q) with
            | true =>
              rw [b1] at hP
              simp only [if_true, if_neg n0]
              simpa [c] using hP
            | false =>
              rw [b1] at hP
              simp only [Bool.false_eq_true, if_false, if_true]
              have e2 : (inN (nI (q + g q)) l && g (nI (q + g q)).toInt.toNat == g q) = (decide (q + g q < l) && g (q + g q) == g q) := by
                rw [inN_n (by omega), nI_toInt (by omega), Int.toNat_natCast]
              rw [nI_add]
              refine sp_hasLooked (by omega) h1 hm hL hg31 (by omega) ?_
              rw [e2]
              simp only [J138_0, J138_1, J138_4, J138_5, J138_6, J138_7, J138_8, J138_40, J138_41, J138_44, J138_45, J138_48, J138_49, J138_50, J138_53, J138_54, J138_55, J138_56, J138_59, J138_62, J138_63, J138_66, J138_67, J138_68, J138_69, J138_72, J138_73, J138_74, J138_77, J138_80, J138_81, J138_84, J138_85, J138_86, J138_87, J138_90, J138_91, J138_92, J138_95, J138_96, J138_99, J138_100, J138_103, J138_104, J138_105, J138_106, J138_109, J138_110, J138_111, J138_112, J138_113, J138_114, J138_117, J138_120, J138_121, J138_122, J138_123, J138_124, J138_125, J138_128, J138_131, J138_132, J138_135, J138_136, J138_137, J138_138, J138_141, J138_142, J138_143, J138_144, J138_145, J138_148, J138_149, J138_152, J138_153, J138_154, J138_155, J138_156, J138_157, J138_160, J138_161, J138_164, J138_165, am_gg_c, am_gf_c, am_pf_c, am_af_c, am_sf_c, am_bf_c, am_qf_c, am_ap_c, am_bp_c, am_qp_c, am_lf_c, am_kt_s, am_kt_n, am_wst, am_wstop, am_ns_0, am_ns_1, Bool.not_true, Bool.not_false, Bool.true_and, Bool.false_and, Nat.reduceBEq, ↓reduceIte, am_k2_n, am_k2_i, am_k2_r, am_k2_u, am_k2_f, am_k2_l, Nat.zero_le, true_and, and_true, true_or, or_true, am_cat_0, am_cat_i, am_cat_r, am_cat_l, am_cat_n, Nat.reduceLeDiff, Nat.reduceAdd, Option.isSome_some, List.getElem?_cons_zero, List.getElem?_cons_succ, am_fit_i, am_fit_r, am_fit_a, h1]
              cases b2 : (decide (q + g q < l) && g (q + g q) == g q) with
              | true =>
                rw [b2] at hP
                simp only [if_true, if_neg n0]
                simpa [c] using hP
              | false =>
                rw [b2] at hP
                simp only [Bool.false_eq_true, if_false, if_true]
                simpa [c] using hP
        · rw [if_neg r4] at hP
          rw [if_neg (fun e => r4 (s4.mp e))]
          unfold bk5 at hP
          have haf : af (3 + nI q).toNatClampNeg = nI (f q) := by rw [show (3 : Int32) = nI 3 by rfl, nI_add, nI_clamp (by omega)]; exact a5 q (by omega)
          have hin2 : vp_in (3 + nI q) 21 := vp_lit (k := 3 + q) (by rw [show (3 : Int32) = nI 3 by rfl, nI_add]) (by omega) (by omega)
          refine am_wps 60 [] ?_
          simp only [J138_0, J138_1, J138_4, J138_5, J138_6, J138_7, J138_8, J138_40, J138_41, J138_44, J138_45, J138_48, J138_49, J138_50, J138_53, J138_54, J138_55, J138_56, J138_59, J138_62, J138_63, J138_66, J138_67, J138_68, J138_69, J138_72, J138_73, J138_74, J138_77, J138_80, J138_81, J138_84, J138_85, J138_86, J138_87, J138_90, J138_91, J138_92, J138_95, J138_96, J138_99, J138_100, J138_103, J138_104, J138_105, J138_106, J138_109, J138_110, J138_111, J138_112, J138_113, J138_114, J138_117, J138_120, J138_121, J138_122, J138_123, J138_124, J138_125, J138_128, J138_131, J138_132, J138_135, J138_136, J138_137, J138_138, J138_141, J138_142, J138_143, J138_144, J138_145, J138_148, J138_149, J138_152, J138_153, J138_154, J138_155, J138_156, J138_157, J138_160, J138_161, J138_164, J138_165, am_gg_c, am_gf_c, am_pf_c, am_af_c, am_sf_c, am_bf_c, am_qf_c, am_ap_c, am_bp_c, am_qp_c, am_lf_c, am_kt_s, am_kt_n, am_wst, am_wstop, am_ns_0, am_ns_1, Bool.not_true, Bool.not_false, Bool.true_and, Bool.false_and, Nat.reduceBEq, ↓reduceIte, am_k2_n, am_k2_i, am_k2_r, am_k2_u, am_k2_f, am_k2_l, Nat.zero_le, true_and, and_true, true_or, or_true, am_cat_0, am_cat_i, am_cat_r, am_cat_l, am_cat_n, Nat.reduceLeDiff, Nat.reduceAdd, Option.isSome_some, List.getElem?_cons_zero, List.getElem?_cons_succ, am_fit_i, am_fit_r, am_fit_a, h1, a1, haf]
          refine ⟨hin2, ?_⟩
          by_cases c0 : f q = 0
          · rw [if_neg (by rw [c0]; decide)]
            simpa [c0] using hP
          · rw [if_pos (by rw [bi_lt, nI_toInt (by omega)]; show (0 : Int) < _; omega)]
            refine ⟨hin2, ?_⟩
            by_cases c1 : f q = g q
            · rw [if_pos (by rw [c1])]
              simpa [c1] using hP
            · rw [if_neg (fun e => c1 (bi_inj (by omega) (by omega) e))]
              simpa [c0, c1] using hP
end BK
