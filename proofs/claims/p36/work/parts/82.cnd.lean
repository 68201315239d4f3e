theorem psm_sub {m p : Nat} (h : m.testBit p = true) : ∀ n, psm (m - 2 ^ p) n + (if p < n then p else 0) = psm m n
  | 0 => by simp [psm]
  | n + 1 => by
    have ih := psm_sub h n
    show psm (m - 2 ^ p) n + (if (m - 2 ^ p).testBit n = true then n else 0) + (if p < n + 1 then p else 0) = psm m n + (if m.testBit n = true then n else 0)
    rw [bt_sub h]
    by_cases c : n = p
    · subst c
      rw [if_neg (show ¬ n < n by omega)] at ih
      rw [h, if_pos (show n < n + 1 by omega)]
      simp
      omega
    · have e : (m.testBit n && !decide (n = p)) = m.testBit n := by simp [c]
      rw [e]
      by_cases c2 : p < n
      · rw [if_pos c2] at ih
        rw [if_pos (show p < n + 1 by omega)]
        omega
      · rw [if_neg c2] at ih
        rw [if_neg (show ¬ p < n + 1 by omega)]
        omega
theorem ens_st {ok : Nat → Nat → Bool} : ∀ (k O m : Nat), O < 2 ^ 18 → m < 2 ^ 18 → m.testBit 0 = false → (bl m).length = k → (bl O).length = 2 * k → ∀ a ∈ ens ok k O m, ∃ T, T < 2 ^ 18 ∧ (∀ q, T.testBit q = true → O.testBit q = true) ∧ (bl T).length = k ∧ psm O 18 = 2 * psm T 18 + psm m 18
  | 0, O, m, hO, hm, h0, hk, hk2, a, ha => by
    have e1 : m = 0 := bl_zero hm (List.length_eq_zero_iff.mp hk)
    have e2 : O = 0 := bl_zero hO (List.length_eq_zero_iff.mp (by omega))
    subst e1 e2
    exact ⟨0, by omega, fun q h => h, by decide +kernel, by decide +kernel⟩
  | k + 1, O, m, hO, hm, h0, hk, hk2, a, ha => by
    have hne : bl O ≠ [] := fun q => by rw [q] at hk2; simp at hk2
    obtain ⟨l1, l2, l3⟩ := lo_s hne
    unfold ens at ha
    rw [List.mem_flatMap] at ha
    obtain ⟨e, he, h2⟩ := ha
    split at h2
    · next c =>
      rw [Bool.and_eq_true, Bool.and_eq_true] at c
      rw [List.mem_map] at h2
      obtain ⟨b, hb, rfl⟩ := h2
      have he18 := List.mem_range.mp he
      have e0 : 0 < e := by
        rcases Nat.eq_zero_or_pos e with z | z
        · rw [z, h0] at c; cases c.1
        · exact z
      have h18 : lo O + e < 18 := by
        rcases Nat.lt_or_ge (lo O + e) 18 with z | z
        · exact z
        · rw [bt_hi hO z] at c; cases c.2.1
      have hl2 := bl_sub2_len l2 h18 l1 c.2.1 (by omega)
      have hl1 := bl_sub_len he18 c.1
      have t := (bt_two_s l1 c.2.1 (by omega)).2
      obtain ⟨T, t1, t2, t3, t4⟩ := ens_st k (O - (2 ^ lo O + 2 ^ (lo O + e))) (m - 2 ^ e) (Nat.lt_of_le_of_lt (Nat.sub_le _ _) hO) (Nat.lt_of_le_of_lt (Nat.sub_le _ _) hm) (by rw [bt_sub c.1, h0]; rfl) (by omega) (by omega) b hb
      have hTp : T.testBit (lo O) = false := by
        cases z : T.testBit (lo O) with
        | false => rfl
        | true =>
          have := t2 _ z
          rw [t] at this
          simp at this
      have hb := bt_add hTp
      have hTb : (T + 2 ^ lo O).testBit (lo O) = true := by rw [hb]; simp
      have hT18 : T + 2 ^ lo O < 2 ^ 18 := by
        apply Nat.lt_pow_two_of_testBit
        intro i hi
        rw [hb, bt_hi t1 hi, decide_eq_false (by omega)]; rfl
      have hTl := bl_sub_len l2 hTb
      rw [Nat.add_sub_cancel] at hTl
      refine ⟨T + 2 ^ lo O, hT18, fun q hq => ?_, by omega, ?_⟩
      · rw [hb] at hq
        simp only [Bool.or_eq_true, decide_eq_true_eq] at hq
        rcases hq with z | z
        · have := t2 q z
          rw [t] at this
          simp only [Bool.and_eq_true] at this
          exact this.1.1
        · rw [z]; exact l1
      · have s1 := psm_sub hTb 18
        rw [Nat.add_sub_cancel, if_pos l2] at s1
        have s2 := psm_sub c.1 18
        rw [if_pos he18] at s2
        have s3 := psm_sub l1 18
        rw [if_pos l2] at s3
        have hb2 : (O - 2 ^ lo O).testBit (lo O + e) = true := by rw [bt_sub l1, c.2.1]; simp; omega
        have s4 := psm_sub hb2 18
        rw [if_pos h18, show O - 2 ^ lo O - 2 ^ (lo O + e) = O - (2 ^ lo O + 2 ^ (lo O + e)) by omega] at s4
        omega
    · cases h2
theorem ens_cov {ok : Nat → Nat → Bool} : ∀ (k O m : Nat), O < 2 ^ 18 → m.testBit 0 = false → (bl O).length = 2 * k → ∀ a ∈ ens ok k O m, ∀ q, O.testBit q = true → ∃ p w, (p, w) ∈ a ∧ (q = p ∨ q = p + w)
  | 0, O, m, hO, h0, hk2, a, ha, q, hq => by
    have e2 : O = 0 := bl_zero hO (List.length_eq_zero_iff.mp (by omega))
    rw [e2, Nat.zero_testBit] at hq
    cases hq
  | k + 1, O, m, hO, h0, hk2, a, ha, q, hq => by
    have hne : bl O ≠ [] := fun q => by rw [q] at hk2; simp at hk2
    obtain ⟨l1, l2, l3⟩ := lo_s hne
    unfold ens at ha
    rw [List.mem_flatMap] at ha
    obtain ⟨e, he, h2⟩ := ha
    split at h2
    · next c =>
      rw [Bool.and_eq_true, Bool.and_eq_true] at c
      rw [List.mem_map] at h2
      obtain ⟨b, hb, rfl⟩ := h2
      have e0 : 0 < e := by
        rcases Nat.eq_zero_or_pos e with z | z
        · rw [z, h0] at c; cases c.1
        · exact z
      have h18 : lo O + e < 18 := by
        rcases Nat.lt_or_ge (lo O + e) 18 with z | z
        · exact z
        · rw [bt_hi hO z] at c; cases c.2.1
      have hl2 := bl_sub2_len l2 h18 l1 c.2.1 (by omega)
      have t := (bt_two_s l1 c.2.1 (by omega)).2
      by_cases z1 : q = lo O
      · exact ⟨_, _, List.mem_cons_self, Or.inl z1⟩
      · by_cases z2 : q = lo O + e
        · exact ⟨_, _, List.mem_cons_self, Or.inr z2⟩
        · obtain ⟨p, w, r1, r2⟩ := ens_cov k (O - (2 ^ lo O + 2 ^ (lo O + e))) (m - 2 ^ e) (Nat.lt_of_le_of_lt (Nat.sub_le _ _) hO) (by rw [bt_sub c.1, h0]; rfl) (by omega) b hb q (by rw [t, hq]; simp [z1, z2])
          exact ⟨p, w, List.mem_cons_of_mem _ r1, r2⟩
    · cases h2
def loS (O k : Nat) : Nat → Nat
  | 0 => 0
  | t + 1 => loS O k t + (if O.testBit t = true ∧ (blb O t).length < k then t else 0)
theorem blb_len (O t : Nat) : (blb O (t + 1)).length = (blb O t).length + (if O.testBit t = true then 1 else 0) := by
  rw [blb_s, List.length_append]
  split <;> rfl
theorem gS_lo (O k : Nat) : ∀ t, (gS O k t).1 = (blb O t).length ∧ (gS O k t).2 = (psm O t : Int) - 2 * (loS O k t : Int)
  | 0 => ⟨rfl, rfl⟩
  | t + 1 => by
    obtain ⟨a, b⟩ := gS_lo O k t
    have e1 := blb_len O t
    have e2 : psm O (t + 1) = psm O t + (if O.testBit t = true then t else 0) := rfl
    have e3 : loS O k (t + 1) = loS O k t + (if O.testBit t = true ∧ (blb O t).length < k then t else 0) := rfl
    unfold gS
    by_cases c : O.testBit t = true
    · rw [if_pos c]
      rw [if_pos c] at e1 e2
      simp only
      refine ⟨by omega, ?_⟩
      rw [a, b, e2, e3]
      by_cases c2 : (blb O t).length < k
      · rw [if_pos c2, if_pos ⟨c, c2⟩]; omega
      · rw [if_neg c2, if_neg (fun z => c2 z.2)]; omega
    · rw [if_neg c]
      rw [if_neg c] at e1 e2
      refine ⟨by omega, ?_⟩
      rw [b, e2, e3, if_neg (fun z => c z.1)]
      omega
theorem loS_le {O k T : Nat} (hs : ∀ q, T.testBit q = true → O.testBit q = true) (hT : ∀ t, (blb T t).length ≤ k) : ∀ t, (blb T t).length ≤ min (blb O t).length k ∧ loS O k t ≤ psm T t + (min (blb O t).length k - (blb T t).length) * t
  | 0 => ⟨by simp [blb], by simp [loS]⟩
  | t + 1 => by
    obtain ⟨a, b⟩ := loS_le hs hT t
    have e1 := blb_len O t
    have e4 := blb_len T t
    have e2 : psm T (t + 1) = psm T t + (if T.testBit t = true then t else 0) := rfl
    have e3 : loS O k (t + 1) = loS O k t + (if O.testBit t = true ∧ (blb O t).length < k then t else 0) := rfl
    have hTk := hT (t + 1)
    by_cases c : O.testBit t = true
    · rw [if_pos c] at e1
      by_cases c2 : (blb O t).length < k
      · rw [if_pos ⟨c, c2⟩] at e3
        by_cases c3 : T.testBit t = true
        · rw [if_pos c3] at e4 e2
          refine ⟨by omega, ?_⟩
          have : min (blb O (t + 1)).length k - (blb T (t + 1)).length = min (blb O t).length k - (blb T t).length := by omega
          rw [this, Nat.mul_succ]
          omega
        · rw [if_neg c3] at e4 e2
          refine ⟨by omega, ?_⟩
          have : min (blb O (t + 1)).length k - (blb T (t + 1)).length = min (blb O t).length k - (blb T t).length + 1 := by omega
          rw [this, Nat.add_mul, Nat.mul_succ, Nat.one_mul]
          omega
      · rw [if_neg (fun z => c2 z.2)] at e3
        by_cases c3 : T.testBit t = true
        · rw [if_pos c3] at e4 e2
          refine ⟨by omega, ?_⟩
          have h1 : min (blb O t).length k - (blb T t).length = (min (blb O (t + 1)).length k - (blb T (t + 1)).length) + 1 := by omega
          rw [h1, Nat.add_mul, Nat.one_mul] at b
          rw [Nat.mul_succ]
          omega
        · rw [if_neg c3] at e4 e2
          refine ⟨by omega, ?_⟩
          have : min (blb O (t + 1)).length k - (blb T (t + 1)).length = min (blb O t).length k - (blb T t).length := by omega
          rw [this, Nat.mul_succ]
          omega
    · rw [if_neg c] at e1
      rw [if_neg (fun z => c z.1)] at e3
      have c3 : ¬ T.testBit t = true := fun z => c (hs t z)
      rw [if_neg c3] at e4 e2
      refine ⟨by omega, ?_⟩
      have : min (blb O (t + 1)).length k - (blb T (t + 1)).length = min (blb O t).length k - (blb T t).length := by omega
      rw [this, Nat.mul_succ]
      omega
theorem blb_mono (T : Nat) : ∀ {m t : Nat}, t ≤ m → (blb T t).length ≤ (blb T m).length
  | m, t, h => by
    obtain ⟨Z, hZ⟩ := blb_pre (d := T) h
    rw [hZ, List.length_append]
    omega
theorem blb_hi {T : Nat} (hT : T < 2 ^ 18) (n : Nat) : blb T (18 + n) = blb T 18 := by
  induction n with
  | zero => rfl
  | succ n ih =>
    show blb T (18 + n + 1) = _
    rw [blb_s, ih, bt_hi hT (by omega)]
    simp
theorem gS_hi {F half l : Nat} (h : ∀ q, l ≤ q → F.testBit q = false) : ∀ n, gS F half (l + n) = gS F half l
  | 0 => rfl
  | n + 1 => by
    have e : gS F half (l + n + 1) = if F.testBit (l + n) = true then ((gS F half (l + n)).1 + 1, (gS F half (l + n)).2 + (if (gS F half (l + n)).1 < half then -((l + n : Nat) : Int) else ((l + n : Nat) : Int))) else gS F half (l + n) := rfl
    show gS F half (l + n + 1) = _
    rw [e, h (l + n) (by omega), gS_hi h n]
    simp
theorem short_ok {l h d k : Nat} {ok : Nat → Nat → Bool} {a : List (Nat × Nat)} (hl : l ≤ 18) (hd : d < 2 ^ 18) (hd0 : d.testBit 0 = false) (hk : (bl d).length = k) (hk2 : (bl (frN l h)).length = 2 * k) (ha : a ∈ ens ok k (frN l h) d) : 0 ≤ shN l h d ∧ (bsm (frN l h) 0 31 + bsm d 0 31) % 2 = 0 := by
  obtain ⟨T, t1, t2, t3, t4⟩ := ens_st k (frN l h) d (frN_lt hl) hd hd0 hk hk2 a ha
  have e1 := psm_eq (m := frN l h) (k := 18) (by omega) (fun q hq => bt_hi (frN_lt hl) hq)
  have e2 := psm_eq (m := d) (k := 18) (by omega) (fun q hq => bt_hi hd hq)
  have g := gS_hi (F := frN l h) (half := (bl (frN l h)).length / 2) (l := l) (fun q hq => by rw [frN_bit hl, decide_eq_false (by omega)]; rfl) (18 - l)
  rw [show l + (18 - l) = 18 by omega] at g
  have hT : ∀ t, (blb T t).length ≤ k := fun t => by
    rcases Nat.le_total t 18 with z | z
    · have := blb_mono T z
      rw [blb_18, t3] at this
      exact this
    · have := blb_hi t1 (t - 18)
      rw [show 18 + (t - 18) = t by omega] at this
      rw [this, blb_18, t3]
      exact Nat.le_refl _
  have hL := (loS_le t2 hT 18).2
  rw [blb_18, blb_18, t3, hk2, show min (2 * k) k - k = 0 by omega, Nat.zero_mul, Nat.add_zero] at hL
  have hg := (gS_lo (frN l h) k 18).2
  refine ⟨?_, by omega⟩
  unfold shN
  rw [← g, hk2, show 2 * k / 2 = k by omega, hg]
  omega
theorem bad_of {h d n q : Nat} {f : Nat → Nat} (hq : q < n) (hf : f q ≠ 0) (hb : (h.testBit q || !d.testBit (f q)) = true) : badP h d f n = true := by
  unfold badP
  rw [List.any_eq_true]
  exact ⟨q, List.mem_range.mpr hq, by rw [hb]; simpa using hf⟩
theorem srL_eq {l h d : Nat} {f : Nat → Nat} (hl : l ≤ 18) (hd : d < 2 ^ 18) (hd0 : d.testBit 0 = false) (h8 : (bl d).length ≤ 8) : srL l h d f = (arrs true l h d f).map (pkA d) ∧ (arrs true l h d f ≠ [] → mbsB l h d f = true) := by
  unfold srL arrs mbsB
  by_cases c : filledB l h d = true
  · have hk2 : (bl (frN l h)).length = 2 * (bl d).length := by simpa [filledB] using c
    have hfl := fl_ens (f := f) hl hd hd0 h8 (bl d).length (frN l h) (2 ^ (bl d).length - 1) d 0 (frN_lt hl) (fun q hq => hq) (by have := Nat.two_pow_pos (bl d).length; omega) hd (fun w hw => hw) (fun i hi => by rw [(dd_mem hi).2, Nat.testBit_two_pow_sub_one]; simp [hi]) rfl hk2
    have e0 : (fun a => 0 ||| pkA d a) = pkA d := by funext a; rw [Nat.zero_or]
    rw [e0] at hfl
    rw [c, hfl]
    cases hE : ens (okB true f) (bl d).length (frN l h) d with
    | nil => simp
    | cons a R =>
      have ha : a ∈ ens (okB true f) (bl d).length (frN l h) d := by rw [hE]; exact List.mem_cons_self
      obtain ⟨s1, s2⟩ := short_ok hl hd hd0 rfl hk2 ha
      rw [decide_eq_true s1, decide_eq_true s2]
      by_cases p : mkm (fun q => !(f q == 0)) l &&& h = 0
      · have hb : badP h d f l = false := by
          cases z : badP h d f l with
          | false => rfl
          | true =>
            exfalso
            unfold badP at z
            rw [List.any_eq_true] at z
            obtain ⟨q, hq, hz⟩ := z
            have hql := List.mem_range.mp hq
            rw [Bool.and_eq_true] at hz
            obtain ⟨z1, z2⟩ := hz
            have hh : h.testBit q = false := by
              have := congrArg (fun t => t.testBit q) p
              simp only [Nat.testBit_and, Nat.zero_testBit, mkm_bit] at this
              rw [decide_eq_true hql, z1] at this
              simpa using this
            have hF : (frN l h).testBit q = true := by rw [frN_bit hl, decide_eq_true hql, hh]; rfl
            obtain ⟨pp, w, r1, r2⟩ := ens_cov _ _ _ (frN_lt hl) hd0 hk2 a ha q hF
            obtain ⟨u1, u2, u3, u4, u5⟩ := ens_wit _ _ _ (frN_lt hl) hd0 hk2 a ha pp w r1
            unfold okB pnB at u3
            rw [hh, Bool.false_or] at z2
            have hfw : f q = w := by
              have z1 : f q ≠ 0 := by simpa using z1
              rw [Bool.and_eq_true] at u3
              rcases r2 with e | e
              · rw [← e] at u3
                simpa [z1] using u3.1
              · rw [← e] at u3
                simpa [z1] using u3.2
            rw [hfw, u4] at z2
            cases z2
        rw [decide_eq_true p, hb]
        simp
      · have hb : badP h d f l = true := by
          have : ∃ q, (mkm (fun q => !(f q == 0)) l &&& h).testBit q = true := by
            apply Classical.byContradiction
            intro hn
            apply p
            apply Nat.eq_of_testBit_eq
            intro i
            rw [Nat.zero_testBit]
            cases z : (mkm (fun q => !(f q == 0)) l &&& h).testBit i with
            | false => rfl
            | true => exact absurd ⟨i, z⟩ hn
          obtain ⟨q, hq⟩ := this
          rw [Nat.testBit_and, mkm_bit, Bool.and_eq_true, Bool.and_eq_true, decide_eq_true_eq] at hq
          exact bad_of hq.1.1 (by simpa using hq.1.2) (by rw [hq.2]; rfl)
        rw [decide_eq_false p, hb]
        simp
  · have c : filledB l h d = false := by simpa using c
    rw [c]
    simp

