section RE
variable {l h d : Nat} {f : Nat → Nat} {ipb : Bool} {a b : List (Nat × Nat)}
theorem bg_mem (hl : l ≤ 18) (hd : d < 2 ^ 18) (hd0 : d.testBit 0 = false) (ha : a ∈ arrs ipb l h d f) {p w : Nat} (hp : (p, w) ∈ a) : bgN a w = p := nodup_key (arrs_arr hl hd hd0 ha).2 (bgN_of ⟨p, hp⟩) hp
theorem rev_of (hl : l ≤ 18) (hd : d < 2 ^ 18) (hd0 : d.testBit 0 = false) (ha : a ∈ arrs ipb l h d f) (hb : b ∈ arrs ipb l h d f) (hw : ∀ w, d.testBit w = true → bgN b w + bgN a w + w + 1 = l) {q : Nat} (hq : q < l) : rwN b q = rvN l a q := by
  have da := arrs_dis hl hd0 ha
  have db := arrs_dis hl hd0 hb
  unfold rvN
  by_cases c : rwN b q = 0
  · rw [c]
    symm
    apply Classical.byContradiction
    intro hn
    obtain ⟨p, h1, h2⟩ := rwN_ex da hn
    generalize rwN a (l - 1 - q) = w at *
    obtain ⟨_, _, _, r4, r5, r6⟩ := arrs_wit hl hd0 ha h1
    have e1 := bg_mem hl hd hd0 ha h1
    have e2 := hw w r4
    have hm := bgN_mem hd hb r4
    have : rwN b q = w := rwN_in db hm (by
      rcases h2 with z | z
      · exact Or.inr (by omega)
      · exact Or.inl (by omega))
    omega
  · obtain ⟨p, h1, h2⟩ := rwN_ex db c
    generalize rwN b q = w at *
    obtain ⟨_, _, _, r4, r5, r6⟩ := arrs_wit hl hd0 hb h1
    have e1 := bg_mem hl hd hd0 hb h1
    have e2 := hw w r4
    have hm := bgN_mem hd ha r4
    symm
    exact rwN_in da hm (by
      rcases h2 with z | z
      · exact Or.inr (by omega)
      · exact Or.inl (by omega))
theorem rev_to (hl : l ≤ 18) (hd : d < 2 ^ 18) (hd0 : d.testBit 0 = false) (ha : a ∈ arrs ipb l h d f) (hb : b ∈ arrs ipb l h d f) (hr : ∀ q, q < l → rwN b q = rvN l a q) {w : Nat} (hw : d.testBit w = true) : bgN b w + bgN a w + w + 1 = l := by
  have da := arrs_dis hl hd0 ha
  have db := arrs_dis hl hd0 hb
  have hm := bgN_mem hd ha hw
  obtain ⟨_, _, _, r4, r5, r6⟩ := arrs_wit hl hd0 ha hm
  have e1 : rwN b (l - 1 - bgN a w) = w := by
    rw [hr _ (by omega)]
    unfold rvN
    exact rwN_in da hm (Or.inl (by omega))
  have e2 : rwN b (l - 1 - bgN a w - w) = w := by
    rw [hr _ (by omega)]
    unfold rvN
    exact rwN_in da hm (Or.inr (by omega))
  obtain ⟨p1, u1, u2⟩ := rwN_ex db (q := l - 1 - bgN a w) (by omega)
  obtain ⟨p2, v1, v2⟩ := rwN_ex db (q := l - 1 - bgN a w - w) (by omega)
  rw [e1] at u1 u2
  rw [e2] at v1 v2
  have x1 := bg_mem hl hd hd0 hb u1
  have x2 := bg_mem hl hd hd0 hb v1
  unfold cvP at u2 v2
  omega
theorem rev_ex (hl1 : 1 ≤ l) (hl : l ≤ 18) (hd : d < 2 ^ 18) (hd0 : d.testBit 0 = false) (ha : a ∈ arrs true l h d f) (hv : vdI (bkN l h d f (rvN l a)) l = 0) : ∃ b, b ∈ arrs true l h d f ∧ ∀ q, q < l → rwN b q = rvN l a q := by
  have hv := vdI_0.mp hv
  have da := arrs_dis hl hd0 ha
  have g1 : ∀ q, q < l → (rvN l a q = 0 ↔ (frN l h).testBit q = false) := by
    intro q hq
    have := hv 1 (by omega) (by omega) q hq
    have : bk1 h (rvN l a) q = false := this
    unfold bk1 at this
    rw [frN_bit hl, decide_eq_true hq, Bool.true_and]
    by_cases z : rvN l a q = 0
    · rw [z] at this
      simp at this
      simp [z, this]
    · have z1 : (rvN l a q == 0) = false := by simpa using z
      rw [z1] at this
      simp at this
      simp [z, this]
  have g5 : ∀ q, q < l → f q = 0 ∨ f q = rvN l a q := by
    intro q hq
    have := hv 5 (by omega) (by omega) q hq
    have : bk5 f (rvN l a) q = false := this
    unfold bk5 at this
    by_cases z : f q = 0
    · exact Or.inl z
    · right
      have z1 : (f q == 0) = false := by simpa using z
      rw [z1] at this
      simpa using this
  have key : ∀ w, d.testBit w = true → (bgN a w, w) ∈ a ∧ 0 < w ∧ bgN a w + w < l := fun w hw => by
    have hm := bgN_mem hd ha hw
    obtain ⟨_, _, _, r4, r5, r6⟩ := arrs_wit hl hd0 ha hm
    exact ⟨hm, r5, r6⟩
  have rv1 : ∀ w, d.testBit w = true → ∀ q, cvP q (l - 1 - w - bgN a w) w → q < l ∧ rvN l a q = w := by
    intro w hw q hq
    obtain ⟨hm, w0, wl⟩ := key w hw
    have hql : q < l := by rcases hq with z | z <;> omega
    refine ⟨hql, ?_⟩
    unfold rvN
    refine rwN_in da hm ?_
    rcases hq with z | z
    · exact Or.inr (by omega)
    · exact Or.inl (by omega)
  have ha2 := ha
  unfold arrs at ha2
  split at ha2
  · next c =>
    rw [Bool.and_eq_true] at c
    have hk2 : (bl (frN l h)).length = 2 * (bl d).length := by simpa [filledB] using c.1
    obtain ⟨b, b1, b2⟩ := ens_all (ok := okB true f) (s := fun w => l - 1 - w - bgN a w) (bl d).length (frN l h) d (frN_lt hl) hd hd0 rfl hk2 (fun w hw => by
      obtain ⟨hm, w0, wl⟩ := key w hw
      obtain ⟨x1, x2⟩ := rv1 w hw _ (Or.inl rfl)
      obtain ⟨y1, y2⟩ := rv1 w hw _ (Or.inr rfl)
      refine ⟨?_, ?_, ?_⟩
      · cases z : (frN l h).testBit (l - 1 - w - bgN a w) with
        | true => rfl
        | false => have := (g1 _ x1).mpr z; omega
      · cases z : (frN l h).testBit (l - 1 - w - bgN a w + w) with
        | true => rfl
        | false => have := (g1 _ y1).mpr z; omega
      · unfold okB pnB
        have t1 := g5 _ x1
        have t2 := g5 _ y1
        rw [x2] at t1
        rw [y2] at t2
        rcases t1 with t1 | t1 <;> rcases t2 with t2 | t2 <;> simp [t1, t2]) (fun w v hw hv2 q c1 c2 => by
      have := (rv1 w hw q c1).2
      have := (rv1 v hv2 q c2).2
      omega) (fun q hq => by
      have hql : q < l := by
        rw [frN_bit hl, Bool.and_eq_true, decide_eq_true_eq] at hq
        exact hq.1
      have hn : rvN l a q ≠ 0 := fun z => by
        have := (g1 q hql).mp z
        rw [hq] at this; cases this
      unfold rvN at hn
      obtain ⟨p, u1, u2⟩ := rwN_ex da hn
      generalize rwN a (l - 1 - q) = w at *
      obtain ⟨_, _, _, r4, r5, r6⟩ := arrs_wit hl hd0 ha u1
      have e1 := bg_mem hl hd hd0 ha u1
      refine ⟨w, r4, ?_⟩
      rw [e1]
      rcases u2 with z | z
      · exact Or.inr (by omega)
      · exact Or.inl (by omega))
    have hb : b ∈ arrs true l h d f := by
      unfold arrs
      rw [if_pos (by rw [c.1, c.2]; rfl)]
      exact b1
    refine ⟨b, hb, fun q hq => rev_of hl hd hd0 ha hb (fun w hw => ?_) hq⟩
    obtain ⟨hm, w0, wl⟩ := key w hw
    have e1 := bg_mem hl hd hd0 hb (b2 w hw)
    omega
  · cases ha2
theorem arrs_sorted (hl : l ≤ 18) (hd0 : d.testBit 0 = false) : (arrs ipb l h d f).Pairwise LX := by
  unfold arrs
  split
  · next c =>
    rw [Bool.and_eq_true] at c
    exact ens_sorted _ _ _ (frN_lt hl) hd0 (by simpa [filledB] using c.1)
  · exact List.Pairwise.nil
theorem LX_asym (h1 : LX a b) (h2 : LX b a) : False := by
  obtain ⟨q, _, a2, a3⟩ := h1
  obtain ⟨p, _, b2, b3⟩ := h2
  rcases Nat.lt_trichotomy q p with z | z | z
  · have := b2 q z; omega
  · subst z; omega
  · have := a2 p z; omega
theorem lxB_s {x y : Nat → Nat} : ∀ (k i : Nat), lxB x y k i = true ↔ ∃ q, i ≤ q ∧ q < i + k ∧ (∀ q', i ≤ q' → q' < q → x q' = y q') ∧ x q < y q
  | 0, i => by
    unfold lxB
    constructor
    · intro h; cases h
    · rintro ⟨q, h1, h2, _⟩; omega
  | k + 1, i => by
    unfold lxB
    by_cases c : x i = y i
    · rw [if_pos c, lxB_s k (i + 1)]
      constructor
      · rintro ⟨q, h1, h2, h3, h4⟩
        refine ⟨q, by omega, by omega, fun q' h5 h6 => ?_, h4⟩
        by_cases e : q' = i
        · rw [e]; exact c
        · exact h3 q' (by omega) h6
      · rintro ⟨q, h1, h2, h3, h4⟩
        have : q ≠ i := fun e => by rw [e] at h4; omega
        exact ⟨q, by omega, by omega, fun q' h5 h6 => h3 q' (by omega) h6, h4⟩
    · rw [if_neg c, decide_eq_true_eq]
      constructor
      · intro h
        exact ⟨i, by omega, by omega, fun q' h5 h6 => by omega, h⟩
      · rintro ⟨q, h1, h2, h3, h4⟩
        by_cases e : q = i
        · rw [← e]; exact h4
        · exact absurd (h3 i (by omega) (by omega)) c
theorem clB_s (hl1 : 1 ≤ l) (hl : l ≤ 18) (hd : d < 2 ^ 18) (hd0 : d.testBit 0 = false) {k : Nat} (hk : (arrs true l h d f)[k]? = some a) : clB l h d f a = true ↔ ∀ k' b, k' < k → (arrs true l h d f)[k']? = some b → ¬ ∀ q, q < l → rwN b q = rvN l a q := by
  have ha := List.mem_of_getElem? hk
  have hs := List.pairwise_iff_getElem.mp (arrs_sorted (ipb := true) (h := h) (f := f) hl hd0)
  have hsx : ∀ {i j : Nat} {x y : List (Nat × Nat)}, (arrs true l h d f)[i]? = some x → (arrs true l h d f)[j]? = some y → i < j → LX x y := by
    intro i j x y hi hj hij
    obtain ⟨i1, i2⟩ := List.getElem?_eq_some_iff.mp hi
    obtain ⟨j1, j2⟩ := List.getElem?_eq_some_iff.mp hj
    have := hs i j i1 j1 hij
    rw [i2, j2] at this
    exact this
  have hrow0 : ∀ {x : List (Nat × Nat)}, x ∈ arrs true l h d f → ∀ q, l ≤ q → rwN x q = 0 := fun hx q hq => arrs_hole hl hd0 hx (by rw [frN_bit hl, decide_eq_false (by omega)]; rfl)
  have hlx : ∀ {b : List (Nat × Nat)}, (∀ q, q < l → rwN b q = rvN l a q) → b ∈ arrs true l h d f → (lxB (rvN l a) (rwN a) l 0 = true ↔ LX b a) := by
    intro b hb hbm
    rw [lxB_s]
    constructor
    · rintro ⟨q, _, h2, h3, h4⟩
      refine ⟨q, by omega, fun q' h' => ?_, ?_⟩
      · rw [hb q' (by omega)]; exact h3 q' (by omega) h'
      · rw [hb q (by omega)]; exact h4
    · rintro ⟨q, h1, h2, h3⟩
      have hql : q < l := by
        rcases Nat.lt_or_ge q l with z | z
        · exact z
        · rw [hrow0 ha q z] at h3; omega
      refine ⟨q, by omega, by omega, fun q' _ h' => ?_, ?_⟩
      · rw [← hb q' (by omega)]; exact h2 q' h'
      · rw [← hb q hql]; exact h3
  unfold clB
  rw [Bool.not_eq_true', Bool.and_eq_false_iff, decide_eq_false_iff_not]
  constructor
  · intro hc k' b hk' hb hr
    have hbm := List.mem_of_getElem? hb
    have hv : vdI (bkN l h d f (rvN l a)) l = 0 := vdI_0.mpr (fun r _ _ q hq => arr_good hl hd hd0 hbm (fun q hq => (hr q hq).symm) hq)
    have hx := (hlx hr hbm).mpr (hsx hb hk hk')
    rcases hc with z | z
    · rw [hx] at z; cases z
    · exact z hv
  · intro hc
    by_cases hv : vdI (bkN l h d f (rvN l a)) l = 0
    · left
      obtain ⟨b, hbm, hr⟩ := rev_ex hl1 hl hd hd0 ha hv
      obtain ⟨k', hk'⟩ := List.getElem?_of_mem hbm
      cases z : lxB (rvN l a) (rwN a) l 0 with
      | false => rfl
      | true =>
        exfalso
        have hx := (hlx hr hbm).mp z
        rcases Nat.lt_trichotomy k' k with y | y | y
        · exact hc k' b y hk' hr
        · subst y
          rw [hk] at hk'
          cases hk'
          exact LX_asym hx hx
        · exact LX_asym hx (hsx hk hk' y)
    · exact Or.inr hv
end RE
