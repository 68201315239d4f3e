/-! both states -/
theorem fcI_bit {x y : Nat → Nat} {s : Nat} (hs : s < 2 ^ 32) : ∀ k q, (fcI x y s k).testBit q = (s.testBit q && (!decide (q < k) || (x q == y q)))
  | 0, q => by simp [fcI]
  | k + 1, q => by
    have ih := fcI_bit (x := x) (y := y) hs k q
    have hle := fcI_le x y s k
    unfold fcI
    by_cases c : x k = y k
    · rw [if_pos c, ih]
      by_cases e : q = k
      · subst e
        simp [c]
      · congr 2
        rw [decide_eq_decide.mpr (show q < k ↔ q < k + 1 by omega)]
    · rw [if_neg c]
      have hb : (fcI x y s k &&& (2 ^ k ^^^ 4294967295)).testBit q = ((fcI x y s k).testBit q && !decide (q = k)) := by
        rw [Nat.testBit_and, Nat.testBit_xor, Nat.testBit_two_pow, show (4294967295 : Nat) = 2 ^ 32 - 1 by rfl, Nat.testBit_two_pow_sub_one]
        by_cases hq : q < 32
        · rw [decide_eq_true hq]
          by_cases e : q = k
          · subst e; simp
          · simp [e, Ne.symm e]
        · rw [bt_hi (show fcI x y s k < 2 ^ 32 by omega) (show 32 ≤ q by omega)]; simp
      rw [hb, ih]
      by_cases e : q = k
      · subst e
        have : (x q == y q) = false := by simpa using c
        rw [this]
        simp
      · have e2 : decide (q < k) = decide (q < k + 1) := decide_eq_decide.mpr (by omega)
        rw [decide_eq_false e, e2]
        simp
theorem fcR_bit {y : Nat → Nat} {l q : Nat} : ∀ (R : List (List (Nat × Nat))) (s : Nat), s < 2 ^ 32 → (fcR y l R s).testBit q = (s.testBit q && R.all (fun b => !decide (q < l) || (rwN b q == y q)))
  | [], s, _ => by simp [fcR]
  | a :: R, s, hs => by
    unfold fcR
    rw [fcR_bit R _ (Nat.lt_of_le_of_lt (fcI_le _ _ _ _) hs), fcI_bit hs, List.all_cons, Bool.and_assoc]
theorem opA_bit {x w : Nat} : ∀ (A : List (List (Nat × Nat))) (c : Nat), (opA x A c).testBit w = (c.testBit w || (!decide (w = 0) && A.any (fun b => rwN b x == w)))
  | [], c => by simp [opA]
  | a :: A, c => by
    unfold opA
    rw [opA_bit A, Nat.testBit_or, List.any_cons, Bool.or_assoc]
    congr 1
    by_cases e : rwN a x = 0
    · rw [if_pos e, Nat.zero_testBit, Bool.false_or, e]
      by_cases z : w = 0
      · simp [z]
      · have : ((0 : Nat) == w) = false := by simpa using Ne.symm z
        rw [this, Bool.false_or]
    · rw [if_neg e, Nat.testBit_two_pow]
      by_cases z : w = rwN a x
      · subst z
        simp [e]
      · have : (rwN a x == w) = false := by simpa using Ne.symm z
        rw [this, decide_eq_false (Ne.symm z)]
        simp
theorem bl_pow : ∀ v, v < 18 → (bl (2 ^ v)).length = 1 := by decide +kernel
theorem forced_eq {l h d : Nat} {f : Nat → Nat} (hl : l ≤ 18) (hd0 : d.testBit 0 = false) : mkm (fcB (arrs true l h d f)) l = fcA l h (arrs true l h d f) := by
  have hfr := frN_lt (h := h) hl
  apply Nat.eq_of_testBit_eq
  intro q
  rw [mkm_bit]
  unfold fcB
  have rows : ∀ {b : List (Nat × Nat)}, b ∈ arrs true l h d f → ((frN l h).testBit q = true → rwN b q ≠ 0) ∧ ((frN l h).testBit q = false → rwN b q = 0) := fun hb => ⟨fun hF => (arrs_free hl hd0 hb hF).1, fun hF => arrs_hole hl hd0 hb hF⟩
  have lts : ∀ {b : List (Nat × Nat)}, b ∈ arrs true l h d f → rwN b q < 18 := fun hb => rwN_lt hb
  revert rows lts
  generalize arrs true l h d f = A
  intro rows lts
  cases A with
  | nil =>
    have : (bl (opA q [] 0)).length = 0 := by show (bl 0).length = 0; decide +kernel
    rw [this]
    simp [fcA]
  | cons a R =>
    have ha : a ∈ a :: R := List.mem_cons_self
    show _ = (fcR (rwN a) l (a :: R) (frN l h)).testBit q
    rw [fcR_bit _ _ (by omega), frN_bit hl]
    by_cases hq : q < l
    · rw [decide_eq_true hq, Bool.true_and, Bool.true_and]
      cases hh : h.testBit q with
      | true =>
        have hF : (frN l h).testBit q = false := by rw [frN_bit hl, hh]; simp
        have h0 : opA q (a :: R) 0 = 0 := by
          apply Nat.eq_of_testBit_eq
          intro w
          rw [opA_bit, Nat.zero_testBit, Bool.false_or]
          by_cases z : w = 0
          · simp [z]
          · rw [decide_eq_false z, Bool.not_false, Bool.true_and, List.any_eq_false]
            intro b hb
            rw [(rows hb).2 hF]
            simpa using Ne.symm z
        rw [h0]
        have : (bl 0).length = 0 := by decide +kernel
        rw [this]; rfl
      | false =>
        have hF : (frN l h).testBit q = true := by rw [frN_bit hl, hh, decide_eq_true hq]; rfl
        rw [Bool.not_false, Bool.true_and]
        simp only [Bool.not_true, Bool.false_or]
        have hva := lts ha
        have hn := (rows ha).1 hF
        by_cases call : ∀ b ∈ a :: R, rwN b q = rwN a q
        · have h0 : opA q (a :: R) 0 = 2 ^ rwN a q := by
            apply Nat.eq_of_testBit_eq
            intro w
            rw [opA_bit, Nat.zero_testBit, Bool.false_or, Nat.testBit_two_pow]
            by_cases z : rwN a q = w
            · rw [decide_eq_true z, decide_eq_false (show ¬ w = 0 by omega), Bool.not_false, Bool.true_and, List.any_eq_true]
              exact ⟨a, ha, by simpa using z⟩
            · rw [decide_eq_false z]
              have : (a :: R).any (fun b => rwN b q == w) = false := by
                rw [List.any_eq_false]
                intro b hb
                rw [call b hb]
                simpa using z
              rw [this, Bool.and_false]
          rw [h0, bl_pow _ hva]
          symm
          show List.all _ _ = true
          rw [List.all_eq_true]
          intro b hb
          simpa using call b hb
        · have hR : (a :: R).all (fun b => rwN b q == rwN a q) = false := by
            cases z : (a :: R).all (fun b => rwN b q == rwN a q) with
            | false => rfl
            | true =>
              rw [List.all_eq_true] at z
              exact absurd (fun b hb => by simpa using z b hb) call
          rw [hR]
          apply decide_eq_false
          intro h1
          apply call
          intro b hb
          have m1 : rwN a q ∈ bl (opA q (a :: R) 0) := bl_mem.mpr ⟨hva, by rw [opA_bit, decide_eq_false hn, Bool.not_false, Bool.true_and, Nat.zero_testBit, Bool.false_or, List.any_eq_true]; exact ⟨a, ha, by simp⟩⟩
          have hnb := (rows hb).1 hF
          have m2 : rwN b q ∈ bl (opA q (a :: R) 0) := bl_mem.mpr ⟨lts hb, by rw [opA_bit, decide_eq_false hnb, Bool.not_false, Bool.true_and, Nat.zero_testBit, Bool.false_or, List.any_eq_true]; exact ⟨b, hb, by simp⟩⟩
          match hbl : bl (opA q (a :: R) 0), h1 with
          | [x], _ =>
            rw [hbl] at m1 m2
            simp at m1 m2
            omega
    · rw [decide_eq_false hq, Bool.false_and]; simp
def MSs (G : am_H) (l h d : Nat) (f : Nat → Nat) (n : Nat) (t : Nat → Int32) (s : Nat → Option PT) : Prop := (∃ vp, EnA G (nI n) vp) ∧ MA G l h d f ∧ (n ≤ 18 ∧ ∃ pf, am_ia G 27 0 = some (18, pf) ∧ ∀ i, i < n → pf i = t i) ∧ SLm G s ∧ (∃ b, am_ia G 32 0 = some (18, b)) ∧ LK G 0 (fun _ => 0) ∧ (∃ b, am_ia G 34 0 = some (18, b)) ∧ (∃ b, am_ia G 35 0 = some (5400, b)) ∧ (∃ b, am_ia G 36 0 = some (300, b)) ∧ ∃ b, am_ia G 37 0 = some (300, b)
section MST
variable {G G' : am_H} {ks : List Nat} {l h d : Nat} {f : Nat → Nat} {n : Nat} {t : Nat → Int32} {s : Nat → Option PT}
theorem ex_fr {k m : Nat} (hh : ∃ b, am_ia G k 0 = some (m, b)) (hF : Fr ks G G') (hk : ¬ k ∈ ks) : ∃ b, am_ia G' k 0 = some (m, b) := by
  obtain ⟨b, a⟩ := hh
  exact ⟨b, by rw [hF.ia hk]; exact a⟩
theorem MSs.fr (hh : MSs G l h d f n t s) (hF : Fr ks G G') (hk : ∀ j, j ∈ ks → j ≤ 22) : MSs G' l h d f n t s := by
  have hn : ∀ j, 22 < j → ¬ j ∈ ks := fun j hj hm => by have := hk j hm; omega
  obtain ⟨⟨vp, a⟩, b, ⟨c, e⟩, g, i1, i2, i3, i4, i5, i6⟩ := hh
  refine ⟨⟨vp, a.fr hF (hn _ (by omega)) (hn _ (by omega)) (hn _ (by omega)) (hn _ (by omega)) (hn _ (by omega))⟩, b.fr hF (hn _ (by omega)), ⟨c, ?_⟩, g.fr hF (hn _ (by omega)) (hn _ (by omega)), ex_fr i1 hF (hn _ (by omega)), i2.fr hF (hn _ (by omega)), ex_fr i3 hF (hn _ (by omega)), ex_fr i4 hF (hn _ (by omega)), ex_fr i5 hF (hn _ (by omega)), ex_fr i6 hF (hn _ (by omega))⟩
  obtain ⟨pf, p1, p2⟩ := e
  exact ⟨pf, by rw [hF.ia (hn _ (by omega))]; exact p1, p2⟩
theorem MSs.mp (hh : MSs G l h d f n t s) : MP G n t := by
  obtain ⟨⟨vp, ⟨len, T, m, ip, due, dep, a⟩, _⟩, _, ⟨c, e⟩, _⟩ := hh
  exact ⟨⟨len, T, m, ip, due, dep, vp, a⟩, c, e⟩
theorem MSs.ob (hh : MSs G l h d f n t s) : ∃ fs, am_ob G 23 5 = some fs := by
  obtain ⟨⟨vp, ⟨len, T, m, ip, due, dep, a⟩, _⟩, _⟩ := hh
  exact ⟨_, a⟩
/-- after a run of the engine -/
theorem MSs.run {vp : Int32} (hh : MSs G l h d f n t s) (hF : Fr ks G G') (h24 : ¬ 24 ∈ ks) (h25 : ¬ 25 ∈ ks) (h26 : ¬ 26 ∈ ks) (h27 : ¬ 27 ∈ ks) (hE : EnA G' (nI n) vp) (e32 : ∃ b, am_ia G' 32 0 = some (18, b)) (e33 : LK G' 0 (fun _ => 0)) (e34 : ∃ b, am_ia G' 34 0 = some (18, b)) (e35 : ∃ b, am_ia G' 35 0 = some (5400, b)) (e36 : ∃ b, am_ia G' 36 0 = some (300, b)) (e37 : ∃ b, am_ia G' 37 0 = some (300, b)) : MSs G' l h d f n t s := by
  obtain ⟨_, b, ⟨c, e⟩, g, _⟩ := hh
  refine ⟨⟨vp, hE⟩, b.fr hF h24, ⟨c, ?_⟩, g.fr hF h25 h26, e32, e33, e34, e35, e36, e37⟩
  obtain ⟨pf, p1, p2⟩ := e
  exact ⟨pf, by rw [hF.ia h27]; exact p1, p2⟩
theorem MSs.runE {vp : Int32} (hh : MSs G l h d f n t s) (hF : Fr kE G G') (hE : EnA G' (nI n) vp) : MSs G' l h d f n t s := by
  obtain ⟨_, _, _, _, i1, i2, i3, i4, i5, i6⟩ := id hh
  exact hh.run hF (by decide) (by decide) (by decide) (by decide) hE (ex_fr i1 hF (by decide)) (i2.fr hF (by decide)) (ex_fr i3 hF (by decide)) (ex_fr i4 hF (by decide)) (ex_fr i5 hF (by decide)) (ex_fr i6 hF (by decide))
/-- another problem -/
theorem MSs.prob {l' h' d' : Nat} {f' : Nat → Nat} (hh : MSs G l h d f n t s) (hF : Fr [24] G G') (hm : MA G' l' h' d' f') : MSs G' l' h' d' f' n t s := by
  obtain ⟨⟨vp, a⟩, b, ⟨c, e⟩, g, i1, i2, i3, i4, i5, i6⟩ := hh
  refine ⟨⟨vp, a.fr hF (by decide) (by decide) (by decide) (by decide) (by decide)⟩, hm, ⟨c, ?_⟩, g.fr hF (by decide) (by decide), ex_fr i1 hF (by decide), i2.fr hF (by decide), ex_fr i3 hF (by decide), ex_fr i4 hF (by decide), ex_fr i5 hF (by decide), ex_fr i6 hF (by decide)⟩
  obtain ⟨pf, p1, p2⟩ := e
  exact ⟨pf, by rw [hF.ia (by decide)]; exact p1, p2⟩
/-- another pad -/
theorem MSs.pad {n' : Nat} {t' : Nat → Int32} {vp : Int32} (hh : MSs G l h d f n t s) (hF : Fr ks G G') (hE : EnA G' (nI n') vp) (hp : n' ≤ 18 ∧ ∃ pf, am_ia G' 27 0 = some (18, pf) ∧ ∀ i, i < n' → pf i = t' i) (h24 : ¬ 24 ∈ ks) (h25 : ¬ 25 ∈ ks) (h26 : ¬ 26 ∈ ks) (h32 : ¬ 32 ∈ ks) (h33 : ¬ 33 ∈ ks) (h34 : ¬ 34 ∈ ks) (h35 : ¬ 35 ∈ ks) (h36 : ¬ 36 ∈ ks) (h37 : ¬ 37 ∈ ks) : MSs G' l h d f n' t' s := by
  obtain ⟨_, b, _, g, i1, i2, i3, i4, i5, i6⟩ := hh
  exact ⟨⟨vp, hE⟩, b.fr hF h24, hp, g.fr hF h25 h26, ex_fr i1 hF h32, i2.fr hF h33, ex_fr i3 hF h34, ex_fr i4 hF h35, ex_fr i5 hF h36, ex_fr i6 hF h37⟩
theorem MSs.slots {s' : Nat → Option PT} (hh : MSs G l h d f n t s) (hF : Fr [25, 26] G G') (hm : SLm G' s') : MSs G' l h d f n t s' := by
  obtain ⟨⟨vp, a⟩, b, ⟨c, e⟩, g, i1, i2, i3, i4, i5, i6⟩ := hh
  refine ⟨⟨vp, a.fr hF (by decide) (by decide) (by decide) (by decide) (by decide)⟩, b.fr hF (by decide), ⟨c, ?_⟩, hm, ex_fr i1 hF (by decide), i2.fr hF (by decide), ex_fr i3 hF (by decide), ex_fr i4 hF (by decide), ex_fr i5 hF (by decide), ex_fr i6 hF (by decide)⟩
  obtain ⟨pf, p1, p2⟩ := e
  exact ⟨pf, by rw [hF.ia (by decide)]; exact p1, p2⟩
end MST
def INV (G : am_H) : Prop := ∃ (l h d : Nat) (f : Nat → Nat) (n : Nat) (t : Nat → Int32) (s : Nat → Option PT) (old : Bool), WF (l, h, d, f) ∧ (∀ i q, i < 2 → s i = some q → WF q) ∧ CSs G l h d f n t s old ∧ MSs G l h d f n t s
theorem wf_st {x y z : Int32} {σ : PT} (hw : WF σ) : WF (stS x y z σ) := by
  unfold stS
  split
  · next h =>
    unfold stOK at h
    simp only [Bool.and_eq_true, decide_eq_true_eq, Bool.not_eq_true'] at h
    obtain ⟨⟨h1, h2⟩, h3⟩ := h
    refine ⟨?_, ?_, ?_, ?_, h2, fun _ => Nat.zero_le _, h3.1, h3.2⟩
    · show 1 ≤ x.toInt.toNat; omega
    · show x.toInt.toNat ≤ 18; omega
    · show y.toInt.toNat < 2 ^ x.toInt.toNat; omega
    · show z.toInt.toNat < 2 ^ 18; omega
  · exact hw
theorem wf_tg {d : Nat} {b : Bool} (h1 : d < 2 ^ 18) (h2 : d.testBit 0 = false) (h3 : 1 ≤ (bl d).length) (h4 : (bl d).length ≤ 8) : WF (tgS d b) := by
  cases b with
  | true =>
    refine ⟨?_, ?_, ?_, h1, h2, fun _ => Nat.zero_le _, h3, h4⟩
    · show 1 ≤ 2 * (bl d).length + 1; omega
    · show 2 * (bl d).length + 1 ≤ 18; omega
    · show 2 ^ (2 * (bl d).length + 1 - 2) < 2 ^ (2 * (bl d).length + 1); exact Nat.pow_lt_pow_right (by omega) (by omega)
  | false =>
    refine ⟨?_, ?_, ?_, h1, h2, fun _ => Nat.zero_le _, h3, h4⟩
    · show 1 ≤ 2 * (bl d).length + 0; omega
    · show 2 * (bl d).length + 0 ≤ 18; omega
    · show 0 < 2 ^ (2 * (bl d).length + 0); exact Nat.two_pow_pos _
theorem wf_lg {x y : Int32} {b : Bool} {σ : PT} (hw : WF σ) : WF (lgS x y b σ) := by
  unfold lgS
  split
  · next h =>
    unfold lgOK at h
    simp only [decide_eq_true_eq] at h
    obtain ⟨q1, q2, q3, q4⟩ := lgD_ok x.toInt.toNat (by omega) y.toInt.toNat (by omega) (by omega) (by omega)
    exact wf_tg q1 q2 q3 q4
  · exact hw
theorem wf_nr {x y : Int32} {b : Bool} {σ : PT} (hw : WF σ) : WF (nrS x y b σ) := by
  unfold nrS
  split
  · next h =>
    unfold nrOK at h
    simp only [decide_eq_true_eq] at h
    obtain ⟨q1, q2, q3, q4⟩ := nrD_ok x.toInt.toNat (by omega) y.toInt.toNat (by omega) (by omega) (by omega)
    exact wf_tg q1 q2 q3 q4
  · exact hw
theorem wf_pn {l h d : Nat} {f : Nat → Nat} {x y : Int32} (hw : WF (l, h, d, f)) : WF (l, h, d, pnF l f x y) := by
  obtain ⟨w1, w2, w3, w4, w5, w6, w7, w8⟩ := hw.o
  refine ⟨w1, w2, w3, w4, w5, fun j => ?_, w7, w8⟩
  show pnF l f x y j ≤ 17
  unfold pnF
  split
  · split
    · show (if j = x.toInt.toNat then y.toInt.toNat else f j) ≤ 17
      split
      · omega
      · exact w6 j
    · exact w6 j
  · exact w6 j
