/-! the state for the law, and a contract for each call in one form -/
theorem wf_st {x y z : Int32} {σ : PT} (hw : WF σ) : WF (stS x y z σ) := by
  unfold stS
  split
  · next h =>
    unfold stOK at h
    simp only [Bool.and_eq_true, decide_eq_true_eq, Bool.not_eq_true'] at h
    obtain ⟨⟨h1, h2⟩, h3⟩ := h
    refine ⟨?_, ?_, ?_, ?_, h2, fun _ => Nat.zero_le _, h3.1, h3.2⟩
    · show 1 ≤ x.toInt.toNat; omega
    · show x.toInt.toNat ≤ 18; omega
    · show y.toInt.toNat < 2 ^ x.toInt.toNat; omega
    · show z.toInt.toNat < 2 ^ 18; omega
  · exact hw
theorem wf_tg {d : Nat} {b : Bool} (h1 : d < 2 ^ 18) (h2 : d.testBit 0 = false) (h3 : 1 ≤ (bl d).length) (h4 : (bl d).length ≤ 8) : WF (tgS d b) := by
  cases b with
  | true =>
    refine ⟨?_, ?_, ?_, h1, h2, fun _ => Nat.zero_le _, h3, h4⟩
    · show 1 ≤ 2 * (bl d).length + 1; omega
    · show 2 * (bl d).length + 1 ≤ 18; omega
    · show 2 ^ (2 * (bl d).length + 1 - 2) < 2 ^ (2 * (bl d).length + 1); exact Nat.pow_lt_pow_right (by omega) (by omega)
  | false =>
    refine ⟨?_, ?_, ?_, h1, h2, fun _ => Nat.zero_le _, h3, h4⟩
    · show 1 ≤ 2 * (bl d).length + 0; omega
    · show 2 * (bl d).length + 0 ≤ 18; omega
    · show 0 < 2 ^ (2 * (bl d).length + 0); exact Nat.two_pow_pos _
theorem wf_lg {x y : Int32} {b : Bool} {σ : PT} (hw : WF σ) : WF (lgS x y b σ) := by
  unfold lgS
  split
  · next h =>
    unfold lgOK at h
    simp only [decide_eq_true_eq] at h
    obtain ⟨q1, q2, q3, q4⟩ := lgD_ok x.toInt.toNat (by omega) y.toInt.toNat (by omega) (by omega) (by omega)
    exact wf_tg q1 q2 q3 q4
  · exact hw
theorem wf_nr {x y : Int32} {b : Bool} {σ : PT} (hw : WF σ) : WF (nrS x y b σ) := by
  unfold nrS
  split
  · next h =>
    unfold nrOK at h
    simp only [decide_eq_true_eq] at h
    obtain ⟨q1, q2, q3, q4⟩ := nrD_ok x.toInt.toNat (by omega) y.toInt.toNat (by omega) (by omega) (by omega)
    exact wf_tg q1 q2 q3 q4
  · exact hw
theorem wf_pn {l h d : Nat} {f : Nat → Nat} {x y : Int32} (hw : WF (l, h, d, f)) : WF (l, h, d, pnF l f x y) := by
  obtain ⟨w1, w2, w3, w4, w5, w6, w7, w8⟩ := hw.o
  refine ⟨w1, w2, w3, w4, w5, fun j => ?_, w7, w8⟩
  show pnF l f x y j ≤ 17
  unfold pnF
  split
  · split
    · show (if j = x.toInt.toNat then y.toInt.toNat else f j) ≤ 17
      split
      · omega
      · exact w6 j
    · exact w6 j
  · exact w6 j
theorem opA_bit {x w : Nat} : ∀ (A : List (List (Nat × Nat))) (c : Nat), (opA x A c).testBit w = (c.testBit w || (!decide (w = 0) && A.any (fun b => rwN b x == w)))
  | [], c => by simp [opA]
  | a :: A, c => by
    unfold opA
    rw [opA_bit A, Nat.testBit_or, List.any_cons, Bool.or_assoc]
    congr 1
    by_cases e : rwN a x = 0
    · rw [if_pos e, Nat.zero_testBit, Bool.false_or, e]
      by_cases z : w = 0
      · simp [z]
      · have : ((0 : Nat) == w) = false := by simpa using Ne.symm z
        rw [this, Bool.false_or]
    · rw [if_neg e, Nat.testBit_two_pow]
      by_cases z : w = rwN a x
      · subst z
        simp [e]
      · have : (rwN a x == w) = false := by simpa using Ne.symm z
        rw [this, decide_eq_false (Ne.symm z)]
        simp
theorem bl_pow : ∀ v, v < 18 → (bl (2 ^ v)).length = 1 := by decide +kernel
theorem wf_sv {x : Int32} {σ : PT} {s : Nat → Option PT} (hw : WF σ) (hws : ∀ i q, i < 2 → s i = some q → WF q) : ∀ i q, i < 2 → svS x σ s i = some q → WF q := by
  intro i q hi h
  unfold svS at h
  by_cases hx : inN x 2 = true
  · rw [if_pos hx] at h
    have h : (if i = x.toInt.toNat then some σ else s i) = some q := h
    split at h
    · cases h; exact hw
    · exact hws i q hi h
  · rw [if_neg hx] at h
    exact hws i q hi h
theorem wf_rs {x : Int32} {σ : PT} {s : Nat → Option PT} (hw : WF σ) (hws : ∀ i q, i < 2 → s i = some q → WF q) : WF (rsS x σ s) := by
  unfold rsS
  by_cases hx : inN x 2 = true
  · rw [if_pos hx]
    unfold inN at hx
    simp only [decide_eq_true_eq] at hx
    cases e : s x.toInt.toNat with
    | none => exact hw
    | some q => exact hws _ q (by omega) e
  · rw [if_neg hx]; exact hw
def ST (G : am_H) (l h d : Nat) (f : Nat → Nat) (n : Nat) (t : Nat → Int32) (s : Nat → Option PT) : Prop := WF (l, h, d, f) ∧ (∀ i q, i < 2 → s i = some q → WF q) ∧ ∃ old, CSs G l h d f n t s old
section KKK
variable {X : Nat × (Nat → Int32)} {D : Nat} {G : am_H} {P : Option Value → am_H → Prop} {l h d : Nat} {f : Nat → Nat} {n : Nat} {t : Nat → Int32} {s : Nat → Option PT} {V : Int32}
theorem ST.ob (hS : ST G l h d f n t s) : (am_ob G 0 4).isSome = true := by
  obtain ⟨_, _, _, hC⟩ := hS
  rw [hC.1]; rfl
theorem k_count (hD : 17 ≤ D) (hS : ST G l h d f n t s) (hV : (nI (arrs true l h d f).length) = V) (hP : ∀ G1, ST G1 l h d f n t s → P (some (.int V)) G1) : (am_ob G 0 4).isSome = true ∧ am_CB X D 55 [.ref 0] G P := by
  refine ⟨hS.ob, ?_⟩
  subst hV
  obtain ⟨hw, hws, old, hC⟩ := id hS
  exact sp_ccount (hw := hw) (hD := by omega) (hC := hC) (hP := fun o1 G1 c1 _ => hP G1 ⟨hw, hws, o1, c1⟩)
theorem k_at {x y : Int32} (hD : 17 ≤ D) (hS : ST G l h d f n t s) (hV : (if inN y l = true then atA (arrs true l h d f) x y.toInt.toNat else -1) = V) (hP : ∀ G1, ST G1 l h d f n t s → P (some (.int V)) G1) : (am_ob G 0 4).isSome = true ∧ am_CB X D 56 [.ref 0, .int x, .int y] G P := by
  refine ⟨hS.ob, ?_⟩
  subst hV
  obtain ⟨hw, hws, old, hC⟩ := id hS
  exact sp_cat (hw := hw) (hD := by omega) (hC := hC) (hP := fun o1 G1 c1 _ => hP G1 ⟨hw, hws, o1, c1⟩)
theorem k_start {x y : Int32} (hD : 17 ≤ D) (hS : ST G l h d f n t s) (hV : (if ownB d y = true then stA (arrs true l h d f) x y.toInt.toNat else -1) = V) (hP : ∀ G1, ST G1 l h d f n t s → P (some (.int V)) G1) : (am_ob G 0 4).isSome = true ∧ am_CB X D 57 [.ref 0, .int x, .int y] G P := by
  refine ⟨hS.ob, ?_⟩
  subst hV
  obtain ⟨hw, hws, old, hC⟩ := id hS
  exact sp_cstart (hw := hw) (hD := by omega) (hC := hC) (hP := fun o1 G1 c1 _ => hP G1 ⟨hw, hws, o1, c1⟩)
theorem k_freq {x y : Int32} (hD : 17 ≤ D) (hS : ST G l h d f n t s) (hV : (if inN x l = true then (if 0 ≤ y.toInt ∧ y.toInt ≤ 17 then nI (fqA (arrs true l h d f) x.toInt.toNat y.toInt.toNat) else -2) else -1) = V) (hP : ∀ G1, ST G1 l h d f n t s → P (some (.int V)) G1) : (am_ob G 0 4).isSome = true ∧ am_CB X D 58 [.ref 0, .int x, .int y] G P := by
  refine ⟨hS.ob, ?_⟩
  subst hV
  obtain ⟨hw, hws, old, hC⟩ := id hS
  exact sp_cfreq (hw := hw) (hD := by omega) (hC := hC) (hP := fun o1 G1 c1 _ => hP G1 ⟨hw, hws, o1, c1⟩)
theorem k_options {x : Int32} (hD : 17 ≤ D) (hS : ST G l h d f n t s) (hV : (if inN x l = true then nI (opA x.toInt.toNat (arrs true l h d f) 0) else -1) = V) (hP : ∀ G1, ST G1 l h d f n t s → P (some (.int V)) G1) : (am_ob G 0 4).isSome = true ∧ am_CB X D 59 [.ref 0, .int x] G P := by
  refine ⟨hS.ob, ?_⟩
  subst hV
  obtain ⟨hw, hws, old, hC⟩ := id hS
  exact sp_coptions (hw := hw) (hD := by omega) (hC := hC) (hP := fun o1 G1 c1 _ => hP G1 ⟨hw, hws, o1, c1⟩)
theorem k_forced (hD : 17 ≤ D) (hS : ST G l h d f n t s) (hV : (nI (mkm (fcB (arrs true l h d f)) l)) = V) (hP : ∀ G1, ST G1 l h d f n t s → P (some (.int V)) G1) : (am_ob G 0 4).isSome = true ∧ am_CB X D 60 [.ref 0] G P := by
  refine ⟨hS.ob, ?_⟩
  subst hV
  obtain ⟨hw, hws, old, hC⟩ := id hS
  exact sp_cforced (hw := hw) (hD := by omega) (hC := hC) (hP := fun o1 G1 c1 _ => hP G1 ⟨hw, hws, o1, c1⟩)
theorem k_startSum (hD : 17 ≤ D) (hS : ST G l h d f n t s) (hV : (ssI l h d) = V) (hP : ∀ G1, ST G1 l h d f n t s → P (some (.int V)) G1) : (am_ob G 0 4).isSome = true ∧ am_CB X D 52 [.ref 0] G P := by
  refine ⟨hS.ob, ?_⟩
  subst hV
  obtain ⟨hw, hws, old, hC⟩ := id hS
  exact sp_cstartSum (hD := by omega) (hC := hC) (hP := hP G hS)
theorem k_slack (hD : 17 ≤ D) (hS : ST G l h d f n t s) (hV : (slI l h d) = V) (hP : ∀ G1, ST G1 l h d f n t s → P (some (.int V)) G1) : (am_ob G 0 4).isSome = true ∧ am_CB X D 53 [.ref 0] G P := by
  refine ⟨hS.ob, ?_⟩
  subst hV
  obtain ⟨hw, hws, old, hC⟩ := id hS
  exact sp_cslack (hD := by omega) (hC := hC) (hP := hP G hS)
theorem k_starts {x : Int32} (hD : 17 ≤ D) (hS : ST G l h d f n t s) (hV : (if ownB d x = true then nI (mkm (sbN l h x.toInt.toNat f) l) else -1) = V) (hP : ∀ G1, ST G1 l h d f n t s → P (some (.int V)) G1) : (am_ob G 0 4).isSome = true ∧ am_CB X D 54 [.ref 0, .int x] G P := by
  refine ⟨hS.ob, ?_⟩
  subst hV
  obtain ⟨hw, hws, old, hC⟩ := id hS
  exact sp_cstarts (hw := hw) (hD := by omega) (hC := hC) (hP := hP G hS)
theorem k_problem {x : Int32} (hD : 17 ≤ D) (hS : ST G l h d f n t s) (hV : (pbI l h d f n x) = V) (hP : ∀ G1, ST G1 l h d f n t s → P (some (.int V)) G1) : (am_ob G 0 4).isSome = true ∧ am_CB X D 49 [.ref 0, .int x] G P := by
  refine ⟨hS.ob, ?_⟩
  subst hV
  obtain ⟨hw, hws, old, hC⟩ := id hS
  exact sp_cproblem (hw := hw) (hD := by omega) (hC := hC) (hP := hP G hS)
theorem k_fault (hD : 17 ≤ D) (hS : ST G l h d f n t s) (hV : (ftI t n 0) = V) (hP : ∀ G1, ST G1 l h d f n t s → P (some (.int V)) G1) : (am_ob G 0 4).isSome = true ∧ am_CB X D 63 [.ref 0] G P := by
  refine ⟨hS.ob, ?_⟩
  subst hV
  obtain ⟨hw, hws, old, hC⟩ := id hS
  exact sp_cfault (hD := by omega) (hC := hC) (hP := hP G hS)
theorem k_letter {x : Int32} (hD : 17 ≤ D) (hS : ST G l h d f n t s) (hV : (if inN x n = true then t x.toInt.toNat else -6) = V) (hP : ∀ G1, ST G1 l h d f n t s → P (some (.int V)) G1) : (am_ob G 0 4).isSome = true ∧ am_CB X D 68 [.ref 0, .int x] G P := by
  refine ⟨hS.ob, ?_⟩
  subst hV
  obtain ⟨hw, hws, old, hC⟩ := id hS
  exact sp_cletter (hD := by omega) (hC := hC) (hP := hP G hS)
theorem k_judge {x : Int32} (hD : 17 ≤ D) (hS : ST G l h d f n t s) (hV : (jdI l h d n f t x) = V) (hP : ∀ G1, ST G1 l h d f n t s → P (some (.int V)) G1) : (am_ob G 0 4).isSome = true ∧ am_CB X D 64 [.ref 0, .int x] G P := by
  refine ⟨hS.ob, ?_⟩
  subst hV
  obtain ⟨hw, hws, old, hC⟩ := id hS
  exact sp_cjudge (hw := hw) (hD := by omega) (hC := hC) (hP := hP G hS)
theorem k_rank (hD : 17 ≤ D) (hS : ST G l h d f n t s) (hV : (rkI l h d n f t) = V) (hP : ∀ G1, ST G1 l h d f n t s → P (some (.int V)) G1) : (am_ob G 0 4).isSome = true ∧ am_CB X D 65 [.ref 0] G P := by
  refine ⟨hS.ob, ?_⟩
  subst hV
  obtain ⟨hw, hws, old, hC⟩ := id hS
  exact sp_crank (hw := hw) (hD := by omega) (hC := hC) (hP := fun o1 G1 c1 _ => hP G1 ⟨hw, hws, o1, c1⟩)
theorem k_match {x : Int32} (hD : 17 ≤ D) (hS : ST G l h d f n t s) (hV : (mtI (arrs true l h d f) n l t x) = V) (hP : ∀ G1, ST G1 l h d f n t s → P (some (.int V)) G1) : (am_ob G 0 4).isSome = true ∧ am_CB X D 66 [.ref 0, .int x] G P := by
  refine ⟨hS.ob, ?_⟩
  subst hV
  obtain ⟨hw, hws, old, hC⟩ := id hS
  exact sp_cmatch (hw := hw) (hD := by omega) (hC := hC) (hP := fun o1 G1 c1 _ => hP G1 ⟨hw, hws, o1, c1⟩)
theorem k_reversed {x : Int32} (hD : 17 ≤ D) (hS : ST G l h d f n t s) (hV : (rvI l h d f x) = V) (hP : ∀ G1, ST G1 l h d f n t s → P (some (.int V)) G1) : (am_ob G 0 4).isSome = true ∧ am_CB X D 74 [.ref 0, .int x] G P := by
  refine ⟨hS.ob, ?_⟩
  subst hV
  obtain ⟨hw, hws, old, hC⟩ := id hS
  exact sp_creversed (hw := hw) (hD := by omega) (hC := hC) (hP := fun o1 G1 c1 _ => hP G1 ⟨hw, hws, o1, c1⟩)
theorem k_classes (hD : 17 ≤ D) (hS : ST G l h d f n t s) (hV : (nI (clN l h d f (arrs true l h d f) 0)) = V) (hP : ∀ G1, ST G1 l h d f n t s → P (some (.int V)) G1) : (am_ob G 0 4).isSome = true ∧ am_CB X D 75 [.ref 0] G P := by
  refine ⟨hS.ob, ?_⟩
  subst hV
  obtain ⟨hw, hws, old, hC⟩ := id hS
  exact sp_cclasses (hw := hw) (hD := by omega) (hC := hC) (hP := fun o1 G1 c1 _ => hP G1 ⟨hw, hws, o1, c1⟩)
theorem k_dist {x y : Int32} (hD : 17 ≤ D) (hS : ST G l h d f n t s) (hV : (dsI (arrs true l h d f) d x y) = V) (hP : ∀ G1, ST G1 l h d f n t s → P (some (.int V)) G1) : (am_ob G 0 4).isSome = true ∧ am_CB X D 76 [.ref 0, .int x, .int y] G P := by
  refine ⟨hS.ob, ?_⟩
  subst hV
  obtain ⟨hw, hws, old, hC⟩ := id hS
  exact sp_cdist (hw := hw) (hD := by omega) (hC := hC) (hP := fun o1 G1 c1 _ => hP G1 ⟨hw, hws, o1, c1⟩)
theorem k_neigh {x y : Int32} (hD : 17 ≤ D) (hS : ST G l h d f n t s) (hV : (nbI (arrs true l h d f) d x y) = V) (hP : ∀ G1, ST G1 l h d f n t s → P (some (.int V)) G1) : (am_ob G 0 4).isSome = true ∧ am_CB X D 77 [.ref 0, .int x, .int y] G P := by
  refine ⟨hS.ob, ?_⟩
  subst hV
  obtain ⟨hw, hws, old, hC⟩ := id hS
  exact sp_cneigh (hw := hw) (hD := by omega) (hC := hC) (hP := fun o1 G1 c1 _ => hP G1 ⟨hw, hws, o1, c1⟩)
theorem k_steps {x y : Int32} (hD : 17 ≤ D) (hS : ST G l h d f n t s) (hV : (stI (arrs true l h d f) d x y) = V) (hP : ∀ G1, ST G1 l h d f n t s → P (some (.int V)) G1) : (am_ob G 0 4).isSome = true ∧ am_CB X D 78 [.ref 0, .int x, .int y] G P := by
  refine ⟨hS.ob, ?_⟩
  subst hV
  obtain ⟨hw, hws, old, hC⟩ := id hS
  exact sp_csteps (hw := hw) (hD := by omega) (hC := hC) (hP := fun o1 G1 c1 _ => hP G1 ⟨hw, hws, o1, c1⟩)
theorem k_triple {x y z : Int32} (hD : 17 ≤ D) (hS : ST G l h d f n t s) (hV : (tpI (arrs true l h d f) d x y z) = V) (hP : ∀ G1, ST G1 l h d f n t s → P (some (.int V)) G1) : (am_ob G 0 4).isSome = true ∧ am_CB X D 79 [.ref 0, .int x, .int y, .int z] G P := by
  refine ⟨hS.ob, ?_⟩
  subst hV
  obtain ⟨hw, hws, old, hC⟩ := id hS
  exact sp_ctriple (hw := hw) (hD := by omega) (hC := hC) (hP := fun o1 G1 c1 _ => hP G1 ⟨hw, hws, o1, c1⟩)
theorem k_cover {x : Int32} (hD : 17 ≤ D) (hS : ST G l h d f n t s) (hV : (cvI (arrs true l h d f) d x) = V) (hP : ∀ G1, ST G1 l h d f n t s → P (some (.int V)) G1) : (am_ob G 0 4).isSome = true ∧ am_CB X D 80 [.ref 0, .int x] G P := by
  refine ⟨hS.ob, ?_⟩
  subst hV
  obtain ⟨hw, hws, old, hC⟩ := id hS
  exact sp_ccover (hw := hw) (hD := by omega) (hC := hC) (hP := fun o1 G1 c1 _ => hP G1 ⟨hw, hws, o1, c1⟩)
theorem k_hooks (hD : 17 ≤ D) (hS : ST G l h d f n t s) (hV : (nI (hkM d f)) = V) (hP : ∀ G1, ST G1 l h d f n t s → P (some (.int V)) G1) : (am_ob G 0 4).isSome = true ∧ am_CB X D 81 [.ref 0] G P := by
  refine ⟨hS.ob, ?_⟩
  subst hV
  obtain ⟨hw, hws, old, hC⟩ := id hS
  exact sp_chooks (hw := hw) (hD := by omega) (hC := hC) (hP := fun o1 G1 c1 _ => hP G1 ⟨hw, hws, o1, c1⟩)
theorem k_omis (hD : 17 ≤ D) (hS : ST G l h d f n t s) (hV : (nI (mkm (omB d f) 18)) = V) (hP : ∀ G1, ST G1 l h d f n t s → P (some (.int V)) G1) : (am_ob G 0 4).isSome = true ∧ am_CB X D 82 [.ref 0] G P := by
  refine ⟨hS.ob, ?_⟩
  subst hV
  obtain ⟨hw, hws, old, hC⟩ := id hS
  exact sp_comis (hw := hw) (hD := by omega) (hC := hC) (hP := fun o1 G1 c1 _ => hP G1 ⟨hw, hws, o1, c1⟩)
theorem k_set {l1 h1 d1 : Nat} {f1 : Nat → Nat} {x y z : Int32} (hD : 17 ≤ D) (hS : ST G l h d f n t s) (hq : stS x y z (l, h, d, f) = (l1, h1, d1, f1)) (hV : stV x y z = V) (hP : ∀ G1, ST G1 l1 h1 d1 f1 n t s → P (some (.int V)) G1) : (am_ob G 0 4).isSome = true ∧ am_CB X D 45 [.ref 0, .int x, .int y, .int z] G P := by
  refine ⟨hS.ob, ?_⟩
  subst hV
  obtain ⟨hw, hws, old, hC⟩ := id hS
  have hw1 := wf_st (x := x) (y := y) (z := z) hw
  rw [hq] at hw1
  exact sp_cset (hD := by omega) (hC := hC) (hP := fun o1 G1 c1 _ => hP G1 ⟨hw1, hws, o1, by rw [hq] at c1; exact c1⟩)
theorem k_langford {l1 h1 d1 : Nat} {f1 : Nat → Nat} {x y : Int32} {b : Bool} (hD : 17 ≤ D) (hS : ST G l h d f n t s) (hq : lgS x y b (l, h, d, f) = (l1, h1, d1, f1)) (hV : lgV x y b = V) (hP : ∀ G1, ST G1 l1 h1 d1 f1 n t s → P (some (.int V)) G1) : (am_ob G 0 4).isSome = true ∧ am_CB X D 46 [.ref 0, .int x, .int y, .int (if b = true then 1 else 0)] G P := by
  refine ⟨hS.ob, ?_⟩
  subst hV
  obtain ⟨hw, hws, old, hC⟩ := id hS
  have hw1 := wf_lg (x := x) (y := y) (b := b) hw
  rw [hq] at hw1
  exact sp_clangford (hD := by omega) (hC := hC) (hP := fun o1 G1 c1 _ => hP G1 ⟨hw1, hws, o1, by rw [hq] at c1; exact c1⟩)
theorem k_near {l1 h1 d1 : Nat} {f1 : Nat → Nat} {x y : Int32} {b : Bool} (hD : 17 ≤ D) (hS : ST G l h d f n t s) (hq : nrS x y b (l, h, d, f) = (l1, h1, d1, f1)) (hV : nrV x y b = V) (hP : ∀ G1, ST G1 l1 h1 d1 f1 n t s → P (some (.int V)) G1) : (am_ob G 0 4).isSome = true ∧ am_CB X D 47 [.ref 0, .int x, .int y, .int (if b = true then 1 else 0)] G P := by
  refine ⟨hS.ob, ?_⟩
  subst hV
  obtain ⟨hw, hws, old, hC⟩ := id hS
  have hw1 := wf_nr (x := x) (y := y) (b := b) hw
  rw [hq] at hw1
  exact sp_cnear (hD := by omega) (hC := hC) (hP := fun o1 G1 c1 _ => hP G1 ⟨hw1, hws, o1, by rw [hq] at c1; exact c1⟩)
theorem k_pin {x y : Int32} {f1 : Nat → Nat} (hD : 17 ≤ D) (hS : ST G l h d f n t s) (hq : pnF l f x y = f1) (hV : pnV l f x y = V) (hP : ∀ G1, ST G1 l h d f1 n t s → P (some (.int V)) G1) : (am_ob G 0 4).isSome = true ∧ am_CB X D 48 [.ref 0, .int x, .int y] G P := by
  refine ⟨hS.ob, ?_⟩
  subst hV; subst hq
  obtain ⟨hw, hws, old, hC⟩ := id hS
  exact sp_cpin (hw := hw) (hD := by omega) (hC := hC) (hP := fun o1 G1 c1 _ => hP G1 ⟨wf_pn hw, hws, o1, c1⟩)
theorem k_say {x : Int32} (hD : 17 ≤ D) (hS : ST G l h d f n t s) (hq : ¬ (33 ≤ x.toInt ∧ x.toInt ≤ 126)) (hV : -2 = V) (hP : ∀ G1, ST G1 l h d f n t s → P (some (.int V)) G1) : (am_ob G 0 4).isSome = true ∧ am_CB X D 62 [.ref 0, .int x] G P := by
  refine ⟨hS.ob, ?_⟩
  subst hV
  obtain ⟨hw, hws, old, hC⟩ := id hS
  have e : sayT x n t = (-2, n, t) := if_neg hq
  exact sp_csay (hD := by omega) (hC := hC) (hP := fun o1 G1 c1 _ => by rw [e] at c1 ⊢; exact hP G1 ⟨hw, hws, o1, c1⟩)
theorem k_spell {x : Int32} {n1 : Nat} {t1 : Nat → Int32} (hD : 17 ≤ D) (hS : ST G l h d f n t s) (hn : spN (arrs true l h d f) x l n = n1) (ht : spF (arrs true l h d f) x t = t1) (hV : spV (arrs true l h d f) x l = V) (hP : ∀ G1, ST G1 l h d f n1 t1 s → P (some (.int V)) G1) : (am_ob G 0 4).isSome = true ∧ am_CB X D 67 [.ref 0, .int x] G P := by
  refine ⟨hS.ob, ?_⟩
  subst hV; subst hn; subst ht
  obtain ⟨hw, hws, old, hC⟩ := id hS
  exact sp_cspell (hD := by omega) (hw := hw) (hC := hC) (hP := fun o1 G1 c1 _ => hP G1 ⟨hw, hws, o1, c1⟩)
theorem k_save {x : Int32} {s1 : Nat → Option PT} (hD : 17 ≤ D) (hS : ST G l h d f n t s) (hq : svS x (l, h, d, f) s = s1) (hV : svV x l = V) (hP : ∀ G1, ST G1 l h d f n t s1 → P (some (.int V)) G1) : (am_ob G 0 4).isSome = true ∧ am_CB X D 85 [.ref 0, .int x] G P := by
  refine ⟨hS.ob, ?_⟩
  subst hV; subst hq
  obtain ⟨hw, hws, old, hC⟩ := id hS
  exact sp_csave (hD := by omega) (hC := hC) (hP := fun o1 G1 c1 _ => hP G1 ⟨hw, wf_sv hw hws, o1, c1⟩)
theorem k_restore {x : Int32} {l1 h1 d1 : Nat} {f1 : Nat → Nat} (hD : 17 ≤ D) (hS : ST G l h d f n t s) (hq : rsS x (l, h, d, f) s = (l1, h1, d1, f1)) (hV : rsV x s = V) (hP : ∀ G1, ST G1 l1 h1 d1 f1 n t s → P (some (.int V)) G1) : (am_ob G 0 4).isSome = true ∧ am_CB X D 86 [.ref 0, .int x] G P := by
  refine ⟨hS.ob, ?_⟩
  subst hV
  obtain ⟨hw, hws, old, hC⟩ := id hS
  have hw1 := wf_rs (x := x) hw hws
  rw [hq] at hw1
  exact sp_crestore (hD := by omega) (hws := hws) (hC := hC) (hP := fun o1 G1 c1 _ => hP G1 ⟨hw1, hws, o1, by rw [hq] at c1; exact c1⟩)
end KKK
