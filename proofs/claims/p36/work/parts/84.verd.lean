section AV
variable {l h d : Nat} {f : Nat → Nat} {ipb : Bool} {a : List (Nat × Nat)}
theorem arrs_dis (hl : l ≤ 18) (hd0 : d.testBit 0 = false) (ha : a ∈ arrs ipb l h d f) : Dis a := by
  unfold arrs at ha
  split at ha
  · next c =>
    rw [Bool.and_eq_true] at c
    exact ens_dis _ _ _ (frN_lt hl) hd0 (by simpa [filledB] using c.1) a ha
  · cases ha
theorem arrs_cov (hl : l ≤ 18) (hd0 : d.testBit 0 = false) (ha : a ∈ arrs ipb l h d f) {q : Nat} (hq : (frN l h).testBit q = true) : ∃ p w, (p, w) ∈ a ∧ cvP q p w := by
  unfold arrs at ha
  split at ha
  · next c =>
    rw [Bool.and_eq_true] at c
    exact ens_cov _ _ _ (frN_lt hl) hd0 (by simpa [filledB] using c.1) a ha q hq
  · cases ha
theorem arrs_free (hl : l ≤ 18) (hd0 : d.testBit 0 = false) (ha : a ∈ arrs ipb l h d f) {q : Nat} (hq : (frN l h).testBit q = true) : rwN a q ≠ 0 ∧ d.testBit (rwN a q) = true ∧ ∃ p, (p, rwN a q) ∈ a ∧ cvP q p (rwN a q) := by
  obtain ⟨p, w, h1, h2⟩ := arrs_cov hl hd0 ha hq
  have e := rwN_in (arrs_dis hl hd0 ha) h1 h2
  obtain ⟨_, _, _, r4, r5, _⟩ := arrs_wit hl hd0 ha h1
  rw [e]
  exact ⟨by omega, r4, p, h1, h2⟩
theorem arrs_hole (hl : l ≤ 18) (hd0 : d.testBit 0 = false) (ha : a ∈ arrs ipb l h d f) {q : Nat} (hq : (frN l h).testBit q = false) : rwN a q = 0 := by
  apply rwN_out
  intro p w hp hc
  obtain ⟨r1, r2, _⟩ := arrs_wit hl hd0 ha hp
  rcases hc with e | e
  · rw [e, r1] at hq; cases hq
  · rw [e, r2] at hq; cases hq
theorem nodup_key : ∀ {a : List (Nat × Nat)}, (a.map (·.2)).Nodup → ∀ {p p' w : Nat}, (p, w) ∈ a → (p', w) ∈ a → p = p'
  | (p0, w0) :: a, h, p, p', w, h1, h2 => by
    rw [List.map_cons, List.nodup_cons] at h
    rcases List.mem_cons.mp h1 with z | z <;> rcases List.mem_cons.mp h2 with y | y
    · cases z; cases y; rfl
    · cases z; exact absurd (List.mem_map.mpr ⟨_, y, rfl⟩) h.1
    · cases y; exact absurd (List.mem_map.mpr ⟨_, z, rfl⟩) h.1
    · exact nodup_key h.2 z y
theorem tmN_two {g : Nat → Nat} {w p p' : Nat} : ∀ k, (∀ i, i < k → g i = w → i = p ∨ i = p') → tmN g w k ≤ (if p < k then 1 else 0) + (if p' < k then 1 else 0)
  | 0, _ => by simp [tmN]
  | k + 1, h => by
    have ih := tmN_two k (fun i hi => h i (by omega))
    show tmN g w k + (if g k = w then 1 else 0) ≤ _
    by_cases c : g k = w
    · rw [if_pos c]
      rcases h k (by omega) c with e | e
      · subst e
        rw [if_neg (show ¬ k < k by omega)] at ih
        rw [if_pos (show k < k + 1 by omega)]
        split at ih <;> split <;> omega
      · subst e
        rw [if_neg (show ¬ k < k by omega)] at ih
        rw [if_pos (show k < k + 1 by omega)]
        split at ih <;> split <;> omega
    · rw [if_neg c]
      split at ih <;> split at ih <;> split <;> split <;> omega
theorem arr_good (hl : l ≤ 18) (hd : d < 2 ^ 18) (hd0 : d.testBit 0 = false) (ha : a ∈ arrs true l h d f) {g : Nat → Nat} (hg : ∀ q, q < l → g q = rwN a q) {r q : Nat} (hq : q < l) : bkN l h d f g r q = false := by
  have dis := arrs_dis hl hd0 ha
  have hF := frN_bit (l := l) (h := h) hl q
  rw [decide_eq_true hq, Bool.true_and] at hF
  have hgq := hg q hq
  cases hh : h.testBit q with
  | true =>
    rw [hh] at hF
    have h0 := arrs_hole hl hd0 ha hF
    rw [h0] at hgq
    have h5 : bk5 f g q = false := by
      unfold bk5
      rw [hgq]
      cases c : (f q == 0) with
      | true => rfl
      | false =>
        exfalso
        unfold arrs at ha
        split at ha
        · next z =>
          rw [Bool.and_eq_true] at z
          have := bad_of (d := d) (h := h) hq (by simpa using c : f q ≠ 0) (by rw [hh]; rfl)
          rw [this] at z
          simp at z
        · cases ha
    unfold bkN
    rw [h5]
    unfold bk1 bk2 bk3 bk4
    rw [hgq, hh]
    simp
  | false =>
    rw [hh] at hF
    obtain ⟨n0, nd, p, hp, hc⟩ := arrs_free hl hd0 ha hF
    rw [← hgq] at n0 nd hp hc
    obtain ⟨r1, r2, r3, r4, r5, r6⟩ := arrs_wit hl hd0 ha hp
    have e1 : (g q == 0) = false := by simpa using n0
    have h3 : bk3 g q = false := by
      unfold bk3
      rw [e1]
      have := tmN_two (g := g) (w := g q) (p := p) (p' := p + g q) (q + 1) (fun i hi hgi => by
        rw [hg i (by omega)] at hgi
        obtain ⟨p', u1, u2⟩ := rwN_ex (q := i) dis (by rw [hgi]; exact n0)
        rw [hgi] at u1 u2
        have e : p' = p := nodup_key (arrs_arr hl hd hd0 ha).2 u1 hp
        subst e
        exact u2)
      rw [Bool.not_false, Bool.true_and, decide_eq_false]
      split at this <;> split at this <;> omega
    have h4 : bk4 l g q = false := by
      unfold bk4
      rw [e1]
      rcases hc with z | z
      · have gp : g (q + g q) = g q := by
          rw [hg _ (by omega)]
          exact rwN_in dis hp (Or.inr (by rw [z]))
        rw [decide_eq_true (show q + g q < l by omega), gp]
        simp
      · have gp : g (q - g q) = g q := by
          rw [hg _ (by omega)]
          exact rwN_in dis hp (Or.inl (by omega))
        rw [decide_eq_true (show g q ≤ q by omega), gp]
        simp
    have h5 : bk5 f g q = false := by
      unfold bk5
      unfold okB pnB at r3
      rw [Bool.and_eq_true] at r3
      have : (f q == 0 || f q == g q) = true := by
        rcases hc with z | z
        · rw [← z] at r3; simpa using r3.1
        · rw [← z] at r3; simpa using r3.2
      cases c1 : (f q == 0) with
      | true => rfl
      | false =>
        rw [c1, Bool.false_or] at this
        rw [this]; rfl
    unfold bkN
    rw [h3, h4, h5]
    unfold bk1 bk2
    rw [e1, hh, nd]
    simp
theorem vdQ_none {b : Nat → Bool} : ∀ (k i : Nat), vdQ b k i = none ↔ ∀ j, j < k → b (i + j) = false
  | 0, i => ⟨fun _ j hj => by omega, fun _ => rfl⟩
  | k + 1, i => by
    unfold vdQ
    by_cases c : b i = true
    · rw [if_pos c]
      constructor
      · intro h; cases h
      · intro h
        have := h 0 (by omega)
        rw [Nat.add_zero, c] at this
        cases this
    · rw [if_neg c, vdQ_none k (i + 1)]
      constructor
      · intro h j hj
        match j, hj with
        | 0, _ => simpa using c
        | j + 1, hj => have := h j (by omega); rw [show i + (j + 1) = i + 1 + j by omega]; exact this
      · intro h j hj
        have := h (j + 1) (by omega)
        rw [show i + 1 + j = i + (j + 1) by omega]; exact this
theorem vdR_none {B : Nat → Nat → Bool} {l : Nat} : ∀ (k r : Nat), vdR B l k r = none ↔ ∀ j, j < k → ∀ q, q < l → B (r + j) q = false
  | 0, r => ⟨fun _ j hj => by omega, fun _ => rfl⟩
  | k + 1, r => by
    have hv : vdR B l (k + 1) r = (match vdQ (B r) l 0 with | some q => some (r, q) | none => vdR B l k (r + 1)) := rfl
    rw [hv]
    cases c : vdQ (B r) l 0 with
    | some q =>
      simp only
      constructor
      · intro h; cases h
      · intro h
        have : vdQ (B r) l 0 = none := (vdQ_none l 0).mpr (fun j hj => by rw [Nat.zero_add]; exact h 0 (by omega) j hj)
        rw [c] at this; cases this
    | none =>
      simp only
      have c := (vdQ_none l 0).mp c
      rw [vdR_none k (r + 1)]
      constructor
      · intro h j hj q hq
        match j, hj with
        | 0, _ => have := c q hq; rw [Nat.zero_add] at this; exact this
        | j + 1, hj => rw [show r + (j + 1) = r + 1 + j by omega]; exact h j (by omega) q hq
      · intro h j hj q hq
        rw [show r + 1 + j = r + (j + 1) by omega]; exact h (j + 1) (by omega) q hq
theorem vdR_lt {B : Nat → Nat → Bool} {l r1 q1 : Nat} : ∀ (k r : Nat), vdR B l k r = some (r1, q1) → r ≤ r1 ∧ r1 < r + k
  | 0, r, h => by cases h
  | k + 1, r, h => by
    have hv : vdR B l (k + 1) r = (match vdQ (B r) l 0 with | some q => some (r, q) | none => vdR B l k (r + 1)) := rfl
    rw [hv] at h
    cases c : vdQ (B r) l 0 with
    | some q =>
      rw [c] at h
      simp only [Option.some.injEq, Prod.mk.injEq] at h
      omega
    | none =>
      rw [c] at h
      have := vdR_lt k (r + 1) h
      omega
theorem vdI_0 {B : Nat → Nat → Bool} {l : Nat} : vdI B l = 0 ↔ ∀ r, 1 ≤ r → r ≤ 5 → ∀ q, q < l → B r q = false := by
  have hn := vdR_none (B := B) (l := l) 5 1
  have key : vdI B l = 0 ↔ vdR B l 5 1 = none := by
    unfold vdI
    cases c : vdR B l 5 1 with
    | none => simp
    | some x =>
      obtain ⟨r, q⟩ := x
      have := vdR_lt 5 1 c
      simp only
      constructor
      · intro e
        have := (bi_eq0 (a := r) (by omega)).mp e
        omega
      · intro e; cases e
  rw [key, hn]
  constructor
  · intro h r h1 h2 q hq
    have := h (r - 1) (by omega) q hq
    rw [show 1 + (r - 1) = r by omega] at this
    exact this
  · intro h j hj q hq
    exact h (1 + j) (by omega) (by omega) q hq
end AV
