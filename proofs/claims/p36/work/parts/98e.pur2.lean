/-! pure facts: rows give themselves back, reversals, classes -/
theorem nlF_at {q : List (Nat × Nat) → Bool} {a : List (Nat × Nat)} : ∀ {R : List (List (Nat × Nat))} {k : Nat} (k0 : Nat), R[k]? = some a → q a = true → (∀ j b, j < k → R[j]? = some b → q b = false) → nlF q R k0 = nI (k0 + k)
  | [], k, k0, h, _, _ => by cases h
  | b :: R, 0, k0, h, hq, _ => by
    have e : b = a := by simpa using h
    subst e
    unfold nlF
    rw [if_pos hq]; rfl
  | b :: R, k + 1, k0, h, hq, hn => by
    have h2 : R[k]? = some a := by simpa using h
    unfold nlF
    rw [hn 0 b (by omega) rfl, if_neg (by decide), nlF_at (k0 + 1) h2 hq (fun j c hj hc => hn (j + 1) c (by omega) (by simpa using hc))]
    congr 1; omega
section RW2
variable {l h d : Nat} {f : Nat → Nat} {ipb : Bool} {a b : List (Nat × Nat)} {k j : Nat}
theorem row_uni (hl : l ≤ 18) (hd0 : d.testBit 0 = false) (hk : (arrs ipb l h d f)[k]? = some a) (hj : (arrs ipb l h d f)[j]? = some b) (he : ∀ q, q < l → rwN a q = rwN b q) : k = j := by
  have hp := arrs_sorted (ipb := ipb) (h := h) (f := f) hl hd0
  have ma := List.mem_of_getElem? hk
  have mb := List.mem_of_getElem? hj
  have hall : ∀ q, rwN a q = rwN b q := fun q => by
    rcases Nat.lt_or_ge q l with z | z
    · exact he q z
    · rw [row_hi hl hd0 ma z, row_hi hl hd0 mb z]
  obtain ⟨k1, rfl⟩ := List.getElem?_eq_some_iff.mp hk
  obtain ⟨j1, rfl⟩ := List.getElem?_eq_some_iff.mp hj
  rw [List.pairwise_iff_getElem] at hp
  rcases Nat.lt_trichotomy k j with z | z | z
  · obtain ⟨q, _, _, h2⟩ := hp k j k1 j1 z
    rw [hall q] at h2; omega
  · exact z
  · obtain ⟨q, _, _, h2⟩ := hp j k j1 k1 z
    rw [hall q] at h2; omega
theorem row_lx (hl : l ≤ 18) (hd0 : d.testBit 0 = false) (hk : (arrs ipb l h d f)[k]? = some a) (hj : (arrs ipb l h d f)[j]? = some b) (hkj : k < j) : LX a b := by
  have hp := arrs_sorted (ipb := ipb) (h := h) (f := f) hl hd0
  obtain ⟨k1, rfl⟩ := List.getElem?_eq_some_iff.mp hk
  obtain ⟨j1, rfl⟩ := List.getElem?_eq_some_iff.mp hj
  rw [List.pairwise_iff_getElem] at hp
  exact hp k j k1 j1 hkj
theorem nl_row (hl : l ≤ 18) (hd0 : d.testBit 0 = false) {g : Nat → Nat} (hk : (arrs ipb l h d f)[k]? = some a) (hg : ∀ q, q < l → rwN a q = g q) : nlF (fun b => eqR (rwN b) g l) (arrs ipb l h d f) 0 = nI k := by
  rw [nlF_at 0 hk ((eqR_s l).mpr hg) (fun j b hj hb => ?_), Nat.zero_add]
  cases e : eqR (rwN b) g l with
  | false => rfl
  | true =>
    have := row_uni hl hd0 hb hk (fun q hq => by rw [(eqR_s l).mp e q hq, hg q hq])
    omega
/-- what reversed() answers -/
theorem rv_cases (hl1 : 1 ≤ l) (hl : l ≤ 18) (hd : d < 2 ^ 18) (hd0 : d.testBit 0 = false) (hA : (arrs true l h d f).length ≤ 512) (hk : (arrs true l h d f)[k]? = some a) : rvI l h d f (nI k) = -6 ∨ ∃ j b, (arrs true l h d f)[j]? = some b ∧ rvI l h d f (nI k) = nI j ∧ rvI l h d f (nI j) = nI k ∧ ∀ q, q < l → rwN b q = rwN a (l - 1 - q) := by
  rw [v_rv hA hk]
  have ma := List.mem_of_getElem? hk
  by_cases c : vdI (bkN l h d f (rvN l a)) l = 0
  · right
    obtain ⟨b, hb, hr⟩ := rev_ex hl1 hl hd hd0 ma c
    obtain ⟨j, hj⟩ := List.getElem?_of_mem hb
    refine ⟨j, b, hj, ?_, ?_, hr⟩
    · rw [if_pos c]
      exact nl_row hl hd0 hj hr
    · rw [v_rv hA hj]
      have hr2 : ∀ q, q < l → rwN a q = rvN l b q := fun q hq => by
        unfold rvN
        rw [hr _ (by omega)]
        unfold rvN
        congr 1; omega
      have c2 : vdI (bkN l h d f (rvN l b)) l = 0 := vdI_0.mpr (fun r _ _ q hq => arr_good hl hd hd0 ma (fun q hq => (hr2 q hq).symm) hq)
      rw [if_pos c2]
      exact nl_row hl hd0 hk hr2
  · left
    rw [if_neg c]
end RW2
theorem nodup_sub {α : Type} [DecidableEq α] : ∀ {L M : List α}, L.Nodup → (∀ x ∈ L, x ∈ M) → L.length ≤ M.length
  | [], _, _, _ => Nat.zero_le _
  | x :: L, M, hn, hs => by
    rw [List.nodup_cons] at hn
    have hx := hs x List.mem_cons_self
    have := nodup_sub (M := M.erase x) hn.2 (fun y hy => (List.mem_erase_of_ne (fun (e : y = x) => hn.1 (e ▸ hy))).mpr (hs y (List.mem_cons_of_mem _ hy)))
    rw [List.length_erase_of_mem hx] at this
    have := List.length_pos_of_mem hx
    rw [List.length_cons]; omega
theorem clN_s {l h d : Nat} {f : Nat → Nat} : ∀ (R : List (List (Nat × Nat))) (c : Nat), clN l h d f R c = c + (R.filter (clB l h d f)).length
  | [], c => rfl
  | a :: R, c => by
    unfold clN
    rw [clN_s R]
    by_cases e : clB l h d f a = true
    · rw [if_pos e, List.filter_cons_of_pos e, List.length_cons]; omega
    · rw [if_neg e, List.filter_cons_of_neg e]; omega
theorem map_inj_nodup {α β : Type} {g : α → β} : ∀ {L : List α}, L.Nodup → (∀ x ∈ L, ∀ y ∈ L, g x = g y → x = y) → (L.map g).Nodup
  | [], _, _ => List.nodup_nil
  | x :: L, hn, hi => by
    rw [List.nodup_cons] at hn
    rw [List.map_cons, List.nodup_cons]
    refine ⟨fun hm => ?_, map_inj_nodup hn.2 (fun a ha b hb => hi a (List.mem_cons_of_mem _ ha) b (List.mem_cons_of_mem _ hb))⟩
    obtain ⟨y, hy, e⟩ := List.mem_map.mp hm
    have := hi y (List.mem_cons_of_mem _ hy) x List.mem_cons_self e
    exact hn.1 (this ▸ hy)
theorem filt_split {α : Type} {q : α → Bool} : ∀ (L : List α), (L.filter q).length + (L.filter (fun x => !q x)).length = L.length
  | [] => rfl
  | a :: L => by
    have := filt_split (q := q) L
    cases e : q a <;> simp [e] <;> omega
section CLS
variable {l h d : Nat} {f : Nat → Nat}
theorem cl_bounds (hl1 : 1 ≤ l) (hl : l ≤ 18) (hd : d < 2 ^ 18) (hd0 : d.testBit 0 = false) : clN l h d f (arrs true l h d f) 0 ≤ (arrs true l h d f).length ∧ (arrs true l h d f).length ≤ 2 * clN l h d f (arrs true l h d f) 0 := by
  rw [clN_s, Nat.zero_add]
  have hs := filt_split (q := clB l h d f) (arrs true l h d f)
  refine ⟨by omega, ?_⟩
  have hn : (arrs true l h d f).Nodup := by
    refine List.Pairwise.imp ?_ (arrs_sorted (ipb := true) (h := h) (f := f) hl hd0)
    intro a b hx e
    subst e
    obtain ⟨q, _, _, h2⟩ := hx
    omega
  have ex : ∀ a, a ∈ (arrs true l h d f).filter (fun x => !clB l h d f x) → ∃ b, b ∈ (arrs true l h d f).filter (clB l h d f) ∧ ∀ q, q < l → rwN b q = rvN l a q := by
    intro a ha
    rw [List.mem_filter] at ha
    obtain ⟨k, hk⟩ := List.getElem?_of_mem ha.1
    have hb : ¬ clB l h d f a = true := by simpa using ha.2
    rw [clB_s hl1 hl hd hd0 hk] at hb
    apply Classical.byContradiction
    intro hne
    apply hb
    intro k' b hk' hb' hr
    apply hne
    refine ⟨b, List.mem_filter.mpr ⟨List.mem_of_getElem? hb', (clB_s hl1 hl hd hd0 hb').mpr ?_⟩, hr⟩
    intro k2 c hk2 hc hr2
    have := row_uni hl hd0 hc hk (fun q hq => by
      rw [hr2 q hq]
      unfold rvN
      rw [hr _ (by omega)]
      unfold rvN
      congr 1; omega)
    omega
  have hc : ∃ g : List (Nat × Nat) → List (Nat × Nat), ∀ a, a ∈ (arrs true l h d f).filter (fun x => !clB l h d f x) → g a ∈ (arrs true l h d f).filter (clB l h d f) ∧ ∀ q, q < l → rwN (g a) q = rvN l a q :=
    ⟨fun a => if ha : a ∈ (arrs true l h d f).filter (fun x => !clB l h d f x) then Classical.choose (ex a ha) else a, fun a ha => by
      simp only [dif_pos ha]
      exact Classical.choose_spec (ex a ha)⟩
  obtain ⟨g, hg⟩ := hc
  have hle := nodup_sub (L := ((arrs true l h d f).filter (fun x => !clB l h d f x)).map g) (M := (arrs true l h d f).filter (clB l h d f)) (map_inj_nodup (hn.filter _) (fun x hx y hy e => by
    have mx := (List.mem_filter.mp hx).1
    have my := (List.mem_filter.mp hy).1
    obtain ⟨i, hi⟩ := List.getElem?_of_mem mx
    obtain ⟨j, hj⟩ := List.getElem?_of_mem my
    have := row_uni hl hd0 hi hj (fun q hq => by
      have e1 := (hg x hx).2 (l - 1 - q) (by omega)
      have e2 := (hg y hy).2 (l - 1 - q) (by omega)
      rw [e, e2] at e1
      unfold rvN at e1
      rw [show l - 1 - (l - 1 - q) = q by omega] at e1
      exact e1.symm)
    subst this
    rw [hi] at hj
    exact Option.some.inj hj)) (fun y hy => by
      obtain ⟨x, hx, rfl⟩ := List.mem_map.mp hy
      exact (hg x hx).1)
  rw [List.length_map] at hle
  omega
end CLS
