def bl (m : Nat) : List Nat := (List.range 18).filter (fun d => m.testBit d)
theorem bl_mem {m d : Nat} : d ∈ bl m ↔ d < 18 ∧ m.testBit d = true := by simp [bl]
theorem bl_nodup (m : Nat) : (bl m).Nodup := List.nodup_range.filter _
theorem bl_sub {m d : Nat} (h : m.testBit d = true) : bl (m - 2 ^ d) = (bl m).erase d := by
  rw [(bl_nodup m).erase_eq_filter]
  unfold bl
  rw [List.filter_filter]
  apply List.filter_congr
  intro x _
  rw [bt_sub h]
  by_cases e : x = d <;> simp [e]
theorem bl_sub_len {m d : Nat} (hd : d < 18) (h : m.testBit d = true) : (bl (m - 2 ^ d)).length + 1 = (bl m).length := by
  rw [bl_sub h, List.length_erase_of_mem (bl_mem.mpr ⟨hd, h⟩)]
  have : 0 < (bl m).length := List.length_pos_of_mem (bl_mem.mpr ⟨hd, h⟩)
  omega
theorem bl_sub2_len {m s t : Nat} (hs : s < 18) (ht : t < 18) (h1 : m.testBit s = true) (h2 : m.testBit t = true) (hst : s ≠ t) : (bl (m - (2 ^ s + 2 ^ t))).length + 2 = (bl m).length := by
  have h3 : (m - 2 ^ s).testBit t = true := by rw [bt_sub h1, h2]; simp [Ne.symm hst]
  have a := bl_sub_len hs h1
  have b := bl_sub_len ht h3
  rw [show m - (2 ^ s + 2 ^ t) = m - 2 ^ s - 2 ^ t by omega]
  omega
theorem bl_zero {m : Nat} (hm : m < 2 ^ 18) (h : bl m = []) : m = 0 := by
  apply Nat.eq_of_testBit_eq
  intro i
  rw [Nat.zero_testBit]
  by_cases hi : i < 18
  · cases hb : m.testBit i with
    | false => rfl
    | true => have := bl_mem.mpr ⟨hi, hb⟩; rw [h] at this; cases this
  · exact bt_hi hm (by omega)
def lo_ (m : Nat) : Nat → Nat → Nat
  | 0, p => p
  | k + 1, p => if m.testBit p = true then p else lo_ m k (p + 1)
def lo (m : Nat) : Nat := lo_ m 18 0
theorem lo__s (m : Nat) : ∀ (k p : Nat), (∃ q, p ≤ q ∧ q < p + k ∧ m.testBit q = true) → m.testBit (lo_ m k p) = true ∧ p ≤ lo_ m k p ∧ lo_ m k p < p + k ∧ ∀ q, p ≤ q → q < lo_ m k p → m.testBit q = false
  | 0, p, ⟨q, a, b, _⟩ => by omega
  | k + 1, p, ⟨q, a, b, c⟩ => by
    unfold lo_
    split
    · next h => exact ⟨h, Nat.le_refl _, by omega, fun q h1 h2 => by omega⟩
    · next h =>
      have hq : p + 1 ≤ q := by
        rcases Nat.lt_or_ge p q with z | z
        · exact z
        · have : q = p := by omega
          subst this; exact absurd c h
      obtain ⟨h1, h2, h3, h4⟩ := lo__s m k (p + 1) ⟨q, hq, by omega, c⟩
      refine ⟨h1, by omega, by omega, fun q' a b => ?_⟩
      by_cases e : q' = p
      · subst e; simpa using h
      · exact h4 q' (by omega) b
theorem lo_s {m : Nat} (h : bl m ≠ []) : m.testBit (lo m) = true ∧ lo m < 18 ∧ ∀ q, q < lo m → m.testBit q = false := by
  obtain ⟨q, hq⟩ := List.exists_mem_of_ne_nil _ h
  have hq := bl_mem.mp hq
  obtain ⟨a, _, b, c⟩ := lo__s m 18 0 ⟨q, Nat.zero_le _, by omega, hq.2⟩
  exact ⟨a, by unfold lo; omega, fun q h => c q (Nat.zero_le _) h⟩
def ens (ok : Nat → Nat → Bool) : Nat → Nat → Nat → List (List (Nat × Nat))
  | 0, _, _ => [[]]
  | k + 1, O, m => (List.range 18).flatMap (fun d => if (m.testBit d && (O.testBit (lo O + d) && ok (lo O) d)) = true then (ens ok k (O - (2 ^ lo O + 2 ^ (lo O + d))) (m - 2 ^ d)).map (fun a => (lo O, d) :: a) else [])
theorem bd_sum_congr {F G : Nat → Nat} : ∀ {k : Nat}, (∀ s, s < k → F s = G s) → bd_sum k F = bd_sum k G
  | 0, _ => rfl
  | k + 1, h => by
    show bd_sum k F + F k = bd_sum k G + G k
    rw [bd_sum_congr (fun s hs => h s (by omega)), h k (by omega)]
theorem bd_sum_mono {F G : Nat → Nat} : ∀ {k : Nat}, (∀ s, s < k → F s ≤ G s) → bd_sum k F ≤ bd_sum k G
  | 0, _ => Nat.le_refl _
  | k + 1, h => Nat.add_le_add (bd_sum_mono (fun s hs => h s (by omega))) (h k (by omega))
theorem bd_sum_add {F G : Nat → Nat} : ∀ {k : Nat}, bd_sum k (fun s => F s + G s) = bd_sum k F + bd_sum k G
  | 0 => rfl
  | k + 1 => by
    show bd_sum k _ + (F k + G k) = bd_sum k F + F k + (bd_sum k G + G k)
    rw [bd_sum_add]; omega
theorem bd_sum_0 : ∀ {k : Nat}, bd_sum k (fun _ => 0) = 0
  | 0 => rfl
  | k + 1 => by show bd_sum k _ + 0 = 0; rw [bd_sum_0]
theorem bd_sum_one {p a : Nat} : ∀ {k : Nat}, p < k → bd_sum k (fun s => if s = p then a else 0) = a
  | 0, h => by omega
  | k + 1, h => by
    show bd_sum k _ + (if k = p then a else 0) = a
    by_cases e : k = p
    · subst e
      rw [if_pos rfl, bd_sum_congr (G := fun _ => 0) (fun s hs => if_neg (by omega)), bd_sum_0]; omega
    · rw [if_neg e, bd_sum_one (by omega), Nat.add_zero]
theorem bd_sum_swap {g : Nat → Nat → Nat} {k : Nat} : ∀ (D : List Nat), (D.map (fun d => bd_sum k (fun s => g s d))).sum = bd_sum k (fun s => (D.map (fun d => g s d)).sum)
  | [] => by simp [bd_sum_0]
  | d :: D => by
    simp only [List.map_cons, List.sum_cons]
    rw [bd_sum_swap D, bd_sum_add]
theorem sum_map_le {α : Type} {f g : α → Nat} : ∀ {l : List α}, (∀ x ∈ l, f x ≤ g x) → (l.map f).sum ≤ (l.map g).sum
  | [], _ => Nat.le_refl _
  | x :: l, h => by
    simp only [List.map_cons, List.sum_cons]
    exact Nat.add_le_add (h x List.mem_cons_self) (sum_map_le (fun y hy => h y (List.mem_cons_of_mem _ hy)))
theorem sum_map_congr {α : Type} {f g : α → Nat} {l : List α} (h : ∀ x ∈ l, f x = g x) : (l.map f).sum = (l.map g).sum := by
  rw [List.map_congr_left h]
theorem sum_map_zero {α : Type} : ∀ (l : List α), (l.map (fun _ => 0)).sum = 0
  | [] => rfl
  | _ :: l => by simp only [List.map_cons, List.sum_cons, sum_map_zero l]
theorem nodup_rev {α : Type} {l : List α} (h : l.Nodup) : l.reverse.Nodup := List.pairwise_reverse.mpr (List.Pairwise.imp (fun q => Ne.symm q) h)
theorem bd_low : ∀ (D : List Nat) (O p : Nat), D.Nodup → (∀ d ∈ D, 0 < d) → O < 2 ^ 18 → O.testBit p = true → p < 18 → (∀ q, q < p → O.testBit q = false) →
    (D.map (fun d => if O.testBit (p + d) = true then bd_cnt (D.erase d) (O - (2 ^ p + 2 ^ (p + d))) else 0)).sum ≤ bd_cnt D O
  | [], _, _, _, _, _, _, _, _ => by simp
  | e :: D, O, p, hn, hp, hO, hb, hp18, hlow => by
    rw [List.nodup_cons] at hn
    have he := hp e List.mem_cons_self
    simp only [List.map_cons, List.sum_cons, List.erase_cons_head]
    have hrest : (D.map (fun d => if O.testBit (p + d) = true then bd_cnt ((e :: D).erase d) (O - (2 ^ p + 2 ^ (p + d))) else 0)).sum = (D.map (fun d => bd_sum (18 - e) (fun s => if O.testBit (p + d) = true ∧ ((O - (2 ^ p + 2 ^ (p + d))).testBit s && (O - (2 ^ p + 2 ^ (p + d))).testBit (s + e)) = true then bd_cnt (D.erase d) (O - (2 ^ p + 2 ^ (p + d)) - (2 ^ s + 2 ^ (s + e))) else 0))).sum := by
      apply sum_map_congr
      intro d hd
      have hne : e ≠ d := fun q => hn.1 (q ▸ hd)
      rw [List.erase_cons_tail (by simpa using hne)]
      by_cases c : O.testBit (p + d) = true
      · rw [if_pos c]
        exact bd_sum_congr (fun s _ => by simp [c])
      · rw [if_neg c, bd_sum_congr (G := fun _ => 0) (fun s _ => by simp [c]), bd_sum_0]
    rw [hrest, bd_sum_swap]
    have hfirst : (if O.testBit (p + e) = true then bd_cnt D (O - (2 ^ p + 2 ^ (p + e))) else 0) = bd_sum (18 - e) (fun s => if s = p then (if O.testBit (p + e) = true then bd_cnt D (O - (2 ^ p + 2 ^ (p + e))) else 0) else 0) := by
      by_cases c : O.testBit (p + e) = true
      · have : p + e < 18 := by
          rcases Nat.lt_or_ge (p + e) 18 with z | z
          · exact z
          · rw [bt_hi hO z] at c; cases c
        rw [bd_sum_one (by omega)]
      · rw [if_neg c, bd_sum_congr (G := fun _ => 0) (fun s _ => by simp), bd_sum_0]
    rw [hfirst, ← bd_sum_add]
    show _ ≤ bd_sum (18 - e) _
    apply bd_sum_mono
    intro s hs
    by_cases hsp : s = p
    · subst hsp
      rw [if_pos rfl]
      have z : (D.map (fun d => if O.testBit (s + d) = true ∧ ((O - (2 ^ s + 2 ^ (s + d))).testBit s && (O - (2 ^ s + 2 ^ (s + d))).testBit (s + e)) = true then bd_cnt (D.erase d) (O - (2 ^ s + 2 ^ (s + d)) - (2 ^ s + 2 ^ (s + e))) else 0)).sum = 0 := by
        rw [sum_map_congr (g := fun _ => 0)]
        · exact sum_map_zero D
        · intro d hd
          apply if_neg
          rintro ⟨c1, c2⟩
          have hd0 := hp d (List.mem_cons_of_mem _ hd)
          rw [(bt_two_s hb c1 (by omega)).2 s] at c2
          simp at c2
      rw [z]
      simp [hb]
    · rw [if_neg hsp, Nat.zero_add]
      by_cases c : (O.testBit s && O.testBit (s + e)) = true
      · rw [if_pos c]
        rw [Bool.and_eq_true] at c
        obtain ⟨a1, a2⟩ := bt_two_s c.1 c.2 (by omega)
        have hlt : p < s := by
          rcases Nat.lt_trichotomy s p with q | q | q
          · rw [hlow s q] at c; exact absurd c.1 (by simp)
          · exact absurd q hsp
          · exact q
        refine Nat.le_trans ?_ (bd_low D (O - (2 ^ s + 2 ^ (s + e))) p hn.2 (fun d hd => hp d (List.mem_cons_of_mem _ hd)) (Nat.lt_of_le_of_lt (Nat.sub_le _ _) hO) (by rw [a2, hb]; simp [Ne.symm hsp]; omega) hp18 (fun q hq => by rw [a2, hlow q hq]; simp))
        apply sum_map_le
        intro d hd
        have hd0 := hp d (List.mem_cons_of_mem _ hd)
        by_cases c1 : O.testBit (p + d) = true
        · have b2 := (bt_two_s hb c1 (by omega)).2
          by_cases c2 : ((O - (2 ^ p + 2 ^ (p + d))).testBit s && (O - (2 ^ p + 2 ^ (p + d))).testBit (s + e)) = true
          · rw [if_pos ⟨c1, c2⟩]
            rw [Bool.and_eq_true, b2, b2] at c2
            simp only [Bool.and_eq_true, Bool.not_eq_true', decide_eq_false_iff_not] at c2
            rw [if_pos (by rw [a2, c1]; simp; exact ⟨fun q => c2.1.2 q.symm, fun q => c2.2.2 q.symm⟩), Nat.sub_right_comm]
            exact Nat.le_refl _
          · rw [if_neg (fun q => c2 q.2)]
            exact Nat.zero_le _
        · rw [if_neg (fun q => c1 q.1)]
          exact Nat.zero_le _
      · rw [if_neg c, sum_map_congr (g := fun _ => 0)]
        · rw [sum_map_zero D]; exact Nat.le_refl _
        · intro d hd
          apply if_neg
          rintro ⟨c1, c2⟩
          have hd0 := hp d (List.mem_cons_of_mem _ hd)
          have b2 := (bt_two_s hb c1 (by omega)).2
          rw [Bool.and_eq_true, b2, b2] at c2
          simp only [Bool.and_eq_true] at c2
          exact c (by rw [Bool.and_eq_true]; exact ⟨c2.1.1.1, c2.2.1.1⟩)
theorem flat_len {m : Nat} {c : Nat → Bool} {F : Nat → List (List (Nat × Nat))} : ∀ (l : List Nat), (l.flatMap (fun d => if (m.testBit d && c d) = true then F d else [])).length = ((l.filter (fun d => m.testBit d)).map (fun d => if c d = true then (F d).length else 0)).sum
  | [] => rfl
  | x :: l => by
    rw [List.flatMap_cons, List.length_append, flat_len l, List.filter_cons]
    cases hm : m.testBit x with
    | true =>
      simp only [Bool.true_and, if_true, List.map_cons, List.sum_cons]
      split <;> simp
    | false => simp
theorem ens_len {ok : Nat → Nat → Bool} : ∀ (k O m : Nat), O < 2 ^ 18 → m < 2 ^ 18 → m.testBit 0 = false → (bl m).length = k → (bl O).length = 2 * k → (ens ok k O m).length ≤ bd_cnt (bl m).reverse O
  | 0, O, m, hO, hm, h0, hk, hk2 => by
    have e1 : bl m = [] := List.length_eq_zero_iff.mp hk
    have e2 : O = 0 := bl_zero hO (List.length_eq_zero_iff.mp (by omega))
    rw [e1, e2]
    show 1 ≤ _
    simp [bd_cnt]
  | k + 1, O, m, hO, hm, h0, hk, hk2 => by
    have hne : bl O ≠ [] := fun q => by rw [q] at hk2; simp at hk2
    obtain ⟨a, b, c⟩ := lo_s hne
    generalize hp : lo O = p at a b c
    have hpos : ∀ d ∈ bl m, 0 < d := fun d hd => by
      rcases Nat.eq_zero_or_pos d with z | z
      · subst z; have := (bl_mem.mp hd).2; rw [h0] at this; cases this
      · exact z
    unfold ens
    rw [hp, flat_len]
    have key := bd_low (bl m).reverse O p (nodup_rev (bl_nodup m)) (fun d hd => hpos d (List.mem_reverse.mp hd)) hO a b c
    refine Nat.le_trans ?_ key
    rw [← List.sum_reverse, ← List.map_reverse]
    apply sum_map_le
    intro d hd
    have hd1 := bl_mem.mp (List.mem_reverse.mp hd)
    have hd0 := hpos d (List.mem_reverse.mp hd)
    by_cases c1 : O.testBit (p + d) = true
    · rw [if_pos c1]
      split
      · rw [List.length_map]
        have h18 : p + d < 18 := by
          rcases Nat.lt_or_ge (p + d) 18 with z | z
          · exact z
          · rw [bt_hi hO z] at c1; cases c1
        have l1 := bl_sub_len hd1.1 hd1.2
        have l2 := bl_sub2_len b h18 a c1 (by omega)
        have ih := ens_len (ok := ok) k (O - (2 ^ p + 2 ^ (p + d))) (m - 2 ^ d) (Nat.lt_of_le_of_lt (Nat.sub_le _ _) hO) (Nat.lt_of_le_of_lt (Nat.sub_le _ _) hm) (by rw [bt_sub hd1.2, h0]; rfl) (by omega) (by omega)
        rw [bl_sub hd1.2] at ih
        have e : ((bl m).erase d).reverse = (bl m).reverse.erase d := by
          rw [(bl_nodup m).erase_eq_filter, (nodup_rev (bl_nodup m)).erase_eq_filter, List.filter_reverse]
        rw [← e]
        exact ih
      · exact Nat.zero_le _
    · simp [c1]
theorem bd_ext_rev : ∀ (E D : List Nat), bd_ext E D = E.reverse ++ D
  | [], D => rfl
  | e :: E, D => by show bd_ext E (e :: D) = _; rw [bd_ext_rev E]; simp
theorem asc_filter {f : Nat → Bool} : ∀ (n a : Nat), a + n = 18 → bd_asc a ((List.range' a n).filter f)
  | 0, _, _ => trivial
  | n + 1, a, h => by
    rw [List.range'_succ, List.filter_cons]
    split
    · exact ⟨Nat.le_refl _, by omega, asc_filter n (a + 1) (by omega)⟩
    · exact bd_asc_up (by omega) (asc_filter n (a + 1) (by omega))
theorem ens_512 {ok : Nat → Nat → Bool} {k O m : Nat} (hO : O < 2 ^ 18) (hm : m < 2 ^ 18) (h0 : m.testBit 0 = false) (hk : (bl m).length = k) (hk8 : k ≤ 8) (hk2 : (bl O).length = 2 * k) : (ens ok k O m).length ≤ 512 := by
  refine Nat.le_trans (ens_len k O m hO hm h0 hk hk2) ?_
  have e : bl m = (List.range' 1 17).filter (fun d => m.testBit d) := by
    unfold bl
    rw [List.range_eq_range', show (18 : Nat) = 17 + 1 by rfl, List.range'_succ, List.filter_cons, h0]
    rfl
  have := bd_all (E := bl m) (by rw [e]; exact asc_filter 17 1 rfl) (by omega) O
  rw [bd_ext_rev, List.append_nil] at this
  exact this

