/-! the stack of choices (top first), and what is left of the list of arrangements -/
def ndO (O0 : Nat) : List (Nat × Nat) → Nat
  | [] => O0
  | (p, d) :: Z => ndO O0 Z - (2 ^ p + 2 ^ (p + d))
def ndM (m0 : Nat) : List (Nat × Nat) → Nat
  | [] => m0
  | (_, d) :: Z => ndM m0 Z - 2 ^ d
def vld (ok : Nat → Nat → Bool) (O0 m0 : Nat) : List (Nat × Nat) → Prop
  | [] => True
  | (p, d) :: Z => vld ok O0 m0 Z ∧ p = lo (ndO O0 Z) ∧ (ndM m0 Z).testBit d = true ∧ (ndO O0 Z).testBit (p + d) = true ∧ ok p d = true
def itm (ok : Nat → Nat → Bool) (k O m d : Nat) : List (List (Nat × Nat)) := if (m.testBit d && (O.testBit (lo O + d) && ok (lo O) d)) = true then (ens ok k (O - (2 ^ lo O + 2 ^ (lo O + d))) (m - 2 ^ d)).map (fun a => (lo O, d) :: a) else []
def enF (ok : Nat → Nat → Bool) (k O m b : Nat) : List (List (Nat × Nat)) := (List.range' b (18 - b)).flatMap (itm ok k O m)
theorem ens_F (ok : Nat → Nat → Bool) (k O m : Nat) : ens ok (k + 1) O m = enF ok k O m 0 := by
  unfold enF
  rw [Nat.sub_zero, ← List.range_eq_range']
  rfl
theorem enF_s {ok : Nat → Nat → Bool} {k O m b : Nat} (hb : b < 18) : enF ok k O m b = itm ok k O m b ++ enF ok k O m (b + 1) := by
  unfold enF
  rw [show 18 - b = (18 - (b + 1)) + 1 by omega, List.range'_succ, List.flatMap_cons]
theorem enF_skip {ok : Nat → Nat → Bool} {k O m : Nat} : ∀ (n b : Nat), b + n ≤ 18 → (∀ v, b ≤ v → v < b + n → itm ok k O m v = []) → enF ok k O m b = enF ok k O m (b + n)
  | 0, _, _, _ => rfl
  | n + 1, b, h, hz => by
    rw [enF_s (by omega), hz b (by omega) (by omega), List.nil_append, enF_skip n (b + 1) (by omega) (fun v h1 h2 => hz v (by omega) (by omega))]
    congr 1
    omega
theorem enF_18 {ok : Nat → Nat → Bool} {k O m : Nat} : enF ok k O m 18 = [] := rfl
def upR (ok : Nat → Nat → Bool) (n O0 m0 : Nat) : List (Nat × Nat) → List (List (Nat × Nat))
  | [] => []
  | (_, d) :: Z => (enF ok (n - Z.length - 1) (ndO O0 Z) (ndM m0 Z) (d + 1)).map (fun a => Z.reverse ++ a) ++ upR ok n O0 m0 Z
def rsR (ok : Nat → Nat → Bool) (n O0 m0 : Nat) (Z : List (Nat × Nat)) (b : Nat) : List (List (Nat × Nat)) := (enF ok (n - Z.length - 1) (ndO O0 Z) (ndM m0 Z) (b + 1)).map (fun a => Z.reverse ++ a) ++ upR ok n O0 m0 Z
theorem rs_none {ok : Nat → Nat → Bool} {n O0 m0 b : Nat} {Z : List (Nat × Nat)} (hb : b < 18) (h : ∀ v, b < v → v < 18 → itm ok (n - Z.length - 1) (ndO O0 Z) (ndM m0 Z) v = []) : rsR ok n O0 m0 Z b = upR ok n O0 m0 Z := by
  unfold rsR
  rw [enF_skip (18 - (b + 1)) (b + 1) (by omega) (fun v h1 h2 => h v (by omega) (by omega)), show b + 1 + (18 - (b + 1)) = 18 by omega, enF_18]
  rfl
theorem rs_some {ok : Nat → Nat → Bool} {n O0 m0 b w : Nat} {Z : List (Nat × Nat)} (hbw : b < w) (hw : w < 18) (h : ∀ v, b < v → v < w → itm ok (n - Z.length - 1) (ndO O0 Z) (ndM m0 Z) v = []) : rsR ok n O0 m0 Z b = (itm ok (n - Z.length - 1) (ndO O0 Z) (ndM m0 Z) w).map (fun a => Z.reverse ++ a) ++ rsR ok n O0 m0 Z w := by
  unfold rsR
  rw [enF_skip (w - (b + 1)) (b + 1) (by omega) (fun v h1 h2 => h v (by omega) (by omega)), show b + 1 + (w - (b + 1)) = w by omega, enF_s hw, List.map_append, List.append_assoc]
theorem rs_push {ok : Nat → Nat → Bool} {n O0 m0 b w : Nat} {Z : List (Nat × Nat)} (hbw : b < w) (hw : w < 18) (h : ∀ v, b < v → v < w → itm ok (n - Z.length - 1) (ndO O0 Z) (ndM m0 Z) v = []) (hi : ((ndM m0 Z).testBit w && ((ndO O0 Z).testBit (lo (ndO O0 Z) + w) && ok (lo (ndO O0 Z)) w)) = true) (hm0 : (ndM m0 Z - 2 ^ w).testBit 0 = false) (hlen : Z.length + 1 < n) :
    rsR ok n O0 m0 Z b = rsR ok n O0 m0 ((lo (ndO O0 Z), w) :: Z) 0 := by
  rw [rs_some hbw hw h]
  unfold itm
  rw [if_pos hi]
  obtain ⟨k, hk⟩ : ∃ k, n - Z.length - 1 = k + 1 := ⟨n - Z.length - 2, by omega⟩
  have e1 : n - ((lo (ndO O0 Z), w) :: Z).length - 1 = k := by simp only [List.length_cons]; omega
  conv => rhs; unfold rsR
  rw [e1, hk, ens_F, enF_s (show 0 < 18 by omega)]
  have e0 : itm ok k (ndO O0 Z - (2 ^ lo (ndO O0 Z) + 2 ^ (lo (ndO O0 Z) + w))) (ndM m0 Z - 2 ^ w) 0 = [] := by
    unfold itm
    rw [hm0]; rfl
  rw [e0, List.nil_append, List.map_map]
  show _ = List.map _ (enF ok k (ndO O0 Z - (2 ^ lo (ndO O0 Z) + 2 ^ (lo (ndO O0 Z) + w))) (ndM m0 Z - 2 ^ w) 1) ++ rsR ok n O0 m0 Z w
  congr 1
  apply List.map_congr_left
  intro a _
  simp
theorem rs_leaf {ok : Nat → Nat → Bool} {n O0 m0 b w : Nat} {Z : List (Nat × Nat)} (hbw : b < w) (hw : w < 18) (h : ∀ v, b < v → v < w → itm ok (n - Z.length - 1) (ndO O0 Z) (ndM m0 Z) v = []) (hi : ((ndM m0 Z).testBit w && ((ndO O0 Z).testBit (lo (ndO O0 Z) + w) && ok (lo (ndO O0 Z)) w)) = true) (hlen : Z.length + 1 = n) :
    rsR ok n O0 m0 Z b = ((lo (ndO O0 Z), w) :: Z).reverse :: upR ok n O0 m0 ((lo (ndO O0 Z), w) :: Z) := by
  rw [rs_some hbw hw h]
  unfold itm
  rw [if_pos hi, show n - Z.length - 1 = 0 by omega]
  simp only [ens, List.map_cons, List.map_nil, List.cons_append, List.nil_append, List.reverse_cons]
  rfl
theorem rs_start {ok : Nat → Nat → Bool} {n O0 m0 : Nat} (hn : 1 ≤ n) (hm0 : m0.testBit 0 = false) : rsR ok n O0 m0 [] 0 = ens ok n O0 m0 := by
  obtain ⟨k, rfl⟩ : ∃ k, n = k + 1 := ⟨n - 1, by omega⟩
  have e0 : itm ok k O0 m0 0 = [] := by unfold itm; rw [hm0]; rfl
  have e2 : enF ok k O0 m0 0 = enF ok k O0 m0 1 := by rw [enF_s (show 0 < 18 by omega), e0, List.nil_append]
  rw [ens_F, e2]
  unfold rsR upR
  simp only [List.length_nil, ndO, ndM, Nat.sub_zero, Nat.add_sub_cancel, List.reverse_nil, List.nil_append, List.map_id', List.append_nil, Nat.zero_add]
/-- the row of the choices -/
def rwZ : List (Nat × Nat) → Nat → Nat
  | [], _ => 0
  | (p, d) :: Z, q => if q = p ∨ q = p + d then d else rwZ Z q
def stk (pl ch : Nat → Int32) : List (Nat × Nat) → Prop
  | [] => True
  | (p, d) :: Z => pl Z.length = nI p ∧ ch Z.length = nI d ∧ stk pl ch Z
theorem stk_upd {pl ch : Nat → Int32} {i j : Nat} {x y : Int32} : ∀ {Z : List (Nat × Nat)}, stk pl ch Z → Z.length ≤ i → Z.length ≤ j → stk (upd pl i x) (upd ch j y) Z
  | [], _, _, _ => trivial
  | (p, d) :: Z, h, hi, hj => by
    simp only [List.length_cons] at hi hj
    refine ⟨?_, ?_, stk_upd h.2.2 (by omega) (by omega)⟩
    · rw [upd_at, if_neg (by omega)]; exact h.1
    · rw [upd_at, if_neg (by omega)]; exact h.2.1
theorem ndO_le (O0 : Nat) : ∀ Z, ndO O0 Z ≤ O0
  | [] => Nat.le_refl _
  | (p, d) :: Z => Nat.le_trans (Nat.sub_le _ _) (ndO_le O0 Z)
theorem ndM_le (m0 : Nat) : ∀ Z, ndM m0 Z ≤ m0
  | [] => Nat.le_refl _
  | (p, d) :: Z => Nat.le_trans (Nat.sub_le _ _) (ndM_le m0 Z)
section VLD
variable {ok : Nat → Nat → Bool} {O0 m0 n : Nat} (hO : O0 < 2 ^ 18) (hm : m0 < 2 ^ 18) (hm0 : m0.testBit 0 = false) (hk : (bl m0).length = n) (hk2 : (bl O0).length = 2 * n)
theorem ndM_0 : ∀ {Z : List (Nat × Nat)}, m0.testBit 0 = false → vld ok O0 m0 Z → (ndM m0 Z).testBit 0 = false
  | [], h, _ => h
  | (p, d) :: Z, h, hv => by
    show (ndM m0 Z - 2 ^ d).testBit 0 = false
    rw [bt_sub hv.2.2.1, ndM_0 h hv.1]; rfl
theorem vld_len : ∀ {Z : List (Nat × Nat)}, O0 < 2 ^ 18 → m0 < 2 ^ 18 → m0.testBit 0 = false → (bl m0).length = n → (bl O0).length = 2 * n → vld ok O0 m0 Z → (bl (ndM m0 Z)).length + Z.length = n ∧ (bl (ndO O0 Z)).length + 2 * Z.length = 2 * n ∧ (∀ p d, (p, d) ∈ Z → 0 < d ∧ d < 18 ∧ p + d < 18 ∧ (ndM m0 Z).testBit d = false ∧ (ndO O0 Z).testBit p = false ∧ (ndO O0 Z).testBit (p + d) = false)
  | [], _, _, _, h1, h2, _ => ⟨by simpa [ndM] using h1, by simpa [ndO] using h2, fun p d h => by cases h⟩
  | (p, d) :: Z, hO, hm, hm0, h1, h2, ⟨hv, hp, hd, hpd, _⟩ => by
    obtain ⟨a, b, c⟩ := vld_len hO hm hm0 h1 h2 hv
    have hd18 : d < 18 := by
      rcases Nat.lt_or_ge d 18 with z | z
      · exact z
      · rw [bt_hi (Nat.lt_of_le_of_lt (ndM_le m0 Z) hm) z] at hd; cases hd
    have hpd18 : p + d < 18 := by
      rcases Nat.lt_or_ge (p + d) 18 with z | z
      · exact z
      · rw [bt_hi (Nat.lt_of_le_of_lt (ndO_le O0 Z) hO) z] at hpd; cases hpd
    have hd0 : 0 < d := by
      rcases Nat.eq_zero_or_pos d with z | z
      · rw [z, ndM_0 hm0 hv] at hd; cases hd
      · exact z
    have hne : bl (ndO O0 Z) ≠ [] := List.ne_nil_of_mem (bl_mem.mpr ⟨hpd18, hpd⟩)
    obtain ⟨l1, l2, l3⟩ := lo_s hne
    rw [← hp] at l1 l2
    have e1 := bl_sub_len hd18 hd
    have e2 := bl_sub2_len l2 hpd18 l1 hpd (by omega)
    have o2 := (bt_two_s l1 hpd (by omega)).2
    refine ⟨by show (bl (ndM m0 Z - 2 ^ d)).length + (Z.length + 1) = n; omega, by show (bl (ndO O0 Z - (2 ^ p + 2 ^ (p + d)))).length + 2 * (Z.length + 1) = 2 * n; omega, fun p' d' h => ?_⟩
    rcases List.mem_cons.mp h with e | h
    · cases e
      refine ⟨hd0, hd18, hpd18, ?_, ?_, ?_⟩
      · show (ndM m0 Z - 2 ^ d).testBit d = false
        rw [bt_sub hd]; simp
      · show (ndO O0 Z - (2 ^ p + 2 ^ (p + d))).testBit p = false
        rw [o2]; simp
      · show (ndO O0 Z - (2 ^ p + 2 ^ (p + d))).testBit (p + d) = false
        rw [o2]; simp
    · obtain ⟨c1, c2, c3, c4, c5, c6⟩ := c p' d' h
      refine ⟨c1, c2, c3, ?_, ?_, ?_⟩
      · show (ndM m0 Z - 2 ^ d).testBit d' = false
        rw [bt_sub hd, c4]; rfl
      · show (ndO O0 Z - (2 ^ p + 2 ^ (p + d))).testBit p' = false
        rw [o2, c5]; rfl
      · show (ndO O0 Z - (2 ^ p + 2 ^ (p + d))).testBit (p' + d') = false
        rw [o2, c6]; rfl
theorem rwZ_open : ∀ {Z : List (Nat × Nat)}, (∀ p d, (p, d) ∈ Z → (ndO O0 Z).testBit p = false ∧ (ndO O0 Z).testBit (p + d) = false) → ∀ {q : Nat}, (ndO O0 Z).testBit q = true → rwZ Z q = 0 := by
  intro Z hz q hq
  have gen : ∀ (Y : List (Nat × Nat)), (∀ p d, (p, d) ∈ Y → q ≠ p ∧ q ≠ p + d) → rwZ Y q = 0 := by
    intro Y
    induction Y with
    | nil => intro _; rfl
    | cons x Y ih =>
      obtain ⟨p, d⟩ := x
      intro h
      have a := h p d List.mem_cons_self
      show (if q = p ∨ q = p + d then d else rwZ Y q) = 0
      rw [if_neg (by rintro (z | z); exact a.1 z; exact a.2 z)]
      exact ih (fun p d hh => h p d (List.mem_cons_of_mem _ hh))
  refine gen Z (fun p d h => ?_)
  obtain ⟨a, b⟩ := hz p d h
  refine ⟨fun e => ?_, fun e => ?_⟩
  · rw [← e, hq] at a; cases a
  · rw [← e, hq] at b; cases b
end VLD
