theorem stN_bit {l h w p : Nat} {f : Nat → Nat} (hl : l ≤ 18) : (stN l h w f).testBit p = sbN l h w f p := by
  have hu : ∀ q, (usN l h w f).testBit q = ((frN l h).testBit q && pnB true f q w) := fun q => by
    unfold usN pnB
    rw [Nat.testBit_and, Nat.testBit_or, mkm_bit, mkm_bit, ← Bool.and_or_distrib_left, frN_bit hl]
    cases decide (q < l) <;> simp
  unfold stN sbN
  rw [Nat.testBit_and, Nat.testBit_div_two_pow, hu, hu]
  cases (frN l h).testBit p <;> cases (frN l h).testBit (p + w) <;> cases pnB true f p w <;> simp
theorem stN_mk {l h w : Nat} {f : Nat → Nat} (hl : l ≤ 18) : stN l h w f = mkm (sbN l h w f) l := by
  apply Nat.eq_of_testBit_eq
  intro p
  rw [stN_bit hl, mkm_bit]
  by_cases c : p < l
  · rw [decide_eq_true c, Bool.true_and]
  · rw [decide_eq_false c, Bool.false_and]
    unfold sbN
    rw [frN_bit hl, decide_eq_false c]; rfl
theorem flat_filter {α β : Type} {F : α → List β} {q : α → Bool} : ∀ {l : List α}, (∀ x ∈ l, q x = false → F x = []) → l.flatMap F = (l.filter q).flatMap F
  | [], _ => rfl
  | x :: l, h => by
    rw [List.flatMap_cons, List.filter_cons, flat_filter (fun y hy => h y (List.mem_cons_of_mem _ hy))]
    cases c : q x with
    | true => simp
    | false => rw [h x List.mem_cons_self c]; simp
theorem flat_congr {α β : Type} {F G : α → List β} : ∀ {l : List α}, (∀ x ∈ l, F x = G x) → l.flatMap F = l.flatMap G
  | [], _ => rfl
  | x :: l, h => by
    rw [List.flatMap_cons, List.flatMap_cons, h x List.mem_cons_self, flat_congr (fun y hy => h y (List.mem_cons_of_mem _ hy))]
theorem bl_map (d : Nat) : bl d = (List.range (bl d).length).map (ddN d) := by
  apply List.ext_getElem?
  intro i
  by_cases c : i < (bl d).length
  · rw [dd_get c]
    simp [c]
  · rw [List.getElem?_eq_none (by omega)]
    simp [List.getElem?_eq_none (show (List.range (bl d).length).length ≤ i by rw [List.length_range]; omega)]
theorem flat_dd {β : Type} {d : Nat} {F : Nat → List β} {G : Nat → List β} (h8 : (bl d).length ≤ 8) (h1 : ∀ w, w < 18 → d.testBit w = false → F w = []) (h2 : ∀ i, i < 8 → ¬ i < (bl d).length → G i = []) (h3 : ∀ i, i < (bl d).length → G i = F (ddN d i)) : (List.range 8).flatMap G = (List.range 18).flatMap F := by
  rw [flat_filter (q := fun w => d.testBit w) (fun x hx hq => h1 x (List.mem_range.mp hx) hq)]
  show _ = (bl d).flatMap F
  rw [bl_map d, List.flatMap_map]
  rw [flat_filter (q := fun i => decide (i < (bl d).length)) (fun x hx hq => h2 x (List.mem_range.mp hx) (by simpa using hq))]
  have e : (List.range 8).filter (fun i => decide (i < (bl d).length)) = List.range (bl d).length := by
    generalize (bl d).length = n at h8
    have : ∀ n, n < 9 → (List.range 8).filter (fun i => decide (i < n)) = List.range n := by decide +kernel
    exact this n (by omega)
  rw [e]
  exact flat_congr (fun i hi => h3 i (List.mem_range.mp hi))
section SAME
variable {l h d : Nat} {f : Nat → Nat}
theorem fl_ens (hl : l ≤ 18) (hd : d < 2 ^ 18) (hd0 : d.testBit 0 = false) (h8 : (bl d).length ≤ 8) : ∀ (k O left m st : Nat), O < 2 ^ 18 → (∀ q, O.testBit q = true → (frN l h).testBit q = true) → left < 2 ^ (bl d).length → m < 2 ^ 18 → (∀ w, m.testBit w = true → d.testBit w = true) → (∀ i, i < (bl d).length → m.testBit (ddN d i) = left.testBit i) → (bl m).length = k → (bl O).length = 2 * k → flC (ddN d) (smN l h d f) k O left st = (ens (okB true f) k O m).map (fun a => st ||| pkA d a)
  | 0, O, left, m, st, hO, hOF, hlt, hm, hmd, hml, hk, hk2 => by simp [flC, ens, pkA]
  | k + 1, O, left, m, st, hO, hOF, hlt, hm, hmd, hml, hk, hk2 => by
    have hm0 : m.testBit 0 = false := by
      cases c : m.testBit 0 with
      | false => rfl
      | true => rw [hmd 0 c] at hd0; cases hd0
    have hos : ∀ i, i < (bl d).length → ∀ p, (osN (ddN d) (smN l h d f) O i).testBit p = (O.testBit p && (O.testBit (p + ddN d i) && okB true f p (ddN d i))) := by
      intro i hi p
      unfold osN smN okB
      rw [Nat.testBit_and, Nat.testBit_and, Nat.testBit_div_two_pow, stN_bit hl]
      unfold sbN
      cases c1 : O.testBit p with
      | false => simp
      | true =>
        cases c2 : O.testBit (p + ddN d i) with
        | false => simp
        | true =>
          rw [hOF _ c1, hOF _ c2]
          simp
    unfold flC
    cases hac : acB (ddN d) (smN l h d f) O left 8 with
    | false =>
      simp only [Bool.false_eq_true, if_false]
      symm
      rw [List.map_eq_nil_iff]
      cases he : ens (okB true f) (k + 1) O m with
      | nil => rfl
      | cons a R =>
        exfalso
        have ha : a ∈ ens (okB true f) (k + 1) O m := by rw [he]; exact List.mem_cons_self
        unfold acB at hac
        obtain ⟨i, hi8, hi⟩ := List.all_eq_false.mp hac
        simp only [Bool.or_eq_true, Bool.not_eq_true', not_or, Bool.not_eq_false, beq_iff_eq, Bool.not_eq_true, bne_iff_ne, ne_eq] at hi
        have hil : left.testBit i = true := by
          cases z : left.testBit i with
          | true => rfl
          | false => rw [z] at hi; simp at hi
        have hin : i < (bl d).length := by
          rcases Nat.lt_or_ge i (bl d).length with z | z
          · exact z
          · rw [bt_hi hlt z] at hil; cases hil
        have hmi := hml i hin
        rw [hil] at hmi
        obtain ⟨p, hp⟩ := ens_has (k + 1) O m hm hk a ha _ hmi
        obtain ⟨r1, r2, r3, _, _⟩ := ens_wit (k + 1) O m hO hm0 hk2 a ha p _ hp
        have hb := hos i hin p
        rw [r1, r2, r3] at hb
        have h0 : osN (ddN d) (smN l h d f) O i = 0 := by
          rw [hil] at hi
          simpa using hi
        rw [h0] at hb
        simp at hb
    | true =>
      simp only [if_true]
      have hne : bl O ≠ [] := fun q => by rw [q] at hk2; simp at hk2
      obtain ⟨l1, l2, l3⟩ := lo_s hne
      have hE : ens (okB true f) (k + 1) O m = (List.range 18).flatMap (fun d => if (m.testBit d && (O.testBit (lo O + d) && okB true f (lo O) d)) = true then (ens (okB true f) k (O - (2 ^ lo O + 2 ^ (lo O + d))) (m - 2 ^ d)).map (fun a => (lo O, d) :: a) else []) := rfl
      rw [hE, List.map_flatMap]
      refine flat_dd h8 (fun w hw hdw => ?_) (fun i hi hin => ?_) (fun i hi => ?_)
      · have : m.testBit w = false := by
          cases c : m.testBit w with
          | false => rfl
          | true => rw [hmd w c] at hdw; cases hdw
        rw [this]; rfl
      · unfold flI
        rw [bt_hi hlt (by omega)]; rfl
      · unfold flI
        rw [hos i hi, l1, hml i hi]
        by_cases c : (left.testBit i && (O.testBit (lo O + ddN d i) && okB true f (lo O) (ddN d i))) = true
        · rw [if_pos (by rw [Bool.true_and]; exact c), if_pos c, List.map_map]
          rw [Bool.and_eq_true, Bool.and_eq_true] at c
          obtain ⟨c1, c2, c3⟩ := c
          have hmi := hml i hi
          rw [c1] at hmi
          have hi8 : i < 18 := by omega
          obtain ⟨dd1, dd2⟩ := dd_mem hi
          have dd0 : 0 < ddN d i := by
            rcases Nat.eq_zero_or_pos (ddN d i) with z | z
            · rw [z, hd0] at dd2; cases dd2
            · exact z
          have h18 : lo O + ddN d i < 18 := by
            rcases Nat.lt_or_ge (lo O + ddN d i) 18 with z | z
            · exact z
            · rw [bt_hi hO z] at c2; cases c2
          have hl2 := bl_sub2_len l2 h18 l1 c2 (by omega)
          have hl1 := bl_sub_len dd1 hmi
          have t := (bt_two_s l1 c2 (by omega)).2
          rw [fl_ens hl hd hd0 h8 k (O - (2 ^ lo O + 2 ^ (lo O + ddN d i))) (left - 2 ^ i) (m - 2 ^ ddN d i) (st ||| lo O * 2 ^ (5 * i)) (Nat.lt_of_le_of_lt (Nat.sub_le _ _) hO) (fun q hq => hOF q (by rw [t] at hq; simp only [Bool.and_eq_true] at hq; exact hq.1.1)) (Nat.lt_of_le_of_lt (Nat.sub_le _ _) hlt) (Nat.lt_of_le_of_lt (Nat.sub_le _ _) hm) (fun w hw => hmd w (by rw [bt_sub hmi] at hw; simp only [Bool.and_eq_true] at hw; exact hw.1)) (fun j hj => by
            rw [bt_sub hmi, bt_sub c1, hml j hj]
            congr 2
            exact decide_eq_decide.mpr ⟨fun e => dd_inj hj hi e, fun e => by rw [e]⟩) (by omega) (by omega)]
          apply List.map_congr_left
          intro a _
          show (st ||| lo O * 2 ^ (5 * i)) ||| pkA d a = st ||| (lo O * 2 ^ (5 * ixN d (ddN d i)) ||| pkA d a)
          rw [ix_dd hi, Nat.or_assoc]
        · rw [if_neg (by rw [Bool.true_and]; exact c), if_neg c]; rfl
end SAME
