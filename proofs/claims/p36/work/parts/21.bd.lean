def bd_rep : Nat → Nat → Nat → Nat
  | 0, _, x => x
  | k + 1, n, x => bd_rep k (2 * n) (x + x <<< (16 * n))
def bd_mask (s : Nat) : Nat := bd_rep (17 - s) (2 ^ (s + 1)) (2 ^ (16 * 2 ^ s) - 1)
def bd_ones (c : Nat) : Nat := bd_rep 18 1 c
def bd_place (d s V : Nat) : Nat := ((V &&& bd_mask s) &&& bd_mask (s + d)) <<< (16 * (2 ^ s + 2 ^ (s + d)))
def bd_add (d : Nat) : Nat → Nat → Nat
  | 0, _ => 0
  | k + 1, V => bd_add d k V + bd_place d k V
def bd_ok (B V : Nat) : Bool := ((V + bd_ones (32767 - B)) &&& bd_ones 32768) == 0
def bd_pr : Nat → Nat → Nat
  | _, 0 => 1
  | d, t + 1 => max 1 (18 - d) * bd_pr (d + 1) t
def bd_go : Nat → Nat → Nat → Nat → List Nat → Option (List Nat)
  | 0, _, _, _, h => some h
  | g + 1, r, m, V, h =>
    if m * bd_pr (17 - g) r ≤ 512 then some h
    else match r, h with
      | 0, _ => none
      | _ + 1, [] => none
      | r + 1, b :: h' =>
        if bd_ok b (bd_add (17 - g) (g + 1) V) && decide (b ≤ 512) then
          match bd_go g r b (bd_add (17 - g) (g + 1) V) h' with
          | some h'' => bd_go g (r + 1) m V h''
          | none => none
        else none
def bd_sum : Nat → (Nat → Nat) → Nat
  | 0, _ => 0
  | k + 1, F => bd_sum k F + F k
def bd_cnt : List Nat → Nat → Nat
  | [], S => if S = 0 then 1 else 0
  | d :: D, S => bd_sum (18 - d) (fun s => if (S.testBit s && S.testBit (s + d)) = true then bd_cnt D (S - (2 ^ s + 2 ^ (s + d))) else 0)
theorem bd_rep_s {f : Nat → Nat} : ∀ (k n : Nat), (∀ S i, i < k → S < n * 2 ^ i → f (n * 2 ^ i + S) = f S) → bd_rep k n (en f n) = en f (n * 2 ^ k)
  | 0, n, _ => by simp [bd_rep]
  | k + 1, n, h => by
    show bd_rep k (2 * n) (en f n + en f n <<< (16 * n)) = _
    have e : en f n + en f n <<< (16 * n) = en f (2 * n) := by
      rw [show 2 * n = n + n by omega, en_app, Nat.shiftLeft_eq]
      congr 2
      apply en_congr
      intro S hS
      have := h S 0 (by omega) (by simpa using hS)
      simp at this
      exact this.symm
    rw [e, bd_rep_s k (2 * n) (fun S i hi hS => by
      have e2 : 2 * n * 2 ^ i = n * 2 ^ (i + 1) := by rw [Nat.pow_succ, Nat.mul_comm 2 n, Nat.mul_assoc, Nat.mul_comm 2]
      rw [e2] at hS ⊢
      exact h S (i + 1) (by omega) hS)]
    congr 1
    rw [Nat.pow_succ, Nat.mul_comm 2 n, Nat.mul_assoc, Nat.mul_comm 2]
def bd_mu (s S : Nat) : Nat := if S.testBit s = true then 0 else 65535
theorem en_const (n : Nat) : en (fun _ => 65535) n = 2 ^ (16 * n) - 1 := by
  induction n with
  | zero => rfl
  | succ n ih =>
    show en _ n + 65535 * 2 ^ (16 * n) = _
    rw [ih, en_pow]
    have := Nat.two_pow_pos (16 * n)
    omega
theorem bd_mask_s {s : Nat} (hs : s < 18) : bd_mask s = en (bd_mu s) (2 ^ 18) := by
  have e : 2 ^ (16 * 2 ^ s) - 1 = en (bd_mu s) (2 ^ (s + 1)) := by
    rw [show 2 ^ (s + 1) = 2 ^ s + 2 ^ s by rw [Nat.pow_succ]; omega, en_trunc, ← en_const]
    · apply en_congr
      intro S hS
      simp [bd_mu, Nat.testBit_lt_two_pow hS]
    · intro S h1 h2
      have : S.testBit s = true := by
        have e : S = 2 ^ s + (S - 2 ^ s) := by omega
        rw [e, Nat.testBit_two_pow_add_eq, Nat.testBit_lt_two_pow (by omega)]
        rfl
      simp [bd_mu, this]
  unfold bd_mask
  rw [e, bd_rep_s]
  · congr 1
    rw [← Nat.pow_add]
    congr 1
    omega
  · intro S i hi hS
    rw [← Nat.pow_add] at hS ⊢
    unfold bd_mu
    rw [Nat.testBit_two_pow_add_gt (by omega)]
theorem bd_ones_s (c : Nat) : bd_ones c = en (fun _ => c) (2 ^ 18) := by
  have e : c = en (fun _ => c) 1 := by simp [en]
  unfold bd_ones
  conv => lhs; rw [e]
  rw [bd_rep_s 18 1 (fun _ _ _ _ => rfl)]
theorem bt_two {T s t j : Nat} (h1 : T.testBit s = false) (h2 : T.testBit t = false) (hst : s ≠ t) : (T + (2 ^ s + 2 ^ t)).testBit j = (T.testBit j || decide (j = s) || decide (j = t)) := by
  rw [← Nat.add_assoc, bt_add (by rw [bt_add h1, h2]; simp [Ne.symm hst]), bt_add h1]
theorem bt_two_s {S s t : Nat} (h1 : S.testBit s = true) (h2 : S.testBit t = true) (hst : s ≠ t) : 2 ^ s + 2 ^ t ≤ S ∧ ∀ j, (S - (2 ^ s + 2 ^ t)).testBit j = (S.testBit j && !decide (j = s) && !decide (j = t)) := by
  have a := bt_ge h1
  have h3 : (S - 2 ^ s).testBit t = true := by rw [bt_sub h1, h2]; simp [Ne.symm hst]
  have b := bt_ge h3
  refine ⟨by omega, fun j => ?_⟩
  rw [show S - (2 ^ s + 2 ^ t) = S - 2 ^ s - 2 ^ t by omega, bt_sub h3, bt_sub h1]
theorem bt_hi {x n : Nat} (hx : x < 2 ^ n) {j : Nat} (hj : n ≤ j) : x.testBit j = false := Nat.testBit_lt_two_pow (Nat.lt_of_lt_of_le hx (Nat.pow_le_pow_right (by omega) hj))
theorem bd_two_lt {T s t n : Nat} (hT : T < 2 ^ n) (hs : s < n) (ht : t < n) (h1 : T.testBit s = false) (h2 : T.testBit t = false) (hst : s ≠ t) : T + (2 ^ s + 2 ^ t) < 2 ^ n := by
  apply Nat.lt_pow_two_of_testBit
  intro i hi
  rw [bt_two h1 h2 hst, bt_hi hT hi]
  simp [show ¬ i = s by omega, show ¬ i = t by omega]
theorem bd_and (x : Nat) (h : x < 65536) : x &&& 65535 = x := by
  have := Nat.and_two_pow_sub_one_eq_mod x 16
  rw [show (2 : Nat) ^ 16 - 1 = 65535 by rfl] at this
  rw [this]
  exact Nat.mod_eq_of_lt h
theorem bd_place_s {f : Nat → Nat} {d s : Nat} (hf : ∀ S, f S < 65536) (hd : 0 < d) (hs : s + d < 18) : bd_place d s (en f (2 ^ 18)) = en (fun S => if (S.testBit s && S.testBit (s + d)) = true then f (S - (2 ^ s + 2 ^ (s + d))) else 0) (2 ^ 18) := by
  have hmu : ∀ q S, bd_mu q S < 65536 := fun q S => by unfold bd_mu; split <;> omega
  unfold bd_place
  rw [bd_mask_s (by omega), bd_mask_s hs, en_and (fun S _ => hf S) (fun S _ => hmu s S), en_and (fun S _ => Nat.lt_of_le_of_lt Nat.and_le_left (hf S)) (fun S _ => hmu (s + d) S), en_shift, Nat.add_comm _ (2 ^ 18)]
  generalize ht : s + d = t at *
  have hst : s ≠ t := by omega
  have key : ∀ S, S < 2 ^ 18 + (2 ^ s + 2 ^ t) → (if S < 2 ^ s + 2 ^ t then 0 else f (S - (2 ^ s + 2 ^ t)) &&& bd_mu s (S - (2 ^ s + 2 ^ t)) &&& bd_mu t (S - (2 ^ s + 2 ^ t))) = if (S.testBit s && S.testBit t) = true ∧ S < 2 ^ 18 then f (S - (2 ^ s + 2 ^ t)) else 0 := by
    intro S hS
    by_cases hb : (S.testBit s && S.testBit t) = true
    · rw [Bool.and_eq_true] at hb
      obtain ⟨a, b⟩ := bt_two_s hb.1 hb.2 hst
      rw [if_neg (by omega)]
      have c1 : bd_mu s (S - (2 ^ s + 2 ^ t)) = 65535 := by unfold bd_mu; rw [b s]; simp
      have c2 : bd_mu t (S - (2 ^ s + 2 ^ t)) = 65535 := by unfold bd_mu; rw [b t]; simp
      have hlt : S < 2 ^ 18 := by
        have h3 : S - (2 ^ s + 2 ^ t) < 2 ^ 18 := by omega
        have := bd_two_lt h3 (by omega) (by omega) (by rw [b s]; simp) (by rw [b t]; simp) hst
        rw [show S - (2 ^ s + 2 ^ t) + (2 ^ s + 2 ^ t) = S by omega] at this
        exact this
      rw [if_pos ⟨by simp [hb.1, hb.2], hlt⟩, c1, c2, bd_and _ (hf _), bd_and _ (hf _)]
    · rw [if_neg (c := (S.testBit s && S.testBit t) = true ∧ S < 2 ^ 18) (fun z => hb z.1)]
      by_cases hlt : S < 2 ^ s + 2 ^ t
      · rw [if_pos hlt]
      · rw [if_neg hlt]
        by_cases c1 : (S - (2 ^ s + 2 ^ t)).testBit s = true
        · rw [show bd_mu s (S - (2 ^ s + 2 ^ t)) = 0 by simp [bd_mu, c1]]; simp
        · by_cases c2 : (S - (2 ^ s + 2 ^ t)).testBit t = true
          · rw [show bd_mu t (S - (2 ^ s + 2 ^ t)) = 0 by simp [bd_mu, c2]]; simp
          · exfalso
            apply hb
            simp only [Bool.not_eq_true] at c1 c2
            have e : S = S - (2 ^ s + 2 ^ t) + (2 ^ s + 2 ^ t) := by omega
            rw [e, bt_two c1 c2 hst, bt_two c1 c2 hst]
            simp
  rw [en_trunc]
  · apply en_congr
    intro S hS
    rw [key S (by have := Nat.two_pow_pos s; have := Nat.two_pow_pos t; omega)]
    by_cases z : (S.testBit s && S.testBit t) = true
    · rw [if_pos ⟨z, hS⟩, if_pos z]
    · rw [if_neg (fun q => z q.1), if_neg z]
  · intro S h1 h2
    rw [key S h2, if_neg (by omega)]
theorem bd_add_s {f : Nat → Nat} {d : Nat} (hf : ∀ S, f S < 65536) (hd : 0 < d) : ∀ {k : Nat}, k + d ≤ 18 → bd_add d k (en f (2 ^ 18)) = en (fun S => bd_sum k (fun s => if (S.testBit s && S.testBit (s + d)) = true then f (S - (2 ^ s + 2 ^ (s + d))) else 0)) (2 ^ 18)
  | 0, _ => (en_zero fun _ _ => rfl).symm
  | k + 1, h => by
    show bd_add d k _ + bd_place d k _ = _
    rw [bd_add_s hf hd (by omega), bd_place_s hf hd (by omega), en_add]
    rfl
theorem bd_cnt_hi : ∀ (D : List Nat) (S : Nat), (∀ d ∈ D, 0 < d) → 2 ^ 18 ≤ S → bd_cnt D S = 0
  | [], S, _, h => if_neg (by omega)
  | d :: D, S, hp, h => by
    have z : ∀ k, k + d ≤ 18 → bd_sum k (fun s => if (S.testBit s && S.testBit (s + d)) = true then bd_cnt D (S - (2 ^ s + 2 ^ (s + d))) else 0) = 0 := by
      intro k
      induction k with
      | zero => intro _; rfl
      | succ k ih =>
        intro hk
        show bd_sum k _ + (if _ then _ else _) = 0
        rw [ih (by omega)]
        split
        · next hb =>
          rw [Bool.and_eq_true] at hb
          have hd0 := hp d List.mem_cons_self
          obtain ⟨a, b⟩ := bt_two_s hb.1 hb.2 (by omega)
          rw [bd_cnt_hi D _ (fun x hx => hp x (List.mem_cons_of_mem _ hx))]
          rcases Nat.lt_or_ge (S - (2 ^ k + 2 ^ (k + d))) (2 ^ 18) with q | q
          · exfalso
            have := bd_two_lt q (show k < 18 by omega) (show k + d < 18 by omega) (by rw [b k]; simp) (by rw [b (k + d)]; simp) (by omega)
            omega
          · exact q
        · rfl
    show bd_sum (18 - d) _ = 0
    by_cases hd : d ≤ 18
    · exact z (18 - d) (by omega)
    · rw [show 18 - d = 0 by omega]; rfl
theorem bd_sum_le {F : Nat → Nat} {m : Nat} : ∀ {k : Nat}, (∀ s, s < k → F s ≤ m) → bd_sum k F ≤ k * m
  | 0, _ => by simp [bd_sum]
  | k + 1, h => by
    have a := bd_sum_le (F := F) (k := k) (fun s hs => h s (by omega))
    have b := h k (by omega)
    show bd_sum k F + F k ≤ _
    rw [Nat.succ_mul]
    omega
theorem bd_cnt_le {d m : Nat} {D : List Nat} (h : ∀ S, bd_cnt D S ≤ m) (S : Nat) : bd_cnt (d :: D) S ≤ (18 - d) * m := by
  refine bd_sum_le (fun s _ => ?_)
  show (if _ then _ else _) ≤ m
  split
  · exact h _
  · omega
theorem bd_ok_s {B : Nat} {f : Nat → Nat} (hf : ∀ S, f S < 32768) (hB : B < 32768) (h : bd_ok B (en f (2 ^ 18)) = true) : ∀ S, S < 2 ^ 18 → f S ≤ B := by
  intro S hS
  unfold bd_ok at h
  rw [beq_iff_eq, bd_ones_s, bd_ones_s, en_add, en_and (fun S _ => by have := hf S; omega) (fun S _ => by omega)] at h
  have h1 := en_zero_of h S hS
  have h2 : (f S + (32767 - B)) < 2 ^ 16 := by have := hf S; omega
  rcases Nat.lt_or_ge (f S + (32767 - B)) 32768 with q | q
  · omega
  · exfalso
    have e : f S + (32767 - B) = 2 ^ 15 + (f S + (32767 - B) - 2 ^ 15) := by omega
    have t1 : (f S + (32767 - B)).testBit 15 = true := by
      rw [e, Nat.testBit_two_pow_add_eq, Nat.testBit_lt_two_pow (by omega)]; rfl
    have t2 : ((f S + (32767 - B)) &&& 32768).testBit 15 = true := by
      rw [Nat.testBit_and, t1, show (32768 : Nat) = 2 ^ 15 by rfl, Nat.testBit_two_pow]; rfl
    rw [h1] at t2
    simp at t2
def bd_ext : List Nat → List Nat → List Nat
  | [], D => D
  | e :: E, D => bd_ext E (e :: D)
def bd_asc : Nat → List Nat → Prop
  | _, [] => True
  | d, e :: E => d ≤ e ∧ e < 18 ∧ bd_asc (e + 1) E
theorem bd_asc_up {d d' : Nat} (h : d ≤ d') : ∀ {E : List Nat}, bd_asc d' E → bd_asc d E
  | [], _ => trivial
  | _ :: _, z => ⟨by have := z.1; omega, z.2⟩
theorem bd_pr_1 (d t : Nat) : 1 ≤ bd_pr d t := by
  induction t generalizing d with
  | zero => exact Nat.le_refl _
  | succ t ih =>
    show 1 ≤ max 1 (18 - d) * bd_pr (d + 1) t
    have a : 1 ≤ max 1 (18 - d) := Nat.le_max_left _ _
    exact Nat.le_trans (ih (d + 1)) (Nat.le_mul_of_pos_left _ a)
theorem bd_ext_le : ∀ (E : List Nat) (d r m : Nat) (D : List Nat), bd_asc d E → E.length ≤ r → (∀ S, bd_cnt D S ≤ m) → ∀ S, bd_cnt (bd_ext E D) S ≤ m * bd_pr d r
  | [], d, r, m, D, _, _, h, S => Nat.le_trans (h S) (Nat.le_mul_of_pos_right _ (bd_pr_1 d r))
  | e :: E, d, 0, m, D, _, hl, _, _ => by simp at hl
  | e :: E, d, r + 1, m, D, ha, hl, h, S => by
    have h1 := bd_ext_le E (d + 1) r ((18 - e) * m) (e :: D) (bd_asc_up (by have := ha.1; omega) ha.2.2) (by simpa using hl) (bd_cnt_le h) S
    refine Nat.le_trans h1 ?_
    show (18 - e) * m * bd_pr (d + 1) r ≤ m * (max 1 (18 - d) * bd_pr (d + 1) r)
    rw [← Nat.mul_assoc m]
    apply Nat.mul_le_mul_right
    rw [Nat.mul_comm (18 - e)]
    apply Nat.mul_le_mul_left
    have := ha.1
    omega
theorem bd_node {b d : Nat} {D : List Nat} (hD : ∀ x ∈ D, 0 < x) (hd : 0 < d) (hd2 : d < 18) (hm : ∀ S, bd_cnt D S ≤ 512) (h : bd_ok b (bd_add d (18 - d) (en (bd_cnt D) (2 ^ 18))) = true) (hb : b ≤ 512) : bd_add d (18 - d) (en (bd_cnt D) (2 ^ 18)) = en (bd_cnt (d :: D)) (2 ^ 18) ∧ ∀ S, bd_cnt (d :: D) S ≤ b := by
  have e : bd_add d (18 - d) (en (bd_cnt D) (2 ^ 18)) = en (bd_cnt (d :: D)) (2 ^ 18) := by
    rw [bd_add_s (fun S => by have := hm S; omega) hd (by omega)]
    rfl
  refine ⟨e, fun S => ?_⟩
  rw [e] at h
  have h2 : ∀ S, bd_cnt (d :: D) S < 32768 := fun S => by
    have := bd_cnt_le (d := d) hm S
    have h3 : (18 - d) * 512 ≤ 18 * 512 := Nat.mul_le_mul_right _ (by omega)
    omega
  rcases Nat.lt_or_ge S (2 ^ 18) with q | q
  · exact bd_ok_s h2 (by omega) h S q
  · rw [bd_cnt_hi _ S (fun x hx => by rcases List.mem_cons.mp hx with rfl | hx; exact hd; exact hD x hx) q]
    omega
def bd_Good (d r : Nat) (D : List Nat) : Prop := ∀ E, bd_asc d E → E.length ≤ r → ∀ S, bd_cnt (bd_ext E D) S ≤ 512
theorem bd_Good_cons {d r : Nat} {D : List Nat} (h0 : ∀ S, bd_cnt D S ≤ 512) (h1 : bd_Good (d + 1) r (d :: D)) (h2 : bd_Good (d + 1) (r + 1) D) : bd_Good d (r + 1) D := by
  intro E ha hl S
  match E, ha, hl with
  | [], _, _ => exact h0 S
  | e :: E, ha, hl =>
    rcases Nat.lt_or_ge d e with q | q
    · exact h2 (e :: E) ⟨q, ha.2⟩ hl S
    · have : e = d := by have := ha.1; omega
      subst this
      exact h1 E ha.2.2 (by simpa using hl) S
theorem bd_Good_le {d r m : Nat} {D : List Nat} (hm : ∀ S, bd_cnt D S ≤ m) (h : m * bd_pr d r ≤ 512) : bd_Good d r D := fun E ha hl S => Nat.le_trans (bd_ext_le E d r m D ha hl hm S) h
theorem bd_go_s : ∀ (g r m : Nat) (h h1 : List Nat) (D : List Nat), g < 18 → bd_go g r m (en (bd_cnt D) (2 ^ 18)) h = some h1 → (∀ x ∈ D, 0 < x) → (∀ S, bd_cnt D S ≤ m) → m ≤ 512 → bd_Good (18 - g) r D
  | 0, r, m, h, h1, D, _, _, _, hm, h5 => fun E ha _ S => by
    match E, ha with
    | [], _ => exact Nat.le_trans (hm S) h5
    | e :: E, ha => have := ha.1; have := ha.2.1; omega
  | g + 1, r, m, h, h1, D, hg, hgo, hD, hm, h5 => by
    have e18 : 18 - (g + 1) = 17 - g := by omega
    rw [e18]
    unfold bd_go at hgo
    split at hgo
    · next hp => exact bd_Good_le hm hp
    · split at hgo
      · cases hgo
      · cases hgo
      · next r b h' _ =>
        split at hgo
        · next hb =>
          rw [Bool.and_eq_true, decide_eq_true_eq] at hb
          have ek : g + 1 = 18 - (17 - g) := by omega
          have hb1 := hb.1
          rw [ek] at hb1
          obtain ⟨e, hb2⟩ := bd_node hD (by omega) (by omega) (fun S => Nat.le_trans (hm S) h5) hb1 hb.2
          rw [ek, e] at hgo
          split at hgo
          · next h'' hc =>
            have c1 := bd_go_s g r b _ _ _ (by omega) hc (fun x hx => by rcases List.mem_cons.mp hx with rfl | hx; omega; exact hD x hx) hb2 hb.2
            have c2 := bd_go_s g (r + 1) m _ _ _ (by omega) hgo hD hm h5
            rw [show 18 - g = 17 - g + 1 by omega] at c1 c2
            exact bd_Good_cons (fun S => Nat.le_trans (hm S) h5) c1 c2
          · cases hgo
        · cases hgo

