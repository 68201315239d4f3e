def en (f : Nat → Nat) : Nat → Nat
  | 0 => 0
  | n + 1 => en f n + f n * 2 ^ (16 * n)
theorem en_congr {f g : Nat → Nat} : ∀ {n : Nat}, (∀ S, S < n → f S = g S) → en f n = en g n
  | 0, _ => rfl
  | n + 1, h => by
    show en f n + _ = en g n + _
    rw [en_congr (fun S hS => h S (by omega)), h n (by omega)]
theorem en_pow (n : Nat) : 2 ^ (16 * (n + 1)) = 65536 * 2 ^ (16 * n) := by
  rw [show 16 * (n + 1) = 16 + 16 * n by omega, Nat.pow_add]
theorem en_lt {f : Nat → Nat} : ∀ {n : Nat}, (∀ S, S < n → f S < 65536) → en f n < 2 ^ (16 * n)
  | 0, _ => by simp [en]
  | n + 1, h => by
    have h1 := en_lt (f := f) (n := n) (fun S hS => h S (by omega))
    have h2 := h n (by omega)
    show en f n + f n * 2 ^ (16 * n) < _
    rw [en_pow]
    have h3 : f n * 2 ^ (16 * n) + 2 ^ (16 * n) ≤ 65536 * 2 ^ (16 * n) := by
      have := Nat.mul_le_mul_right (2 ^ (16 * n)) (show f n + 1 ≤ 65536 from h2)
      rw [Nat.add_mul, Nat.one_mul] at this
      exact this
    omega
theorem en_add {f g : Nat → Nat} : ∀ {n : Nat}, en f n + en g n = en (fun S => f S + g S) n
  | 0 => rfl
  | n + 1 => by
    show en f n + f n * 2 ^ (16 * n) + (en g n + g n * 2 ^ (16 * n)) = en _ n + (f n + g n) * 2 ^ (16 * n)
    rw [← en_add (f := f) (g := g) (n := n), Nat.add_mul]
    omega
theorem en_and1 {a b x y k : Nat} (ha : a < 2 ^ k) (hb : b < 2 ^ k) : (a + x * 2 ^ k) &&& (b + y * 2 ^ k) = (a &&& b) + (x &&& y) * 2 ^ k := by
  have hab : a &&& b < 2 ^ k := Nat.lt_of_le_of_lt Nat.and_le_left ha
  rw [Nat.add_comm a, Nat.add_comm b, Nat.add_comm (a &&& b), Nat.mul_comm x, Nat.mul_comm y, Nat.mul_comm (x &&& y)]
  apply Nat.eq_of_testBit_eq
  intro i
  rw [Nat.testBit_and, Nat.testBit_two_pow_mul_add _ ha, Nat.testBit_two_pow_mul_add _ hb, Nat.testBit_two_pow_mul_add _ hab]
  split <;> simp
theorem en_and {f g : Nat → Nat} : ∀ {n : Nat}, (∀ S, S < n → f S < 65536) → (∀ S, S < n → g S < 65536) → en f n &&& en g n = en (fun S => f S &&& g S) n
  | 0, _, _ => by simp [en]
  | n + 1, hf, hg => by
    show (en f n + f n * 2 ^ (16 * n)) &&& (en g n + g n * 2 ^ (16 * n)) = en _ n + (f n &&& g n) * 2 ^ (16 * n)
    rw [en_and1 (en_lt fun S hS => hf S (by omega)) (en_lt fun S hS => hg S (by omega)), en_and (fun S hS => hf S (by omega)) (fun S hS => hg S (by omega))]
theorem en_zero {f : Nat → Nat} : ∀ {n : Nat}, (∀ S, S < n → f S = 0) → en f n = 0
  | 0, _ => rfl
  | n + 1, h => by
    show en f n + f n * _ = 0
    rw [en_zero fun S hS => h S (by omega), h n (by omega)]
    simp
theorem en_zero_of {f : Nat → Nat} : ∀ {n : Nat}, en f n = 0 → ∀ S, S < n → f S = 0
  | 0, _, S, hS => by omega
  | n + 1, h, S, hS => by
    have h1 : en f n + f n * 2 ^ (16 * n) = 0 := h
    have h2 : en f n = 0 := by omega
    have h3 : f n * 2 ^ (16 * n) = 0 := by omega
    rcases Nat.lt_or_ge S n with q | q
    · exact en_zero_of h2 S q
    · have : S = n := by omega
      subst this
      rcases Nat.mul_eq_zero.mp h3 with z | z
      · exact z
      · exact absurd z (by have := Nat.two_pow_pos (16 * S); omega)
theorem en_app {f : Nat → Nat} {n : Nat} : ∀ {m : Nat}, en f (n + m) = en f n + en (fun S => f (n + S)) m * 2 ^ (16 * n)
  | 0 => by simp [en]
  | m + 1 => by
    show en f (n + m) + f (n + m) * 2 ^ (16 * (n + m)) = en f n + (en _ m + f (n + m) * 2 ^ (16 * m)) * 2 ^ (16 * n)
    rw [en_app (m := m), Nat.add_mul, Nat.mul_add 16, Nat.pow_add, Nat.add_assoc]
    congr 2
    rw [Nat.mul_assoc]
    congr 1
    exact Nat.mul_comm _ _
theorem en_shift {f : Nat → Nat} {n k : Nat} : en f n <<< (16 * k) = en (fun S => if S < k then 0 else f (S - k)) (k + n) := by
  rw [en_app, en_zero (fun S hS => if_pos hS), Nat.shiftLeft_eq, Nat.zero_add]
  congr 1
  apply en_congr
  intro S _
  rw [if_neg (by omega), show k + S - k = S by omega]
theorem en_trunc {f : Nat → Nat} {n m : Nat} (h : ∀ S, n ≤ S → S < n + m → f S = 0) : en f (n + m) = en f n := by
  rw [en_app, en_zero (fun S hS => h (n + S) (by omega) (by omega))]
  simp
theorem bt_add {T s : Nat} (h : T.testBit s = false) (j : Nat) : (T + 2 ^ s).testBit j = (T.testBit j || decide (j = s)) := by
  have hd : T = 2 ^ (s + 1) * (T / 2 ^ (s + 1)) + T % 2 ^ (s + 1) := (Nat.div_add_mod _ _).symm
  have hr : T % 2 ^ (s + 1) < 2 ^ s := by
    rw [Nat.testBit_eq_decide_div_mod_eq] at h
    simp only [decide_eq_false_iff_not] at h
    have e : T % 2 ^ (s + 1) = T % 2 ^ s + 2 ^ s * (T / 2 ^ s % 2) := by rw [Nat.pow_succ, Nat.mod_mul]
    have : T / 2 ^ s % 2 = 0 := by omega
    rw [e, this]
    have := Nat.mod_lt T (Nat.two_pow_pos s)
    omega
  have hp : 2 ^ (s + 1) = 2 ^ s + 2 ^ s := by rw [Nat.pow_succ]; omega
  have hr1 : T % 2 ^ (s + 1) < 2 ^ (s + 1) := by omega
  have hr2 : 2 ^ s + T % 2 ^ (s + 1) < 2 ^ (s + 1) := by omega
  have e2 : T + 2 ^ s = 2 ^ (s + 1) * (T / 2 ^ (s + 1)) + (2 ^ s + T % 2 ^ (s + 1)) := by omega
  rw [e2, Nat.testBit_two_pow_mul_add _ hr2]
  conv => rhs; rw [hd, Nat.testBit_two_pow_mul_add _ hr1]
  by_cases h1 : j < s + 1
  · rw [if_pos h1, if_pos h1]
    by_cases h2 : j = s
    · subst h2
      rw [Nat.testBit_two_pow_add_eq, Nat.testBit_lt_two_pow hr]
      simp
    · rw [Nat.testBit_two_pow_add_gt (by omega)]
      simp [h2]
  · rw [if_neg h1, if_neg h1]
    simp [show ¬ j = s by omega]
theorem bt_ge {S s : Nat} (h : S.testBit s = true) : 2 ^ s ≤ S := by
  rcases Nat.lt_or_ge S (2 ^ s) with q | q
  · rw [Nat.testBit_lt_two_pow q] at h; cases h
  · exact q
theorem bt_sub {S s : Nat} (h : S.testBit s = true) (j : Nat) : (S - 2 ^ s).testBit j = (S.testBit j && !decide (j = s)) := by
  have hge := bt_ge h
  have hd : S = 2 ^ (s + 1) * (S / 2 ^ (s + 1)) + S % 2 ^ (s + 1) := (Nat.div_add_mod _ _).symm
  have hp : 2 ^ (s + 1) = 2 ^ s + 2 ^ s := by rw [Nat.pow_succ]; omega
  have hr1 : S % 2 ^ (s + 1) < 2 ^ (s + 1) := Nat.mod_lt _ (Nat.two_pow_pos _)
  have hr : 2 ^ s ≤ S % 2 ^ (s + 1) := by
    rw [Nat.testBit_eq_decide_div_mod_eq] at h
    simp only [decide_eq_true_eq] at h
    have e : S % 2 ^ (s + 1) = S % 2 ^ s + 2 ^ s * (S / 2 ^ s % 2) := by rw [Nat.pow_succ, Nat.mod_mul]
    rw [e, h]
    omega
  have hf : (S - 2 ^ s).testBit s = false := by
    have e : S - 2 ^ s = 2 ^ (s + 1) * (S / 2 ^ (s + 1)) + (S % 2 ^ (s + 1) - 2 ^ s) := by omega
    rw [e, Nat.testBit_two_pow_mul_add _ (by omega), if_pos (by omega)]
    exact Nat.testBit_lt_two_pow (by omega)
  have h2 := bt_add hf j
  rw [show S - 2 ^ s + 2 ^ s = S by omega] at h2
  rw [h2]
  by_cases hj : j = s
  · subst hj; simp [hf]
  · simp [hj]

