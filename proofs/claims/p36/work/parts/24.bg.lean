theorem bd_f0 : bd_v0 = en (bd_cnt []) (2 ^ 18) ∧ ∀ S, bd_cnt [] S ≤ 1 := by
  refine ⟨?_, fun S => by show (if _ then _ else _) ≤ 1; split <;> omega⟩
  rw [show (2 : Nat) ^ 18 = 1 + 262143 by rfl, en_app, en_zero (n := 262143) (fun S hS => by show (if _ then _ else _) = 0; rw [if_neg (by omega)])]
  rfl
theorem bd_step {b d m vA vB : Nat} {D : List Nat} (hD : ∀ x ∈ D, 0 < x) (hd : 0 < d) (hd2 : d < 18) (hf : vA = en (bd_cnt D) (2 ^ 18) ∧ ∀ S, bd_cnt D S ≤ m) (hm : m ≤ 512) (h : bd_ok b (bd_add d (18 - d) vA) = true) (hb : b ≤ 512) (e : vB = bd_add d (18 - d) vA) : vB = en (bd_cnt (d :: D)) (2 ^ 18) ∧ ∀ S, bd_cnt (d :: D) S ≤ b := by
  rw [hf.1] at h e
  obtain ⟨a, c⟩ := bd_node hD hd hd2 (fun S => Nat.le_trans (hf.2 S) hm) h hb
  exact ⟨e.trans a, c⟩
theorem bd_f1 : bd_v1 = en (bd_cnt [1]) (2 ^ 18) ∧ ∀ S, bd_cnt [1] S ≤ 1 := bd_step (d := 1) (by decide) (by omega) (by omega) bd_f0 (by omega) bd_f1_k (by omega) rfl
theorem bd_f1_2 : bd_v1_2 = en (bd_cnt [2, 1]) (2 ^ 18) ∧ ∀ S, bd_cnt [2, 1] S ≤ 1 := bd_step (d := 2) (by decide) (by omega) (by omega) bd_f1 (by omega) bd_f1_2_k (by omega) rfl
theorem bd_f1_2_3 : bd_v1_2_3 = en (bd_cnt [3, 2, 1]) (2 ^ 18) ∧ ∀ S, bd_cnt [3, 2, 1] S ≤ 2 := bd_step (d := 3) (by decide) (by omega) (by omega) bd_f1_2 (by omega) bd_f1_2_3_k (by omega) rfl
theorem bd_f1_2_3_4 : bd_v1_2_3_4 = en (bd_cnt [4, 3, 2, 1]) (2 ^ 18) ∧ ∀ S, bd_cnt [4, 3, 2, 1] S ≤ 6 := bd_step (d := 4) (by decide) (by omega) (by omega) bd_f1_2_3 (by omega) bd_f1_2_3_4_k (by omega) rfl
theorem bd_f1_2_3_4_5 : bd_v1_2_3_4_5 = en (bd_cnt [5, 4, 3, 2, 1]) (2 ^ 18) ∧ ∀ S, bd_cnt [5, 4, 3, 2, 1] S ≤ 12 := bd_step (d := 5) (by decide) (by omega) (by omega) bd_f1_2_3_4 (by omega) bd_f1_2_3_4_5_k (by omega) rfl
theorem bd_g6 : bd_Good 6 3 [5, 4, 3, 2, 1] := bd_go_s 12 3 12 _ _ _ (by omega) (by rw [← bd_f1_2_3_4_5.1]; exact bd_g6_p) (by decide) bd_f1_2_3_4_5.2 (by omega)
theorem bd_g7 : bd_Good 6 4 [4, 3, 2, 1] := bd_go_s 12 4 6 _ _ _ (by omega) (by rw [← bd_f1_2_3_4.1]; exact bd_g7_p) (by decide) bd_f1_2_3_4.2 (by omega)
theorem bd_g5 : bd_Good 5 4 [4, 3, 2, 1] := bd_Good_cons (fun S => Nat.le_trans (bd_f1_2_3_4.2 S) (by omega)) bd_g6 bd_g7
theorem bd_f1_2_3_5 : bd_v1_2_3_5 = en (bd_cnt [5, 3, 2, 1]) (2 ^ 18) ∧ ∀ S, bd_cnt [5, 3, 2, 1] S ≤ 4 := bd_step (d := 5) (by decide) (by omega) (by omega) bd_f1_2_3 (by omega) bd_f1_2_3_5_k (by omega) rfl
theorem bd_g9 : bd_Good 6 4 [5, 3, 2, 1] := bd_go_s 12 4 4 _ _ _ (by omega) (by rw [← bd_f1_2_3_5.1]; exact bd_g9_p) (by decide) bd_f1_2_3_5.2 (by omega)
theorem bd_g10 : bd_Good 6 5 [3, 2, 1] := bd_go_s 12 5 2 _ _ _ (by omega) (by rw [← bd_f1_2_3.1]; exact bd_g10_p) (by decide) bd_f1_2_3.2 (by omega)
theorem bd_g8 : bd_Good 5 5 [3, 2, 1] := bd_Good_cons (fun S => Nat.le_trans (bd_f1_2_3.2 S) (by omega)) bd_g9 bd_g10
theorem bd_g4 : bd_Good 4 5 [3, 2, 1] := bd_Good_cons (fun S => Nat.le_trans (bd_f1_2_3.2 S) (by omega)) bd_g5 bd_g8
theorem bd_f1_2_4 : bd_v1_2_4 = en (bd_cnt [4, 2, 1]) (2 ^ 18) ∧ ∀ S, bd_cnt [4, 2, 1] S ≤ 2 := bd_step (d := 4) (by decide) (by omega) (by omega) bd_f1_2 (by omega) bd_f1_2_4_k (by omega) rfl
theorem bd_f1_2_4_5 : bd_v1_2_4_5 = en (bd_cnt [5, 4, 2, 1]) (2 ^ 18) ∧ ∀ S, bd_cnt [5, 4, 2, 1] S ≤ 4 := bd_step (d := 5) (by decide) (by omega) (by omega) bd_f1_2_4 (by omega) bd_f1_2_4_5_k (by omega) rfl
theorem bd_g13 : bd_Good 6 4 [5, 4, 2, 1] := bd_go_s 12 4 4 _ _ _ (by omega) (by rw [← bd_f1_2_4_5.1]; exact bd_g13_p) (by decide) bd_f1_2_4_5.2 (by omega)
theorem bd_g14 : bd_Good 6 5 [4, 2, 1] := bd_go_s 12 5 2 _ _ _ (by omega) (by rw [← bd_f1_2_4.1]; exact bd_g14_p) (by decide) bd_f1_2_4.2 (by omega)
theorem bd_g12 : bd_Good 5 5 [4, 2, 1] := bd_Good_cons (fun S => Nat.le_trans (bd_f1_2_4.2 S) (by omega)) bd_g13 bd_g14
theorem bd_f1_2_5 : bd_v1_2_5 = en (bd_cnt [5, 2, 1]) (2 ^ 18) ∧ ∀ S, bd_cnt [5, 2, 1] S ≤ 2 := bd_step (d := 5) (by decide) (by omega) (by omega) bd_f1_2 (by omega) bd_f1_2_5_k (by omega) rfl
theorem bd_g16 : bd_Good 6 5 [5, 2, 1] := bd_go_s 12 5 2 _ _ _ (by omega) (by rw [← bd_f1_2_5.1]; exact bd_g16_p) (by decide) bd_f1_2_5.2 (by omega)
theorem bd_g17 : bd_Good 6 6 [2, 1] := bd_go_s 12 6 1 _ _ _ (by omega) (by rw [← bd_f1_2.1]; exact bd_g17_p) (by decide) bd_f1_2.2 (by omega)
theorem bd_g15 : bd_Good 5 6 [2, 1] := bd_Good_cons (fun S => Nat.le_trans (bd_f1_2.2 S) (by omega)) bd_g16 bd_g17
theorem bd_g11 : bd_Good 4 6 [2, 1] := bd_Good_cons (fun S => Nat.le_trans (bd_f1_2.2 S) (by omega)) bd_g12 bd_g15
theorem bd_g3 : bd_Good 3 6 [2, 1] := bd_Good_cons (fun S => Nat.le_trans (bd_f1_2.2 S) (by omega)) bd_g4 bd_g11
theorem bd_f1_3 : bd_v1_3 = en (bd_cnt [3, 1]) (2 ^ 18) ∧ ∀ S, bd_cnt [3, 1] S ≤ 1 := bd_step (d := 3) (by decide) (by omega) (by omega) bd_f1 (by omega) bd_f1_3_k (by omega) rfl
theorem bd_f1_3_4 : bd_v1_3_4 = en (bd_cnt [4, 3, 1]) (2 ^ 18) ∧ ∀ S, bd_cnt [4, 3, 1] S ≤ 2 := bd_step (d := 4) (by decide) (by omega) (by omega) bd_f1_3 (by omega) bd_f1_3_4_k (by omega) rfl
theorem bd_f1_3_4_5 : bd_v1_3_4_5 = en (bd_cnt [5, 4, 3, 1]) (2 ^ 18) ∧ ∀ S, bd_cnt [5, 4, 3, 1] S ≤ 4 := bd_step (d := 5) (by decide) (by omega) (by omega) bd_f1_3_4 (by omega) bd_f1_3_4_5_k (by omega) rfl
theorem bd_g21 : bd_Good 6 4 [5, 4, 3, 1] := bd_go_s 12 4 4 _ _ _ (by omega) (by rw [← bd_f1_3_4_5.1]; exact bd_g21_p) (by decide) bd_f1_3_4_5.2 (by omega)
theorem bd_g22 : bd_Good 6 5 [4, 3, 1] := bd_go_s 12 5 2 _ _ _ (by omega) (by rw [← bd_f1_3_4.1]; exact bd_g22_p) (by decide) bd_f1_3_4.2 (by omega)
theorem bd_g20 : bd_Good 5 5 [4, 3, 1] := bd_Good_cons (fun S => Nat.le_trans (bd_f1_3_4.2 S) (by omega)) bd_g21 bd_g22
theorem bd_f1_3_5 : bd_v1_3_5 = en (bd_cnt [5, 3, 1]) (2 ^ 18) ∧ ∀ S, bd_cnt [5, 3, 1] S ≤ 2 := bd_step (d := 5) (by decide) (by omega) (by omega) bd_f1_3 (by omega) bd_f1_3_5_k (by omega) rfl
theorem bd_g24 : bd_Good 6 5 [5, 3, 1] := bd_go_s 12 5 2 _ _ _ (by omega) (by rw [← bd_f1_3_5.1]; exact bd_g24_p) (by decide) bd_f1_3_5.2 (by omega)
theorem bd_g25 : bd_Good 6 6 [3, 1] := bd_go_s 12 6 1 _ _ _ (by omega) (by rw [← bd_f1_3.1]; exact bd_g25_p) (by decide) bd_f1_3.2 (by omega)
theorem bd_g23 : bd_Good 5 6 [3, 1] := bd_Good_cons (fun S => Nat.le_trans (bd_f1_3.2 S) (by omega)) bd_g24 bd_g25
theorem bd_g19 : bd_Good 4 6 [3, 1] := bd_Good_cons (fun S => Nat.le_trans (bd_f1_3.2 S) (by omega)) bd_g20 bd_g23
theorem bd_f1_4 : bd_v1_4 = en (bd_cnt [4, 1]) (2 ^ 18) ∧ ∀ S, bd_cnt [4, 1] S ≤ 1 := bd_step (d := 4) (by decide) (by omega) (by omega) bd_f1 (by omega) bd_f1_4_k (by omega) rfl
theorem bd_f1_4_5 : bd_v1_4_5 = en (bd_cnt [5, 4, 1]) (2 ^ 18) ∧ ∀ S, bd_cnt [5, 4, 1] S ≤ 2 := bd_step (d := 5) (by decide) (by omega) (by omega) bd_f1_4 (by omega) bd_f1_4_5_k (by omega) rfl
theorem bd_g28 : bd_Good 6 5 [5, 4, 1] := bd_go_s 12 5 2 _ _ _ (by omega) (by rw [← bd_f1_4_5.1]; exact bd_g28_p) (by decide) bd_f1_4_5.2 (by omega)
theorem bd_g29 : bd_Good 6 6 [4, 1] := bd_go_s 12 6 1 _ _ _ (by omega) (by rw [← bd_f1_4.1]; exact bd_g29_p) (by decide) bd_f1_4.2 (by omega)
theorem bd_g27 : bd_Good 5 6 [4, 1] := bd_Good_cons (fun S => Nat.le_trans (bd_f1_4.2 S) (by omega)) bd_g28 bd_g29
theorem bd_f1_5 : bd_v1_5 = en (bd_cnt [5, 1]) (2 ^ 18) ∧ ∀ S, bd_cnt [5, 1] S ≤ 1 := bd_step (d := 5) (by decide) (by omega) (by omega) bd_f1 (by omega) bd_f1_5_k (by omega) rfl
theorem bd_g31 : bd_Good 6 6 [5, 1] := bd_go_s 12 6 1 _ _ _ (by omega) (by rw [← bd_f1_5.1]; exact bd_g31_p) (by decide) bd_f1_5.2 (by omega)
theorem bd_g32 : bd_Good 6 7 [1] := bd_go_s 12 7 1 _ _ _ (by omega) (by rw [← bd_f1.1]; exact bd_g32_p) (by decide) bd_f1.2 (by omega)
theorem bd_g30 : bd_Good 5 7 [1] := bd_Good_cons (fun S => Nat.le_trans (bd_f1.2 S) (by omega)) bd_g31 bd_g32
theorem bd_g26 : bd_Good 4 7 [1] := bd_Good_cons (fun S => Nat.le_trans (bd_f1.2 S) (by omega)) bd_g27 bd_g30
theorem bd_g18 : bd_Good 3 7 [1] := bd_Good_cons (fun S => Nat.le_trans (bd_f1.2 S) (by omega)) bd_g19 bd_g26
theorem bd_g2 : bd_Good 2 7 [1] := bd_Good_cons (fun S => Nat.le_trans (bd_f1.2 S) (by omega)) bd_g3 bd_g18
theorem bd_f2 : bd_v2 = en (bd_cnt [2]) (2 ^ 18) ∧ ∀ S, bd_cnt [2] S ≤ 1 := bd_step (d := 2) (by decide) (by omega) (by omega) bd_f0 (by omega) bd_f2_k (by omega) rfl
theorem bd_f2_3 : bd_v2_3 = en (bd_cnt [3, 2]) (2 ^ 18) ∧ ∀ S, bd_cnt [3, 2] S ≤ 1 := bd_step (d := 3) (by decide) (by omega) (by omega) bd_f2 (by omega) bd_f2_3_k (by omega) rfl
theorem bd_f2_3_4 : bd_v2_3_4 = en (bd_cnt [4, 3, 2]) (2 ^ 18) ∧ ∀ S, bd_cnt [4, 3, 2] S ≤ 2 := bd_step (d := 4) (by decide) (by omega) (by omega) bd_f2_3 (by omega) bd_f2_3_4_k (by omega) rfl
theorem bd_f2_3_4_5 : bd_v2_3_4_5 = en (bd_cnt [5, 4, 3, 2]) (2 ^ 18) ∧ ∀ S, bd_cnt [5, 4, 3, 2] S ≤ 4 := bd_step (d := 5) (by decide) (by omega) (by omega) bd_f2_3_4 (by omega) bd_f2_3_4_5_k (by omega) rfl
theorem bd_g37 : bd_Good 6 4 [5, 4, 3, 2] := bd_go_s 12 4 4 _ _ _ (by omega) (by rw [← bd_f2_3_4_5.1]; exact bd_g37_p) (by decide) bd_f2_3_4_5.2 (by omega)
theorem bd_g38 : bd_Good 6 5 [4, 3, 2] := bd_go_s 12 5 2 _ _ _ (by omega) (by rw [← bd_f2_3_4.1]; exact bd_g38_p) (by decide) bd_f2_3_4.2 (by omega)
theorem bd_g36 : bd_Good 5 5 [4, 3, 2] := bd_Good_cons (fun S => Nat.le_trans (bd_f2_3_4.2 S) (by omega)) bd_g37 bd_g38
theorem bd_f2_3_5 : bd_v2_3_5 = en (bd_cnt [5, 3, 2]) (2 ^ 18) ∧ ∀ S, bd_cnt [5, 3, 2] S ≤ 2 := bd_step (d := 5) (by decide) (by omega) (by omega) bd_f2_3 (by omega) bd_f2_3_5_k (by omega) rfl
theorem bd_g40 : bd_Good 6 5 [5, 3, 2] := bd_go_s 12 5 2 _ _ _ (by omega) (by rw [← bd_f2_3_5.1]; exact bd_g40_p) (by decide) bd_f2_3_5.2 (by omega)
theorem bd_g41 : bd_Good 6 6 [3, 2] := bd_go_s 12 6 1 _ _ _ (by omega) (by rw [← bd_f2_3.1]; exact bd_g41_p) (by decide) bd_f2_3.2 (by omega)
theorem bd_g39 : bd_Good 5 6 [3, 2] := bd_Good_cons (fun S => Nat.le_trans (bd_f2_3.2 S) (by omega)) bd_g40 bd_g41
theorem bd_g35 : bd_Good 4 6 [3, 2] := bd_Good_cons (fun S => Nat.le_trans (bd_f2_3.2 S) (by omega)) bd_g36 bd_g39
theorem bd_f2_4 : bd_v2_4 = en (bd_cnt [4, 2]) (2 ^ 18) ∧ ∀ S, bd_cnt [4, 2] S ≤ 1 := bd_step (d := 4) (by decide) (by omega) (by omega) bd_f2 (by omega) bd_f2_4_k (by omega) rfl
theorem bd_f2_4_5 : bd_v2_4_5 = en (bd_cnt [5, 4, 2]) (2 ^ 18) ∧ ∀ S, bd_cnt [5, 4, 2] S ≤ 2 := bd_step (d := 5) (by decide) (by omega) (by omega) bd_f2_4 (by omega) bd_f2_4_5_k (by omega) rfl
theorem bd_g44 : bd_Good 6 5 [5, 4, 2] := bd_go_s 12 5 2 _ _ _ (by omega) (by rw [← bd_f2_4_5.1]; exact bd_g44_p) (by decide) bd_f2_4_5.2 (by omega)
theorem bd_g45 : bd_Good 6 6 [4, 2] := bd_go_s 12 6 1 _ _ _ (by omega) (by rw [← bd_f2_4.1]; exact bd_g45_p) (by decide) bd_f2_4.2 (by omega)
theorem bd_g43 : bd_Good 5 6 [4, 2] := bd_Good_cons (fun S => Nat.le_trans (bd_f2_4.2 S) (by omega)) bd_g44 bd_g45
theorem bd_f2_5 : bd_v2_5 = en (bd_cnt [5, 2]) (2 ^ 18) ∧ ∀ S, bd_cnt [5, 2] S ≤ 1 := bd_step (d := 5) (by decide) (by omega) (by omega) bd_f2 (by omega) bd_f2_5_k (by omega) rfl
theorem bd_g47 : bd_Good 6 6 [5, 2] := bd_go_s 12 6 1 _ _ _ (by omega) (by rw [← bd_f2_5.1]; exact bd_g47_p) (by decide) bd_f2_5.2 (by omega)
theorem bd_g48 : bd_Good 6 7 [2] := bd_go_s 12 7 1 _ _ _ (by omega) (by rw [← bd_f2.1]; exact bd_g48_p) (by decide) bd_f2.2 (by omega)
theorem bd_g46 : bd_Good 5 7 [2] := bd_Good_cons (fun S => Nat.le_trans (bd_f2.2 S) (by omega)) bd_g47 bd_g48
theorem bd_g42 : bd_Good 4 7 [2] := bd_Good_cons (fun S => Nat.le_trans (bd_f2.2 S) (by omega)) bd_g43 bd_g46
theorem bd_g34 : bd_Good 3 7 [2] := bd_Good_cons (fun S => Nat.le_trans (bd_f2.2 S) (by omega)) bd_g35 bd_g42
theorem bd_f3 : bd_v3 = en (bd_cnt [3]) (2 ^ 18) ∧ ∀ S, bd_cnt [3] S ≤ 1 := bd_step (d := 3) (by decide) (by omega) (by omega) bd_f0 (by omega) bd_f3_k (by omega) rfl
theorem bd_f3_4 : bd_v3_4 = en (bd_cnt [4, 3]) (2 ^ 18) ∧ ∀ S, bd_cnt [4, 3] S ≤ 1 := bd_step (d := 4) (by decide) (by omega) (by omega) bd_f3 (by omega) bd_f3_4_k (by omega) rfl
theorem bd_f3_4_5 : bd_v3_4_5 = en (bd_cnt [5, 4, 3]) (2 ^ 18) ∧ ∀ S, bd_cnt [5, 4, 3] S ≤ 2 := bd_step (d := 5) (by decide) (by omega) (by omega) bd_f3_4 (by omega) bd_f3_4_5_k (by omega) rfl
theorem bd_g52 : bd_Good 6 5 [5, 4, 3] := bd_go_s 12 5 2 _ _ _ (by omega) (by rw [← bd_f3_4_5.1]; exact bd_g52_p) (by decide) bd_f3_4_5.2 (by omega)
theorem bd_g53 : bd_Good 6 6 [4, 3] := bd_go_s 12 6 1 _ _ _ (by omega) (by rw [← bd_f3_4.1]; exact bd_g53_p) (by decide) bd_f3_4.2 (by omega)
theorem bd_g51 : bd_Good 5 6 [4, 3] := bd_Good_cons (fun S => Nat.le_trans (bd_f3_4.2 S) (by omega)) bd_g52 bd_g53
theorem bd_f3_5 : bd_v3_5 = en (bd_cnt [5, 3]) (2 ^ 18) ∧ ∀ S, bd_cnt [5, 3] S ≤ 1 := bd_step (d := 5) (by decide) (by omega) (by omega) bd_f3 (by omega) bd_f3_5_k (by omega) rfl
theorem bd_g55 : bd_Good 6 6 [5, 3] := bd_go_s 12 6 1 _ _ _ (by omega) (by rw [← bd_f3_5.1]; exact bd_g55_p) (by decide) bd_f3_5.2 (by omega)
theorem bd_g56 : bd_Good 6 7 [3] := bd_go_s 12 7 1 _ _ _ (by omega) (by rw [← bd_f3.1]; exact bd_g56_p) (by decide) bd_f3.2 (by omega)
theorem bd_g54 : bd_Good 5 7 [3] := bd_Good_cons (fun S => Nat.le_trans (bd_f3.2 S) (by omega)) bd_g55 bd_g56
theorem bd_g50 : bd_Good 4 7 [3] := bd_Good_cons (fun S => Nat.le_trans (bd_f3.2 S) (by omega)) bd_g51 bd_g54
theorem bd_f4 : bd_v4 = en (bd_cnt [4]) (2 ^ 18) ∧ ∀ S, bd_cnt [4] S ≤ 1 := bd_step (d := 4) (by decide) (by omega) (by omega) bd_f0 (by omega) bd_f4_k (by omega) rfl
theorem bd_f4_5 : bd_v4_5 = en (bd_cnt [5, 4]) (2 ^ 18) ∧ ∀ S, bd_cnt [5, 4] S ≤ 1 := bd_step (d := 5) (by decide) (by omega) (by omega) bd_f4 (by omega) bd_f4_5_k (by omega) rfl
theorem bd_g59 : bd_Good 6 6 [5, 4] := bd_go_s 12 6 1 _ _ _ (by omega) (by rw [← bd_f4_5.1]; exact bd_g59_p) (by decide) bd_f4_5.2 (by omega)
theorem bd_g60 : bd_Good 6 7 [4] := bd_go_s 12 7 1 _ _ _ (by omega) (by rw [← bd_f4.1]; exact bd_g60_p) (by decide) bd_f4.2 (by omega)
theorem bd_g58 : bd_Good 5 7 [4] := bd_Good_cons (fun S => Nat.le_trans (bd_f4.2 S) (by omega)) bd_g59 bd_g60
theorem bd_f5 : bd_v5 = en (bd_cnt [5]) (2 ^ 18) ∧ ∀ S, bd_cnt [5] S ≤ 1 := bd_step (d := 5) (by decide) (by omega) (by omega) bd_f0 (by omega) bd_f5_k (by omega) rfl
theorem bd_g62 : bd_Good 6 7 [5] := bd_go_s 12 7 1 _ _ _ (by omega) (by rw [← bd_f5.1]; exact bd_g62_p) (by decide) bd_f5.2 (by omega)
theorem bd_f6 : bd_v6 = en (bd_cnt [6]) (2 ^ 18) ∧ ∀ S, bd_cnt [6] S ≤ 1 := bd_step (d := 6) (by decide) (by omega) (by omega) bd_f0 (by omega) bd_f6_k (by omega) rfl
theorem bd_g64 : bd_Good 7 7 [6] := bd_go_s 11 7 1 _ _ _ (by omega) (by rw [← bd_f6.1]; exact bd_g64_p) (by decide) bd_f6.2 (by omega)
theorem bd_g65 : bd_Good 7 8 [] := bd_go_s 11 8 1 _ _ _ (by omega) (by rw [← bd_f0.1]; exact bd_g65_p) (by decide) bd_f0.2 (by omega)
theorem bd_g63 : bd_Good 6 8 [] := bd_Good_cons (fun S => Nat.le_trans (bd_f0.2 S) (by omega)) bd_g64 bd_g65
theorem bd_g61 : bd_Good 5 8 [] := bd_Good_cons (fun S => Nat.le_trans (bd_f0.2 S) (by omega)) bd_g62 bd_g63
theorem bd_g57 : bd_Good 4 8 [] := bd_Good_cons (fun S => Nat.le_trans (bd_f0.2 S) (by omega)) bd_g58 bd_g61
theorem bd_g49 : bd_Good 3 8 [] := bd_Good_cons (fun S => Nat.le_trans (bd_f0.2 S) (by omega)) bd_g50 bd_g57
theorem bd_g33 : bd_Good 2 8 [] := bd_Good_cons (fun S => Nat.le_trans (bd_f0.2 S) (by omega)) bd_g34 bd_g49
theorem bd_g1 : bd_Good 1 8 [] := bd_Good_cons (fun S => Nat.le_trans (bd_f0.2 S) (by omega)) bd_g2 bd_g33
theorem bd_all {E : List Nat} (ha : bd_asc 1 E) (hl : E.length ≤ 8) (S : Nat) : bd_cnt (bd_ext E []) S ≤ 512 := bd_g1 E ha hl S

