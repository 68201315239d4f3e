/-! the state after both constructors -/
section I0
variable {p : Nat → Int32} {z : Nat → Option Nat} {G' : am_H}
theorem hm_get (j : Nat) : (H23 p z (.int 1) ++ M15)[23 + j]? = M15[j]? := ap_get (Gp := H23 p z (.int 1)) (xs := M15) rfl j
theorem wf0 : WF (2, 0, 2, fun _ => 0) := by
  refine ⟨by show 1 ≤ 2; omega, by show 2 ≤ 18; omega, by show 0 < 2 ^ 2; omega, by show 2 < 2 ^ 18; omega, by show (2 : Nat).testBit 0 = false; decide, fun _ => Nat.zero_le _, ?_, ?_⟩
  · show 1 ≤ (bl 2).length; decide +kernel
  · show (bl 2).length ≤ 8; decide +kernel
theorem cs0 (hp : ∀ j, j < 18 → p j = 0) (hz0 : z 0 = some 19) (hz1 : z 1 = some 21) : CSs (H23 p z (.int 1) ++ M15) 2 0 2 (fun _ => 0) 0 (fun _ => 0) (fun _ => none) true := by
  refine ⟨rfl, ⟨rfl, ⟨p, rfl, fun j hj => hp j hj⟩, by omega, by omega, by omega, fun _ => Nat.zero_le _⟩, ⟨⟨0, 0, fun _ => 0, fun _ => 0, [], ⟨rfl, ⟨_, rfl, fun j v h => by simp at h⟩, rfl, rfl, by simp, by omega⟩, fun j _ => ⟨0, rfl, by omega⟩, fun j _ => ⟨0, rfl⟩⟩, fun e => by cases e⟩, ⟨_, _, _, rfl, rfl, rfl⟩, ⟨rfl, by omega, _, rfl, fun i hi => by omega⟩, ⟨0, 0, 0, fun _ => 0, rfl, ⟨_, rfl, fun j _ => rfl⟩, by omega, by omega, by omega, fun _ => Nat.zero_le _⟩, ⟨0, 0, fun _ => 0, fun _ => 0, [], ⟨rfl, ⟨_, rfl, fun j v h => by simp at h⟩, rfl, rfl, by simp, by omega⟩, fun j _ => ⟨0, rfl, by omega⟩, fun j _ => ⟨0, rfl⟩⟩, ⟨z, rfl, hz0, hz1⟩, ⟨0, 0, fun _ => 0, rfl, ⟨_, rfl, fun j _ => rfl⟩, by omega, by omega, by omega, fun _ => Nat.zero_le _⟩, ⟨0, 0, fun _ => 0, rfl, ⟨_, rfl, fun j _ => rfl⟩, by omega, by omega, by omega, fun _ => Nat.zero_le _⟩⟩
theorem ms0 (hm : MA G' 2 0 2 (fun _ => 0)) (hF : Fr [24] (H23 p z (.int 1) ++ M15) G') : MSs G' 2 0 2 (fun _ => 0) 0 (fun _ => 0) (fun _ => none) := by
  have g : ∀ j, j ≠ 1 → G'[23 + j]? = M15[j]? := fun j hj => by rw [hF.2 (23 + j) (by simp; omega), hm_get]
  have ia : ∀ j m f, j ≠ 1 → M15[j]? = some (am_ai 0 m f) → am_ia G' (23 + j) 0 = some (m, f) := fun j m f hj h => by simp only [am_ia, g j hj, h]; rfl
  refine ⟨⟨0, ⟨0, 0, 0, 0, 0, 0, ?_⟩, ⟨_, ia 5 _ _ (by omega) rfl⟩, ⟨_, ia 6 _ _ (by omega) rfl⟩, ⟨_, ia 7 _ _ (by omega) rfl⟩, ⟨_, ia 8 _ _ (by omega) rfl⟩⟩, hm, ⟨by omega, _, ia 4 _ _ (by omega) rfl, fun i hi => by omega⟩, ⟨_, fun _ => 0, ia 2 _ _ (by omega) rfl, ?_, fun i _ _ => rfl, fun i _ q h => by cases h⟩, ⟨_, ia 9 _ _ (by omega) rfl⟩, ⟨_, ia 10 _ _ (by omega) rfl, fun i hi => by omega⟩, ⟨_, ia 11 _ _ (by omega) rfl⟩, ⟨_, ia 12 _ _ (by omega) rfl⟩, ⟨_, ia 13 _ _ (by omega) rfl⟩, ⟨_, ia 14 _ _ (by omega) rfl⟩⟩
  · have := g 0 (by omega)
    simp only [am_ob, this]
    rfl
  · have := g 3 (by omega)
    simp only [am_ia, this]
    rfl
theorem inv0 (hp : ∀ j, j < 18 → p j = 0) (hz0 : z 0 = some 19) (hz1 : z 1 = some 21) (hm : MA G' 2 0 2 (fun _ => 0)) (hF : Fr [24] (H23 p z (.int 1) ++ M15) G') : INV G' :=
  ⟨2, 0, 2, fun _ => 0, 0, fun _ => 0, fun _ => none, true, wf0, (fun i q _ h => by cases h), (cs0 hp hz0 hz1).fr hF (by decide), ms0 hm hF⟩
end I0
