section HEAP
variable {G : am_H} {k j ci : Nat} {fs : List Value} {c : am_C} {n : Nat} {kd : Nat} {p : Nat → Int32} {q : Nat → Int64} {z : Nat → Option Nat}
theorem am_ob_lt (h : am_ob G k ci = some fs) : k < G.length := (List.getElem?_eq_some_iff.mp (am_ob_s h)).1
theorem am_ia_lt (h : am_ia G k kd = some (n, p)) : k < G.length := (List.getElem?_eq_some_iff.mp (am_ia_s h)).1
theorem am_la_lt (h : am_la G k = some (n, q)) : k < G.length := (List.getElem?_eq_some_iff.mp (am_la_s h)).1
theorem am_get_ss (h : k < G.length) : (G.set k c)[k]? = some c := by rw [List.getElem?_set_self h]
theorem am_get_sn (h : k ≠ j) : (G.set k c)[j]? = G[j]? := List.getElem?_set_ne h
theorem am_ob_ss (h : k < G.length) : am_ob (G.set k (am_o ci fs)) k ci = some fs := by simp [am_ob, am_get_ss h]
theorem am_ia_ss (h : k < G.length) : am_ia (G.set k (am_ai kd n p)) k kd = some (n, p) := by simp [am_ia, am_get_ss h]
theorem am_la_ss (h : k < G.length) : am_la (G.set k (am_al n q)) k = some (n, q) := by simp [am_la, am_get_ss h]
theorem am_ra_ss (h : k < G.length) : am_ra (G.set k (am_ar n z)) k = some (n, z) := by simp [am_ra, am_get_ss h]
theorem am_ob_sn (h : k ≠ j) : am_ob (G.set k c) j ci = am_ob G j ci := by simp [am_ob, am_get_sn h]
theorem am_ia_sn (h : k ≠ j) : am_ia (G.set k c) j kd = am_ia G j kd := by simp [am_ia, am_get_sn h]
theorem am_la_sn (h : k ≠ j) : am_la (G.set k c) j = am_la G j := by simp [am_la, am_get_sn h]
theorem am_ra_sn (h : k ≠ j) : am_ra (G.set k c) j = am_ra G j := by simp [am_ra, am_get_sn h]
theorem am_ob_ne_ia (h : am_ob G k ci = some fs) (h2 : am_ia G j kd = some (n, p)) : k ≠ j := by
  intro e; subst e
  have a := am_ob_s h; have b := am_ia_s h2
  rw [a] at b; cases b
end HEAP
def Fr (ks : List Nat) (G G' : am_H) : Prop := G'.length = G.length ∧ ∀ j, ¬ j ∈ ks → G'[j]? = G[j]?
theorem Fr.rf {ks : List Nat} {G : am_H} : Fr ks G G := ⟨rfl, fun _ _ => rfl⟩
theorem Fr.set {ks : List Nat} {G : am_H} {k : Nat} {c : am_C} (h : k ∈ ks) : Fr ks G (G.set k c) := ⟨List.length_set, fun j hj => am_get_sn (fun e => hj (e ▸ h))⟩
theorem Fr.tr {ks : List Nat} {G G1 G2 : am_H} (a : Fr ks G G1) (b : Fr ks G1 G2) : Fr ks G G2 := ⟨b.1.trans a.1, fun j hj => (b.2 j hj).trans (a.2 j hj)⟩
theorem Fr.up {ks kt : List Nat} {G G1 : am_H} (a : Fr ks G G1) (h : ∀ j, j ∈ ks → j ∈ kt) : Fr kt G G1 := ⟨a.1, fun j hj => a.2 j (fun q => hj (h j q))⟩
theorem Fr.ob {ks : List Nat} {G G' : am_H} {j ci : Nat} (a : Fr ks G G') (h : ¬ j ∈ ks) : am_ob G' j ci = am_ob G j ci := by simp [am_ob, a.2 j h]
theorem Fr.ia {ks : List Nat} {G G' : am_H} {j kd : Nat} (a : Fr ks G G') (h : ¬ j ∈ ks) : am_ia G' j kd = am_ia G j kd := by simp [am_ia, a.2 j h]
theorem Fr.la {ks : List Nat} {G G' : am_H} {j : Nat} (a : Fr ks G G') (h : ¬ j ∈ ks) : am_la G' j = am_la G j := by simp [am_la, a.2 j h]
theorem Fr.ra {ks : List Nat} {G G' : am_H} {j : Nat} (a : Fr ks G G') (h : ¬ j ∈ ks) : am_ra G' j = am_ra G j := by simp [am_ra, a.2 j h]
theorem upd_at {f : Nat → Int32} {k j : Nat} {x : Int32} : upd f k x j = if j = k then x else f j := rfl

