/-! one call on both sides: the class answers v, the reference answers v, and both states agree again -/
def KK (X : Nat × (Nat → Int32)) (D : Nat) (P : Option Value → am_H → Prop) (m : Nat) (args : List Value) : Prop := ∀ (v : Int32) (G1 : am_H), (∃ fs, am_ob G1 23 5 = some fs) → (∀ Q2 : Option Value → am_H → Prop, (∀ G2, INV G2 → Q2 (some (.int v)) G2) → am_CB X D m (.ref 23 :: args) G1 Q2) → P (some (.int v)) G1
theorem k22 : ∀ j, j ∈ kC → j ≤ 22 := by decide
theorem INV.ob {G : am_H} (h : INV G) : ∃ fs, am_ob G 0 4 = some fs := by
  obtain ⟨l, h, d, f, n, t, s, old, hw, hws, hC, hM⟩ := h
  exact ⟨_, hC.1⟩
theorem MSs.en {G : am_H} {l h d : Nat} {f : Nat → Nat} {n : Nat} {t : Nat → Int32} {s : Nat → Option PT} (hh : MSs G l h d f n t s) : ∃ len T m ip due dep vp, am_ob G 23 5 = some (moL (nI n) len T m ip due dep vp) := by
  obtain ⟨⟨vp, ⟨len, T, m, ip, due, dep, a⟩, _⟩, _⟩ := hh
  exact ⟨len, T, m, ip, due, dep, vp, a⟩
theorem ex_fr9 {G G' : am_H} {ks : List Nat} {k m : Nat} (hh : ∃ b, am_ia G k 0 = some (m, b)) (hF : Fr ks G G') (hk : ¬ k ∈ ks) : ∃ b, am_ia G' k 0 = some (m, b) := ex_fr hh hF hk
theorem wf_sv {x : Int32} {σ : PT} {s : Nat → Option PT} (hw : WF σ) (hws : ∀ i q, i < 2 → s i = some q → WF q) : ∀ i q, i < 2 → svS x σ s i = some q → WF q := by
  intro i q hi h
  unfold svS at h
  by_cases hx : inN x 2 = true
  · rw [if_pos hx] at h
    have h : (if i = x.toInt.toNat then some σ else s i) = some q := h
    split at h
    · cases h; exact hw
    · exact hws i q hi h
  · rw [if_neg hx] at h
    exact hws i q hi h
theorem wf_rs {x : Int32} {σ : PT} {s : Nat → Option PT} (hw : WF σ) (hws : ∀ i q, i < 2 → s i = some q → WF q) : WF (rsS x σ s) := by
  unfold rsS
  by_cases hx : inN x 2 = true
  · rw [if_pos hx]
    unfold inN at hx
    simp only [decide_eq_true_eq] at hx
    cases e : s x.toInt.toNat with
    | none => exact hw
    | some q => exact hws _ q (by omega) e
  · rw [if_neg hx]; exact hw
section OPS
variable {X : Nat × (Nat → Int32)} {D : Nat} {G : am_H} {P : Option Value → am_H → Prop}
theorem op_set {x y z : Int32} (hD : 20 ≤ D) (hI : INV G) (K : KK X D P 100 [.int x, .int y, .int z]) : am_CB X D 45 [.ref 0, .int x, .int y, .int z] G P := by
  obtain ⟨l, h, d, f, n, t, s, old, hw, hws, hC, hM⟩ := hI
  refine sp_cset (hD := by omega) (hC := hC) (hP := fun o1 G1 c1 c2 => ?_)
  have hM1 := hM.fr c2 k22
  refine K _ G1 hM1.ob (fun Q2 hQ => ?_)
  obtain ⟨len, T, m, ip, due, dep, vp, hE⟩ := hM1.en
  refine sp_mset (hD := by omega) (h1 := hE) (hm := hM1.2.1) (hP := fun G2 e1 e2 => ?_)
  exact hQ G2 ⟨_, _, _, _, n, t, s, o1, wf_st hw, hws, c1.fr e2 (by decide), hM1.prob e2 e1⟩
theorem op_langford {x y : Int32} {b : Bool} (hD : 20 ≤ D) (hI : INV G) (K : KK X D P 102 [.int x, .int y, .int (if b = true then 1 else 0)]) : am_CB X D 46 [.ref 0, .int x, .int y, .int (if b = true then 1 else 0)] G P := by
  obtain ⟨l, h, d, f, n, t, s, old, hw, hws, hC, hM⟩ := hI
  refine sp_clangford (hD := by omega) (hC := hC) (hP := fun o1 G1 c1 c2 => ?_)
  have hM1 := hM.fr c2 k22
  refine K _ G1 hM1.ob (fun Q2 hQ => ?_)
  obtain ⟨len, T, m, ip, due, dep, vp, hE⟩ := hM1.en
  refine sp_mlangford (hD := by omega) (h1 := hE) (hm := hM1.2.1) (hP := fun G2 e1 e2 => ?_)
  exact hQ G2 ⟨_, _, _, _, n, t, s, o1, wf_lg hw, hws, c1.fr e2 (by decide), hM1.prob e2 e1⟩
theorem op_near {x y : Int32} {b : Bool} (hD : 20 ≤ D) (hI : INV G) (K : KK X D P 103 [.int x, .int y, .int (if b = true then 1 else 0)]) : am_CB X D 47 [.ref 0, .int x, .int y, .int (if b = true then 1 else 0)] G P := by
  obtain ⟨l, h, d, f, n, t, s, old, hw, hws, hC, hM⟩ := hI
  refine sp_cnear (hD := by omega) (hC := hC) (hP := fun o1 G1 c1 c2 => ?_)
  have hM1 := hM.fr c2 k22
  refine K _ G1 hM1.ob (fun Q2 hQ => ?_)
  obtain ⟨len, T, m, ip, due, dep, vp, hE⟩ := hM1.en
  refine sp_mnear (hD := by omega) (h1 := hE) (hm := hM1.2.1) (hP := fun G2 e1 e2 => ?_)
  exact hQ G2 ⟨_, _, _, _, n, t, s, o1, wf_nr hw, hws, c1.fr e2 (by decide), hM1.prob e2 e1⟩
theorem op_pin {x y : Int32} (hD : 20 ≤ D) (hI : INV G) (K : KK X D P 104 [.int x, .int y]) : am_CB X D 48 [.ref 0, .int x, .int y] G P := by
  obtain ⟨l, h, d, f, n, t, s, old, hw, hws, hC, hM⟩ := hI
  refine sp_cpin (hw := hw) (hD := by omega) (hC := hC) (hP := fun o1 G1 c1 c2 => ?_)
  have hM1 := hM.fr c2 k22
  refine K _ G1 hM1.ob (fun Q2 hQ => ?_)
  obtain ⟨len, T, m, ip, due, dep, vp, hE⟩ := hM1.en
  refine sp_mpin (hD := by omega) (h1 := hE) (hm := hM1.2.1) (hP := fun G2 e1 e2 => ?_)
  exact hQ G2 ⟨_, _, _, _, n, t, s, o1, wf_pn hw, hws, c1.fr e2 (by decide), hM1.prob e2 e1⟩
theorem op_problem {x : Int32} (hD : 20 ≤ D) (hI : INV G) (K : KK X D P 107 [.int x]) : am_CB X D 49 [.ref 0, .int x] G P := by
  obtain ⟨l, h, d, f, n, t, s, old, hw, hws, hC, hM⟩ := hI
  refine sp_cproblem (hw := hw) (hD := by omega) (hC := hC) (hP := ?_)
  have hM1 := hM
  have c1 := hC
  refine K _ G hM1.ob (fun Q2 hQ => ?_)
  obtain ⟨len, T, m, ip, due, dep, vp, hE⟩ := hM1.en
  refine sp_mproblem (hD := by omega) (h1 := hE) (hm := hM1.2.1) (hP := ?_)
  exact hQ _ ⟨l, h, d, f, n, t, s, old, hw, hws, c1, hM1⟩
theorem op_startSum (hD : 20 ≤ D) (hI : INV G) (K : KK X D P 110 []) : am_CB X D 52 [.ref 0] G P := by
  obtain ⟨l, h, d, f, n, t, s, old, hw, hws, hC, hM⟩ := hI
  refine sp_cstartSum (hD := by omega) (hC := hC) (hP := ?_)
  have hM1 := hM
  have c1 := hC
  refine K _ G hM1.ob (fun Q2 hQ => ?_)
  obtain ⟨len, T, m, ip, due, dep, vp, hE⟩ := hM1.en
  refine sp_mstartSum (hD := by omega) (h1 := hE) (hm := hM1.2.1) (hP := ?_)
  exact hQ _ ⟨l, h, d, f, n, t, s, old, hw, hws, c1, hM1⟩
theorem op_slack (hD : 20 ≤ D) (hI : INV G) (K : KK X D P 111 []) : am_CB X D 53 [.ref 0] G P := by
  obtain ⟨l, h, d, f, n, t, s, old, hw, hws, hC, hM⟩ := hI
  refine sp_cslack (hD := by omega) (hC := hC) (hP := ?_)
  have hM1 := hM
  have c1 := hC
  refine K _ G hM1.ob (fun Q2 hQ => ?_)
  obtain ⟨len, T, m, ip, due, dep, vp, hE⟩ := hM1.en
  refine sp_mslack (hD := by omega) (h1 := hE) (hm := hM1.2.1) (hP := ?_)
  exact hQ _ ⟨l, h, d, f, n, t, s, old, hw, hws, c1, hM1⟩
theorem op_starts {x : Int32} (hD : 20 ≤ D) (hI : INV G) (K : KK X D P 114 [.int x]) : am_CB X D 54 [.ref 0, .int x] G P := by
  obtain ⟨l, h, d, f, n, t, s, old, hw, hws, hC, hM⟩ := hI
  refine sp_cstarts (hw := hw) (hD := by omega) (hC := hC) (hP := ?_)
  have hM1 := hM
  have c1 := hC
  refine K _ G hM1.ob (fun Q2 hQ => ?_)
  obtain ⟨len, T, m, ip, due, dep, vp, hE⟩ := hM1.en
  refine sp_mstarts (hD := by omega) (h1 := hE) (hm := hM1.2.1) (hP := ?_)
  exact hQ _ ⟨l, h, d, f, n, t, s, old, hw, hws, c1, hM1⟩
theorem op_count (hD : 20 ≤ D) (hI : INV G) (K : KK X D P 123 []) : am_CB X D 55 [.ref 0] G P := by
  obtain ⟨l, h, d, f, n, t, s, old, hw, hws, hC, hM⟩ := hI
  refine sp_ccount (hw := hw) (hD := by omega) (hC := hC) (hP := fun o1 G1 c1 c2 => ?_)
  have hM1 := hM.fr c2 k22
  refine K _ G1 hM1.ob (fun Q2 hQ => ?_)
  obtain ⟨vp, hE⟩ := hM1.1
  obtain ⟨w1, w2, w3, w4, w5, w6, w7, w8⟩ := hw.o
  refine sp_mcount (hD := by omega) (hE := hE) (hm := hM1.2.1) (hd1 := w7) (hd8 := w8) (hP := fun G2 e1 e2 => ?_)
  exact hQ G2 ⟨l, h, d, f, n, t, s, o1, hw, hws, c1.fr e2 (by decide), hM1.runE e2 e1⟩
theorem op_at {x y : Int32} (hD : 20 ≤ D) (hI : INV G) (K : KK X D P 124 [.int x, .int y]) : am_CB X D 56 [.ref 0, .int x, .int y] G P := by
  obtain ⟨l, h, d, f, n, t, s, old, hw, hws, hC, hM⟩ := hI
  refine sp_cat (hw := hw) (hD := by omega) (hC := hC) (hP := fun o1 G1 c1 c2 => ?_)
  have hM1 := hM.fr c2 k22
  refine K _ G1 hM1.ob (fun Q2 hQ => ?_)
  obtain ⟨vp, hE⟩ := hM1.1
  obtain ⟨w1, w2, w3, w4, w5, w6, w7, w8⟩ := hw.o
  refine sp_mat (hD := by omega) (hE := hE) (hm := hM1.2.1) (hd1 := w7) (hd8 := w8) (hP := fun G2 e1 e2 => ?_)
  exact hQ G2 ⟨l, h, d, f, n, t, s, o1, hw, hws, c1.fr e2 (by decide), hM1.runE e2 e1⟩
theorem op_start {x y : Int32} (hD : 20 ≤ D) (hI : INV G) (K : KK X D P 125 [.int x, .int y]) : am_CB X D 57 [.ref 0, .int x, .int y] G P := by
  obtain ⟨l, h, d, f, n, t, s, old, hw, hws, hC, hM⟩ := hI
  refine sp_cstart (hw := hw) (hD := by omega) (hC := hC) (hP := fun o1 G1 c1 c2 => ?_)
  have hM1 := hM.fr c2 k22
  refine K _ G1 hM1.ob (fun Q2 hQ => ?_)
  obtain ⟨vp, hE⟩ := hM1.1
  obtain ⟨w1, w2, w3, w4, w5, w6, w7, w8⟩ := hw.o
  refine sp_mstart (hD := by omega) (hE := hE) (hm := hM1.2.1) (hd1 := w7) (hd8 := w8) (hP := fun G2 e1 e2 => ?_)
  exact hQ G2 ⟨l, h, d, f, n, t, s, o1, hw, hws, c1.fr e2 (by decide), hM1.runE e2 e1⟩
theorem op_frequency {x y : Int32} (hD : 20 ≤ D) (hI : INV G) (K : KK X D P 126 [.int x, .int y]) : am_CB X D 58 [.ref 0, .int x, .int y] G P := by
  obtain ⟨l, h, d, f, n, t, s, old, hw, hws, hC, hM⟩ := hI
  refine sp_cfreq (hw := hw) (hD := by omega) (hC := hC) (hP := fun o1 G1 c1 c2 => ?_)
  have hM1 := hM.fr c2 k22
  refine K _ G1 hM1.ob (fun Q2 hQ => ?_)
  obtain ⟨vp, hE⟩ := hM1.1
  obtain ⟨w1, w2, w3, w4, w5, w6, w7, w8⟩ := hw.o
  refine sp_mfreq (hD := by omega) (hE := hE) (hm := hM1.2.1) (hd1 := w7) (hd8 := w8) (hP := fun G2 e1 e2 => ?_)
  exact hQ G2 ⟨l, h, d, f, n, t, s, o1, hw, hws, c1.fr e2 (by decide), hM1.runE e2 e1⟩
theorem op_options {x : Int32} (hD : 20 ≤ D) (hI : INV G) (K : KK X D P 127 [.int x]) : am_CB X D 59 [.ref 0, .int x] G P := by
  obtain ⟨l, h, d, f, n, t, s, old, hw, hws, hC, hM⟩ := hI
  refine sp_coptions (hw := hw) (hD := by omega) (hC := hC) (hP := fun o1 G1 c1 c2 => ?_)
  have hM1 := hM.fr c2 k22
  refine K _ G1 hM1.ob (fun Q2 hQ => ?_)
  obtain ⟨vp, hE⟩ := hM1.1
  obtain ⟨w1, w2, w3, w4, w5, w6, w7, w8⟩ := hw.o
  refine sp_moptions (hD := by omega) (hE := hE) (hm := hM1.2.1) (hd1 := w7) (hd8 := w8) (hP := fun G2 e1 e2 => ?_)
  exact hQ G2 ⟨l, h, d, f, n, t, s, o1, hw, hws, c1.fr e2 (by decide), hM1.runE e2 e1⟩
theorem op_match {x : Int32} (hD : 20 ≤ D) (hI : INV G) (K : KK X D P 144 [.int x]) : am_CB X D 67 [.ref 0, .int x] G P := by
  obtain ⟨l, h, d, f, n, t, s, old, hw, hws, hC, hM⟩ := hI
  refine sp_cmatch (hw := hw) (hD := by omega) (hC := hC) (hP := fun o1 G1 c1 c2 => ?_)
  have hM1 := hM.fr c2 k22
  refine K _ G1 hM1.ob (fun Q2 hQ => ?_)
  obtain ⟨vp, hE⟩ := hM1.1
  obtain ⟨w1, w2, w3, w4, w5, w6, w7, w8⟩ := hw.o
  refine sp_mmatch (hD := by omega) (hE := hE) (hm := hM1.2.1) (hd1 := w7) (hd8 := w8) (hp := hM1.mp) (hP := fun G2 e1 e2 => ?_)
  exact hQ G2 ⟨l, h, d, f, n, t, s, o1, hw, hws, c1.fr e2 (by decide), hM1.runE e2 e1⟩
theorem op_triple {x y z : Int32} (hD : 20 ≤ D) (hI : INV G) (K : KK X D P 159 [.int x, .int y, .int z]) : am_CB X D 80 [.ref 0, .int x, .int y, .int z] G P := by
  obtain ⟨l, h, d, f, n, t, s, old, hw, hws, hC, hM⟩ := hI
  refine sp_ctriple (hw := hw) (hD := by omega) (hC := hC) (hP := fun o1 G1 c1 c2 => ?_)
  have hM1 := hM.fr c2 k22
  refine K _ G1 hM1.ob (fun Q2 hQ => ?_)
  obtain ⟨vp, hE⟩ := hM1.1
  obtain ⟨w1, w2, w3, w4, w5, w6, w7, w8⟩ := hw.o
  refine sp_mtriple (hD := by omega) (hE := hE) (hm := hM1.2.1) (hd1 := w7) (hd8 := w8) (hP := fun G2 e1 e2 => ?_)
  exact hQ G2 ⟨l, h, d, f, n, t, s, o1, hw, hws, c1.fr e2 (by decide), hM1.runE e2 e1⟩
theorem op_cover {x : Int32} (hD : 20 ≤ D) (hI : INV G) (K : KK X D P 160 [.int x]) : am_CB X D 81 [.ref 0, .int x] G P := by
  obtain ⟨l, h, d, f, n, t, s, old, hw, hws, hC, hM⟩ := hI
  refine sp_ccover (hw := hw) (hD := by omega) (hC := hC) (hP := fun o1 G1 c1 c2 => ?_)
  have hM1 := hM.fr c2 k22
  refine K _ G1 hM1.ob (fun Q2 hQ => ?_)
  obtain ⟨vp, hE⟩ := hM1.1
  obtain ⟨w1, w2, w3, w4, w5, w6, w7, w8⟩ := hw.o
  refine sp_mcover (hD := by omega) (hE := hE) (hm := hM1.2.1) (hd1 := w7) (hd8 := w8) (hP := fun G2 e1 e2 => ?_)
  exact hQ G2 ⟨l, h, d, f, n, t, s, o1, hw, hws, c1.fr e2 (by decide), hM1.runE e2 e1⟩
theorem op_hooks (hD : 20 ≤ D) (hI : INV G) (K : KK X D P 161 []) : am_CB X D 82 [.ref 0] G P := by
  obtain ⟨l, h, d, f, n, t, s, old, hw, hws, hC, hM⟩ := hI
  refine sp_chooks (hw := hw) (hD := by omega) (hC := hC) (hP := fun o1 G1 c1 c2 => ?_)
  have hM1 := hM.fr c2 k22
  refine K _ G1 hM1.ob (fun Q2 hQ => ?_)
  obtain ⟨vp, hE⟩ := hM1.1
  obtain ⟨w1, w2, w3, w4, w5, w6, w7, w8⟩ := hw.o
  refine sp_mhooks (hD := by omega) (hE := hE) (hm := hM1.2.1) (hd1 := w7) (hd8 := w8) (hP := fun G2 e1 e2 => ?_)
  exact hQ G2 ⟨l, h, d, f, n, t, s, o1, hw, hws, c1.fr e2 (by decide), hM1.runE e2 e1⟩
theorem op_omissions (hD : 20 ≤ D) (hI : INV G) (K : KK X D P 162 []) : am_CB X D 83 [.ref 0] G P := by
  obtain ⟨l, h, d, f, n, t, s, old, hw, hws, hC, hM⟩ := hI
  refine sp_comis (hw := hw) (hD := by omega) (hC := hC) (hP := fun o1 G1 c1 c2 => ?_)
  have hM1 := hM.fr c2 k22
  refine K _ G1 hM1.ob (fun Q2 hQ => ?_)
  obtain ⟨vp, hE⟩ := hM1.1
  obtain ⟨w1, w2, w3, w4, w5, w6, w7, w8⟩ := hw.o
  refine sp_momis (hD := by omega) (hE := hE) (hm := hM1.2.1) (hd8 := w8) (hP := fun G2 e1 e2 => ?_)
  exact hQ G2 ⟨l, h, d, f, n, t, s, o1, hw, hws, c1.fr e2 (by decide), hM1.runE e2 e1⟩
theorem op_fault (hD : 20 ≤ D) (hI : INV G) (K : KK X D P 133 []) : am_CB X D 64 [.ref 0] G P := by
  obtain ⟨l, h, d, f, n, t, s, old, hw, hws, hC, hM⟩ := hI
  refine sp_cfault (hD := by omega) (hC := hC) (hP := ?_)
  have hM1 := hM
  have c1 := hC
  refine K _ G hM1.ob (fun Q2 hQ => ?_)
  refine sp_mfault (hD := by omega) (hm := hM1.mp) (hP := ?_)
  exact hQ _ ⟨l, h, d, f, n, t, s, old, hw, hws, c1, hM1⟩
theorem op_letter {x : Int32} (hD : 20 ≤ D) (hI : INV G) (K : KK X D P 147 [.int x]) : am_CB X D 69 [.ref 0, .int x] G P := by
  obtain ⟨l, h, d, f, n, t, s, old, hw, hws, hC, hM⟩ := hI
  refine sp_cletter (hD := by omega) (hC := hC) (hP := ?_)
  have hM1 := hM
  have c1 := hC
  refine K _ G hM1.ob (fun Q2 hQ => ?_)
  refine sp_mletter (hD := by omega) (hm := hM1.mp) (hP := ?_)
  exact hQ _ ⟨l, h, d, f, n, t, s, old, hw, hws, c1, hM1⟩
theorem op_forced (hD : 20 ≤ D) (hI : INV G) (K : KK X D P 129 []) : am_CB X D 60 [.ref 0] G P := by
  obtain ⟨l, h, d, f, n, t, s, old, hw, hws, hC, hM⟩ := hI
  refine sp_cforced (hw := hw) (hD := by omega) (hC := hC) (hP := fun o1 G1 c1 c2 => ?_)
  have hM1 := hM.fr c2 k22
  refine K _ G1 hM1.ob (fun Q2 hQ => ?_)
  obtain ⟨vp, hE⟩ := hM1.1
  obtain ⟨w1, w2, w3, w4, w5, w6, w7, w8⟩ := hw.o
  obtain ⟨_, _, _, _, i1, i2, i3, i4, i5, i6⟩ := id hM1
  rw [forced_eq w2 w5] at hQ
  refine sp_mforced (hD := by omega) (hE := hE) (hm := hM1.2.1) (hd1 := w7) (hd8 := w8) (hb := i1) (hP := fun G2 e1 e3 e2 => ?_)
  exact hQ G2 ⟨l, h, d, f, n, t, s, o1, hw, hws, c1.fr e2 (by decide), hM1.run e2 (by decide) (by decide) (by decide) (by decide) e1 e3 (i2.fr e2 (by decide)) (ex_fr i3 e2 (by decide)) (ex_fr i4 e2 (by decide)) (ex_fr i5 e2 (by decide)) (ex_fr i6 e2 (by decide))⟩
theorem op_rank (hD : 20 ≤ D) (hI : INV G) (K : KK X D P 142 []) : am_CB X D 66 [.ref 0] G P := by
  obtain ⟨l, h, d, f, n, t, s, old, hw, hws, hC, hM⟩ := hI
  refine sp_crank (hw := hw) (hD := by omega) (hC := hC) (hP := fun o1 G1 c1 c2 => ?_)
  have hM1 := hM.fr c2 k22
  refine K _ G1 hM1.ob (fun Q2 hQ => ?_)
  obtain ⟨vp, hE⟩ := hM1.1
  obtain ⟨w1, w2, w3, w4, w5, w6, w7, w8⟩ := hw.o
  obtain ⟨_, _, _, _, i1, i2, i3, i4, i5, i6⟩ := id hM1
  refine sp_mrank (hD := by omega) (hE := hE) (hp := hM1.mp) (hm := hM1.2.1) (hd1 := w7) (hd8 := w8) (hL := i2) (hP := fun vp2 G2 e1 e3 e2 => ?_)
  exact hQ G2 ⟨l, h, d, f, n, t, s, o1, hw, hws, c1.fr e2 (by decide), hM1.run e2 (by decide) (by decide) (by decide) (by decide) e1 (ex_fr i1 e2 (by decide)) e3 (ex_fr i3 e2 (by decide)) (ex_fr i4 e2 (by decide)) (ex_fr i5 e2 (by decide)) (ex_fr i6 e2 (by decide))⟩
theorem op_reversed {x : Int32} (hD : 20 ≤ D) (hI : INV G) (K : KK X D P 149 [.int x]) : am_CB X D 75 [.ref 0, .int x] G P := by
  obtain ⟨l, h, d, f, n, t, s, old, hw, hws, hC, hM⟩ := hI
  refine sp_creversed (hw := hw) (hD := by omega) (hC := hC) (hP := fun o1 G1 c1 c2 => ?_)
  have hM1 := hM.fr c2 k22
  refine K _ G1 hM1.ob (fun Q2 hQ => ?_)
  obtain ⟨vp, hE⟩ := hM1.1
  obtain ⟨w1, w2, w3, w4, w5, w6, w7, w8⟩ := hw.o
  obtain ⟨_, _, _, _, i1, i2, i3, i4, i5, i6⟩ := id hM1
  refine sp_mreversed (hD := by omega) (hE := hE) (hm := hM1.2.1) (hd1 := w7) (hd8 := w8) (hL := i2) (hP := fun vp2 G2 e1 e3 e2 => ?_)
  exact hQ G2 ⟨l, h, d, f, n, t, s, o1, hw, hws, c1.fr e2 (by decide), hM1.run e2 (by decide) (by decide) (by decide) (by decide) e1 (ex_fr i1 e2 (by decide)) e3 (ex_fr i3 e2 (by decide)) (ex_fr i4 e2 (by decide)) (ex_fr i5 e2 (by decide)) (ex_fr i6 e2 (by decide))⟩
theorem op_classes (hD : 20 ≤ D) (hI : INV G) (K : KK X D P 150 []) : am_CB X D 76 [.ref 0] G P := by
  obtain ⟨l, h, d, f, n, t, s, old, hw, hws, hC, hM⟩ := hI
  refine sp_cclasses (hw := hw) (hD := by omega) (hC := hC) (hP := fun o1 G1 c1 c2 => ?_)
  have hM1 := hM.fr c2 k22
  refine K _ G1 hM1.ob (fun Q2 hQ => ?_)
  obtain ⟨vp, hE⟩ := hM1.1
  obtain ⟨w1, w2, w3, w4, w5, w6, w7, w8⟩ := hw.o
  obtain ⟨_, _, _, _, i1, i2, i3, i4, i5, i6⟩ := id hM1
  refine sp_mclasses (hD := by omega) (hE := hE) (hm := hM1.2.1) (hd1 := w7) (hd8 := w8) (hL := i2) (hP := fun vp2 G2 e1 e3 e2 => ?_)
  exact hQ G2 ⟨l, h, d, f, n, t, s, o1, hw, hws, c1.fr e2 (by decide), hM1.run e2 (by decide) (by decide) (by decide) (by decide) e1 (ex_fr i1 e2 (by decide)) e3 (ex_fr i3 e2 (by decide)) (ex_fr i4 e2 (by decide)) (ex_fr i5 e2 (by decide)) (ex_fr i6 e2 (by decide))⟩
theorem op_distance {x y : Int32} (hD : 20 ≤ D) (hI : INV G) (K : KK X D P 153 [.int x, .int y]) : am_CB X D 77 [.ref 0, .int x, .int y] G P := by
  obtain ⟨l, h, d, f, n, t, s, old, hw, hws, hC, hM⟩ := hI
  refine sp_cdist (hw := hw) (hD := by omega) (hC := hC) (hP := fun o1 G1 c1 c2 => ?_)
  have hM1 := hM.fr c2 k22
  refine K _ G1 hM1.ob (fun Q2 hQ => ?_)
  obtain ⟨vp, hE⟩ := hM1.1
  obtain ⟨w1, w2, w3, w4, w5, w6, w7, w8⟩ := hw.o
  obtain ⟨_, _, _, _, i1, i2, i3, i4, i5, i6⟩ := id hM1
  refine sp_mdist (hD := by omega) (hE := hE) (hm := hM1.2.1) (hd1 := w7) (hd8 := w8) (hb := i3) (hP := fun G2 e1 e3 e2 => ?_)
  exact hQ G2 ⟨l, h, d, f, n, t, s, o1, hw, hws, c1.fr e2 (by decide), hM1.run e2 (by decide) (by decide) (by decide) (by decide) e1 (ex_fr i1 e2 (by decide)) (i2.fr e2 (by decide)) e3 (ex_fr i4 e2 (by decide)) (ex_fr i5 e2 (by decide)) (ex_fr i6 e2 (by decide))⟩
theorem op_neighbour {x y : Int32} (hD : 20 ≤ D) (hI : INV G) (K : KK X D P 154 [.int x, .int y]) : am_CB X D 78 [.ref 0, .int x, .int y] G P := by
  obtain ⟨l, h, d, f, n, t, s, old, hw, hws, hC, hM⟩ := hI
  refine sp_cneigh (hw := hw) (hD := by omega) (hC := hC) (hP := fun o1 G1 c1 c2 => ?_)
  have hM1 := hM.fr c2 k22
  refine K _ G1 hM1.ob (fun Q2 hQ => ?_)
  obtain ⟨vp, hE⟩ := hM1.1
  obtain ⟨w1, w2, w3, w4, w5, w6, w7, w8⟩ := hw.o
  obtain ⟨_, _, _, _, i1, i2, i3, i4, i5, i6⟩ := id hM1
  refine sp_neighbour (hD := by omega) (hE := hE) (hm := hM1.2.1) (hd1 := w7) (hd8 := w8) (hb := i3) (hP := fun G2 e1 e3 e2 => ?_)
  exact hQ G2 ⟨l, h, d, f, n, t, s, o1, hw, hws, c1.fr e2 (by decide), hM1.run e2 (by decide) (by decide) (by decide) (by decide) e1 (ex_fr i1 e2 (by decide)) (i2.fr e2 (by decide)) e3 (ex_fr i4 e2 (by decide)) (ex_fr i5 e2 (by decide)) (ex_fr i6 e2 (by decide))⟩
theorem op_steps {x y : Int32} (hD : 20 ≤ D) (hI : INV G) (K : KK X D P 157 [.int x, .int y]) : am_CB X D 79 [.ref 0, .int x, .int y] G P := by
  obtain ⟨l, h, d, f, n, t, s, old, hw, hws, hC, hM⟩ := hI
  refine sp_csteps (hw := hw) (hD := by omega) (hC := hC) (hP := fun o1 G1 c1 c2 => ?_)
  have hM1 := hM.fr c2 k22
  refine K _ G1 hM1.ob (fun Q2 hQ => ?_)
  obtain ⟨vp, hE⟩ := hM1.1
  obtain ⟨w1, w2, w3, w4, w5, w6, w7, w8⟩ := hw.o
  obtain ⟨_, _, _, _, i1, i2, i3, i4, i5, i6⟩ := id hM1
  refine sp_msteps (hD := by omega) (hE := hE) (hm := hM1.2.1) (hd1 := w7) (hd8 := w8) (hb5 := i4) (hb6 := i5) (hb7 := i6) (hP := fun G2 e1 e5 e6 e7 e2 => ?_)
  exact hQ G2 ⟨l, h, d, f, n, t, s, o1, hw, hws, c1.fr e2 (by decide), hM1.run e2 (by decide) (by decide) (by decide) (by decide) e1 (ex_fr i1 e2 (by decide)) (i2.fr e2 (by decide)) (ex_fr i3 e2 (by decide)) e5 e6 e7⟩
theorem op_judge {x : Int32} (hD : 20 ≤ D) (hI : INV G) (K : KK X D P 140 [.int x]) : am_CB X D 65 [.ref 0, .int x] G P := by
  obtain ⟨l, h, d, f, n, t, s, old, hw, hws, hC, hM⟩ := hI
  refine sp_cjudge (hw := hw) (hD := by omega) (hC := hC) (hP := ?_)
  have hM1 := hM
  have c1 := hC
  refine K _ G hM1.ob (fun Q2 hQ => ?_)
  obtain ⟨len, T, m, ip, due, dep, vp, hE⟩ := hM1.en
  obtain ⟨⟨vp0, hE0⟩, _, _, _, i1, i2, i3, i4, i5, i6⟩ := id hM1
  refine sp_judge (hD := by omega) (h1 := hE) (hm := hM1.mp) (ha := hM1.2.1) (hL := i2) (hP := fun vp2 G2 e1 e3 e2 => ?_)
  exact hQ G2 ⟨l, h, d, f, n, t, s, old, hw, hws, c1.fr e2 (by decide), hM1.run e2 (by decide) (by decide) (by decide) (by decide) (hE0.vp e1 e2) (ex_fr i1 e2 (by decide)) e3 (ex_fr i3 e2 (by decide)) (ex_fr i4 e2 (by decide)) (ex_fr i5 e2 (by decide)) (ex_fr i6 e2 (by decide))⟩
theorem op_say {x : Int32} (hD : 20 ≤ D) (hI : INV G) (K : KK X D P 130 [.int x]) : am_CB X D 62 [.ref 0, .int x] G P := by
  obtain ⟨l, h, d, f, n, t, s, old, hw, hws, hC, hM⟩ := hI
  refine sp_csay (hD := by omega) (hC := hC) (hP := fun o1 G1 c1 c2 => ?_)
  have hM1 := hM.fr c2 k22
  refine K _ G1 hM1.ob (fun Q2 hQ => ?_)
  obtain ⟨vp, hE⟩ := hM1.1
  refine sp_msay (hD := by omega) (hm := hM1.mp) (hP := fun v G2 n2 t2 e0 e1 e2 => ?_)
  have e0 : (v, n2, t2) = sayT x n t := e0
  rw [← e0] at hQ c1
  obtain ⟨⟨len, T, m, ip, due, dep, vp2, u1⟩, u2⟩ := e1
  have hE2 : EnA G2 (nI n2) vp2 := ⟨⟨len, T, m, ip, due, dep, u1⟩, ex_fr9 hE.2.1 e2 (by decide), ex_fr9 hE.2.2.1 e2 (by decide), ex_fr9 hE.2.2.2.1 e2 (by decide), ex_fr9 hE.2.2.2.2 e2 (by decide)⟩
  exact hQ G2 ⟨l, h, d, f, n2, t2, s, o1, hw, hws, c1.fr e2 (by decide), hM1.pad e2 hE2 u2 (by decide) (by decide) (by decide) (by decide) (by decide) (by decide) (by decide) (by decide) (by decide)⟩
theorem op_wipe (hD : 20 ≤ D) (hI : INV G) (K : KK X D P 131 []) : am_CB X D 63 [.ref 0] G P := by
  obtain ⟨l, h, d, f, n, t, s, old, hw, hws, hC, hM⟩ := hI
  refine sp_cwipe (hD := by omega) (hC := hC) (hP := fun o1 G1 c1 c2 => ?_)
  have hM1 := hM.fr c2 k22
  refine K _ G1 hM1.ob (fun Q2 hQ => ?_)
  obtain ⟨vp, hE⟩ := hM1.1
  refine sp_mwipe (hD := by omega) (hm := hM1.mp) (hP := fun G2 e1 e2 => ?_)
  obtain ⟨⟨len, T, m, ip, due, dep, vp2, u1⟩, u2⟩ := e1
  have hE2 : EnA G2 (nI 0) vp2 := ⟨⟨len, T, m, ip, due, dep, u1⟩, ex_fr9 hE.2.1 e2 (by decide), ex_fr9 hE.2.2.1 e2 (by decide), ex_fr9 hE.2.2.2.1 e2 (by decide), ex_fr9 hE.2.2.2.2 e2 (by decide)⟩
  exact hQ G2 ⟨l, h, d, f, 0, t, s, o1, hw, hws, c1.fr e2 (by decide), hM1.pad e2 hE2 u2 (by decide) (by decide) (by decide) (by decide) (by decide) (by decide) (by decide) (by decide) (by decide)⟩
theorem op_spell {x : Int32} (hD : 20 ≤ D) (hI : INV G) (K : KK X D P 146 [.int x]) : am_CB X D 68 [.ref 0, .int x] G P := by
  obtain ⟨l, h, d, f, n, t, s, old, hw, hws, hC, hM⟩ := hI
  refine sp_cspell (hw := hw) (hD := by omega) (hC := hC) (hP := fun o1 G1 c1 c2 => ?_)
  have hM1 := hM.fr c2 k22
  refine K _ G1 hM1.ob (fun Q2 hQ => ?_)
  obtain ⟨vp, hE⟩ := hM1.1
  obtain ⟨w1, w2, w3, w4, w5, w6, w7, w8⟩ := hw.o
  obtain ⟨_, _, ⟨hn18, pf, hpf, _⟩, _⟩ := id hM1
  refine sp_spell (hD := by omega) (hE := hE) (hm := hM1.2.1) (hd1 := w7) (hd8 := w8) (hp := ⟨pf, hpf⟩) (h0 := fun e G2 e1 e2 => ?_) (h1 := fun a e G2 e1 e3 e2 => ?_)
  · unfold spN spF at c1
    unfold spV at hQ
    rw [e] at hQ c1
    exact hQ G2 ⟨l, h, d, f, n, t, s, o1, hw, hws, c1.fr e2 (by decide), hM1.runE e2 e1⟩
  · unfold spN spF at c1
    unfold spV at hQ
    rw [e] at hQ c1
    exact hQ G2 ⟨l, h, d, f, l, _, s, o1, hw, hws, c1.fr e2 (by decide), hM1.pad e2 e1 ⟨w2, e3⟩ (by decide) (by decide) (by decide) (by decide) (by decide) (by decide) (by decide) (by decide) (by decide)⟩
theorem op_save {x : Int32} (hD : 20 ≤ D) (hI : INV G) (K : KK X D P 163 [.int x]) : am_CB X D 86 [.ref 0, .int x] G P := by
  obtain ⟨l, h, d, f, n, t, s, old, hw, hws, hC, hM⟩ := hI
  refine sp_csave (hD := by omega) (hC := hC) (hP := fun o1 G1 c1 c2 => ?_)
  have hM1 := hM.fr c2 k22
  refine K _ G1 hM1.ob (fun Q2 hQ => ?_)
  obtain ⟨len, T, m, ip, due, dep, vp, hE⟩ := hM1.en
  refine sp_msave (hD := by omega) (h1 := hE) (hm := hM1.2.1) (hs := hM1.2.2.2.1) (hP := fun G2 e1 e2 => ?_)
  exact hQ G2 ⟨l, h, d, f, n, t, _, o1, hw, wf_sv hw hws, c1.fr e2 (by decide), hM1.slots e2 e1⟩
theorem op_restore {x : Int32} (hD : 20 ≤ D) (hI : INV G) (K : KK X D P 164 [.int x]) : am_CB X D 87 [.ref 0, .int x] G P := by
  obtain ⟨l, h, d, f, n, t, s, old, hw, hws, hC, hM⟩ := hI
  refine sp_crestore (hD := by omega) (hC := hC) (hws := hws) (hP := fun o1 G1 c1 c2 => ?_)
  have hM1 := hM.fr c2 k22
  refine K _ G1 hM1.ob (fun Q2 hQ => ?_)
  obtain ⟨len, T, m, ip, due, dep, vp, hE⟩ := hM1.en
  refine sp_mrestore (hD := by omega) (h1 := hE) (hm := hM1.2.1) (hs := hM1.2.2.2.1) (hw := hws) (hP := fun G2 e1 e2 => ?_)
  exact hQ G2 ⟨_, _, _, _, n, t, s, o1, wf_rs hw hws, hws, c1.fr e2 (by decide), hM1.prob e2 e1⟩
end OPS
