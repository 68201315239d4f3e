theorem am_I1_m {st : List Value} {K K' : Int32 → List Value → Prop} (h : ∀ x r, K x r → K' x r) (z : am_I1 st K) : am_I1 st K' := by
  obtain ⟨x, r, rfl, z⟩ := am_I1_s z
  exact h _ _ z
theorem am_I2_m {st : List Value} {K K' : Int32 → Int32 → List Value → Prop} (h : ∀ x y r, K x y r → K' x y r) (z : am_I2 st K) : am_I2 st K' := by
  obtain ⟨x, y, r, rfl, z⟩ := am_I2_s z
  exact h _ _ _ z
theorem am_J1_m {st : List Value} {K K' : Int64 → List Value → Prop} (h : ∀ x r, K x r → K' x r) (z : am_J1 st K) : am_J1 st K' := by
  obtain ⟨x, r, rfl, z⟩ := am_J1_s z
  exact h _ _ z
theorem am_J2_m {st : List Value} {K K' : Int64 → Int64 → List Value → Prop} (h : ∀ x y r, K x y r → K' x y r) (z : am_J2 st K) : am_J2 st K' := by
  obtain ⟨x, y, r, rfl, z⟩ := am_J2_s z
  exact h _ _ _ z
theorem am_JI_m {st : List Value} {K K' : Int64 → Int32 → List Value → Prop} (h : ∀ x y r, K x y r → K' x y r) (z : am_JI st K) : am_JI st K' := by
  obtain ⟨x, y, r, rfl, z⟩ := am_JI_s z
  exact h _ _ _ z
theorem am_R1_m {st : List Value} {K K' : Nat → List Value → Prop} (h : ∀ x r, K x r → K' x r) (z : am_R1 st K) : am_R1 st K' := by
  obtain ⟨x, r, rfl, z⟩ := am_R1_s z
  exact h _ _ z
theorem am_IR_m {st : List Value} {K K' : Int32 → Nat → List Value → Prop} (h : ∀ j k r, K j k r → K' j k r) (z : am_IR st K) : am_IR st K' := by
  obtain ⟨j, k, r, rfl, z⟩ := am_IR_s z
  exact h _ _ _ z
theorem am_IIR_m {st : List Value} {K K' : Int32 → Int32 → Nat → List Value → Prop} (h : ∀ y j k r, K y j k r → K' y j k r) (z : am_IIR st K) : am_IIR st K' := by
  obtain ⟨y, j, k, r, rfl, z⟩ := am_IIR_s z
  exact h _ _ _ _ z
theorem am_JIR_m {st : List Value} {K K' : Int64 → Int32 → Nat → List Value → Prop} (h : ∀ y j k r, K y j k r → K' y j k r) (z : am_JIR st K) : am_JIR st K' := by
  obtain ⟨y, j, k, r, rfl, z⟩ := am_JIR_s z
  exact h _ _ _ _ z
theorem am_RIR_m {st : List Value} {K K' : Nat → Int32 → Nat → List Value → Prop} (h : ∀ y j k r, K y j k r → K' y j k r) (z : am_RIR st K) : am_RIR st K' := by
  obtain ⟨y, j, k, r, rfl, z⟩ := am_RIR_s z
  exact h _ _ _ _ z
theorem am_VR_m {st : List Value} {K K' : Value → Nat → List Value → Prop} (h : ∀ v k r, K v k r → K' v k r) (z : am_VR st K) : am_VR st K' := by
  obtain ⟨v, k, r, rfl, z⟩ := am_VR_s z
  exact h _ _ _ z
theorem am_V1_m {st : List Value} {K K' : Value → List Value → Prop} (h : ∀ v r, K v r → K' v r) (z : am_V1 st K) : am_V1 st K' := by
  obtain ⟨v, r, rfl, z⟩ := am_V1_s z
  exact h _ _ z
theorem am_IRS_m {st : List Value} {K K' : Int32 → Nat → List Value → Prop} {S S' : Int32 → List Value → Prop} (h : ∀ j k r, K j k r → K' j k r) (h2 : ∀ j r, S j r → S' j r) (z : am_IRS st K S) : am_IRS st K' S' := by
  rcases am_IRS_s z with ⟨j, k, r, rfl, z⟩ | ⟨j, k, r, rfl, z⟩
  · exact h _ _ _ z
  · exact h2 _ _ z
theorem am_RS_m {st : List Value} {K K' : Nat → List Value → Prop} {S S' : List Value → Prop} (h : ∀ k r, K k r → K' k r) (h2 : ∀ r, S r → S' r) (z : am_RS st K S) : am_RS st K' S' := by
  rcases am_RS_s z with ⟨k, r, rfl, z⟩ | ⟨k, r, rfl, z⟩
  · exact h _ _ z
  · exact h2 _ z
theorem am_RN_m {st : List Value} {K K' S S' : List Value → Prop} (h : ∀ r, K r → K' r) (h2 : ∀ r, S r → S' r) (z : am_RN st K S) : am_RN st K' S' := by
  rcases am_RN_s z with ⟨k, r, rfl, z⟩ | ⟨r, rfl, z⟩
  · exact h _ z
  · exact h2 _ z
theorem am_AR_m {st : List Value} {K K' : Value → List Value → Prop} (h : ∀ v r, K v r → K' v r) (z : am_AR st K) : am_AR st K' := by
  unfold am_AR at z ⊢
  split at z
  · exact h _ _ z
  · exact h _ _ z
  · exact z.elim
theorem am_A_m {o : Option (List Value × List Value)} {K K' : List Value → List Value → Prop} (h : ∀ a r, K a r → K' a r) (z : am_A o K) : am_A o K' := by
  obtain ⟨a, r, rfl, z⟩ := am_A_s z
  exact h _ _ z
theorem am_iv_m {o : Option Value} {K K' : Int32 → Prop} (h : ∀ x, K x → K' x) (z : am_iv o K) : am_iv o K' := by
  obtain ⟨x, rfl, z⟩ := am_iv_s z
  exact h _ z
theorem am_lv_m {o : Option Value} {K K' : Int64 → Prop} (h : ∀ x, K x → K' x) (z : am_lv o K) : am_lv o K' := by
  obtain ⟨x, rfl, z⟩ := am_lv_s z
  exact h _ z
theorem am_av_m {o : Option Value} {K K' : Value → Prop} (h : ∀ x, K x → K' x) (z : am_av o K) : am_av o K' := by
  obtain ⟨x, rfl, z, q⟩ := am_av_s z
  rcases q with ⟨k, rfl⟩ | rfl | ⟨k, rfl⟩ <;> exact h _ z
theorem am_get_m {o : Option (List Value)} {k : Nat} {K K' : Value → Prop} (h : ∀ v, K v → K' v) (z : am_get o k K) : am_get o k K' := by
  obtain ⟨fs, v, rfl, h2, z⟩ := am_get_s z
  simp only [am_get, am_gt, h2]
  exact h _ z
theorem am_put_m {o : Option (List Value)} {K K' : List Value → Prop} (h : ∀ v, K v → K' v) (z : am_put o K) : am_put o K' := by
  obtain ⟨fs, rfl, z⟩ := am_put_s z
  exact h _ z
theorem am_arr_m {α : Type} {o : Option (Nat × α)} {i : Int32} {K K' : Nat → α → Nat → Prop} (h : ∀ n f j, K n f j → K' n f j) (z : am_arr o i K) : am_arr o i K' := by
  obtain ⟨n, f, rfl, h2, z⟩ := am_arr_s z
  exact ⟨h2, h _ _ _ z⟩
theorem am_len_m {o : Option Nat} {K K' : Int32 → Prop} (h : ∀ n, K n → K' n) (z : am_len o K) : am_len o K' := by
  obtain ⟨n, rfl, z⟩ := am_len_s z
  exact h _ z
theorem am_sw_m {x : Int32} {d : Nat} {K K' : Nat → Prop} (h : ∀ t, K t → K' t) : ∀ (tg : List Nat) (lo : Int32), am_sw x lo d K tg → am_sw x lo d K' tg
  | [], _, z => h _ z
  | t :: r, lo, z => by
    simp only [am_sw] at z ⊢
    split
    · next e => rw [if_pos e] at z; exact h _ z
    · next e => rw [if_neg e] at z; exact am_sw_m h r _ z
theorem am_ite_m {c : Prop} [Decidable c] {A B A' B' : Prop} (h1 : A → A') (h2 : B → B') (z : if c then A else B) : if c then A' else B' := by
  split
  · next e => rw [if_pos e] at z; exact h1 z
  · next e => rw [if_neg e] at z; exact h2 z
theorem am_post_m {dC : Nat → ClassId} {dI : Nat → Nat → Nat} {b : Nat} {A : Nat → Prop} {ad : Nat → Nat} {G : am_H} {j : Nat} {P P' : Option Value → am_H → Prop} (h : ∀ v G, P v G → P' v G) {a : Array Value} {st : State} {oc : Outcome} {t : State} (z : am_post dC dI b A ad G j P a st oc t) : am_post dC dI b A ad G j P' a st oc t := by
  obtain ⟨⟨v, G1, ad1, cA1, tys1, h1, h2, h3⟩, h4⟩ := z
  exact ⟨⟨v, G1, ad1, cA1, tys1, h1, h _ _ h2, h3⟩, h4⟩
theorem am_Call_m {X : Nat × (Nat → Int32)} {D j : Nat} {as : List Value} {G : am_H} {P P' : Option Value → am_H → Prop} (h : ∀ v G, P v G → P' v G) (z : am_Call X D j as G P) : am_Call X D j as G P' := by
  intro l dC dI b A ad cA tys hb p e a1 a2 a3 s m args below a4 a5 a6 a7
  obtain ⟨n, o, b1, b2, b3, b4, b5⟩ := z l dC dI b A ad cA tys hb p e a1 a2 a3 s m args below a4 a5 a6 a7
  exact ⟨n, o, b1, b2, b3, am_post_m h b4, b5⟩
theorem am_CB_m {X : Nat × (Nat → Int32)} {D j : Nat} {as : List Value} {G : am_H} {P P' : Option Value → am_H → Prop} (h : ∀ v G, P v G → P' v G) (z : am_CB X D j as G P) : am_CB X D j as G P' := by
  obtain ⟨D', h1, h2⟩ := z
  exact ⟨D', h1, am_Call_m h h2⟩
theorem am_CB.up {X : Nat × (Nat → Int32)} {D E j : Nat} {as : List Value} {G : am_H} {P : Option Value → am_H → Prop} (h : am_CB X D j as G P) (hD : D ≤ E) : am_CB X E j as G P := by
  obtain ⟨D', h1, h2⟩ := h
  exact ⟨D', by omega, h2⟩
theorem am_step_m {X : Nat × (Nat → Int32)} {D i pc op nx a b : Nat} {v : Int32} {w : Int64} {L : List (Option Value)} {st : List Value} {G : am_H} {c s : Nat} {P : Option Value → am_H → Prop} {K K' : am_K} (hcs : c ≤ am_mc i ∧ s ≤ am_ms i) (h : ∀ nx L st G c s, (c ≤ am_mc i ∧ s ≤ am_ms i) → K nx L st G c s → K' nx L st G c s) (z : am_step X D i pc op nx a b v w L st G c s P K) : am_step X D i pc op nx a b v w L st G c s P K' := by
  unfold am_step at z
  split at z
  · exact am_iv_m (fun _ => h _ _ _ _ _ _ hcs) z
  · exact am_av_m (fun _ => h _ _ _ _ _ _ hcs) z
  · exact am_lv_m (fun _ => h _ _ _ _ _ _ hcs) z
  · exact h _ _ _ _ _ _ hcs z
  · exact h _ _ _ _ _ _ hcs z
  · exact am_I1_m (fun _ _ => h _ _ _ _ _ _ hcs) z
  · exact am_AR_m (fun _ _ => h _ _ _ _ _ _ hcs) z
  · exact am_J1_m (fun _ _ => h _ _ _ _ _ _ hcs) z
  · exact am_iv_m (fun _ => h _ _ _ _ _ _ hcs) z
  · exact am_I2_m (fun _ _ _ => h _ _ _ _ _ _ hcs) z
  · exact am_I2_m (fun _ _ _ => h _ _ _ _ _ _ hcs) z
  · exact am_I2_m (fun _ _ _ => h _ _ _ _ _ _ hcs) z
  · exact am_I2_m (fun _ _ _ q => ⟨q.1, h _ _ _ _ _ _ hcs q.2⟩) z
  · exact am_I2_m (fun _ _ _ q => ⟨q.1, h _ _ _ _ _ _ hcs q.2⟩) z
  · exact am_I1_m (fun _ _ => h _ _ _ _ _ _ hcs) z
  · exact am_I2_m (fun _ _ _ => h _ _ _ _ _ _ hcs) z
  · exact am_I2_m (fun _ _ _ => h _ _ _ _ _ _ hcs) z
  · exact am_I2_m (fun _ _ _ => h _ _ _ _ _ _ hcs) z
  · exact am_I2_m (fun _ _ _ => h _ _ _ _ _ _ hcs) z
  · exact am_I2_m (fun _ _ _ => h _ _ _ _ _ _ hcs) z
  · exact am_I2_m (fun _ _ _ => h _ _ _ _ _ _ hcs) z
  · exact am_J2_m (fun _ _ _ => h _ _ _ _ _ _ hcs) z
  · exact am_J2_m (fun _ _ _ => h _ _ _ _ _ _ hcs) z
  · exact am_J2_m (fun _ _ _ => h _ _ _ _ _ _ hcs) z
  · exact am_J2_m (fun _ _ _ => h _ _ _ _ _ _ hcs) z
  · exact am_J2_m (fun _ _ _ => h _ _ _ _ _ _ hcs) z
  · exact am_JI_m (fun _ _ _ => h _ _ _ _ _ _ hcs) z
  · exact am_JI_m (fun _ _ _ => h _ _ _ _ _ _ hcs) z
  · exact am_JI_m (fun _ _ _ => h _ _ _ _ _ _ hcs) z
  · exact am_J2_m (fun _ _ _ => h _ _ _ _ _ _ hcs) z
  · exact am_J1_m (fun _ _ => h _ _ _ _ _ _ hcs) z
  · exact am_I1_m (fun _ _ => h _ _ _ _ _ _ hcs) z
  · exact am_I2_m (fun _ _ _ => am_ite_m (h _ _ _ _ _ _ hcs) (h _ _ _ _ _ _ hcs)) z
  · exact am_I2_m (fun _ _ _ => am_ite_m (h _ _ _ _ _ _ hcs) (h _ _ _ _ _ _ hcs)) z
  · exact am_I2_m (fun _ _ _ => am_ite_m (h _ _ _ _ _ _ hcs) (h _ _ _ _ _ _ hcs)) z
  · exact am_I2_m (fun _ _ _ => am_ite_m (h _ _ _ _ _ _ hcs) (h _ _ _ _ _ _ hcs)) z
  · exact am_I2_m (fun _ _ _ => am_ite_m (h _ _ _ _ _ _ hcs) (h _ _ _ _ _ _ hcs)) z
  · exact am_I2_m (fun _ _ _ => am_ite_m (h _ _ _ _ _ _ hcs) (h _ _ _ _ _ _ hcs)) z
  · exact am_I1_m (fun _ _ => am_ite_m (h _ _ _ _ _ _ hcs) (h _ _ _ _ _ _ hcs)) z
  · exact am_I1_m (fun _ _ => am_ite_m (h _ _ _ _ _ _ hcs) (h _ _ _ _ _ _ hcs)) z
  · exact am_I1_m (fun _ _ => am_ite_m (h _ _ _ _ _ _ hcs) (h _ _ _ _ _ _ hcs)) z
  · exact am_I1_m (fun _ _ => am_ite_m (h _ _ _ _ _ _ hcs) (h _ _ _ _ _ _ hcs)) z
  · exact am_I1_m (fun _ _ => am_ite_m (h _ _ _ _ _ _ hcs) (h _ _ _ _ _ _ hcs)) z
  · exact am_I1_m (fun _ _ => am_ite_m (h _ _ _ _ _ _ hcs) (h _ _ _ _ _ _ hcs)) z
  · exact h _ _ _ _ _ _ hcs z
  · exact am_RN_m (fun _ => h _ _ _ _ _ _ hcs) (fun _ => h _ _ _ _ _ _ hcs) z
  · exact am_R1_m (fun _ _ => am_get_m (fun _ => h _ _ _ _ _ _ hcs)) z
  · exact am_VR_m (fun _ _ _ q => ⟨q.1, am_put_m (fun _ q => ⟨q.1, h _ _ _ _ _ _ hcs q.2⟩) q.2⟩) z
  · exact am_VR_m (fun _ _ _ q => ⟨q.1, am_put_m (fun _ q => ⟨q.1, h _ _ _ _ _ _ hcs q.2⟩) q.2⟩) z
  · exact am_IRS_m (fun _ _ _ => am_arr_m (fun _ _ _ => h _ _ _ _ _ _ hcs)) (fun _ _ q => ⟨q.1, h _ _ _ _ _ _ hcs q.2⟩) z
  · exact am_IIR_m (fun _ _ _ _ => am_arr_m (fun _ _ _ => h _ _ _ _ _ _ hcs)) z
  · exact am_IR_m (fun _ _ _ => am_arr_m (fun _ _ _ => h _ _ _ _ _ _ hcs)) z
  · exact am_JIR_m (fun _ _ _ _ => am_arr_m (fun _ _ _ => h _ _ _ _ _ _ hcs)) z
  · exact am_IR_m (fun _ _ _ => am_arr_m (fun _ _ _ => h _ _ _ _ _ _ hcs)) z
  · exact am_IIR_m (fun _ _ _ _ => am_arr_m (fun _ _ _ => h _ _ _ _ _ _ hcs)) z
  · exact am_IR_m (fun _ _ _ => am_arr_m (fun _ _ _ => h _ _ _ _ _ _ hcs)) z
  · exact am_RIR_m (fun _ _ _ _ q => ⟨q.1, am_arr_m (fun _ _ _ => h _ _ _ _ _ _ hcs) q.2⟩) z
  · exact am_RS_m (fun _ _ => am_len_m (fun _ => h _ _ _ _ _ _ hcs)) (fun _ => h _ _ _ _ _ _ hcs) z
  · exact ⟨z.1, z.2.1, z.2.2.1, h _ _ _ _ _ _ ⟨z.1, z.2.1⟩ z.2.2.2⟩
  · exact am_I1_m (fun _ _ z => ⟨z.1, z.2.1, z.2.2.1, z.2.2.2.1, z.2.2.2.2.1, h _ _ _ _ _ _ ⟨z.2.2.1, z.2.2.2.1⟩ z.2.2.2.2.2⟩) z
  · exact am_I1_m (fun _ _ z => ⟨z.1, z.2.1, z.2.2.1, z.2.2.2.1, z.2.2.2.2.1, h _ _ _ _ _ _ ⟨z.2.2.1, z.2.2.2.1⟩ z.2.2.2.2.2⟩) z
  · exact am_V1_m (fun _ _ q => ⟨q.1, h _ _ _ _ _ _ hcs q.2⟩) z
  · exact h _ _ _ _ _ _ hcs z
  · exact am_A_m (fun _ _ => am_R1_m (fun _ _ q => ⟨q.1, q.2.1, am_CB_m (fun _ _ => h _ _ _ _ _ _ hcs) q.2.2⟩)) z
  · exact am_A_m (fun _ _ q => ⟨q.1, am_CB_m (fun _ _ => h _ _ _ _ _ _ hcs) q.2⟩) z
  · exact am_A_m (fun _ _ q => ⟨q.1, am_CB_m (fun _ _ => h _ _ _ _ _ _ hcs) q.2⟩) z
  · exact am_A_m (fun _ _ => am_R1_m (fun _ _ q => ⟨q.1, q.2.1, q.2.2.1, q.2.2.2.1, am_CB_m (fun _ _ => h _ _ _ _ _ _ ⟨q.2.1, q.2.2.1⟩) q.2.2.2.2⟩)) z
  · exact am_R1_m (fun _ _ q => ⟨q.1, q.2.1, h _ _ _ _ _ _ hcs q.2.2⟩) z
  · exact z
  · exact z
  · exact z
  · exact z
  · exact am_I1_m (fun _ _ => am_sw_m (fun _ => h _ _ _ _ _ _ hcs) _ _) z
  · exact am_I2_m (fun _ _ _ q => ⟨q.1, q.2.1, h _ _ _ _ _ _ hcs q.2.2⟩) z
  · exact am_I2_m (fun _ _ _ q => ⟨q.1, q.2.1, h _ _ _ _ _ _ hcs q.2.2⟩) z
  · exact z.elim
theorem am_lookup_mem {α : Type} {k : Nat} {b : α} : ∀ {l : List (Nat × α)}, l.lookup k = some b → (k, b) ∈ l
  | [], h => by cases h
  | (a, c) :: t, h => by
    simp only [List.lookup] at h
    split at h
    · next e => cases h; have := eq_of_beq e; subst this; exact List.mem_cons_self
    · exact List.mem_cons_of_mem _ (am_lookup_mem h)
theorem am_code_ok {i pc : Nat} {row : am_I} (h : am_code i pc = some row) : am_chk i (pc, row) = true := by
  unfold am_code at h
  have h1 := am_lookup_mem h
  have h2 := List.all_eq_true.mp (am_call_ok i)
  by_cases hk : pc / 64 < (am_tb i).length
  · have h3 := h2 ((am_tb i).getD (pc / 64) []) (by rw [List.getD_eq_getElem?_getD, List.getElem?_eq_getElem hk]; exact List.getElem_mem hk)
    exact List.all_eq_true.mp h3 _ h1
  · rw [List.getD_eq_getElem?_getD, List.getElem?_eq_none (by omega)] at h1
    cases h1
def am_row (o : Option am_I) (F : Nat → Nat → Nat → Nat → Int32 → Int64 → Prop) : Prop := match o with
  | some (op, nx, a, b, _, v, w) => F op nx a b v w
  | none => False
def am_WPs (stops : List Nat) (X : Nat × (Nat → Int32)) (D i : Nat) (P : Option Value → am_H → Prop) : Nat → am_K
  | 0 => fun pc L st G c s => am_WP X D i pc L st G c s P
  | n + 1 => fun pc L st G c s => if stops.any (· == pc) = true then am_WP X D i pc L st G c s P else am_row (am_code i pc) (fun op nx a b v w => am_step X D i pc op nx a b v w L st G c s P (am_WPs stops X D i P n))
theorem am_WPs_ok {stops : List Nat} {X : Nat × (Nat → Int32)} {D i : Nat} {P : Option Value → am_H → Prop} : ∀ (n pc : Nat) (L : List (Option Value)) (st : List Value) (G : am_H) (c s : Nat), (c ≤ am_mc i ∧ s ≤ am_ms i) → am_WPs stops X D i P n pc L st G c s → am_WP X D i pc L st G c s P
  | 0, _, _, _, _, _, _, _, h => h
  | n + 1, pc, L, st, G, c, s, hcs, h => by
    simp only [am_WPs] at h
    split at h
    · exact h
    · cases hc : am_code i pc with
      | none => rw [hc] at h; exact h.elim
      | some row =>
        obtain ⟨op, nx, a, b, x, v, w⟩ := row
        rw [hc] at h
        exact am_sound (am_code_ok hc) hcs (am_step_m hcs (fun nx L st G c s hcs h => am_WPs_ok n nx L st G c s hcs h) h)
theorem am_run (n : Nat) (stops : List Nat) {X : Nat × (Nat → Int32)} {D i pc : Nat} {P : Option Value → am_H → Prop} {L : List (Option Value)} {st : List Value} {G : am_H} {c s : Nat} (hcs : c ≤ am_mc i ∧ s ≤ am_ms i) (h : am_row (am_code i pc) (fun op nx a b v w => am_step X D i pc op nx a b v w L st G c s P (am_WPs stops X D i P n))) : am_WP X D i pc L st G c s P := by
  cases hc : am_code i pc with
  | none => rw [hc] at h; exact h.elim
  | some row =>
    obtain ⟨op, nx, a, b, x, v, w⟩ := row
    rw [hc] at h
    exact am_sound (am_code_ok hc) hcs (am_step_m hcs (fun nx L st G c s hcs h => am_WPs_ok n nx L st G c s hcs h) h)
/-- fewer locals are enough -/
def am_le : List (Option Value) → List (Option Value) → Prop
  | [], [] => True
  | a :: s, b :: t => (a = none ∨ a = b) ∧ am_le s t
  | _, _ => False
theorem am_le_len : ∀ {s t : List (Option Value)}, am_le s t → s.length = t.length
  | [], [], _ => rfl
  | _ :: s, _ :: t, h => by simp [am_le_len h.2]
theorem am_le_at : ∀ {s t : List (Option Value)}, am_le s t → ∀ {k : Nat} {v : Value}, s[k]? = some (some v) → t[k]? = some (some v)
  | [], [], _, _, _, h => by simp at h
  | a :: s, b :: t, h, 0, v, hk => by
    simp only [List.getElem?_cons_zero, Option.some.injEq] at hk ⊢
    rcases h.1 with z | z
    · rw [z] at hk; cases hk
    · rw [← z]; exact hk
  | a :: s, b :: t, h, k + 1, v, hk => by
    simp only [List.getElem?_cons_succ] at hk ⊢
    exact am_le_at h.2 hk
theorem am_WP.fg {X : Nat × (Nat → Int32)} {D i pc : Nat} {P : Option Value → am_H → Prop} {L L' : List (Option Value)} {st : List Value} {G : am_H} {c s : Nat} (h : am_WP X D i pc L' st G c s P) (hl : am_le L' L) : am_WP X D i pc L st G c s P := by
  intro p l e R s0 m args below meth cd dC dI b A ad cA tys H locs ls Q hF hX hbl hbA hA hS hR hL hfin
  exact h p l e R s0 m args below meth cd dC dI b A ad cA tys H locs ls Q hF hX hbl hbA hA hS hR ⟨(am_le_len hl).trans hL.1, hL.2.1, fun k v hk => hL.2.2 k v (am_le_at hl hk)⟩ hfin
theorem am_WP.mn {X : Nat × (Nat → Int32)} {D i pc : Nat} {P P' : Option Value → am_H → Prop} {L : List (Option Value)} {st : List Value} {G : am_H} {c s : Nat} (h : am_WP X D i pc L st G c s P) (hp : ∀ v G, P v G → P' v G) : am_WP X D i pc L st G c s P' := by
  intro p l e R s0 m args below meth cd dC dI b A ad cA tys H locs ls Q hF hX hbl hbA hA hS hR hL hfin
  exact h p l e R s0 m args below meth cd dC dI b A ad cA tys H locs ls Q hF hX hbl hbA hA hS hR hL (fun ins v G1 ad1 cA1 tys1 H1 locs1 ls1 pc1 c1 s1 a1 a2 a3 => hfin ins v G1 ad1 cA1 tys1 H1 locs1 ls1 pc1 c1 s1 a1 a2 (hp _ _ a3))
-- ===== a call out of its body =====
def am_lay : List Value → List (Option Value)
  | [] => []
  | .long x :: r => some (.long x) :: none :: am_lay r
  | .double x :: r => some (.double x) :: none :: am_lay r
  | v :: r => some v :: am_lay r
def am_ent (n : Nat) (as : List Value) : List (Option Value) := am_lay as ++ List.replicate (n - (am_lay as).length) none
theorem am_lay_at {ad : Nat → Nat} {b : Nat} : ∀ {as : List Value} {q k : Nat} {v : Value}, (am_lay as)[k]? = some (some v) → (q + k, am_cv ad b v) ∈ lv_args q (as.map (am_cv ad b))
  | [], _, _, _, h => by simp [am_lay] at h
  | x :: r, q, k, v, h => by
    have one : ∀ {y : Value}, y.category = 1 → (some y :: am_lay r)[k]? = some (some v) → (q + k, am_cv ad b v) ∈ lv_args q ((y :: r).map (am_cv ad b)) := by
      intro y hy h
      show _ ∈ (q, am_cv ad b y) :: lv_args (if (am_cv ad b y).category = 2 then q + 2 else q + 1) (r.map (am_cv ad b))
      rw [am_cat1, hy, if_neg (by decide)]
      cases k with
      | zero => simp only [List.getElem?_cons_zero, Option.some.injEq] at h; subst h; exact List.mem_cons_self
      | succ k =>
        simp only [List.getElem?_cons_succ] at h
        have := am_lay_at (ad := ad) (b := b) (q := q + 1) h
        rw [show q + 1 + k = q + (k + 1) by omega] at this
        exact List.mem_cons_of_mem _ this
    have two : ∀ {y : Value}, y.category = 2 → (some y :: none :: am_lay r)[k]? = some (some v) → (q + k, am_cv ad b v) ∈ lv_args q ((y :: r).map (am_cv ad b)) := by
      intro y hy h
      show _ ∈ (q, am_cv ad b y) :: lv_args (if (am_cv ad b y).category = 2 then q + 2 else q + 1) (r.map (am_cv ad b))
      rw [am_cat1, hy, if_pos rfl]
      match k, h with
      | 0, h => simp only [List.getElem?_cons_zero, Option.some.injEq] at h; subst h; exact List.mem_cons_self
      | 1, h => simp at h
      | k + 2, h =>
        simp only [List.getElem?_cons_succ] at h
        have := am_lay_at (ad := ad) (b := b) (q := q + 2) h
        rw [show q + 2 + k = q + (k + 2) by omega] at this
        exact List.mem_cons_of_mem _ this
    cases x with
    | long z => exact two rfl h
    | double z => exact two rfl h
    | _ => exact one rfl h
theorem am_lay_len {ad : Nat → Nat} {b : Nat} : ∀ (as : List Value), (lg_sl (as.map (am_cv ad b))).length = (am_lay as).length
  | [] => rfl
  | x :: r => by
    have ih := am_lay_len (ad := ad) (b := b) r
    have e : lg_sl ((x :: r).map (am_cv ad b)) = (if (am_cv ad b x).category = 2 then [.val (am_cv ad b x), .second] else [.val (am_cv ad b x)]) ++ lg_sl (r.map (am_cv ad b)) := by simp [lg_sl]
    rw [e, List.length_append, ih]
    cases x <;> simp [am_lay, am_cv, Value.category] <;> omega
def am_mg (j : Nat) : Bool := plainName (am_y j).cls && decide ((am_y j).cls = am_mo j)
theorem am_mg_all : ∀ j, j < 107 → am_mg j = true := by decide +kernel
set_option maxHeartbeats 2000000 in
theorem am_Call_of {X : Nat × (Nat → Int32)} {D j : Nat} {as : List Value} {G : am_H} {P : Option Value → am_H → Prop} (hj : j < 107) (hlen : (am_lay as).length ≤ am_ml j) (h : am_WP X D j 0 (am_ent (am_ml j) as) [] G 0 0 P) : am_Call X D j as G P := by
  intro l dC dI b A ad cA tys hbA
  have hg := am_mg_all j hj
  simp only [am_mg, Bool.and_eq_true, decide_eq_true_eq] at hg
  refine Met.ofW (cc := am_by j) (maxL := am_ml j) (ret := am_rt j) hg.1 rfl ?_
  intro p e s m args below meth c s₁ B hml hv
  obtain ⟨rfl, hR, hX, hbl, hN, hA⟩ := hv
  have hts := atoms_spec (ws := am_W j) B.pre
  have hown : s.vm.findClass (am_mo j) = some m.cls := hg.2 ▸ findClass_of_methodNamed B.named
  have hnm : meth.name = (am_y j).name := (name_of_methodNamed B.named B.method).1
  have hl0 := lv_entry (as.map (am_cv ad b)) (n := am_ml j) (by rw [am_lay_len]; exact hlen)
  rw [lg_entry_eq]
  generalize (lg_sl (as.map (am_cv ad b)) ++ List.replicate (am_ml j - (lg_sl (as.map (am_cv ad b))).length) Slot.unset).toArray = ls at hl0 ⊢
  have hL : am_LOk ad b ls (am_ml j) (am_ent (am_ml j) as) := by
    refine ⟨?_, ⟨hl0.1, hl0.2.1, fun q hq => by cases hq⟩, fun k v hk => ?_⟩
    · simp only [am_ent, List.length_append, List.length_replicate]; omega
    · have hk2 : (am_lay as)[k]? = some (some v) := by
        unfold am_ent at hk
        by_cases z : k < (am_lay as).length
        · rw [List.getElem?_append_left z] at hk; exact hk
        · rw [List.getElem?_append_right (by omega), List.getElem?_replicate] at hk
          split at hk <;> cases hk
      have := am_lay_at (ad := ad) (b := b) (q := 0) hk2
      rw [Nat.zero_add] at this
      exact hl0.2.2 _ this
  refine h p l e _ s m _ below meth c dC dI b A ad cA tys s.heap [] ls _ ⟨B.exec, B.bytes, hml, hown, fun w hw => hts w (List.mem_cons_of_mem _ hw), B.returns, B.notSynchronized, fun z => hnm.trans z, Nat.le_refl _, Nat.le_refl _, Nat.le_refl _, Nat.le_refl _, hN⟩ hX hbl hbA hA va_S.rf hR hL ?_
  intro ins v G1 ad1 cA1 tys1 H1 locs1 ls1 pc1 c1 s1 hc1 hs1 hp hrv hri hd hag hS1 hR1
  refine W.widen hc1 hs1 ?_
  have hq : ∀ t : State, t.heap = H1 → s.WarmedH t.vm → am_post dC dI b A ad G j P (List.toArray (as.map (am_cv ad b))) s (.returned (v.map (am_cv ad1 b))) t := fun t ht hW => ⟨⟨v, G1, ad1, cA1, tys1, rfl, hp, hrv, hag, ht ▸ am_Rel.mv hW.alike hR1⟩, hS1.F ht⟩
  rcases hri with ⟨rfl, ht⟩ | ⟨rfl, ht⟩ | ⟨rfl, n, ht⟩ | ⟨rfl, ht⟩
  · rcases ht with ht | ht
    · rw [ht] at hrv
      match v, hrv with
      | some (.int x), _ => exact W.zret B.exec B.bytes (B.returns.trans ht) rfl (fun t a b => hq t a b) hS1.2.2 hd B.notSynchronized
    · rw [ht] at hrv
      match v, hrv with
      | some (.int x), hrv => exact W.zret B.exec B.bytes (B.returns.trans ht) (by rcases hrv with rfl | rfl <;> rfl) (fun t a b => hq t a b) hS1.2.2 hd B.notSynchronized
  · rw [ht] at hrv
    match v, hrv with
    | some (.long x), _ => exact W.lret B.exec B.bytes (B.returns.trans ht) (fun t a b => hq t a b) hS1.2.2 hd B.notSynchronized
  · rw [ht] at hrv
    match v, hrv with
    | some (.ref x), _ => exact W.aret B.exec B.bytes (B.returns.trans ht) (Or.inl ⟨n, rfl⟩) (Or.inr ⟨_, rfl⟩) (fun t a b => hq t a b) hS1.2.2 hd B.notSynchronized
    | some .null, _ => exact W.aret B.exec B.bytes (B.returns.trans ht) (Or.inl ⟨n, rfl⟩) (Or.inl rfl) (fun t a b => hq t a b) hS1.2.2 hd B.notSynchronized
  · rw [ht] at hrv
    match v, hrv with
    | none, _ => exact W.vret B.exec B.bytes (B.returns.trans ht) (fun t a b => hq t a b) hS1.2.2 hd B.notSynchronized
theorem am_CB_of {X : Nat × (Nat → Int32)} {D D' j : Nat} {as : List Value} {G : am_H} {P : Option Value → am_H → Prop} (hj : j < 107) (hlen : (am_lay as).length ≤ am_ml j) (hD : D' + 1 ≤ D) (h : am_WP X D' j 0 (am_ent (am_ml j) as) [] G 0 0 P) : am_CB X D j as G P := ⟨D', hD, am_Call_of hj hlen h⟩
theorem am_s1 {X : Nat × (Nat → Int32)} {D i pc nx a b : Nat} {v : Int32} {w : Int64} {L : List (Option Value)} {st : List Value} {G : am_H} {c s : Nat} {P : Option Value → am_H → Prop} {K : am_K} : am_step X D i pc 1 nx a b v w L st G c s P K = (am_iv (am_lg L a) (fun x => K nx L (.int x :: st) G c s)) := rfl
theorem am_s2 {X : Nat × (Nat → Int32)} {D i pc nx a b : Nat} {v : Int32} {w : Int64} {L : List (Option Value)} {st : List Value} {G : am_H} {c s : Nat} {P : Option Value → am_H → Prop} {K : am_K} : am_step X D i pc 2 nx a b v w L st G c s P K = (am_av (am_lg L a) (fun x => K nx L (x :: st) G c s)) := rfl
theorem am_s3 {X : Nat × (Nat → Int32)} {D i pc nx a b : Nat} {v : Int32} {w : Int64} {L : List (Option Value)} {st : List Value} {G : am_H} {c s : Nat} {P : Option Value → am_H → Prop} {K : am_K} : am_step X D i pc 3 nx a b v w L st G c s P K = (am_lv (am_lg L a) (fun x => K nx L (.long x :: st) G c s)) := rfl
theorem am_s4 {X : Nat × (Nat → Int32)} {D i pc nx a b : Nat} {v : Int32} {w : Int64} {L : List (Option Value)} {st : List Value} {G : am_H} {c s : Nat} {P : Option Value → am_H → Prop} {K : am_K} : am_step X D i pc 4 nx a b v w L st G c s P K = (K nx L (.int v :: st) G c s) := rfl
theorem am_s5 {X : Nat × (Nat → Int32)} {D i pc nx a b : Nat} {v : Int32} {w : Int64} {L : List (Option Value)} {st : List Value} {G : am_H} {c s : Nat} {P : Option Value → am_H → Prop} {K : am_K} : am_step X D i pc 5 nx a b v w L st G c s P K = (K nx L (.long w :: st) G c s) := rfl
theorem am_s6 {X : Nat × (Nat → Int32)} {D i pc nx a b : Nat} {v : Int32} {w : Int64} {L : List (Option Value)} {st : List Value} {G : am_H} {c s : Nat} {P : Option Value → am_H → Prop} {K : am_K} : am_step X D i pc 6 nx a b v w L st G c s P K = (am_I1 st (fun x r => K nx (am_l1 L a (.int x)) r G c s)) := rfl
theorem am_s7 {X : Nat × (Nat → Int32)} {D i pc nx a b : Nat} {v : Int32} {w : Int64} {L : List (Option Value)} {st : List Value} {G : am_H} {c s : Nat} {P : Option Value → am_H → Prop} {K : am_K} : am_step X D i pc 7 nx a b v w L st G c s P K = (am_AR st (fun x r => K nx (am_l1 L a x) r G c s)) := rfl
theorem am_s8 {X : Nat × (Nat → Int32)} {D i pc nx a b : Nat} {v : Int32} {w : Int64} {L : List (Option Value)} {st : List Value} {G : am_H} {c s : Nat} {P : Option Value → am_H → Prop} {K : am_K} : am_step X D i pc 8 nx a b v w L st G c s P K = (am_J1 st (fun x r => K nx (am_l2 L a (.long x)) r G c s)) := rfl
theorem am_s9 {X : Nat × (Nat → Int32)} {D i pc nx a b : Nat} {v : Int32} {w : Int64} {L : List (Option Value)} {st : List Value} {G : am_H} {c s : Nat} {P : Option Value → am_H → Prop} {K : am_K} : am_step X D i pc 9 nx a b v w L st G c s P K = (am_iv (am_lg L a) (fun x => K nx (am_l1 L a (.int (x + v))) st G c s)) := rfl
theorem am_s10 {X : Nat × (Nat → Int32)} {D i pc nx a b : Nat} {v : Int32} {w : Int64} {L : List (Option Value)} {st : List Value} {G : am_H} {c s : Nat} {P : Option Value → am_H → Prop} {K : am_K} : am_step X D i pc 10 nx a b v w L st G c s P K = (am_I2 st (fun x y r => K nx L (.int (x + y) :: r) G c s)) := rfl
theorem am_s11 {X : Nat × (Nat → Int32)} {D i pc nx a b : Nat} {v : Int32} {w : Int64} {L : List (Option Value)} {st : List Value} {G : am_H} {c s : Nat} {P : Option Value → am_H → Prop} {K : am_K} : am_step X D i pc 11 nx a b v w L st G c s P K = (am_I2 st (fun x y r => K nx L (.int (x - y) :: r) G c s)) := rfl
theorem am_s12 {X : Nat × (Nat → Int32)} {D i pc nx a b : Nat} {v : Int32} {w : Int64} {L : List (Option Value)} {st : List Value} {G : am_H} {c s : Nat} {P : Option Value → am_H → Prop} {K : am_K} : am_step X D i pc 12 nx a b v w L st G c s P K = (am_I2 st (fun x y r => K nx L (.int (x * y) :: r) G c s)) := rfl
theorem am_s13 {X : Nat × (Nat → Int32)} {D i pc nx a b : Nat} {v : Int32} {w : Int64} {L : List (Option Value)} {st : List Value} {G : am_H} {c s : Nat} {P : Option Value → am_H → Prop} {K : am_K} : am_step X D i pc 13 nx a b v w L st G c s P K = (am_I2 st (fun x y r => ¬ y = 0 ∧ K nx L (.int (x / y) :: r) G c s)) := rfl
theorem am_s14 {X : Nat × (Nat → Int32)} {D i pc nx a b : Nat} {v : Int32} {w : Int64} {L : List (Option Value)} {st : List Value} {G : am_H} {c s : Nat} {P : Option Value → am_H → Prop} {K : am_K} : am_step X D i pc 14 nx a b v w L st G c s P K = (am_I2 st (fun x y r => ¬ y = 0 ∧ K nx L (.int (x - x / y * y) :: r) G c s)) := rfl
theorem am_s15 {X : Nat × (Nat → Int32)} {D i pc nx a b : Nat} {v : Int32} {w : Int64} {L : List (Option Value)} {st : List Value} {G : am_H} {c s : Nat} {P : Option Value → am_H → Prop} {K : am_K} : am_step X D i pc 15 nx a b v w L st G c s P K = (am_I1 st (fun x r => K nx L (.int (-x) :: r) G c s)) := rfl
theorem am_s16 {X : Nat × (Nat → Int32)} {D i pc nx a b : Nat} {v : Int32} {w : Int64} {L : List (Option Value)} {st : List Value} {G : am_H} {c s : Nat} {P : Option Value → am_H → Prop} {K : am_K} : am_step X D i pc 16 nx a b v w L st G c s P K = (am_I2 st (fun x y r => K nx L (.int (x <<< (y &&& 31)) :: r) G c s)) := rfl
theorem am_s17 {X : Nat × (Nat → Int32)} {D i pc nx a b : Nat} {v : Int32} {w : Int64} {L : List (Option Value)} {st : List Value} {G : am_H} {c s : Nat} {P : Option Value → am_H → Prop} {K : am_K} : am_step X D i pc 17 nx a b v w L st G c s P K = (am_I2 st (fun x y r => K nx L (.int (x >>> (y &&& 31)) :: r) G c s)) := rfl
theorem am_s18 {X : Nat × (Nat → Int32)} {D i pc nx a b : Nat} {v : Int32} {w : Int64} {L : List (Option Value)} {st : List Value} {G : am_H} {c s : Nat} {P : Option Value → am_H → Prop} {K : am_K} : am_step X D i pc 18 nx a b v w L st G c s P K = (am_I2 st (fun x y r => K nx L (.int ((x.toUInt32 >>> (y.toUInt32 &&& Int32.toUInt32 31)).toInt32) :: r) G c s)) := rfl
theorem am_s19 {X : Nat × (Nat → Int32)} {D i pc nx a b : Nat} {v : Int32} {w : Int64} {L : List (Option Value)} {st : List Value} {G : am_H} {c s : Nat} {P : Option Value → am_H → Prop} {K : am_K} : am_step X D i pc 19 nx a b v w L st G c s P K = (am_I2 st (fun x y r => K nx L (.int (x &&& y) :: r) G c s)) := rfl
theorem am_s20 {X : Nat × (Nat → Int32)} {D i pc nx a b : Nat} {v : Int32} {w : Int64} {L : List (Option Value)} {st : List Value} {G : am_H} {c s : Nat} {P : Option Value → am_H → Prop} {K : am_K} : am_step X D i pc 20 nx a b v w L st G c s P K = (am_I2 st (fun x y r => K nx L (.int (x ||| y) :: r) G c s)) := rfl
theorem am_s21 {X : Nat × (Nat → Int32)} {D i pc nx a b : Nat} {v : Int32} {w : Int64} {L : List (Option Value)} {st : List Value} {G : am_H} {c s : Nat} {P : Option Value → am_H → Prop} {K : am_K} : am_step X D i pc 21 nx a b v w L st G c s P K = (am_I2 st (fun x y r => K nx L (.int (x ^^^ y) :: r) G c s)) := rfl
theorem am_s22 {X : Nat × (Nat → Int32)} {D i pc nx a b : Nat} {v : Int32} {w : Int64} {L : List (Option Value)} {st : List Value} {G : am_H} {c s : Nat} {P : Option Value → am_H → Prop} {K : am_K} : am_step X D i pc 22 nx a b v w L st G c s P K = (am_J2 st (fun x y r => K nx L (.long (x + y) :: r) G c s)) := rfl
theorem am_s23 {X : Nat × (Nat → Int32)} {D i pc nx a b : Nat} {v : Int32} {w : Int64} {L : List (Option Value)} {st : List Value} {G : am_H} {c s : Nat} {P : Option Value → am_H → Prop} {K : am_K} : am_step X D i pc 23 nx a b v w L st G c s P K = (am_J2 st (fun x y r => K nx L (.long (x - y) :: r) G c s)) := rfl
theorem am_s24 {X : Nat × (Nat → Int32)} {D i pc nx a b : Nat} {v : Int32} {w : Int64} {L : List (Option Value)} {st : List Value} {G : am_H} {c s : Nat} {P : Option Value → am_H → Prop} {K : am_K} : am_step X D i pc 24 nx a b v w L st G c s P K = (am_J2 st (fun x y r => K nx L (.long (x &&& y) :: r) G c s)) := rfl
theorem am_s25 {X : Nat × (Nat → Int32)} {D i pc nx a b : Nat} {v : Int32} {w : Int64} {L : List (Option Value)} {st : List Value} {G : am_H} {c s : Nat} {P : Option Value → am_H → Prop} {K : am_K} : am_step X D i pc 25 nx a b v w L st G c s P K = (am_J2 st (fun x y r => K nx L (.long (x ||| y) :: r) G c s)) := rfl
theorem am_s26 {X : Nat × (Nat → Int32)} {D i pc nx a b : Nat} {v : Int32} {w : Int64} {L : List (Option Value)} {st : List Value} {G : am_H} {c s : Nat} {P : Option Value → am_H → Prop} {K : am_K} : am_step X D i pc 26 nx a b v w L st G c s P K = (am_J2 st (fun x y r => K nx L (.long (x ^^^ y) :: r) G c s)) := rfl
theorem am_s27 {X : Nat × (Nat → Int32)} {D i pc nx a b : Nat} {v : Int32} {w : Int64} {L : List (Option Value)} {st : List Value} {G : am_H} {c s : Nat} {P : Option Value → am_H → Prop} {K : am_K} : am_step X D i pc 27 nx a b v w L st G c s P K = (am_JI st (fun x y r => K nx L (.long (x <<< (y.toInt64 &&& 63)) :: r) G c s)) := rfl
theorem am_s28 {X : Nat × (Nat → Int32)} {D i pc nx a b : Nat} {v : Int32} {w : Int64} {L : List (Option Value)} {st : List Value} {G : am_H} {c s : Nat} {P : Option Value → am_H → Prop} {K : am_K} : am_step X D i pc 28 nx a b v w L st G c s P K = (am_JI st (fun x y r => K nx L (.long (x >>> (y.toInt64 &&& 63)) :: r) G c s)) := rfl
theorem am_s29 {X : Nat × (Nat → Int32)} {D i pc nx a b : Nat} {v : Int32} {w : Int64} {L : List (Option Value)} {st : List Value} {G : am_H} {c s : Nat} {P : Option Value → am_H → Prop} {K : am_K} : am_step X D i pc 29 nx a b v w L st G c s P K = (am_JI st (fun x y r => K nx L (.long ((x.toUInt64 >>> (y.toInt64.toUInt64 &&& Int64.toUInt64 63)).toInt64) :: r) G c s)) := rfl
theorem am_s30 {X : Nat × (Nat → Int32)} {D i pc nx a b : Nat} {v : Int32} {w : Int64} {L : List (Option Value)} {st : List Value} {G : am_H} {c s : Nat} {P : Option Value → am_H → Prop} {K : am_K} : am_step X D i pc 30 nx a b v w L st G c s P K = (am_J2 st (fun x y r => K nx L (.int (lg_cmp x y) :: r) G c s)) := rfl
theorem am_s31 {X : Nat × (Nat → Int32)} {D i pc nx a b : Nat} {v : Int32} {w : Int64} {L : List (Option Value)} {st : List Value} {G : am_H} {c s : Nat} {P : Option Value → am_H → Prop} {K : am_K} : am_step X D i pc 31 nx a b v w L st G c s P K = (am_J1 st (fun x r => K nx L (.int x.toInt32 :: r) G c s)) := rfl
theorem am_s32 {X : Nat × (Nat → Int32)} {D i pc nx a b : Nat} {v : Int32} {w : Int64} {L : List (Option Value)} {st : List Value} {G : am_H} {c s : Nat} {P : Option Value → am_H → Prop} {K : am_K} : am_step X D i pc 32 nx a b v w L st G c s P K = (am_I1 st (fun x r => K nx L (.long x.toInt64 :: r) G c s)) := rfl
theorem am_s33 {X : Nat × (Nat → Int32)} {D i pc nx a b : Nat} {v : Int32} {w : Int64} {L : List (Option Value)} {st : List Value} {G : am_H} {c s : Nat} {P : Option Value → am_H → Prop} {K : am_K} : am_step X D i pc 33 nx a b v w L st G c s P K = (am_I2 st (fun x y r => if x = y then K a L r G c s else K nx L r G c s)) := rfl
theorem am_s34 {X : Nat × (Nat → Int32)} {D i pc nx a b : Nat} {v : Int32} {w : Int64} {L : List (Option Value)} {st : List Value} {G : am_H} {c s : Nat} {P : Option Value → am_H → Prop} {K : am_K} : am_step X D i pc 34 nx a b v w L st G c s P K = (am_I2 st (fun x y r => if x = y then K nx L r G c s else K a L r G c s)) := rfl
theorem am_s35 {X : Nat × (Nat → Int32)} {D i pc nx a b : Nat} {v : Int32} {w : Int64} {L : List (Option Value)} {st : List Value} {G : am_H} {c s : Nat} {P : Option Value → am_H → Prop} {K : am_K} : am_step X D i pc 35 nx a b v w L st G c s P K = (am_I2 st (fun x y r => if x < y then K a L r G c s else K nx L r G c s)) := rfl
theorem am_s36 {X : Nat × (Nat → Int32)} {D i pc nx a b : Nat} {v : Int32} {w : Int64} {L : List (Option Value)} {st : List Value} {G : am_H} {c s : Nat} {P : Option Value → am_H → Prop} {K : am_K} : am_step X D i pc 36 nx a b v w L st G c s P K = (am_I2 st (fun x y r => if x < y then K nx L r G c s else K a L r G c s)) := rfl
theorem am_s37 {X : Nat × (Nat → Int32)} {D i pc nx a b : Nat} {v : Int32} {w : Int64} {L : List (Option Value)} {st : List Value} {G : am_H} {c s : Nat} {P : Option Value → am_H → Prop} {K : am_K} : am_step X D i pc 37 nx a b v w L st G c s P K = (am_I2 st (fun x y r => if y < x then K a L r G c s else K nx L r G c s)) := rfl
theorem am_s38 {X : Nat × (Nat → Int32)} {D i pc nx a b : Nat} {v : Int32} {w : Int64} {L : List (Option Value)} {st : List Value} {G : am_H} {c s : Nat} {P : Option Value → am_H → Prop} {K : am_K} : am_step X D i pc 38 nx a b v w L st G c s P K = (am_I2 st (fun x y r => if y < x then K nx L r G c s else K a L r G c s)) := rfl
theorem am_s39 {X : Nat × (Nat → Int32)} {D i pc nx a b : Nat} {v : Int32} {w : Int64} {L : List (Option Value)} {st : List Value} {G : am_H} {c s : Nat} {P : Option Value → am_H → Prop} {K : am_K} : am_step X D i pc 39 nx a b v w L st G c s P K = (am_I1 st (fun x r => if x = 0 then K a L r G c s else K nx L r G c s)) := rfl
theorem am_s40 {X : Nat × (Nat → Int32)} {D i pc nx a b : Nat} {v : Int32} {w : Int64} {L : List (Option Value)} {st : List Value} {G : am_H} {c s : Nat} {P : Option Value → am_H → Prop} {K : am_K} : am_step X D i pc 40 nx a b v w L st G c s P K = (am_I1 st (fun x r => if x = 0 then K nx L r G c s else K a L r G c s)) := rfl
theorem am_s41 {X : Nat × (Nat → Int32)} {D i pc nx a b : Nat} {v : Int32} {w : Int64} {L : List (Option Value)} {st : List Value} {G : am_H} {c s : Nat} {P : Option Value → am_H → Prop} {K : am_K} : am_step X D i pc 41 nx a b v w L st G c s P K = (am_I1 st (fun x r => if x < 0 then K a L r G c s else K nx L r G c s)) := rfl
theorem am_s42 {X : Nat × (Nat → Int32)} {D i pc nx a b : Nat} {v : Int32} {w : Int64} {L : List (Option Value)} {st : List Value} {G : am_H} {c s : Nat} {P : Option Value → am_H → Prop} {K : am_K} : am_step X D i pc 42 nx a b v w L st G c s P K = (am_I1 st (fun x r => if x < 0 then K nx L r G c s else K a L r G c s)) := rfl
theorem am_s43 {X : Nat × (Nat → Int32)} {D i pc nx a b : Nat} {v : Int32} {w : Int64} {L : List (Option Value)} {st : List Value} {G : am_H} {c s : Nat} {P : Option Value → am_H → Prop} {K : am_K} : am_step X D i pc 43 nx a b v w L st G c s P K = (am_I1 st (fun x r => if 0 < x then K a L r G c s else K nx L r G c s)) := rfl
theorem am_s44 {X : Nat × (Nat → Int32)} {D i pc nx a b : Nat} {v : Int32} {w : Int64} {L : List (Option Value)} {st : List Value} {G : am_H} {c s : Nat} {P : Option Value → am_H → Prop} {K : am_K} : am_step X D i pc 44 nx a b v w L st G c s P K = (am_I1 st (fun x r => if 0 < x then K nx L r G c s else K a L r G c s)) := rfl
theorem am_s45 {X : Nat × (Nat → Int32)} {D i pc nx a b : Nat} {v : Int32} {w : Int64} {L : List (Option Value)} {st : List Value} {G : am_H} {c s : Nat} {P : Option Value → am_H → Prop} {K : am_K} : am_step X D i pc 45 nx a b v w L st G c s P K = (K a L st G c s) := rfl
theorem am_s46 {X : Nat × (Nat → Int32)} {D i pc nx a b : Nat} {v : Int32} {w : Int64} {L : List (Option Value)} {st : List Value} {G : am_H} {c s : Nat} {P : Option Value → am_H → Prop} {K : am_K} : am_step X D i pc 46 nx a b v w L st G c s P K = (am_RN st (fun r => K a L r G c s) (fun r => K nx L r G c s)) := rfl
theorem am_s48 {X : Nat × (Nat → Int32)} {D i pc nx a b : Nat} {v : Int32} {w : Int64} {L : List (Option Value)} {st : List Value} {G : am_H} {c s : Nat} {P : Option Value → am_H → Prop} {K : am_K} : am_step X D i pc 48 nx a b v w L st G c s P K = (am_R1 st (fun k r => am_get (am_ob G k a) b (fun v => K nx L (v :: r) G c s))) := rfl
theorem am_s49 {X : Nat × (Nat → Int32)} {D i pc nx a b : Nat} {v : Int32} {w : Int64} {L : List (Option Value)} {st : List Value} {G : am_H} {c s : Nat} {P : Option Value → am_H → Prop} {K : am_K} : am_step X D i pc 49 nx a b v w L st G c s P K = (am_VR st (fun v k r => am_fit (am_tT a b) v ∧ am_put (am_ob G k a) (fun fs => b < fs.length ∧ K nx L r (G.set k (am_o a (fs.set b v))) c s))) := rfl
theorem am_s50 {X : Nat × (Nat → Int32)} {D i pc nx a b : Nat} {v : Int32} {w : Int64} {L : List (Option Value)} {st : List Value} {G : am_H} {c s : Nat} {P : Option Value → am_H → Prop} {K : am_K} : am_step X D i pc 50 nx a b v w L st G c s P K = (am_VR st (fun v k r => am_fit (am_tT a b) v ∧ am_put (am_ob G k a) (fun fs => b < fs.length ∧ K nx L r (G.set k (am_o a (fs.set b v))) c s))) := rfl
theorem am_s51 {X : Nat × (Nat → Int32)} {D i pc nx a b : Nat} {v : Int32} {w : Int64} {L : List (Option Value)} {st : List Value} {G : am_H} {c s : Nat} {P : Option Value → am_H → Prop} {K : am_K} : am_step X D i pc 51 nx a b v w L st G c s P K = (am_IRS st (fun j k r => am_arr (am_ia G k 0) j (fun _ f j => K nx L (.int (f j) :: r) G c s)) (fun j r => vp_in j X.1 ∧ K nx L (.int (X.2 j.toNatClampNeg) :: r) G c s)) := rfl
theorem am_s52 {X : Nat × (Nat → Int32)} {D i pc nx a b : Nat} {v : Int32} {w : Int64} {L : List (Option Value)} {st : List Value} {G : am_H} {c s : Nat} {P : Option Value → am_H → Prop} {K : am_K} : am_step X D i pc 52 nx a b v w L st G c s P K = (am_IIR st (fun y j k r => am_arr (am_ia G k 0) j (fun n f j => K nx L r (G.set k (am_ai 0 n (upd f j y))) c s))) := rfl
theorem am_s53 {X : Nat × (Nat → Int32)} {D i pc nx a b : Nat} {v : Int32} {w : Int64} {L : List (Option Value)} {st : List Value} {G : am_H} {c s : Nat} {P : Option Value → am_H → Prop} {K : am_K} : am_step X D i pc 53 nx a b v w L st G c s P K = (am_IR st (fun j k r => am_arr (am_la G k) j (fun _ f j => K nx L (.long (f j) :: r) G c s))) := rfl
theorem am_s54 {X : Nat × (Nat → Int32)} {D i pc nx a b : Nat} {v : Int32} {w : Int64} {L : List (Option Value)} {st : List Value} {G : am_H} {c s : Nat} {P : Option Value → am_H → Prop} {K : am_K} : am_step X D i pc 54 nx a b v w L st G c s P K = (am_JIR st (fun y j k r => am_arr (am_la G k) j (fun n f j => K nx L r (G.set k (am_al n (vp_updL f j y))) c s))) := rfl
theorem am_s55 {X : Nat × (Nat → Int32)} {D i pc nx a b : Nat} {v : Int32} {w : Int64} {L : List (Option Value)} {st : List Value} {G : am_H} {c s : Nat} {P : Option Value → am_H → Prop} {K : am_K} : am_step X D i pc 55 nx a b v w L st G c s P K = (am_IR st (fun j k r => am_arr (am_ia G k 1) j (fun _ f j => K nx L (.int (f j) :: r) G c s))) := rfl
theorem am_s56 {X : Nat × (Nat → Int32)} {D i pc nx a b : Nat} {v : Int32} {w : Int64} {L : List (Option Value)} {st : List Value} {G : am_H} {c s : Nat} {P : Option Value → am_H → Prop} {K : am_K} : am_step X D i pc 56 nx a b v w L st G c s P K = (am_IIR st (fun y j k r => am_arr (am_ia G k 1) j (fun n f j => K nx L r (G.set k (am_ai 1 n (upd f j (vp_nar .boolean y)))) c s))) := rfl
theorem am_s57 {X : Nat × (Nat → Int32)} {D i pc nx a b : Nat} {v : Int32} {w : Int64} {L : List (Option Value)} {st : List Value} {G : am_H} {c s : Nat} {P : Option Value → am_H → Prop} {K : am_K} : am_step X D i pc 57 nx a b v w L st G c s P K = (am_IR st (fun j k r => am_arr (am_ra G k) j (fun _ f j => K nx L (va_rf (f j) :: r) G c s))) := rfl
theorem am_s58 {X : Nat × (Nat → Int32)} {D i pc nx a b : Nat} {v : Int32} {w : Int64} {L : List (Option Value)} {st : List Value} {G : am_H} {c s : Nat} {P : Option Value → am_H → Prop} {K : am_K} : am_step X D i pc 58 nx a b v w L st G c s P K = (am_RIR st (fun z j k r => (am_ob G z 2).isSome ∧ am_arr (am_ra G k) j (fun n f j => K nx L r (G.set k (am_ar n (va_up f j (some z)))) c s))) := rfl
theorem am_s59 {X : Nat × (Nat → Int32)} {D i pc nx a b : Nat} {v : Int32} {w : Int64} {L : List (Option Value)} {st : List Value} {G : am_H} {c s : Nat} {P : Option Value → am_H → Prop} {K : am_K} : am_step X D i pc 59 nx a b v w L st G c s P K = (am_RS st (fun k r => am_len (am_alen G k) (fun n => K nx L (.int n :: r) G c s)) (fun r => K nx L (.int (Int32.ofNat X.1) :: r) G c s)) := rfl
theorem am_s60 {X : Nat × (Nat → Int32)} {D i pc nx a b : Nat} {v : Int32} {w : Int64} {L : List (Option Value)} {st : List Value} {G : am_H} {c s : Nat} {P : Option Value → am_H → Prop} {K : am_K} : am_step X D i pc 60 nx a b v w L st G c s P K = (c + 1 ≤ am_mc i ∧ s + am_N a ≤ am_ms i ∧ am_fr L st G ∧ K nx L (.ref G.length :: st) (G ++ [am_o a (am_df a)]) (c + 1) (s + am_N a)) := rfl
theorem am_s61 {X : Nat × (Nat → Int32)} {D i pc nx a b : Nat} {v : Int32} {w : Int64} {L : List (Option Value)} {st : List Value} {G : am_H} {c s : Nat} {P : Option Value → am_H → Prop} {K : am_K} : am_step X D i pc 61 nx a b v w L st G c s P K = (am_I1 st (fun n r => ¬ n < 0 ∧ n.toNatClampNeg ≤ 60000000 ∧ c + 1 ≤ am_mc i ∧ s + n.toNatClampNeg ≤ am_ms i ∧ am_fr L r G ∧ K nx L (.ref G.length :: r) (G ++ [am_na a n.toNatClampNeg]) (c + 1) (s + n.toNatClampNeg))) := rfl
theorem am_s62 {X : Nat × (Nat → Int32)} {D i pc nx a b : Nat} {v : Int32} {w : Int64} {L : List (Option Value)} {st : List Value} {G : am_H} {c s : Nat} {P : Option Value → am_H → Prop} {K : am_K} : am_step X D i pc 62 nx a b v w L st G c s P K = (am_I1 st (fun n r => ¬ n < 0 ∧ n.toNatClampNeg ≤ 60000000 ∧ c + 1 ≤ am_mc i ∧ s + n.toNatClampNeg ≤ am_ms i ∧ am_fr L r G ∧ K nx L (.ref G.length :: r) (G ++ [am_ar n.toNatClampNeg (fun _ => none)]) (c + 1) (s + n.toNatClampNeg))) := rfl
theorem am_s63 {X : Nat × (Nat → Int32)} {D i pc nx a b : Nat} {v : Int32} {w : Int64} {L : List (Option Value)} {st : List Value} {G : am_H} {c s : Nat} {P : Option Value → am_H → Prop} {K : am_K} : am_step X D i pc 63 nx a b v w L st G c s P K = (am_V1 st (fun v r => v.category = 1 ∧ K nx L (v :: v :: r) G c s)) := rfl
theorem am_s64 {X : Nat × (Nat → Int32)} {D i pc nx a b : Nat} {v : Int32} {w : Int64} {L : List (Option Value)} {st : List Value} {G : am_H} {c s : Nat} {P : Option Value → am_H → Prop} {K : am_K} : am_step X D i pc 64 nx a b v w L st G c s P K = (K nx L (.null :: st) G c s) := rfl
theorem am_s65 {X : Nat × (Nat → Int32)} {D i pc nx a b : Nat} {v : Int32} {w : Int64} {L : List (Option Value)} {st : List Value} {G : am_H} {c s : Nat} {P : Option Value → am_H → Prop} {K : am_K} : am_step X D i pc 65 nx a b v w L st G c s P K = (am_A (am_pop b st []) (fun as r => am_R1 r (fun k r => (am_ob G k (am_ci a)).isSome ∧ am_cat r ≤ 8 ∧ am_CB X D a (.ref k :: as) G (fun v G1 => K nx L (v.toList ++ r) G1 c s)))) := rfl
theorem am_s66 {X : Nat × (Nat → Int32)} {D i pc nx a b : Nat} {v : Int32} {w : Int64} {L : List (Option Value)} {st : List Value} {G : am_H} {c s : Nat} {P : Option Value → am_H → Prop} {K : am_K} : am_step X D i pc 66 nx a b v w L st G c s P K = (am_A (am_pop b st []) (fun as r => am_cat r ≤ 8 ∧ am_CB X D a as G (fun v G1 => K nx L (v.toList ++ r) G1 c s))) := rfl
theorem am_s67 {X : Nat × (Nat → Int32)} {D i pc nx a b : Nat} {v : Int32} {w : Int64} {L : List (Option Value)} {st : List Value} {G : am_H} {c s : Nat} {P : Option Value → am_H → Prop} {K : am_K} : am_step X D i pc 67 nx a b v w L st G c s P K = (am_A (am_pop b st []) (fun as r => am_cat r ≤ 8 ∧ am_CB X D a as G (fun v G1 => K nx L (v.toList ++ r) G1 c s))) := rfl
theorem am_s68 {X : Nat × (Nat → Int32)} {D i pc nx a b : Nat} {v : Int32} {w : Int64} {L : List (Option Value)} {st : List Value} {G : am_H} {c s : Nat} {P : Option Value → am_H → Prop} {K : am_K} : am_step X D i pc 68 nx a b v w L st G c s P K = (am_A (am_pop b st []) (fun as r => am_R1 r (fun k r => am_cat r ≤ 8 ∧ c + am_mc a ≤ am_mc i ∧ s + am_ms a ≤ am_ms i ∧ am_fr L r G ∧ am_CB X D a (.ref k :: as) G (fun v G1 => K nx L (v.toList ++ r) G1 (c + am_mc a) (s + am_ms a))))) := rfl
theorem am_s69 {X : Nat × (Nat → Int32)} {D i pc nx a b : Nat} {v : Int32} {w : Int64} {L : List (Option Value)} {st : List Value} {G : am_H} {c s : Nat} {P : Option Value → am_H → Prop} {K : am_K} : am_step X D i pc 69 nx a b v w L st G c s P K = (am_R1 st (fun _ r => 1 ≤ D ∧ am_cat r ≤ 8 ∧ K nx L r G c s)) := rfl
theorem am_s70 {X : Nat × (Nat → Int32)} {D i pc nx a b : Nat} {v : Int32} {w : Int64} {L : List (Option Value)} {st : List Value} {G : am_H} {c s : Nat} {P : Option Value → am_H → Prop} {K : am_K} : am_step X D i pc 70 nx a b v w L st G c s P K = (am_I1 st (fun x r => am_mt r ((a = 1 → x = 0 ∨ x = 1) ∧ c ≤ am_mc i ∧ s ≤ am_ms i ∧ P (some (.int x)) G))) := rfl
theorem am_s71 {X : Nat × (Nat → Int32)} {D i pc nx a b : Nat} {v : Int32} {w : Int64} {L : List (Option Value)} {st : List Value} {G : am_H} {c s : Nat} {P : Option Value → am_H → Prop} {K : am_K} : am_step X D i pc 71 nx a b v w L st G c s P K = (am_J1 st (fun x r => am_mt r (c ≤ am_mc i ∧ s ≤ am_ms i ∧ P (some (.long x)) G))) := rfl
theorem am_s72 {X : Nat × (Nat → Int32)} {D i pc nx a b : Nat} {v : Int32} {w : Int64} {L : List (Option Value)} {st : List Value} {G : am_H} {c s : Nat} {P : Option Value → am_H → Prop} {K : am_K} : am_step X D i pc 72 nx a b v w L st G c s P K = (am_AR st (fun x r => am_mt r (c ≤ am_mc i ∧ s ≤ am_ms i ∧ P (some x) G))) := rfl
theorem am_s73 {X : Nat × (Nat → Int32)} {D i pc nx a b : Nat} {v : Int32} {w : Int64} {L : List (Option Value)} {st : List Value} {G : am_H} {c s : Nat} {P : Option Value → am_H → Prop} {K : am_K} : am_step X D i pc 73 nx a b v w L st G c s P K = (am_mt st (c ≤ am_mc i ∧ s ≤ am_ms i ∧ P none G)) := rfl
theorem am_s74 {X : Nat × (Nat → Int32)} {D i pc nx a b : Nat} {v : Int32} {w : Int64} {L : List (Option Value)} {st : List Value} {G : am_H} {c s : Nat} {P : Option Value → am_H → Prop} {K : am_K} : am_step X D i pc 74 nx a b v w L st G c s P K = (am_I1 st (fun x r => am_sw x v a (fun t => K t L r G c s) (am_swt i pc))) := rfl
theorem am_s75 {X : Nat × (Nat → Int32)} {D i pc nx a b : Nat} {v : Int32} {w : Int64} {L : List (Option Value)} {st : List Value} {G : am_H} {c s : Nat} {P : Option Value → am_H → Prop} {K : am_K} : am_step X D i pc 75 nx a b v w L st G c s P K = (am_I2 st (fun x y r => 1 ≤ D ∧ am_cat r ≤ 8 ∧ K nx L (.int (if x < y then y else x) :: r) G c s)) := rfl
theorem am_s76 {X : Nat × (Nat → Int32)} {D i pc nx a b : Nat} {v : Int32} {w : Int64} {L : List (Option Value)} {st : List Value} {G : am_H} {c s : Nat} {P : Option Value → am_H → Prop} {K : am_K} : am_step X D i pc 76 nx a b v w L st G c s P K = (am_I2 st (fun x y r => 1 ≤ D ∧ am_cat r ≤ 8 ∧ K nx L (.int (if y < x then y else x) :: r) G c s)) := rfl
theorem am_I1_c {K : Int32 → List Value → Prop} {x : Int32} {r : List Value} : am_I1 (.int x :: r) K = K x r := rfl
theorem am_I2_c {K : Int32 → Int32 → List Value → Prop} {x y : Int32} {r : List Value} : am_I2 (.int y :: .int x :: r) K = K x y r := rfl
theorem am_J1_c {K : Int64 → List Value → Prop} {x : Int64} {r : List Value} : am_J1 (.long x :: r) K = K x r := rfl
theorem am_J2_c {K : Int64 → Int64 → List Value → Prop} {x y : Int64} {r : List Value} : am_J2 (.long y :: .long x :: r) K = K x y r := rfl
theorem am_JI_c {K : Int64 → Int32 → List Value → Prop} {x : Int64} {y : Int32} {r : List Value} : am_JI (.int y :: .long x :: r) K = K x y r := rfl
theorem am_R1_c {K : Nat → List Value → Prop} {x : Nat} {r : List Value} : am_R1 (.ref x :: r) K = K x r := rfl
theorem am_IR_c {K : Int32 → Nat → List Value → Prop} {j : Int32} {k : Nat} {r : List Value} : am_IR (.int j :: .ref k :: r) K = K j k r := rfl
theorem am_IIR_c {K : Int32 → Int32 → Nat → List Value → Prop} {y j : Int32} {k : Nat} {r : List Value} : am_IIR (.int y :: .int j :: .ref k :: r) K = K y j k r := rfl
theorem am_JIR_c {K : Int64 → Int32 → Nat → List Value → Prop} {y : Int64} {j : Int32} {k : Nat} {r : List Value} : am_JIR (.long y :: .int j :: .ref k :: r) K = K y j k r := rfl
theorem am_RIR_c {K : Nat → Int32 → Nat → List Value → Prop} {y : Nat} {j : Int32} {k : Nat} {r : List Value} : am_RIR (.ref y :: .int j :: .ref k :: r) K = K y j k r := rfl
theorem am_VR_c {K : Value → Nat → List Value → Prop} {v : Value} {k : Nat} {r : List Value} : am_VR (v :: .ref k :: r) K = K v k r := rfl
theorem am_V1_c {K : Value → List Value → Prop} {v : Value} {r : List Value} : am_V1 (v :: r) K = K v r := rfl
theorem am_IRS_c1 {K : Int32 → Nat → List Value → Prop} {S : Int32 → List Value → Prop} {j : Int32} {k : Nat} {r : List Value} : am_IRS (.int j :: .ref k :: r) K S = K j k r := rfl
theorem am_IRS_c2 {K : Int32 → Nat → List Value → Prop} {S : Int32 → List Value → Prop} {j : Int32} {z : UInt32} {r : List Value} : am_IRS (.int j :: .float z :: r) K S = S j r := rfl
theorem am_RS_c1 {K : Nat → List Value → Prop} {S : List Value → Prop} {k : Nat} {r : List Value} : am_RS (.ref k :: r) K S = K k r := rfl
theorem am_RS_c2 {K : Nat → List Value → Prop} {S : List Value → Prop} {z : UInt32} {r : List Value} : am_RS (.float z :: r) K S = S r := rfl
theorem am_RN_c1 {K S : List Value → Prop} {k : Nat} {r : List Value} : am_RN (.ref k :: r) K S = K r := rfl
theorem am_RN_c2 {K S : List Value → Prop} {r : List Value} : am_RN (.null :: r) K S = S r := rfl
theorem am_AR_c1 {K : Value → List Value → Prop} {k : Nat} {r : List Value} : am_AR (.ref k :: r) K = K (.ref k) r := rfl
theorem am_AR_c2 {K : Value → List Value → Prop} {r : List Value} : am_AR (.null :: r) K = K .null r := rfl
theorem am_A_c {K : List Value → List Value → Prop} {a r : List Value} : am_A (some (a, r)) K = K a r := rfl
theorem am_mt_c {K : Prop} : am_mt [] K = K := rfl
theorem am_iv_c {K : Int32 → Prop} {x : Int32} : am_iv (some (.int x)) K = K x := rfl
theorem am_lv_c {K : Int64 → Prop} {x : Int64} : am_lv (some (.long x)) K = K x := rfl
theorem am_av_c1 {K : Value → Prop} {x : Nat} : am_av (some (.ref x)) K = K (.ref x) := rfl
theorem am_av_c2 {K : Value → Prop} : am_av (some .null) K = K .null := rfl
theorem am_av_c3 {K : Value → Prop} {x : UInt32} : am_av (some (.float x)) K = K (.float x) := rfl
theorem am_get_c {fs : List Value} {k : Nat} {K : Value → Prop} : am_get (some fs) k K = am_gt fs[k]? K := rfl
theorem am_gt_c {v : Value} {K : Value → Prop} : am_gt (some v) K = K v := rfl
theorem am_put_c {fs : List Value} {K : List Value → Prop} : am_put (some fs) K = K fs := rfl
theorem am_arr_c {α : Type} {n : Nat} {f : α} {i : Int32} {K : Nat → α → Nat → Prop} : am_arr (some (n, f)) i K = (vp_in i n ∧ K n f i.toNatClampNeg) := rfl
theorem am_len_c {n : Nat} {K : Int32 → Prop} : am_len (some n) K = K (Int32.ofNat n) := rfl
theorem am_lg_0 {x : Option Value} {t : List (Option Value)} : am_lg (x :: t) 0 = x := rfl
theorem am_lg_1 {x : Option Value} {t : List (Option Value)} {k : Nat} : am_lg (x :: t) (k + 1) = am_lg t k := rfl
theorem am_l1_0 {x : Option Value} {t : List (Option Value)} {v : Value} : am_l1 (x :: t) 0 v = some v :: t := rfl
theorem am_l1_1 {x : Option Value} {t : List (Option Value)} {v : Value} : am_l1 (x :: t) 1 v = am_k2 x :: am_l1 t 0 v := rfl
theorem am_l1_2 {x : Option Value} {t : List (Option Value)} {k : Nat} {v : Value} : am_l1 (x :: t) (k + 2) v = x :: am_l1 t (k + 1) v := rfl
theorem am_l2_0 {x y : Option Value} {t : List (Option Value)} {v : Value} : am_l2 (x :: y :: t) 0 v = some v :: none :: t := rfl
theorem am_l2_1 {x : Option Value} {t : List (Option Value)} {v : Value} : am_l2 (x :: t) 1 v = am_k2 x :: am_l2 t 0 v := by cases t <;> rfl
theorem am_l2_2 {x : Option Value} {t : List (Option Value)} {k : Nat} {v : Value} : am_l2 (x :: t) (k + 2) v = x :: am_l2 t (k + 1) v := by cases t <;> rfl
theorem am_k2_n : am_k2 none = none := rfl
theorem am_k2_i {x : Int32} : am_k2 (some (.int x)) = some (.int x) := rfl
theorem am_k2_r {x : Nat} : am_k2 (some (.ref x)) = some (.ref x) := rfl
theorem am_k2_u : am_k2 (some .null) = some .null := rfl
theorem am_k2_f {x : UInt32} : am_k2 (some (.float x)) = some (.float x) := rfl
theorem am_k2_l {x : Int64} : am_k2 (some (.long x)) = none := rfl
theorem am_pop_0 {st acc : List Value} : am_pop 0 st acc = some (acc, st) := rfl
theorem am_pop_1 {n : Nat} {v : Value} {st acc : List Value} : am_pop (n + 1) (v :: st) acc = am_pop n st (v :: acc) := rfl
theorem am_row_c {F : Nat → Nat → Nat → Nat → Int32 → Int64 → Prop} {op nx a b x : Nat} {v : Int32} {w : Int64} : am_row (some (op, nx, a, b, x, v, w)) F = F op nx a b v w := rfl
theorem am_WPs_0 {stops : List Nat} {X : Nat × (Nat → Int32)} {D i : Nat} {P : Option Value → am_H → Prop} {pc : Nat} {L : List (Option Value)} {st : List Value} {G : am_H} {c s : Nat} : am_WPs stops X D i P 0 pc L st G c s = am_WP X D i pc L st G c s P := rfl
theorem am_WPs_1 {stops : List Nat} {X : Nat × (Nat → Int32)} {D i : Nat} {P : Option Value → am_H → Prop} {n pc : Nat} {L : List (Option Value)} {st : List Value} {G : am_H} {c s : Nat} : am_WPs stops X D i P (n + 1) pc L st G c s = if stops.any (· == pc) = true then am_WP X D i pc L st G c s P else am_row (am_code i pc) (fun op nx a b v w => am_step X D i pc op nx a b v w L st G c s P (am_WPs stops X D i P n)) := rfl
theorem am_sw_0 {x lo : Int32} {d : Nat} {K : Nat → Prop} : am_sw x lo d K [] = K d := rfl
theorem am_sw_1 {x lo : Int32} {d t : Nat} {K : Nat → Prop} {r : List Nat} : am_sw x lo d K (t :: r) = if x = lo then K t else am_sw x (lo + 1) d K r := rfl
theorem am_fit_i {v : Int32} : am_fit .int (.int v) = True := rfl
theorem am_fit_b {v : Int32} : am_fit .boolean (.int v) = (v = 0 ∨ v = 1) := rfl
theorem am_fit_r {C : String} {k : Nat} : am_fit (.object C) (.ref k) = True := rfl
theorem am_fit_a {t : FieldType} {k : Nat} : am_fit (.array t) (.ref k) = True := rfl
