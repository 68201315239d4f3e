theorem am_iv_s {o : Option Value} {K : Int32 → Prop} (h : am_iv o K) : ∃ x, o = some (.int x) ∧ K x := by
  unfold am_iv at h; split at h
  · exact ⟨_, rfl, h⟩
  · exact h.elim
theorem am_lv_s {o : Option Value} {K : Int64 → Prop} (h : am_lv o K) : ∃ x, o = some (.long x) ∧ K x := by
  unfold am_lv at h; split at h
  · exact ⟨_, rfl, h⟩
  · exact h.elim
theorem am_av_s {o : Option Value} {K : Value → Prop} (h : am_av o K) : ∃ x, o = some x ∧ K x ∧ ((∃ k, x = .ref k) ∨ x = .null ∨ ∃ z, x = .float z) := by
  unfold am_av at h; split at h
  · exact ⟨_, rfl, h, Or.inl ⟨_, rfl⟩⟩
  · exact ⟨_, rfl, h, Or.inr (Or.inl rfl)⟩
  · exact ⟨_, rfl, h, Or.inr (Or.inr ⟨_, rfl⟩)⟩
  · exact h.elim
theorem am_I1_s {st : List Value} {K : Int32 → List Value → Prop} (h : am_I1 st K) : ∃ x r, st = .int x :: r ∧ K x r := by
  unfold am_I1 at h; split at h
  · exact ⟨_, _, rfl, h⟩
  · exact h.elim
theorem am_I2_s {st : List Value} {K : Int32 → Int32 → List Value → Prop} (h : am_I2 st K) : ∃ x y r, st = .int y :: .int x :: r ∧ K x y r := by
  unfold am_I2 at h; split at h
  · exact ⟨_, _, _, rfl, h⟩
  · exact h.elim
theorem am_J1_s {st : List Value} {K : Int64 → List Value → Prop} (h : am_J1 st K) : ∃ x r, st = .long x :: r ∧ K x r := by
  unfold am_J1 at h; split at h
  · exact ⟨_, _, rfl, h⟩
  · exact h.elim
theorem am_J2_s {st : List Value} {K : Int64 → Int64 → List Value → Prop} (h : am_J2 st K) : ∃ x y r, st = .long y :: .long x :: r ∧ K x y r := by
  unfold am_J2 at h; split at h
  · exact ⟨_, _, _, rfl, h⟩
  · exact h.elim
theorem am_JI_s {st : List Value} {K : Int64 → Int32 → List Value → Prop} (h : am_JI st K) : ∃ x y r, st = .int y :: .long x :: r ∧ K x y r := by
  unfold am_JI at h; split at h
  · exact ⟨_, _, _, rfl, h⟩
  · exact h.elim
theorem am_R1_s {st : List Value} {K : Nat → List Value → Prop} (h : am_R1 st K) : ∃ x r, st = .ref x :: r ∧ K x r := by
  unfold am_R1 at h; split at h
  · exact ⟨_, _, rfl, h⟩
  · exact h.elim
theorem am_IR_s {st : List Value} {K : Int32 → Nat → List Value → Prop} (h : am_IR st K) : ∃ j k r, st = .int j :: .ref k :: r ∧ K j k r := by
  unfold am_IR at h; split at h
  · exact ⟨_, _, _, rfl, h⟩
  · exact h.elim
theorem am_IIR_s {st : List Value} {K : Int32 → Int32 → Nat → List Value → Prop} (h : am_IIR st K) : ∃ y j k r, st = .int y :: .int j :: .ref k :: r ∧ K y j k r := by
  unfold am_IIR at h; split at h
  · exact ⟨_, _, _, _, rfl, h⟩
  · exact h.elim
theorem am_JIR_s {st : List Value} {K : Int64 → Int32 → Nat → List Value → Prop} (h : am_JIR st K) : ∃ y j k r, st = .long y :: .int j :: .ref k :: r ∧ K y j k r := by
  unfold am_JIR at h; split at h
  · exact ⟨_, _, _, _, rfl, h⟩
  · exact h.elim
theorem am_RIR_s {st : List Value} {K : Nat → Int32 → Nat → List Value → Prop} (h : am_RIR st K) : ∃ y j k r, st = .ref y :: .int j :: .ref k :: r ∧ K y j k r := by
  unfold am_RIR at h; split at h
  · exact ⟨_, _, _, _, rfl, h⟩
  · exact h.elim
theorem am_VR_s {st : List Value} {K : Value → Nat → List Value → Prop} (h : am_VR st K) : ∃ v k r, st = v :: .ref k :: r ∧ K v k r := by
  unfold am_VR at h; split at h
  · exact ⟨_, _, _, rfl, h⟩
  · exact h.elim
theorem am_V1_s {st : List Value} {K : Value → List Value → Prop} (h : am_V1 st K) : ∃ v r, st = v :: r ∧ K v r := by
  unfold am_V1 at h; split at h
  · exact ⟨_, _, rfl, h⟩
  · exact h.elim
theorem am_IRS_s {st : List Value} {K : Int32 → Nat → List Value → Prop} {S : Int32 → List Value → Prop} (h : am_IRS st K S) : (∃ j k r, st = .int j :: .ref k :: r ∧ K j k r) ∨ ∃ j z r, st = .int j :: .float z :: r ∧ S j r := by
  unfold am_IRS at h; split at h
  · exact Or.inl ⟨_, _, _, rfl, h⟩
  · exact Or.inr ⟨_, _, _, rfl, h⟩
  · exact h.elim
theorem am_RS_s {st : List Value} {K : Nat → List Value → Prop} {S : List Value → Prop} (h : am_RS st K S) : (∃ k r, st = .ref k :: r ∧ K k r) ∨ ∃ z r, st = .float z :: r ∧ S r := by
  unfold am_RS at h; split at h
  · exact Or.inl ⟨_, _, rfl, h⟩
  · exact Or.inr ⟨_, _, rfl, h⟩
  · exact h.elim
theorem am_RN_s {st : List Value} {K S : List Value → Prop} (h : am_RN st K S) : (∃ k r, st = .ref k :: r ∧ K r) ∨ ∃ r, st = .null :: r ∧ S r := by
  unfold am_RN at h; split at h
  · exact Or.inl ⟨_, _, rfl, h⟩
  · exact Or.inr ⟨_, rfl, h⟩
  · exact h.elim
theorem am_AR_s {st : List Value} {K : Value → List Value → Prop} (h : am_AR st K) : ∃ x r, st = x :: r ∧ K x r ∧ ((∃ k, x = .ref k) ∨ x = .null) := by
  unfold am_AR at h; split at h
  · exact ⟨_, _, rfl, h, Or.inl ⟨_, rfl⟩⟩
  · exact ⟨_, _, rfl, h, Or.inr rfl⟩
  · exact h.elim
theorem am_A_s {o : Option (List Value × List Value)} {K : List Value → List Value → Prop} (h : am_A o K) : ∃ as r, o = some (as, r) ∧ K as r := by
  unfold am_A at h; split at h
  · exact ⟨_, _, rfl, h⟩
  · exact h.elim
theorem am_mt_s {r : List Value} {K : Prop} (h : am_mt r K) : r = [] ∧ K := by
  unfold am_mt at h; split at h
  · exact ⟨rfl, h⟩
  · exact h.elim
theorem am_get_s {o : Option (List Value)} {k : Nat} {K : Value → Prop} (h : am_get o k K) : ∃ fs v, o = some fs ∧ fs[k]? = some v ∧ K v := by
  unfold am_get at h; split at h
  · unfold am_gt at h; split at h
    · next h2 => exact ⟨_, _, rfl, h2, h⟩
    · exact h.elim
  · exact h.elim
theorem am_put_s {o : Option (List Value)} {K : List Value → Prop} (h : am_put o K) : ∃ fs, o = some fs ∧ K fs := by
  unfold am_put at h; split at h
  · exact ⟨_, rfl, h⟩
  · exact h.elim
theorem am_arr_s {α : Type} {o : Option (Nat × α)} {i : Int32} {K : Nat → α → Nat → Prop} (h : am_arr o i K) : ∃ n f, o = some (n, f) ∧ vp_in i n ∧ K n f i.toNatClampNeg := by
  unfold am_arr at h; split at h
  · exact ⟨_, _, rfl, h⟩
  · exact h.elim
theorem am_len_s {o : Option Nat} {K : Int32 → Prop} (h : am_len o K) : ∃ n, o = some n ∧ K (Int32.ofNat n) := by
  unfold am_len at h; split at h
  · exact ⟨_, rfl, h⟩
  · exact h.elim
theorem am_ob_s {G : am_H} {k ci : Nat} {fs : List Value} (h : am_ob G k ci = some fs) : G[k]? = some (am_o ci fs) := by
  unfold am_ob at h
  split at h
  · next c fs' heq =>
    split at h
    · next e => subst e; cases h; exact heq
    · cases h
  · cases h
theorem am_ia_s {G : am_H} {k kd n : Nat} {f : Nat → Int32} (h : am_ia G k kd = some (n, f)) : G[k]? = some (am_ai kd n f) := by
  unfold am_ia at h
  split at h
  · next heq =>
    split at h
    · next e => subst e; cases h; exact heq
    · cases h
  · cases h
theorem am_la_s {G : am_H} {k n : Nat} {f : Nat → Int64} (h : am_la G k = some (n, f)) : G[k]? = some (am_al n f) := by
  unfold am_la at h
  split at h
  · next heq => cases h; exact heq
  · cases h
theorem am_ra_s {G : am_H} {k n : Nat} {f : Nat → Option Nat} (h : am_ra G k = some (n, f)) : G[k]? = some (am_ar n f) := by
  unfold am_ra at h
  split at h
  · next heq => cases h; exact heq
  · cases h
theorem am_lg_s : ∀ {L : List (Option Value)} {k : Nat} {v : Value}, am_lg L k = some v → L[k]? = some (some v)
  | [], _, _, h => by cases h
  | x :: t, 0, v, h => by simpa [am_lg] using h
  | x :: t, k + 1, v, h => by simpa using am_lg_s (L := t) h
theorem am_cat1 {ad : Nat → Nat} {b : Nat} (v : Value) : (am_cv ad b v).category = v.category := by cases v <;> rfl
theorem am_catm {ad : Nat → Nat} {b : Nat} (r : List Value) : ((r.map (am_cv ad b)).map fun v => v.category).sum = am_cat r := by
  unfold am_cat
  rw [List.map_map]
  congr 1
  exact List.map_congr_left (fun v _ => am_cat1 v)
theorem am_LOk.at {ad : Nat → Nat} {b nL : Nat} {ls : Array Slot} {L : List (Option Value)} (h : am_LOk ad b ls nL L) {k : Nat} {v : Value} (hk : am_lg L k = some v) : ls[k]? = some (.val (am_cv ad b v)) := h.2.2 k v (am_lg_s hk)
/-- the listed locals as the kit's list -/
def am_ll (ad : Nat → Nat) (b : Nat) (L : List (Option Value)) : List (Nat × Value) := (L.zipIdx).filterMap (fun q => q.1.map (fun v => (q.2, am_cv ad b v)))
theorem am_ll_mem {ad : Nat → Nat} {b : Nat} {L : List (Option Value)} {k : Nat} {v : Value} (h : L[k]? = some (some v)) : (k, am_cv ad b v) ∈ am_ll ad b L := by
  refine List.mem_filterMap.mpr ⟨(some v, k), ?_, rfl⟩
  exact List.mem_zipIdx_iff_getElem?.mpr h
theorem am_LOk.list {ad : Nat → Nat} {b nL : Nat} {ls : Array Slot} {L : List (Option Value)} (h : am_LOk ad b ls nL L) : lv_has ls nL (am_ll ad b L) := by
  refine ⟨h.2.1.1, h.2.1.2.1, fun q hq => ?_⟩
  obtain ⟨⟨o, k⟩, h1, h2⟩ := List.mem_filterMap.mp hq
  have h3 := List.mem_zipIdx_iff_getElem?.mp h1
  cases o with
  | none => cases h2
  | some v =>
    simp only [Option.map_some, Option.some.injEq] at h2
    subst h2
    exact h.2.2 k v h3
theorem am_l1_len : ∀ (L : List (Option Value)) (k : Nat) (v : Value), (am_l1 L k v).length = L.length
  | [], _, _ => rfl
  | _ :: t, 0, v => rfl
  | x :: t, 1, v => by simp [am_l1, am_l1_len t 0 v]
  | x :: t, k + 2, v => by simp [am_l1, am_l1_len t (k + 1) v]
theorem am_l2_len : ∀ (L : List (Option Value)) (k : Nat) (v : Value), (am_l2 L k v).length = L.length
  | [], 0, _ => rfl
  | [], 1, _ => rfl
  | [], k + 2, _ => rfl
  | [x], 0, v => rfl
  | _ :: _ :: t, 0, v => rfl
  | x :: t, 1, v => by simp [am_l2, am_l2_len t 0 v]
  | x :: t, k + 2, v => by simp [am_l2, am_l2_len t (k + 1) v]
theorem am_k2_s {o : Option Value} {w : Value} (h : am_k2 o = some w) : o = some w ∧ ¬ w.category = 2 := by
  unfold am_k2 at h
  split at h
  · cases h
  · cases h
  · next n1 n2 =>
    subst h
    refine ⟨rfl, fun q => ?_⟩
    cases w with
    | long x => exact n1 x rfl
    | double x => exact n2 x rfl
    | _ => cases q
theorem am_l1_s : ∀ {L : List (Option Value)} {i k : Nat} {v w : Value}, (am_l1 L i v)[k]? = some (some w) → (k = i ∧ w = v) ∨ (¬ k = i ∧ L[k]? = some (some w) ∧ ¬ (k + 1 = i ∧ w.category = 2))
  | [], _, _, _, _, h => by simp [am_l1] at h
  | _ :: t, 0, 0, v, w, h => by simp [am_l1] at h; exact Or.inl ⟨rfl, h.symm⟩
  | _ :: t, 0, k + 1, v, w, h => by simp [am_l1] at h; exact Or.inr ⟨by omega, by simpa using h, by omega⟩
  | x :: t, 1, 0, v, w, h => by
    simp only [am_l1, List.getElem?_cons_zero, Option.some.injEq] at h
    obtain ⟨h1, h2⟩ := am_k2_s h
    exact Or.inr ⟨by omega, by simp [h1], fun q => h2 q.2⟩
  | x :: t, 1, k + 1, v, w, h => by
    simp only [am_l1, List.getElem?_cons_succ] at h
    rcases am_l1_s h with ⟨rfl, h2⟩ | ⟨h1, h2, h3⟩
    · exact Or.inl ⟨rfl, h2⟩
    · exact Or.inr ⟨by omega, by simpa using h2, fun q => h3 ⟨by omega, q.2⟩⟩
  | x :: t, i + 2, 0, v, w, h => by
    simp only [am_l1, List.getElem?_cons_zero, Option.some.injEq] at h
    exact Or.inr ⟨by omega, by simp [h], by omega⟩
  | x :: t, i + 2, k + 1, v, w, h => by
    simp only [am_l1, List.getElem?_cons_succ] at h
    rcases am_l1_s h with ⟨h1, h2⟩ | ⟨h1, h2, h3⟩
    · exact Or.inl ⟨by omega, h2⟩
    · exact Or.inr ⟨by omega, by simpa using h2, fun q => h3 ⟨by omega, q.2⟩⟩
theorem am_l2_s : ∀ {L : List (Option Value)} {i k : Nat} {v w : Value}, (am_l2 L i v)[k]? = some (some w) → (k = i ∧ w = v) ∨ (¬ k = i ∧ ¬ k = i + 1 ∧ L[k]? = some (some w) ∧ ¬ (k + 1 = i ∧ w.category = 2))
  | [], 0, _, _, _, h => by simp [am_l2] at h
  | [], 1, _, _, _, h => by simp [am_l2] at h
  | [], i + 2, _, _, _, h => by simp [am_l2] at h
  | [x], 0, 0, _, _, h => by simp [am_l2] at h
  | [x], 0, k + 1, _, _, h => by simp [am_l2] at h
  | _ :: _ :: t, 0, 0, v, w, h => by simp [am_l2] at h; exact Or.inl ⟨rfl, h.symm⟩
  | _ :: _ :: t, 0, 1, v, w, h => by simp [am_l2] at h
  | _ :: _ :: t, 0, k + 2, v, w, h => by simp [am_l2] at h; exact Or.inr ⟨by omega, by omega, by simpa using h, by omega⟩
  | x :: t, 1, 0, v, w, h => by
    simp only [am_l2, List.getElem?_cons_zero, Option.some.injEq] at h
    obtain ⟨h1, h2⟩ := am_k2_s h
    exact Or.inr ⟨by omega, by omega, by simp [h1], fun q => h2 q.2⟩
  | x :: t, 1, k + 1, v, w, h => by
    simp only [am_l2, List.getElem?_cons_succ] at h
    rcases am_l2_s h with ⟨rfl, h2⟩ | ⟨h1, h2, h3, h4⟩
    · exact Or.inl ⟨rfl, h2⟩
    · exact Or.inr ⟨by omega, by omega, by simpa using h3, fun q => h4 ⟨by omega, q.2⟩⟩
  | x :: t, i + 2, 0, v, w, h => by
    simp only [am_l2, List.getElem?_cons_zero, Option.some.injEq] at h
    exact Or.inr ⟨by omega, by omega, by simp [h], by omega⟩
  | x :: t, i + 2, k + 1, v, w, h => by
    simp only [am_l2, List.getElem?_cons_succ] at h
    rcases am_l2_s h with ⟨h1, h2⟩ | ⟨h1, h2, h3, h4⟩
    · exact Or.inl ⟨by omega, h2⟩
    · exact Or.inr ⟨by omega, by omega, by simpa using h3, fun q => h4 ⟨by omega, q.2⟩⟩
theorem am_LOk.st1 {ad : Nat → Nat} {b nL : Nat} {ls ls' : Array Slot} {L : List (Option Value)} (h : am_LOk ad b ls nL L) {i : Nat} {v : Value} (hh : lv_has ls' nL ((i, am_cv ad b v) :: (am_ll ad b L).filter (fun q => !(q.1 == i) && !(q.1 + 1 == i && q.2.category == 2)))) : am_LOk ad b ls' nL (am_l1 L i v) := by
  refine ⟨(am_l1_len L i v).trans h.1, ⟨hh.1, hh.2.1, fun q hq => by cases hq⟩, fun k w hk => ?_⟩
  rcases am_l1_s hk with ⟨rfl, rfl⟩ | ⟨h1, h2, h3⟩
  · exact hh.2.2 (k, am_cv ad b w) List.mem_cons_self
  · refine hh.2.2 (k, am_cv ad b w) (List.mem_cons_of_mem _ (List.mem_filter.mpr ⟨am_ll_mem h2, ?_⟩))
    simp only [Bool.and_eq_true, Bool.not_eq_true', beq_eq_false_iff_ne, ne_eq, Bool.and_eq_false_iff, am_cat1]
    exact ⟨h1, by by_cases z : k + 1 = i; exact Or.inr (fun q => h3 ⟨z, q⟩); exact Or.inl z⟩
theorem am_LOk.st2 {ad : Nat → Nat} {b nL : Nat} {ls ls' : Array Slot} {L : List (Option Value)} (h : am_LOk ad b ls nL L) {i : Nat} {v : Value} (hh : lv_has ls' nL ((i, am_cv ad b v) :: (am_ll ad b L).filter (fun q => !(q.1 == i) && (!(q.1 == i + 1) && !(q.1 + 1 == i && q.2.category == 2))))) : am_LOk ad b ls' nL (am_l2 L i v) := by
  refine ⟨(am_l2_len L i v).trans h.1, ⟨hh.1, hh.2.1, fun q hq => by cases hq⟩, fun k w hk => ?_⟩
  rcases am_l2_s hk with ⟨rfl, rfl⟩ | ⟨h1, h2, h3, h4⟩
  · exact hh.2.2 (k, am_cv ad b w) List.mem_cons_self
  · refine hh.2.2 (k, am_cv ad b w) (List.mem_cons_of_mem _ (List.mem_filter.mpr ⟨am_ll_mem h3, ?_⟩))
    simp only [Bool.and_eq_true, Bool.not_eq_true', beq_eq_false_iff_ne, ne_eq, Bool.and_eq_false_iff, am_cat1]
    exact ⟨h1, h2, by by_cases z : k + 1 = i; exact Or.inr (fun q => h4 ⟨z, q⟩); exact Or.inl z⟩

section NUL
variable {p : Program} {l : Launch} {e : Env} {R : Room} {s : State} {m : MethodId} {args : Array Value} {below : List Frame} {meth : Method} {c : Code} {H : Heap} {locs : List Loc} {cells slots : Nat} {Q : State → Prop} {cc : ByteArray} {pc : Nat} {ls : Array Slot} {rest : List Value}
/-- a null put into a local -/
theorem am_nul_n (hexec : p.tables.exec = Jvm.exec) (hb : c.code = cc) {k : Fin 4} {i nL : Nat} {lv lv' : List (Nat × Value)} (hdg : decode cc pc = .ok (.astore_n k, 1)) (hi : (k : Nat) = i) (h : lv_has ls nL lv) (hn : i < nL) (hl : (i, Value.null) :: lv.filter (fun q => !(q.1 == i) && !(q.1 + 1 == i && q.2.category == 2)) = lv')
    (kk : ∀ ls' : Array Slot, lv_has ls' nL lv' → W p l e R s m args below meth c H locs cells slots Q (F0 m (pc + 1) ls' rest)) : W p l e R s m args below meth c H locs cells slots Q (F0 m pc ls (.null :: rest)) := by
  subst hi
  obtain ⟨ls', e', h'⟩ := lv_store1 (v := .null) h hn rfl
  intro T hT X
  obtain ⟨t, a, b⟩ := kk ls' (hl ▸ h') T hT X
  refine ⟨t, ?_, b⟩
  jvm_step X.here [X.here.top, ↓top_set X.here.top, hexec, hb, hdg, e', Value.isRef]
  exact a
theorem am_nul (hexec : p.tables.exec = Jvm.exec) (hb : c.code = cc) {i nL : Nat} {lv lv' : List (Nat × Value)} (hdg : decode cc pc = .ok (.astore i, 2)) (h : lv_has ls nL lv) (hn : i < nL) (hl : (i, Value.null) :: lv.filter (fun q => !(q.1 == i) && !(q.1 + 1 == i && q.2.category == 2)) = lv')
    (kk : ∀ ls' : Array Slot, lv_has ls' nL lv' → W p l e R s m args below meth c H locs cells slots Q (F0 m (pc + 2) ls' rest)) : W p l e R s m args below meth c H locs cells slots Q (F0 m pc ls (.null :: rest)) := by
  obtain ⟨ls', e', h'⟩ := lv_store1 (v := .null) h hn rfl
  intro T hT X
  obtain ⟨t, a, b⟩ := kk ls' (hl ▸ h') T hT X
  refine ⟨t, ?_, b⟩
  jvm_step X.here [X.here.top, ↓top_set X.here.top, hexec, hb, hdg, e', Value.isRef]
  exact a
end NUL
section SND
variable {X : Nat × (Nat → Int32)} {D i pc nx aa bb xx : Nat} {v : Int32} {w : Int64} {L : List (Option Value)} {st : List Value} {G : am_H} {c s : Nat} {P : Option Value → am_H → Prop}
abbrev am_go (X : Nat × (Nat → Int32)) (D i : Nat) (P : Option Value → am_H → Prop) : am_K := fun nx L st G c s => am_WP X D i nx L st G c s P
theorem am_z1 (hd : (∃ k : Fin 4, decode (am_by i) pc = .ok (.iload_n k, 1) ∧ (k : Nat) = aa ∧ nx = pc + 1) ∨ (decode (am_by i) pc = .ok (.iload aa, 2) ∧ nx = pc + 2)) (h : am_step X D i pc 1 nx aa bb v w L st G c s P (am_go X D i P)) : am_WP X D i pc L st G c s P := by
  intro p l e R s0 m args below meth cd dC dI b A ad cA tys H locs ls Q hF hX hbl hbA hA hS hR hL hfin
  obtain ⟨hx, hb, hml, hown, hts, hrt, hlk, hnm, hDf, hDl, hmc, hms, hN⟩ := id hF
  obtain ⟨x, h1, h⟩ := am_iv_s h
  have hl := hL.at h1
  rcases hd with ⟨k, hd, hk, hn⟩ | ⟨hd, hn⟩ <;> subst hn
  · exact lv_iload_n hx hb hd hk hl (h _ _ _ _ _ _ _ _ _ _ _ _ _ _ _ _ _ _ _ _ _ hF hX hbl hbA hA hS hR hL hfin)
  · exact lv_iload hx hb hd hl (h _ _ _ _ _ _ _ _ _ _ _ _ _ _ _ _ _ _ _ _ _ hF hX hbl hbA hA hS hR hL hfin)
theorem am_z3 (hd : (∃ k : Fin 4, decode (am_by i) pc = .ok (.lload_n k, 1) ∧ (k : Nat) = aa ∧ nx = pc + 1) ∨ (decode (am_by i) pc = .ok (.lload aa, 2) ∧ nx = pc + 2)) (h : am_step X D i pc 3 nx aa bb v w L st G c s P (am_go X D i P)) : am_WP X D i pc L st G c s P := by
  intro p l e R s0 m args below meth cd dC dI b A ad cA tys H locs ls Q hF hX hbl hbA hA hS hR hL hfin
  obtain ⟨hx, hb, hml, hown, hts, hrt, hlk, hnm, hDf, hDl, hmc, hms, hN⟩ := id hF
  obtain ⟨x, h1, h⟩ := am_lv_s h
  have hl := hL.at h1
  rcases hd with ⟨k, hd, hk, hn⟩ | ⟨hd, hn⟩ <;> subst hn
  · exact lv_lload_n hx hb hd hk hl (h _ _ _ _ _ _ _ _ _ _ _ _ _ _ _ _ _ _ _ _ _ hF hX hbl hbA hA hS hR hL hfin)
  · exact lv_lload hx hb hd hl (h _ _ _ _ _ _ _ _ _ _ _ _ _ _ _ _ _ _ _ _ _ hF hX hbl hbA hA hS hR hL hfin)
theorem am_z2 (hd : (∃ k : Fin 4, decode (am_by i) pc = .ok (.aload_n k, 1) ∧ (k : Nat) = aa ∧ nx = pc + 1) ∨ (decode (am_by i) pc = .ok (.aload aa, 2) ∧ nx = pc + 2)) (h : am_step X D i pc 2 nx aa bb v w L st G c s P (am_go X D i P)) : am_WP X D i pc L st G c s P := by
  intro p l e R s0 m args below meth cd dC dI b A ad cA tys H locs ls Q hF hX hbl hbA hA hS hR hL hfin
  obtain ⟨hx, hb, hml, hown, hts, hrt, hlk, hnm, hDf, hDl, hmc, hms, hN⟩ := id hF
  have h : am_av (am_lg L aa) (fun x => am_go X D i P nx L (x :: st) G c s) := h
  obtain ⟨x, h1, h, h2⟩ := am_av_s h
  have hl := hL.at h1
  rcases hd with ⟨k, hd, hk, hn⟩ | ⟨hd, hn⟩ <;> subst hn
  · rcases h2 with ⟨z, rfl⟩ | rfl | ⟨z, rfl⟩
    · exact lv_aload_n hx hb hd hk hl (h _ _ _ _ _ _ _ _ _ _ _ _ _ _ _ _ _ _ _ _ _ hF hX hbl hbA hA hS hR hL hfin)
    · exact lv_aload_nN hx hb hd hk hl (h _ _ _ _ _ _ _ _ _ _ _ _ _ _ _ _ _ _ _ _ _ hF hX hbl hbA hA hS hR hL hfin)
    · exact lv_aload_n hx hb hd hk hl (h _ _ _ _ _ _ _ _ _ _ _ _ _ _ _ _ _ _ _ _ _ hF hX hbl hbA hA hS hR hL hfin)
  · rcases h2 with ⟨z, rfl⟩ | rfl | ⟨z, rfl⟩
    · exact lv_aload hx hb hd hl (h _ _ _ _ _ _ _ _ _ _ _ _ _ _ _ _ _ _ _ _ _ hF hX hbl hbA hA hS hR hL hfin)
    · exact lv_aloadN hx hb hd hl (h _ _ _ _ _ _ _ _ _ _ _ _ _ _ _ _ _ _ _ _ _ hF hX hbl hbA hA hS hR hL hfin)
    · exact lv_aload hx hb hd hl (h _ _ _ _ _ _ _ _ _ _ _ _ _ _ _ _ _ _ _ _ _ hF hX hbl hbA hA hS hR hL hfin)
theorem am_z4 (hd : (∃ n : Int, decode (am_by i) pc = .ok (.iconst n, 1) ∧ Int32.ofInt n = v ∧ nx = pc + 1) ∨ (∃ n : Int, decode (am_by i) pc = .ok (.bipush n, 2) ∧ (Int8.ofInt n).toInt32 = v ∧ nx = pc + 2) ∨ (∃ n : Int, decode (am_by i) pc = .ok (.sipush n, 3) ∧ (Int16.ofInt n).toInt32 = v ∧ nx = pc + 3) ∨ (decode (am_by i) pc = .ok (.ldc xx, 2) ∧ Cond.constant (am_mo i) xx v ∈ am_GT ∧ nx = pc + 2) ∨ (decode (am_by i) pc = .ok (.ldc_w xx, 3) ∧ Cond.constant (am_mo i) xx v ∈ am_GT ∧ nx = pc + 3)) (h : am_step X D i pc 4 nx aa bb v w L st G c s P (am_go X D i P)) : am_WP X D i pc L st G c s P := by
  intro p l e R s0 m args below meth cd dC dI b A ad cA tys H locs ls Q hF hX hbl hbA hA hS hR hL hfin
  obtain ⟨hx, hb, hml, hown, hts, hrt, hlk, hnm, hDf, hDl, hmc, hms, hN⟩ := id hF
  rcases hd with ⟨n, hd, hv, hn⟩ | ⟨n, hd, hv, hn⟩ | ⟨n, hd, hv, hn⟩ | ⟨hd, hw, hn⟩ | ⟨hd, hw, hn⟩ <;> subst hn
  · exact lv_iconst hx hb hd hv (h _ _ _ _ _ _ _ _ _ _ _ _ _ _ _ _ _ _ _ _ _ hF hX hbl hbA hA hS hR hL hfin)
  · exact lv_bipush hx hb hd hv (h _ _ _ _ _ _ _ _ _ _ _ _ _ _ _ _ _ _ _ _ _ hF hX hbl hbA hA hS hR hL hfin)
  · exact lv_sipush hx hb hd hv (h _ _ _ _ _ _ _ _ _ _ _ _ _ _ _ _ _ _ _ _ _ hF hX hbl hbA hA hS hR hL hfin)
  · exact lv_ldc hx hb hown (hts _ hw) hd (h _ _ _ _ _ _ _ _ _ _ _ _ _ _ _ _ _ _ _ _ _ hF hX hbl hbA hA hS hR hL hfin)
  · exact lv_ldcw hx hb hown (hts _ hw) hd (h _ _ _ _ _ _ _ _ _ _ _ _ _ _ _ _ _ _ _ _ _ hF hX hbl hbA hA hS hR hL hfin)
theorem am_z5 (hd : (∃ n : Fin 2, decode (am_by i) pc = .ok (.lconst n, 1) ∧ Int64.ofNat (n : Nat) = w ∧ nx = pc + 1) ∨ (decode (am_by i) pc = .ok (.ldc2_w xx, 3) ∧ Cond.constantLong (am_mo i) xx w ∈ am_GT ∧ nx = pc + 3)) (h : am_step X D i pc 5 nx aa bb v w L st G c s P (am_go X D i P)) : am_WP X D i pc L st G c s P := by
  intro p l e R s0 m args below meth cd dC dI b A ad cA tys H locs ls Q hF hX hbl hbA hA hS hR hL hfin
  obtain ⟨hx, hb, hml, hown, hts, hrt, hlk, hnm, hDf, hDl, hmc, hms, hN⟩ := id hF
  rcases hd with ⟨n, hd, hv, hn⟩ | ⟨hd, hw, hn⟩ <;> subst hn
  · exact lv_lconst hx hb hd hv (h _ _ _ _ _ _ _ _ _ _ _ _ _ _ _ _ _ _ _ _ _ hF hX hbl hbA hA hS hR hL hfin)
  · exact lv_ldc2 hx hb hown (hts _ hw) hd (h _ _ _ _ _ _ _ _ _ _ _ _ _ _ _ _ _ _ _ _ _ hF hX hbl hbA hA hS hR hL hfin)
theorem am_z6 (ha : aa < am_ml i) (hd : (∃ k : Fin 4, decode (am_by i) pc = .ok (.istore_n k, 1) ∧ (k : Nat) = aa ∧ nx = pc + 1) ∨ (decode (am_by i) pc = .ok (.istore aa, 2) ∧ nx = pc + 2)) (h : am_step X D i pc 6 nx aa bb v w L st G c s P (am_go X D i P)) : am_WP X D i pc L st G c s P := by
  intro p l e R s0 m args below meth cd dC dI b A ad cA tys H locs ls Q hF hX hbl hbA hA hS hR hL hfin
  obtain ⟨hx, hb, hml, hown, hts, hrt, hlk, hnm, hDf, hDl, hmc, hms, hN⟩ := id hF
  obtain ⟨x, r, rfl, h⟩ := am_I1_s h
  rcases hd with ⟨k, hd, hk, hn⟩ | ⟨hd, hn⟩ <;> subst hn
  · exact lv_istore_n hx hb hd hk hL.list ha rfl (fun ls' hl' => (h _ _ _ _ _ _ _ _ _ _ _ _ _ _ _ _ _ _ _ _ _ hF hX hbl hbA hA hS hR (hL.st1 hl') hfin))
  · exact lv_istore hx hb hd hL.list ha rfl (fun ls' hl' => (h _ _ _ _ _ _ _ _ _ _ _ _ _ _ _ _ _ _ _ _ _ hF hX hbl hbA hA hS hR (hL.st1 hl') hfin))
theorem am_z7 (ha : aa < am_ml i) (hd : (∃ k : Fin 4, decode (am_by i) pc = .ok (.astore_n k, 1) ∧ (k : Nat) = aa ∧ nx = pc + 1) ∨ (decode (am_by i) pc = .ok (.astore aa, 2) ∧ nx = pc + 2)) (h : am_step X D i pc 7 nx aa bb v w L st G c s P (am_go X D i P)) : am_WP X D i pc L st G c s P := by
  intro p l e R s0 m args below meth cd dC dI b A ad cA tys H locs ls Q hF hX hbl hbA hA hS hR hL hfin
  obtain ⟨hx, hb, hml, hown, hts, hrt, hlk, hnm, hDf, hDl, hmc, hms, hN⟩ := id hF
  have h0 : am_AR st (fun x r => am_go X D i P nx (am_l1 L aa x) r G c s) := h
  obtain ⟨x, r, rfl, h, hx2⟩ := am_AR_s h0
  rcases hx2 with ⟨y, rfl⟩ | rfl
  · rcases hd with ⟨k, hd, hk, hn⟩ | ⟨hd, hn⟩ <;> subst hn
    · exact lv_astore_n hx hb hd hk hL.list ha rfl (fun ls' hl' => (h _ _ _ _ _ _ _ _ _ _ _ _ _ _ _ _ _ _ _ _ _ hF hX hbl hbA hA hS hR (hL.st1 hl') hfin))
    · exact lv_astore hx hb hd hL.list ha rfl (fun ls' hl' => (h _ _ _ _ _ _ _ _ _ _ _ _ _ _ _ _ _ _ _ _ _ hF hX hbl hbA hA hS hR (hL.st1 hl') hfin))
  · rcases hd with ⟨k, hd, hk, hn⟩ | ⟨hd, hn⟩ <;> subst hn
    · exact am_nul_n hx hb hd hk hL.list ha rfl (fun ls' hl' => (h _ _ _ _ _ _ _ _ _ _ _ _ _ _ _ _ _ _ _ _ _ hF hX hbl hbA hA hS hR (hL.st1 hl') hfin))
    · exact am_nul hx hb hd hL.list ha rfl (fun ls' hl' => (h _ _ _ _ _ _ _ _ _ _ _ _ _ _ _ _ _ _ _ _ _ hF hX hbl hbA hA hS hR (hL.st1 hl') hfin))
theorem am_z8 (ha : aa + 1 < am_ml i) (hd : (∃ k : Fin 4, decode (am_by i) pc = .ok (.lstore_n k, 1) ∧ (k : Nat) = aa ∧ nx = pc + 1) ∨ (decode (am_by i) pc = .ok (.lstore aa, 2) ∧ nx = pc + 2)) (h : am_step X D i pc 8 nx aa bb v w L st G c s P (am_go X D i P)) : am_WP X D i pc L st G c s P := by
  intro p l e R s0 m args below meth cd dC dI b A ad cA tys H locs ls Q hF hX hbl hbA hA hS hR hL hfin
  obtain ⟨hx, hb, hml, hown, hts, hrt, hlk, hnm, hDf, hDl, hmc, hms, hN⟩ := id hF
  obtain ⟨x, r, rfl, h⟩ := am_J1_s h
  rcases hd with ⟨k, hd, hk, hn⟩ | ⟨hd, hn⟩ <;> subst hn
  · exact lv_lstore_n hx hb hd hk hL.list ha rfl (fun ls' hl' => (h _ _ _ _ _ _ _ _ _ _ _ _ _ _ _ _ _ _ _ _ _ hF hX hbl hbA hA hS hR (hL.st2 hl') hfin))
  · exact lv_lstore hx hb hd hL.list ha rfl (fun ls' hl' => (h _ _ _ _ _ _ _ _ _ _ _ _ _ _ _ _ _ _ _ _ _ hF hX hbl hbA hA hS hR (hL.st2 hl') hfin))
theorem am_z9 (ha : aa < am_ml i) (hd : ∃ n : Int, decode (am_by i) pc = .ok (.iinc aa n, 3) ∧ Int32.ofInt n = v) (hn : nx = pc + 3) (h : am_step X D i pc 9 nx aa bb v w L st G c s P (am_go X D i P)) : am_WP X D i pc L st G c s P := by
  intro p l e R s0 m args below meth cd dC dI b A ad cA tys H locs ls Q hF hX hbl hbA hA hS hR hL hfin
  obtain ⟨hx, hb, hml, hown, hts, hrt, hlk, hnm, hDf, hDl, hmc, hms, hN⟩ := id hF
  obtain ⟨x, h1, h⟩ := am_iv_s h
  obtain ⟨n, hd, hv⟩ := hd
  subst hn
  obtain ⟨k, hk⟩ := List.getElem?_of_mem (am_ll_mem (ad := ad) (b := b) (am_lg_s h1))
  exact lv_iinc hx hb hd hL.list hk (by rw [hv]) ha rfl (fun ls' hl' => (h _ _ _ _ _ _ _ _ _ _ _ _ _ _ _ _ _ _ _ _ _ hF hX hbl hbA hA hS hR (hL.st1 hl') hfin))
theorem am_z10 (hd : decode (am_by i) pc = .ok (.iadd, 1)) (hn : nx = pc + 1) (h : am_step X D i pc 10 nx aa bb v w L st G c s P (am_go X D i P)) : am_WP X D i pc L st G c s P := by
  intro p l e R s0 m args below meth cd dC dI b A ad cA tys H locs ls Q hF hX hbl hbA hA hS hR hL hfin
  obtain ⟨hx, hb, hml, hown, hts, hrt, hlk, hnm, hDf, hDl, hmc, hms, hN⟩ := id hF
  subst hn
  obtain ⟨x, y, r, rfl, h⟩ := am_I2_s h
  exact lv_iadd hx hb hd (h _ _ _ _ _ _ _ _ _ _ _ _ _ _ _ _ _ _ _ _ _ hF hX hbl hbA hA hS hR hL hfin)
theorem am_z11 (hd : decode (am_by i) pc = .ok (.isub, 1)) (hn : nx = pc + 1) (h : am_step X D i pc 11 nx aa bb v w L st G c s P (am_go X D i P)) : am_WP X D i pc L st G c s P := by
  intro p l e R s0 m args below meth cd dC dI b A ad cA tys H locs ls Q hF hX hbl hbA hA hS hR hL hfin
  obtain ⟨hx, hb, hml, hown, hts, hrt, hlk, hnm, hDf, hDl, hmc, hms, hN⟩ := id hF
  subst hn
  obtain ⟨x, y, r, rfl, h⟩ := am_I2_s h
  exact lv_isub hx hb hd (h _ _ _ _ _ _ _ _ _ _ _ _ _ _ _ _ _ _ _ _ _ hF hX hbl hbA hA hS hR hL hfin)
theorem am_z12 (hd : decode (am_by i) pc = .ok (.imul, 1)) (hn : nx = pc + 1) (h : am_step X D i pc 12 nx aa bb v w L st G c s P (am_go X D i P)) : am_WP X D i pc L st G c s P := by
  intro p l e R s0 m args below meth cd dC dI b A ad cA tys H locs ls Q hF hX hbl hbA hA hS hR hL hfin
  obtain ⟨hx, hb, hml, hown, hts, hrt, hlk, hnm, hDf, hDl, hmc, hms, hN⟩ := id hF
  subst hn
  obtain ⟨x, y, r, rfl, h⟩ := am_I2_s h
  exact lv_imul hx hb hd (h _ _ _ _ _ _ _ _ _ _ _ _ _ _ _ _ _ _ _ _ _ hF hX hbl hbA hA hS hR hL hfin)
theorem am_z16 (hd : decode (am_by i) pc = .ok (.ishl, 1)) (hn : nx = pc + 1) (h : am_step X D i pc 16 nx aa bb v w L st G c s P (am_go X D i P)) : am_WP X D i pc L st G c s P := by
  intro p l e R s0 m args below meth cd dC dI b A ad cA tys H locs ls Q hF hX hbl hbA hA hS hR hL hfin
  obtain ⟨hx, hb, hml, hown, hts, hrt, hlk, hnm, hDf, hDl, hmc, hms, hN⟩ := id hF
  subst hn
  obtain ⟨x, y, r, rfl, h⟩ := am_I2_s h
  exact lv_ishl hx hb hd (h _ _ _ _ _ _ _ _ _ _ _ _ _ _ _ _ _ _ _ _ _ hF hX hbl hbA hA hS hR hL hfin)
theorem am_z17 (hd : decode (am_by i) pc = .ok (.ishr, 1)) (hn : nx = pc + 1) (h : am_step X D i pc 17 nx aa bb v w L st G c s P (am_go X D i P)) : am_WP X D i pc L st G c s P := by
  intro p l e R s0 m args below meth cd dC dI b A ad cA tys H locs ls Q hF hX hbl hbA hA hS hR hL hfin
  obtain ⟨hx, hb, hml, hown, hts, hrt, hlk, hnm, hDf, hDl, hmc, hms, hN⟩ := id hF
  subst hn
  obtain ⟨x, y, r, rfl, h⟩ := am_I2_s h
  exact lv_ishr hx hb hd (h _ _ _ _ _ _ _ _ _ _ _ _ _ _ _ _ _ _ _ _ _ hF hX hbl hbA hA hS hR hL hfin)
theorem am_z19 (hd : decode (am_by i) pc = .ok (.iand, 1)) (hn : nx = pc + 1) (h : am_step X D i pc 19 nx aa bb v w L st G c s P (am_go X D i P)) : am_WP X D i pc L st G c s P := by
  intro p l e R s0 m args below meth cd dC dI b A ad cA tys H locs ls Q hF hX hbl hbA hA hS hR hL hfin
  obtain ⟨hx, hb, hml, hown, hts, hrt, hlk, hnm, hDf, hDl, hmc, hms, hN⟩ := id hF
  subst hn
  obtain ⟨x, y, r, rfl, h⟩ := am_I2_s h
  exact lv_iand hx hb hd (h _ _ _ _ _ _ _ _ _ _ _ _ _ _ _ _ _ _ _ _ _ hF hX hbl hbA hA hS hR hL hfin)
theorem am_z20 (hd : decode (am_by i) pc = .ok (.ior, 1)) (hn : nx = pc + 1) (h : am_step X D i pc 20 nx aa bb v w L st G c s P (am_go X D i P)) : am_WP X D i pc L st G c s P := by
  intro p l e R s0 m args below meth cd dC dI b A ad cA tys H locs ls Q hF hX hbl hbA hA hS hR hL hfin
  obtain ⟨hx, hb, hml, hown, hts, hrt, hlk, hnm, hDf, hDl, hmc, hms, hN⟩ := id hF
  subst hn
  obtain ⟨x, y, r, rfl, h⟩ := am_I2_s h
  exact lv_ior hx hb hd (h _ _ _ _ _ _ _ _ _ _ _ _ _ _ _ _ _ _ _ _ _ hF hX hbl hbA hA hS hR hL hfin)
theorem am_z21 (hd : decode (am_by i) pc = .ok (.ixor, 1)) (hn : nx = pc + 1) (h : am_step X D i pc 21 nx aa bb v w L st G c s P (am_go X D i P)) : am_WP X D i pc L st G c s P := by
  intro p l e R s0 m args below meth cd dC dI b A ad cA tys H locs ls Q hF hX hbl hbA hA hS hR hL hfin
  obtain ⟨hx, hb, hml, hown, hts, hrt, hlk, hnm, hDf, hDl, hmc, hms, hN⟩ := id hF
  subst hn
  obtain ⟨x, y, r, rfl, h⟩ := am_I2_s h
  exact lv_ixor hx hb hd (h _ _ _ _ _ _ _ _ _ _ _ _ _ _ _ _ _ _ _ _ _ hF hX hbl hbA hA hS hR hL hfin)
theorem am_z18 (hd : decode (am_by i) pc = .ok (.iushr, 1)) (hn : nx = pc + 1) (h : am_step X D i pc 18 nx aa bb v w L st G c s P (am_go X D i P)) : am_WP X D i pc L st G c s P := by
  intro p l e R s0 m args below meth cd dC dI b A ad cA tys H locs ls Q hF hX hbl hbA hA hS hR hL hfin
  obtain ⟨hx, hb, hml, hown, hts, hrt, hlk, hnm, hDf, hDl, hmc, hms, hN⟩ := id hF
  subst hn
  obtain ⟨x, y, r, rfl, h⟩ := am_I2_s h
  exact lv_iushr hx hb hd rfl (h _ _ _ _ _ _ _ _ _ _ _ _ _ _ _ _ _ _ _ _ _ hF hX hbl hbA hA hS hR hL hfin)
theorem am_z13 (hd : decode (am_by i) pc = .ok (.idiv, 1)) (hn : nx = pc + 1) (h : am_step X D i pc 13 nx aa bb v w L st G c s P (am_go X D i P)) : am_WP X D i pc L st G c s P := by
  intro p l e R s0 m args below meth cd dC dI b A ad cA tys H locs ls Q hF hX hbl hbA hA hS hR hL hfin
  obtain ⟨hx, hb, hml, hown, hts, hrt, hlk, hnm, hDf, hDl, hmc, hms, hN⟩ := id hF
  subst hn
  obtain ⟨x, y, r, rfl, hne, h⟩ := am_I2_s h
  exact lv_idiv hx hb hd hne (h _ _ _ _ _ _ _ _ _ _ _ _ _ _ _ _ _ _ _ _ _ hF hX hbl hbA hA hS hR hL hfin)
theorem am_z14 (hd : decode (am_by i) pc = .ok (.irem, 1)) (hn : nx = pc + 1) (h : am_step X D i pc 14 nx aa bb v w L st G c s P (am_go X D i P)) : am_WP X D i pc L st G c s P := by
  intro p l e R s0 m args below meth cd dC dI b A ad cA tys H locs ls Q hF hX hbl hbA hA hS hR hL hfin
  obtain ⟨hx, hb, hml, hown, hts, hrt, hlk, hnm, hDf, hDl, hmc, hms, hN⟩ := id hF
  subst hn
  obtain ⟨x, y, r, rfl, hne, h⟩ := am_I2_s h
  exact lv_irem hx hb hd hne (h _ _ _ _ _ _ _ _ _ _ _ _ _ _ _ _ _ _ _ _ _ hF hX hbl hbA hA hS hR hL hfin)
theorem am_z15 (hd : decode (am_by i) pc = .ok (.ineg, 1)) (hn : nx = pc + 1) (h : am_step X D i pc 15 nx aa bb v w L st G c s P (am_go X D i P)) : am_WP X D i pc L st G c s P := by
  intro p l e R s0 m args below meth cd dC dI b A ad cA tys H locs ls Q hF hX hbl hbA hA hS hR hL hfin
  obtain ⟨hx, hb, hml, hown, hts, hrt, hlk, hnm, hDf, hDl, hmc, hms, hN⟩ := id hF
  subst hn
  obtain ⟨x, r, rfl, h⟩ := am_I1_s h
  exact lv_ineg hx hb hd (h _ _ _ _ _ _ _ _ _ _ _ _ _ _ _ _ _ _ _ _ _ hF hX hbl hbA hA hS hR hL hfin)
theorem am_z22 (hd : decode (am_by i) pc = .ok (.ladd, 1)) (hn : nx = pc + 1) (h : am_step X D i pc 22 nx aa bb v w L st G c s P (am_go X D i P)) : am_WP X D i pc L st G c s P := by
  intro p l e R s0 m args below meth cd dC dI b A ad cA tys H locs ls Q hF hX hbl hbA hA hS hR hL hfin
  obtain ⟨hx, hb, hml, hown, hts, hrt, hlk, hnm, hDf, hDl, hmc, hms, hN⟩ := id hF
  subst hn
  obtain ⟨x, y, r, rfl, h⟩ := am_J2_s h
  exact lv_ladd hx hb hd (h _ _ _ _ _ _ _ _ _ _ _ _ _ _ _ _ _ _ _ _ _ hF hX hbl hbA hA hS hR hL hfin)
theorem am_z23 (hd : decode (am_by i) pc = .ok (.lsub, 1)) (hn : nx = pc + 1) (h : am_step X D i pc 23 nx aa bb v w L st G c s P (am_go X D i P)) : am_WP X D i pc L st G c s P := by
  intro p l e R s0 m args below meth cd dC dI b A ad cA tys H locs ls Q hF hX hbl hbA hA hS hR hL hfin
  obtain ⟨hx, hb, hml, hown, hts, hrt, hlk, hnm, hDf, hDl, hmc, hms, hN⟩ := id hF
  subst hn
  obtain ⟨x, y, r, rfl, h⟩ := am_J2_s h
  exact lv_lsub hx hb hd (h _ _ _ _ _ _ _ _ _ _ _ _ _ _ _ _ _ _ _ _ _ hF hX hbl hbA hA hS hR hL hfin)
theorem am_z24 (hd : decode (am_by i) pc = .ok (.land, 1)) (hn : nx = pc + 1) (h : am_step X D i pc 24 nx aa bb v w L st G c s P (am_go X D i P)) : am_WP X D i pc L st G c s P := by
  intro p l e R s0 m args below meth cd dC dI b A ad cA tys H locs ls Q hF hX hbl hbA hA hS hR hL hfin
  obtain ⟨hx, hb, hml, hown, hts, hrt, hlk, hnm, hDf, hDl, hmc, hms, hN⟩ := id hF
  subst hn
  obtain ⟨x, y, r, rfl, h⟩ := am_J2_s h
  exact lv_land hx hb hd (h _ _ _ _ _ _ _ _ _ _ _ _ _ _ _ _ _ _ _ _ _ hF hX hbl hbA hA hS hR hL hfin)
theorem am_z25 (hd : decode (am_by i) pc = .ok (.lor, 1)) (hn : nx = pc + 1) (h : am_step X D i pc 25 nx aa bb v w L st G c s P (am_go X D i P)) : am_WP X D i pc L st G c s P := by
  intro p l e R s0 m args below meth cd dC dI b A ad cA tys H locs ls Q hF hX hbl hbA hA hS hR hL hfin
  obtain ⟨hx, hb, hml, hown, hts, hrt, hlk, hnm, hDf, hDl, hmc, hms, hN⟩ := id hF
  subst hn
  obtain ⟨x, y, r, rfl, h⟩ := am_J2_s h
  exact lv_lor hx hb hd (h _ _ _ _ _ _ _ _ _ _ _ _ _ _ _ _ _ _ _ _ _ hF hX hbl hbA hA hS hR hL hfin)
theorem am_z26 (hd : decode (am_by i) pc = .ok (.lxor, 1)) (hn : nx = pc + 1) (h : am_step X D i pc 26 nx aa bb v w L st G c s P (am_go X D i P)) : am_WP X D i pc L st G c s P := by
  intro p l e R s0 m args below meth cd dC dI b A ad cA tys H locs ls Q hF hX hbl hbA hA hS hR hL hfin
  obtain ⟨hx, hb, hml, hown, hts, hrt, hlk, hnm, hDf, hDl, hmc, hms, hN⟩ := id hF
  subst hn
  obtain ⟨x, y, r, rfl, h⟩ := am_J2_s h
  exact lv_lxor hx hb hd (h _ _ _ _ _ _ _ _ _ _ _ _ _ _ _ _ _ _ _ _ _ hF hX hbl hbA hA hS hR hL hfin)
theorem am_z30 (hd : decode (am_by i) pc = .ok (.lcmp, 1)) (hn : nx = pc + 1) (h : am_step X D i pc 30 nx aa bb v w L st G c s P (am_go X D i P)) : am_WP X D i pc L st G c s P := by
  intro p l e R s0 m args below meth cd dC dI b A ad cA tys H locs ls Q hF hX hbl hbA hA hS hR hL hfin
  obtain ⟨hx, hb, hml, hown, hts, hrt, hlk, hnm, hDf, hDl, hmc, hms, hN⟩ := id hF
  subst hn
  obtain ⟨x, y, r, rfl, h⟩ := am_J2_s h
  exact W.lcmp hx hb hd (h _ _ _ _ _ _ _ _ _ _ _ _ _ _ _ _ _ _ _ _ _ hF hX hbl hbA hA hS hR hL hfin)
theorem am_z27 (hd : decode (am_by i) pc = .ok (.lshl, 1)) (hn : nx = pc + 1) (h : am_step X D i pc 27 nx aa bb v w L st G c s P (am_go X D i P)) : am_WP X D i pc L st G c s P := by
  intro p l e R s0 m args below meth cd dC dI b A ad cA tys H locs ls Q hF hX hbl hbA hA hS hR hL hfin
  obtain ⟨hx, hb, hml, hown, hts, hrt, hlk, hnm, hDf, hDl, hmc, hms, hN⟩ := id hF
  subst hn
  obtain ⟨x, y, r, rfl, h⟩ := am_JI_s h
  exact lv_lshl hx hb hd rfl (h _ _ _ _ _ _ _ _ _ _ _ _ _ _ _ _ _ _ _ _ _ hF hX hbl hbA hA hS hR hL hfin)
theorem am_z28 (hd : decode (am_by i) pc = .ok (.lshr, 1)) (hn : nx = pc + 1) (h : am_step X D i pc 28 nx aa bb v w L st G c s P (am_go X D i P)) : am_WP X D i pc L st G c s P := by
  intro p l e R s0 m args below meth cd dC dI b A ad cA tys H locs ls Q hF hX hbl hbA hA hS hR hL hfin
  obtain ⟨hx, hb, hml, hown, hts, hrt, hlk, hnm, hDf, hDl, hmc, hms, hN⟩ := id hF
  subst hn
  obtain ⟨x, y, r, rfl, h⟩ := am_JI_s h
  exact lv_lshr hx hb hd rfl (h _ _ _ _ _ _ _ _ _ _ _ _ _ _ _ _ _ _ _ _ _ hF hX hbl hbA hA hS hR hL hfin)
theorem am_z29 (hd : decode (am_by i) pc = .ok (.lushr, 1)) (hn : nx = pc + 1) (h : am_step X D i pc 29 nx aa bb v w L st G c s P (am_go X D i P)) : am_WP X D i pc L st G c s P := by
  intro p l e R s0 m args below meth cd dC dI b A ad cA tys H locs ls Q hF hX hbl hbA hA hS hR hL hfin
  obtain ⟨hx, hb, hml, hown, hts, hrt, hlk, hnm, hDf, hDl, hmc, hms, hN⟩ := id hF
  subst hn
  obtain ⟨x, y, r, rfl, h⟩ := am_JI_s h
  exact lv_lushr hx hb hd rfl (h _ _ _ _ _ _ _ _ _ _ _ _ _ _ _ _ _ _ _ _ _ hF hX hbl hbA hA hS hR hL hfin)
theorem am_z31 (hd : decode (am_by i) pc = .ok (.l2i, 1)) (hn : nx = pc + 1) (h : am_step X D i pc 31 nx aa bb v w L st G c s P (am_go X D i P)) : am_WP X D i pc L st G c s P := by
  intro p l e R s0 m args below meth cd dC dI b A ad cA tys H locs ls Q hF hX hbl hbA hA hS hR hL hfin
  obtain ⟨hx, hb, hml, hown, hts, hrt, hlk, hnm, hDf, hDl, hmc, hms, hN⟩ := id hF
  subst hn
  obtain ⟨x, r, rfl, h⟩ := am_J1_s h
  exact lv_l2i hx hb hd rfl (h _ _ _ _ _ _ _ _ _ _ _ _ _ _ _ _ _ _ _ _ _ hF hX hbl hbA hA hS hR hL hfin)
theorem am_z32 (hd : decode (am_by i) pc = .ok (.i2l, 1)) (hn : nx = pc + 1) (h : am_step X D i pc 32 nx aa bb v w L st G c s P (am_go X D i P)) : am_WP X D i pc L st G c s P := by
  intro p l e R s0 m args below meth cd dC dI b A ad cA tys H locs ls Q hF hX hbl hbA hA hS hR hL hfin
  obtain ⟨hx, hb, hml, hown, hts, hrt, hlk, hnm, hDf, hDl, hmc, hms, hN⟩ := id hF
  subst hn
  obtain ⟨x, r, rfl, h⟩ := am_I1_s h
  exact lv_i2l hx hb hd rfl (h _ _ _ _ _ _ _ _ _ _ _ _ _ _ _ _ _ _ _ _ _ hF hX hbl hbA hA hS hR hL hfin)
theorem am_z33 (hd : ∃ off : Int, decode (am_by i) pc = .ok (.if_icmp .eq off, 3) ∧ (pc : Int) + off = (aa : Int)) (hn : nx = pc + 3) (h : am_step X D i pc 33 nx aa bb v w L st G c s P (am_go X D i P)) : am_WP X D i pc L st G c s P := by
  intro p l e R s0 m args below meth cd dC dI b A ad cA tys H locs ls Q hF hX hbl hbA hA hS hR hL hfin
  obtain ⟨hx, hb, hml, hown, hts, hrt, hlk, hnm, hDf, hDl, hmc, hms, hN⟩ := id hF
  subst hn
  obtain ⟨x, y, r, rfl, hh⟩ := am_I2_s h
  obtain ⟨off, hd, ht⟩ := hd
  refine lv_icmp_eq hx hb hd ht (fun z => ?_) (fun z => ?_)
  · rw [if_pos z] at hh
    exact (hh _ _ _ _ _ _ _ _ _ _ _ _ _ _ _ _ _ _ _ _ _ hF hX hbl hbA hA hS hR hL hfin)
  · rw [if_neg z] at hh
    exact (hh _ _ _ _ _ _ _ _ _ _ _ _ _ _ _ _ _ _ _ _ _ hF hX hbl hbA hA hS hR hL hfin)
theorem am_z39 (hd : ∃ off : Int, decode (am_by i) pc = .ok (.ifCond .eq off, 3) ∧ (pc : Int) + off = (aa : Int)) (hn : nx = pc + 3) (h : am_step X D i pc 39 nx aa bb v w L st G c s P (am_go X D i P)) : am_WP X D i pc L st G c s P := by
  intro p l e R s0 m args below meth cd dC dI b A ad cA tys H locs ls Q hF hX hbl hbA hA hS hR hL hfin
  obtain ⟨hx, hb, hml, hown, hts, hrt, hlk, hnm, hDf, hDl, hmc, hms, hN⟩ := id hF
  subst hn
  obtain ⟨x, r, rfl, hh⟩ := am_I1_s h
  obtain ⟨off, hd, ht⟩ := hd
  refine lv_if_eq hx hb hd ht (fun z => ?_) (fun z => ?_)
  · rw [if_pos z] at hh
    exact (hh _ _ _ _ _ _ _ _ _ _ _ _ _ _ _ _ _ _ _ _ _ hF hX hbl hbA hA hS hR hL hfin)
  · rw [if_neg z] at hh
    exact (hh _ _ _ _ _ _ _ _ _ _ _ _ _ _ _ _ _ _ _ _ _ hF hX hbl hbA hA hS hR hL hfin)
theorem am_z34 (hd : ∃ off : Int, decode (am_by i) pc = .ok (.if_icmp .ne off, 3) ∧ (pc : Int) + off = (aa : Int)) (hn : nx = pc + 3) (h : am_step X D i pc 34 nx aa bb v w L st G c s P (am_go X D i P)) : am_WP X D i pc L st G c s P := by
  intro p l e R s0 m args below meth cd dC dI b A ad cA tys H locs ls Q hF hX hbl hbA hA hS hR hL hfin
  obtain ⟨hx, hb, hml, hown, hts, hrt, hlk, hnm, hDf, hDl, hmc, hms, hN⟩ := id hF
  subst hn
  obtain ⟨x, y, r, rfl, hh⟩ := am_I2_s h
  obtain ⟨off, hd, ht⟩ := hd
  refine lv_icmp_ne hx hb hd ht (fun z => ?_) (fun z => ?_)
  · rw [if_neg z] at hh
    exact (hh _ _ _ _ _ _ _ _ _ _ _ _ _ _ _ _ _ _ _ _ _ hF hX hbl hbA hA hS hR hL hfin)
  · rw [if_pos z] at hh
    exact (hh _ _ _ _ _ _ _ _ _ _ _ _ _ _ _ _ _ _ _ _ _ hF hX hbl hbA hA hS hR hL hfin)
theorem am_z40 (hd : ∃ off : Int, decode (am_by i) pc = .ok (.ifCond .ne off, 3) ∧ (pc : Int) + off = (aa : Int)) (hn : nx = pc + 3) (h : am_step X D i pc 40 nx aa bb v w L st G c s P (am_go X D i P)) : am_WP X D i pc L st G c s P := by
  intro p l e R s0 m args below meth cd dC dI b A ad cA tys H locs ls Q hF hX hbl hbA hA hS hR hL hfin
  obtain ⟨hx, hb, hml, hown, hts, hrt, hlk, hnm, hDf, hDl, hmc, hms, hN⟩ := id hF
  subst hn
  obtain ⟨x, r, rfl, hh⟩ := am_I1_s h
  obtain ⟨off, hd, ht⟩ := hd
  refine lv_if_ne hx hb hd ht (fun z => ?_) (fun z => ?_)
  · rw [if_neg z] at hh
    exact (hh _ _ _ _ _ _ _ _ _ _ _ _ _ _ _ _ _ _ _ _ _ hF hX hbl hbA hA hS hR hL hfin)
  · rw [if_pos z] at hh
    exact (hh _ _ _ _ _ _ _ _ _ _ _ _ _ _ _ _ _ _ _ _ _ hF hX hbl hbA hA hS hR hL hfin)
theorem am_z35 (hd : ∃ off : Int, decode (am_by i) pc = .ok (.if_icmp .lt off, 3) ∧ (pc : Int) + off = (aa : Int)) (hn : nx = pc + 3) (h : am_step X D i pc 35 nx aa bb v w L st G c s P (am_go X D i P)) : am_WP X D i pc L st G c s P := by
  intro p l e R s0 m args below meth cd dC dI b A ad cA tys H locs ls Q hF hX hbl hbA hA hS hR hL hfin
  obtain ⟨hx, hb, hml, hown, hts, hrt, hlk, hnm, hDf, hDl, hmc, hms, hN⟩ := id hF
  subst hn
  obtain ⟨x, y, r, rfl, hh⟩ := am_I2_s h
  obtain ⟨off, hd, ht⟩ := hd
  refine lv_icmp_lt hx hb hd ht (fun z => ?_) (fun z => ?_)
  · rw [if_pos z] at hh
    exact (hh _ _ _ _ _ _ _ _ _ _ _ _ _ _ _ _ _ _ _ _ _ hF hX hbl hbA hA hS hR hL hfin)
  · rw [if_neg z] at hh
    exact (hh _ _ _ _ _ _ _ _ _ _ _ _ _ _ _ _ _ _ _ _ _ hF hX hbl hbA hA hS hR hL hfin)
theorem am_z41 (hd : ∃ off : Int, decode (am_by i) pc = .ok (.ifCond .lt off, 3) ∧ (pc : Int) + off = (aa : Int)) (hn : nx = pc + 3) (h : am_step X D i pc 41 nx aa bb v w L st G c s P (am_go X D i P)) : am_WP X D i pc L st G c s P := by
  intro p l e R s0 m args below meth cd dC dI b A ad cA tys H locs ls Q hF hX hbl hbA hA hS hR hL hfin
  obtain ⟨hx, hb, hml, hown, hts, hrt, hlk, hnm, hDf, hDl, hmc, hms, hN⟩ := id hF
  subst hn
  obtain ⟨x, r, rfl, hh⟩ := am_I1_s h
  obtain ⟨off, hd, ht⟩ := hd
  refine lv_if_lt hx hb hd ht (fun z => ?_) (fun z => ?_)
  · rw [if_pos z] at hh
    exact (hh _ _ _ _ _ _ _ _ _ _ _ _ _ _ _ _ _ _ _ _ _ hF hX hbl hbA hA hS hR hL hfin)
  · rw [if_neg z] at hh
    exact (hh _ _ _ _ _ _ _ _ _ _ _ _ _ _ _ _ _ _ _ _ _ hF hX hbl hbA hA hS hR hL hfin)
theorem am_z36 (hd : ∃ off : Int, decode (am_by i) pc = .ok (.if_icmp .ge off, 3) ∧ (pc : Int) + off = (aa : Int)) (hn : nx = pc + 3) (h : am_step X D i pc 36 nx aa bb v w L st G c s P (am_go X D i P)) : am_WP X D i pc L st G c s P := by
  intro p l e R s0 m args below meth cd dC dI b A ad cA tys H locs ls Q hF hX hbl hbA hA hS hR hL hfin
  obtain ⟨hx, hb, hml, hown, hts, hrt, hlk, hnm, hDf, hDl, hmc, hms, hN⟩ := id hF
  subst hn
  obtain ⟨x, y, r, rfl, hh⟩ := am_I2_s h
  obtain ⟨off, hd, ht⟩ := hd
  refine lv_icmp_ge hx hb hd ht (fun z => ?_) (fun z => ?_)
  · rw [if_neg (Int32.not_lt.mpr z)] at hh
    exact (hh _ _ _ _ _ _ _ _ _ _ _ _ _ _ _ _ _ _ _ _ _ hF hX hbl hbA hA hS hR hL hfin)
  · rw [if_pos (Int32.not_le.mp z)] at hh
    exact (hh _ _ _ _ _ _ _ _ _ _ _ _ _ _ _ _ _ _ _ _ _ hF hX hbl hbA hA hS hR hL hfin)
theorem am_z42 (hd : ∃ off : Int, decode (am_by i) pc = .ok (.ifCond .ge off, 3) ∧ (pc : Int) + off = (aa : Int)) (hn : nx = pc + 3) (h : am_step X D i pc 42 nx aa bb v w L st G c s P (am_go X D i P)) : am_WP X D i pc L st G c s P := by
  intro p l e R s0 m args below meth cd dC dI b A ad cA tys H locs ls Q hF hX hbl hbA hA hS hR hL hfin
  obtain ⟨hx, hb, hml, hown, hts, hrt, hlk, hnm, hDf, hDl, hmc, hms, hN⟩ := id hF
  subst hn
  obtain ⟨x, r, rfl, hh⟩ := am_I1_s h
  obtain ⟨off, hd, ht⟩ := hd
  refine lv_if_ge hx hb hd ht (fun z => ?_) (fun z => ?_)
  · rw [if_neg (Int32.not_lt.mpr z)] at hh
    exact (hh _ _ _ _ _ _ _ _ _ _ _ _ _ _ _ _ _ _ _ _ _ hF hX hbl hbA hA hS hR hL hfin)
  · rw [if_pos (Int32.not_le.mp z)] at hh
    exact (hh _ _ _ _ _ _ _ _ _ _ _ _ _ _ _ _ _ _ _ _ _ hF hX hbl hbA hA hS hR hL hfin)
theorem am_z37 (hd : ∃ off : Int, decode (am_by i) pc = .ok (.if_icmp .gt off, 3) ∧ (pc : Int) + off = (aa : Int)) (hn : nx = pc + 3) (h : am_step X D i pc 37 nx aa bb v w L st G c s P (am_go X D i P)) : am_WP X D i pc L st G c s P := by
  intro p l e R s0 m args below meth cd dC dI b A ad cA tys H locs ls Q hF hX hbl hbA hA hS hR hL hfin
  obtain ⟨hx, hb, hml, hown, hts, hrt, hlk, hnm, hDf, hDl, hmc, hms, hN⟩ := id hF
  subst hn
  obtain ⟨x, y, r, rfl, hh⟩ := am_I2_s h
  obtain ⟨off, hd, ht⟩ := hd
  refine lv_icmp_gt hx hb hd ht (fun z => ?_) (fun z => ?_)
  · rw [if_pos z] at hh
    exact (hh _ _ _ _ _ _ _ _ _ _ _ _ _ _ _ _ _ _ _ _ _ hF hX hbl hbA hA hS hR hL hfin)
  · rw [if_neg z] at hh
    exact (hh _ _ _ _ _ _ _ _ _ _ _ _ _ _ _ _ _ _ _ _ _ hF hX hbl hbA hA hS hR hL hfin)
theorem am_z43 (hd : ∃ off : Int, decode (am_by i) pc = .ok (.ifCond .gt off, 3) ∧ (pc : Int) + off = (aa : Int)) (hn : nx = pc + 3) (h : am_step X D i pc 43 nx aa bb v w L st G c s P (am_go X D i P)) : am_WP X D i pc L st G c s P := by
  intro p l e R s0 m args below meth cd dC dI b A ad cA tys H locs ls Q hF hX hbl hbA hA hS hR hL hfin
  obtain ⟨hx, hb, hml, hown, hts, hrt, hlk, hnm, hDf, hDl, hmc, hms, hN⟩ := id hF
  subst hn
  obtain ⟨x, r, rfl, hh⟩ := am_I1_s h
  obtain ⟨off, hd, ht⟩ := hd
  refine lv_if_gt hx hb hd ht (fun z => ?_) (fun z => ?_)
  · rw [if_pos z] at hh
    exact (hh _ _ _ _ _ _ _ _ _ _ _ _ _ _ _ _ _ _ _ _ _ hF hX hbl hbA hA hS hR hL hfin)
  · rw [if_neg z] at hh
    exact (hh _ _ _ _ _ _ _ _ _ _ _ _ _ _ _ _ _ _ _ _ _ hF hX hbl hbA hA hS hR hL hfin)
theorem am_z38 (hd : ∃ off : Int, decode (am_by i) pc = .ok (.if_icmp .le off, 3) ∧ (pc : Int) + off = (aa : Int)) (hn : nx = pc + 3) (h : am_step X D i pc 38 nx aa bb v w L st G c s P (am_go X D i P)) : am_WP X D i pc L st G c s P := by
  intro p l e R s0 m args below meth cd dC dI b A ad cA tys H locs ls Q hF hX hbl hbA hA hS hR hL hfin
  obtain ⟨hx, hb, hml, hown, hts, hrt, hlk, hnm, hDf, hDl, hmc, hms, hN⟩ := id hF
  subst hn
  obtain ⟨x, y, r, rfl, hh⟩ := am_I2_s h
  obtain ⟨off, hd, ht⟩ := hd
  refine lv_icmp_le hx hb hd ht (fun z => ?_) (fun z => ?_)
  · rw [if_neg (Int32.not_lt.mpr z)] at hh
    exact (hh _ _ _ _ _ _ _ _ _ _ _ _ _ _ _ _ _ _ _ _ _ hF hX hbl hbA hA hS hR hL hfin)
  · rw [if_pos (Int32.not_le.mp z)] at hh
    exact (hh _ _ _ _ _ _ _ _ _ _ _ _ _ _ _ _ _ _ _ _ _ hF hX hbl hbA hA hS hR hL hfin)
theorem am_z44 (hd : ∃ off : Int, decode (am_by i) pc = .ok (.ifCond .le off, 3) ∧ (pc : Int) + off = (aa : Int)) (hn : nx = pc + 3) (h : am_step X D i pc 44 nx aa bb v w L st G c s P (am_go X D i P)) : am_WP X D i pc L st G c s P := by
  intro p l e R s0 m args below meth cd dC dI b A ad cA tys H locs ls Q hF hX hbl hbA hA hS hR hL hfin
  obtain ⟨hx, hb, hml, hown, hts, hrt, hlk, hnm, hDf, hDl, hmc, hms, hN⟩ := id hF
  subst hn
  obtain ⟨x, r, rfl, hh⟩ := am_I1_s h
  obtain ⟨off, hd, ht⟩ := hd
  refine lv_if_le hx hb hd ht (fun z => ?_) (fun z => ?_)
  · rw [if_neg (Int32.not_lt.mpr z)] at hh
    exact (hh _ _ _ _ _ _ _ _ _ _ _ _ _ _ _ _ _ _ _ _ _ hF hX hbl hbA hA hS hR hL hfin)
  · rw [if_pos (Int32.not_le.mp z)] at hh
    exact (hh _ _ _ _ _ _ _ _ _ _ _ _ _ _ _ _ _ _ _ _ _ hF hX hbl hbA hA hS hR hL hfin)
theorem am_z45 (hd : ∃ off : Int, decode (am_by i) pc = .ok (.goto off, 3) ∧ (pc : Int) + off = (aa : Int)) (h : am_step X D i pc 45 nx aa bb v w L st G c s P (am_go X D i P)) : am_WP X D i pc L st G c s P := by
  intro p l e R s0 m args below meth cd dC dI b A ad cA tys H locs ls Q hF hX hbl hbA hA hS hR hL hfin
  obtain ⟨hx, hb, hml, hown, hts, hrt, hlk, hnm, hDf, hDl, hmc, hms, hN⟩ := id hF
  obtain ⟨off, hd, ht⟩ := hd
  exact lv_goto hx hb hd ht (h _ _ _ _ _ _ _ _ _ _ _ _ _ _ _ _ _ _ _ _ _ hF hX hbl hbA hA hS hR hL hfin)
theorem am_z46 (hd : ∃ off : Int, decode (am_by i) pc = .ok (.ifnonnull off, 3) ∧ (pc : Int) + off = (aa : Int)) (hn : nx = pc + 3) (h : am_step X D i pc 46 nx aa bb v w L st G c s P (am_go X D i P)) : am_WP X D i pc L st G c s P := by
  intro p l e R s0 m args below meth cd dC dI b A ad cA tys H locs ls Q hF hX hbl hbA hA hS hR hL hfin
  obtain ⟨hx, hb, hml, hown, hts, hrt, hlk, hnm, hDf, hDl, hmc, hms, hN⟩ := id hF
  subst hn
  obtain ⟨off, hd, ht⟩ := hd
  rcases am_RN_s h with ⟨k, r, rfl, h⟩ | ⟨r, rfl, h⟩
  · exact lv_ifnonnull hx hb hd ht (h _ _ _ _ _ _ _ _ _ _ _ _ _ _ _ _ _ _ _ _ _ hF hX hbl hbA hA hS hR hL hfin)
  · exact lv_ifnonnullN hx hb hd (h _ _ _ _ _ _ _ _ _ _ _ _ _ _ _ _ _ _ _ _ _ hF hX hbl hbA hA hS hR hL hfin)
theorem am_z63 (hd : decode (am_by i) pc = .ok (.dup, 1)) (hn : nx = pc + 1) (h : am_step X D i pc 63 nx aa bb v w L st G c s P (am_go X D i P)) : am_WP X D i pc L st G c s P := by
  intro p l e R s0 m args below meth cd dC dI b A ad cA tys H locs ls Q hF hX hbl hbA hA hS hR hL hfin
  obtain ⟨hx, hb, hml, hown, hts, hrt, hlk, hnm, hDf, hDl, hmc, hms, hN⟩ := id hF
  subst hn
  obtain ⟨x, r, rfl, hc, h⟩ := am_V1_s h
  exact lv_dup hx hb hd ((am_cat1 x).trans hc) (h _ _ _ _ _ _ _ _ _ _ _ _ _ _ _ _ _ _ _ _ _ hF hX hbl hbA hA hS hR hL hfin)
theorem am_z64 (hd : decode (am_by i) pc = .ok (.aconst_null, 1)) (hn : nx = pc + 1) (h : am_step X D i pc 64 nx aa bb v w L st G c s P (am_go X D i P)) : am_WP X D i pc L st G c s P := by
  intro p l e R s0 m args below meth cd dC dI b A ad cA tys H locs ls Q hF hX hbl hbA hA hS hR hL hfin
  obtain ⟨hx, hb, hml, hown, hts, hrt, hlk, hnm, hDf, hDl, hmc, hms, hN⟩ := id hF
  subst hn
  exact lv_null hx hb hd (h _ _ _ _ _ _ _ _ _ _ _ _ _ _ _ _ _ _ _ _ _ hF hX hbl hbA hA hS hR hL hfin)
end SND
