theorem lw_in_nest : ∀ q ∈ am_nl, Cond.methodLinkNest q.1 q.2.1 q.2.2.1 q.2.2.2 ∈ lw_tbl := by
  intro q hq
  simp only [am_nl, List.mem_cons, List.not_mem_nil, or_false] at hq
  rcases hq with rfl | rfl | rfl | rfl | rfl
  · exact List.mem_of_getElem? (i := 202) (by decide +kernel)
  · exact List.mem_of_getElem? (i := 233) (by decide +kernel)
  · exact List.mem_of_getElem? (i := 243) (by decide +kernel)
  · exact List.mem_of_getElem? (i := 258) (by decide +kernel)
  · exact List.mem_of_getElem? (i := 274) (by decide +kernel)
theorem lw_in_ao : Cond.arrayOver (.object RX2) ∈ lw_tbl := List.mem_of_getElem? (i := 130) (by decide +kernel)
theorem lw_in_i0 : Cond.instantiable RX0 6 ∈ lw_tbl := List.mem_of_getElem? (i := 69) (by decide +kernel)
theorem lw_in_i1 : Cond.instantiable RX1 2 ∈ lw_tbl := List.mem_of_getElem? (i := 116) (by decide +kernel)
theorem lw_in_i2 : Cond.instantiable RX2 4 ∈ lw_tbl := List.mem_of_getElem? (i := 38) (by decide +kernel)
theorem lw_in_i3 : Cond.instantiable RX3 3 ∈ lw_tbl := List.mem_of_getElem? (i := 100) (by decide +kernel)
theorem lw_in_i4 : Cond.instantiable RX4 8 ∈ lw_tbl := List.mem_of_getElem? (i := 30) (by decide +kernel)
theorem lw_in_c : ∀ a, a < 5 → ∀ w ∈ u_ws (am_cn a) (am_T a) (am_N a), w ∈ lw_tbl := fun a ha w hw => (List.mem_filter.mp (am_cl_in a ha w hw)).1
/-! THE CLAIM OUT OF ONE WALK OF THE LAW'S BODY. Your part is whole_start (and what it stands on); all else here is the same for every law, but numbers. -/
def R_law : String := "SpacedPairsLaw"
def lw_P (b : Addr) (xs : List Int32) (args : Array Value) (s : State) : Prop := args = #[.ref b] ∧ s.IntsAt b xs ∧ xs.length ≤ 260 ∧ (Jvm.Cond.and given_1 narrow_1).before args s = true
def lw_Q (_ : Array Value) (s : State) (o : Outcome) (t : State) : Prop := o = .returned (some (.int 1)) ∧ Framed s o t [] 600000 7302250
def lw_Z (below : List Frame) (a : Array Value) (s : State) : State → Prop := fun t => ∃ o, t.status = .running ∧ Ended t below o ∧ lw_Q a s o t
/-- the law's own end, with 1 on the stack, nothing written that was there before, its room as the claim has it -/
theorem lw_ret {p : Program} {l : Launch} {e : Env} {s : State} {m : MethodId} {below : List Frame} {meth : Method} {c : Code} {b : Nat} (hx : p.tables.exec = Jvm.exec) (hb : c.code = code) (hr : meth.sig.returnType = ret) (hlocks : meth.locks = false) {pc : Nat} {H : Heap} {ls : Array Slot} (hdg : decode code pc = .ok (.ireturn, 1)) : W p l e room_1 s m #[Value.ref b] below meth c H [] 600000 7302250 (lw_Z below #[Value.ref b] s) (F0 m pc ls [.int 1]) := by
  intro T hT X
  obtain ⟨fs, hret, hrun, hended, hW, hframe⟩ := X.leave (v := some (.int 1)) (hlocks := hlocks) (fun h => by rw [hr] at h; cases h)
  have hmeth' : T.vm.method? m = some meth := X.method'
  refine ⟨T.setFrames fs, ?_, .returned (some (.int 1)), hrun, hended, rfl, ⟨_, rfl⟩, hW, hframe⟩
  jvm_step X.here [X.here.top, hx, hb, hdg, hmeth', hr, ret, narrow_b1]
  (try refine ⟨rfl, ?_⟩); (try refine ⟨rfl, ?_⟩)
  first | (intro acts; rw [hret _ acts rfl rfl rfl]) | rw [hret _ _ rfl rfl rfl]
  exact Steps.refl _
/-- what holds at the law's entry: the machine, the code, the tables' words (any of lw_tbl by 'hts w (by decide +kernel)'), the script of L ints xs at the cell b, what the Statement gives of the start (any of its parts by flat_of_before) -/
def lw_At (p : Program) (s : State) (m : MethodId) (meth : Method) (c : Code) (b L : Nat) (xs : Nat → Int32) : Prop :=
  p.tables.exec = Jvm.exec ∧ c.code = code ∧ meth.sig.returnType = ret ∧ c.maxLocals = 11 ∧ s.vm.findClass R_law = some m.cls ∧ (∀ w ∈ lw_tbl, w.before #[Value.ref b] s = true) ∧ va_X b L xs s s.heap ∧ b < s.heap.size ∧ meth.locks = false ∧ (Jvm.Cond.and given_1 narrow_1).before #[Value.ref b] s = true
set_option maxRecDepth 20000 in
theorem whole_of (hlaw : ∀ (L : Nat) (xs : Nat → Int32), L ≤ 260 → am_WP (L, xs) 2000 109 0 [some (.float 0), none, none, none, none, none, none, none, none, none, none] [] [] 0 0 (fun v _ => v = some (.int 1))) {p : Program} {e : Env} {s : State} {m : MethodId} {below : List Frame} {meth : Method} {c : Code} (l : Launch) (hflags : l.flags = flags0) {b L : Nat} {xs : Nat → Int32} (hL_ : L ≤ 260) (C0 : lw_At p s m meth c b L xs) : W p l e room_1 s m #[Value.ref b] below meth c s.heap [] 0 0 (lw_Z below #[Value.ref b] s) (entryFrame m ([Value.ref b] : List Value).toArray 11) := by
  obtain ⟨hx, hb, hr, hml, hown, hts, hX, hbl, hlocks, hgv⟩ := id C0
  obtain ⟨c0, iS0, hKn0⟩ := u_known (C := RX0) (T := TX0) (N := 6) (n := 6) hts (lw_in_c 0 (by decide)) (hts _ lw_in_i0)
  obtain ⟨c1, iS1, hKn1⟩ := u_known (C := RX1) (T := TX1) (N := 2) (n := 2) hts (lw_in_c 1 (by decide)) (hts _ lw_in_i1)
  obtain ⟨c2, iS2, hKn2⟩ := u_known (C := RX2) (T := TX2) (N := 4) (n := 4) hts (lw_in_c 2 (by decide)) (hts _ lw_in_i2)
  obtain ⟨c3, iS3, hKn3⟩ := u_known (C := RX3) (T := TX3) (N := 3) (n := 3) hts (lw_in_c 3 (by decide)) (hts _ lw_in_i3)
  obtain ⟨c4, iS4, hKn4⟩ := u_known (C := RX4) (T := TX4) (N := 8) (n := 8) hts (lw_in_c 4 (by decide)) (hts _ lw_in_i4)
  obtain ⟨dC, dI, hKc⟩ : ∃ (dC : Nat → ClassId) (dI : Nat → Nat → Nat), ∀ (k : Nat) (q : vw_C), vwCl[k]? = some q → u_Kn s q.1 q.2.1 q.2.2 (dC k) (dI k) := by
    refine ⟨fun k => match k with | 0 => c0 | 1 => c1 | 2 => c2 | 3 => c3 | _ => c4, fun k => match k with | 0 => iS0 | 1 => iS1 | 2 => iS2 | 3 => iS3 | _ => iS4, ?_⟩
    intro k q hq
    match k, hq with
    | 0, hq => cases hq; exact hKn0
    | 1, hq => cases hq; exact hKn1
    | 2, hq => cases hq; exact hKn2
    | 3, hq => cases hq; exact hKn3
    | 4, hq => cases hq; exact hKn4
    | k + 5, hq => simp [vwCl] at hq
  have hN : am_Nx s := ⟨fun q hq => va_Nw.of rfl (hts _ (lw_in_nest q hq)), va_AO.of (A := #[]) (by have h := hts _ lw_in_ao; exact h)⟩
  have hl0 := lv_entry ([Value.ref b]) (n := 11) (Nat.le_of_ble_eq_true rfl)
  rw [lg_entry_eq]
  generalize (lg_sl ([Value.ref b]) ++ List.replicate (11 - (lg_sl ([Value.ref b])).length) Slot.unset).toArray = ls at hl0 ⊢
  have hL : am_LOk (fun _ => 0) b ls (am_ml 109) [some (.float 0), none, none, none, none, none, none, none, none, none, none] := by
    refine ⟨rfl, ⟨hl0.1, hl0.2.1, fun q hq => by cases hq⟩, fun k v hk => ?_⟩
    match k, hk with
    | 0, hk => cases hk; exact hl0.2.2 (0, .ref b) (by exact List.mem_cons_self)
    | 1, hk => cases hk
    | 2, hk => cases hk
    | 3, hk => cases hk
    | 4, hk => cases hk
    | 5, hk => cases hk
    | 6, hk => cases hk
    | 7, hk => cases hk
    | 8, hk => cases hk
    | 9, hk => cases hk
    | 10, hk => cases hk
    | k + 11, hk => simp at hk
  have hR : am_Rel dC dI b (fun q => s.heap.size ≤ q) (fun _ => 0) (fun _ => 0) [] [] s s.heap :=
    ⟨⟨hKc, fun k q h => by simp at h⟩, fun k q h => by simp [am_ws] at h, ⟨fun i j p q h => by simp [am_ws] at h, fun k q h => by simp [am_ws] at h⟩, fun k c ty h => by simp at h⟩
  have hF : am_Fr 109 2000 p room_1 s m #[Value.ref b] meth c := ⟨hx, hb, hml, hown, fun w hw => hts w (List.mem_filter.mp hw).1, hr, hlocks, fun z => absurd z (by decide +kernel), Nat.le_of_ble_eq_true rfl, Nat.le_of_ble_eq_true rfl, Nat.le_of_ble_eq_true rfl, Nat.le_of_ble_eq_true rfl, hN⟩
  refine hlaw L xs hL_ p l e room_1 s m _ below meth c dC dI b (fun q => s.heap.size ≤ q) (fun _ => 0) (fun _ => 0) [] s.heap [] ls _ hF hX hbl (Nat.not_le.mpr hbl) (fun _ h => h) va_S.rf hR hL ?_
  intro ins v G1 ad1 cA1 tys1 H1 locs1 ls1 pc1 c1 s1 hc1 hs1 hp hrv hri hd hag hS1 hR1
  subst hp
  rcases hri with ⟨rfl, ht⟩ | ⟨rfl, ht⟩ | ⟨rfl, n, ht⟩ | ⟨rfl, ht⟩
  · refine W.widen hc1 hs1 ?_
    have hS2 : va_S (fun q : Nat => s.heap.size ≤ q) s.heap H1 locs1 := hS1
    refine va_forget (fun q hq => hS2.2.2 q hq) ?_
    exact lw_ret hx hb hr hlocks hd
  · cases ht
  · cases ht
  · cases ht
