theorem am_good {w : Cond} (h : w ∈ am_GT) : w ∈ am_GT ∧ ((w.onTables && w.keeps) = true ∨ ∃ ty, w = .arrayClass ty) := ⟨h, good_of_word (List.mem_filter.mp h).2⟩
theorem am_goodW {j : Nat} (hc : Cond.code (am_y j) (am_by j) (am_ml j) (am_rt j) ∈ am_GT) : GoodIn am_GT (am_W j) := fun w hw => by
  rcases List.mem_cons.mp hw with rfl | h
  · exact am_good hc
  · exact am_good h
section CALL
variable {p : Program} {l : Launch} {e : Env} {R : Room} {s : State} {m : MethodId} {args : Array Value} {below : List Frame} {meth : Method} {c : Code} {H : Heap} {locs : List Loc} {cells slots : Nat} {Q : State → Prop}
variable {pc : Nat} {ls : Array Slot} {rest st0 : List Value} {a : Array Value} {H0 : Heap} {mc ms : Nat}
theorem am_call {dC : Nat → ClassId} {dI : Nat → Nat → Nat} {b j : Nat} {A : Nat → Prop} {ad : Nat → Nat} {G : am_H} {P : Option Value → am_H → Prop}
    (hr : va_Run p l e R s m args below meth c H locs cells slots mc ms (F0 m pc ls st0) rest (am_post dC dI b A ad G j P a) A) (hS : va_S A H0 H locs)
    (kk : ∀ (v : Option Value) (G1 : am_H) (ad1 : Nat → Nat) (cA1 : Nat → ClassId) (tys1 : List (ClassId × FieldType)) (t : State) (H1 : Heap) (locs1 : List Loc), s.vm.Alike t.vm → P v G1 → am_rv (am_rt j) v → am_Ag j ad G ad1 G1 → am_Rel dC dI b A ad1 cA1 tys1 G1 t H1 → va_S A H0 H1 locs1 → W p l e R s m args below meth c H1 locs1 (cells + mc) (slots + ms) Q (F0 m (pc + 3) ls ((v.map (am_cv ad1 b)).toList ++ rest))) :
    W p l e R s m args below meth c H locs cells slots Q (F0 m pc ls st0) := by
  intro T hT X
  obtain ⟨v, st₀, t, T', L, h0, X', hL, e1, e2, ⟨⟨v1, G1, ad1, cA1, tys1, hv, hp, hrv, hag, hrel⟩, hz, hk⟩, st⟩ := hr T hT X
  cases hv
  rw [h0] at hz hk
  obtain ⟨t2, a1, b1⟩ := kk v1 G1 ad1 cA1 tys1 t T'.heap (locs ++ L) (by rw [← e2]; exact X'.warmed.alike) hp hrv hag (by rw [e1]; exact hrel)
    ⟨Nat.le_trans hS.1 (by rw [e1]; exact hz), fun q h1 h2 => by rw [e1, hk q (Nat.lt_of_lt_of_le h1 hS.1) h2]; exact hS.2.1 q h1 h2, fun q hq => by
      rcases List.mem_append.mp hq with h | h
      · exact hS.2.2 q h
      · exact hL q h⟩ T' rfl X'
  exact ⟨t2, st t2 a1, b1⟩
end CALL
theorem am_blind {X : Nat × (Nat → Int32)} {dC : Nat → ClassId} {dI : Nat → Nat → Nat} {b : Nat} {A : Nat → Prop} {ad : Nat → Nat} {cA : Nat → ClassId} {tys : List (ClassId × FieldType)} {G : am_H} {as : List Value} : FrameBlind (am_pre X dC dI b A ad cA tys G as) := by
  intro a U g mk ⟨h1, h2, h3, h4, h5, h6⟩
  exact ⟨h1, am_Rel.mv (u := U) (U := U.calling g mk a) (Vm.Alike.refl U.vm) h2, va_X.moved (u := U) (U := U.calling g mk a) (Vm.Alike.refl U.vm) h3, h4, am_Nx.sm (u := U) (U := U.calling g mk a) rfl h5, h6⟩
theorem am_preOk {X : Nat × (Nat → Int32)} {dC : Nat → ClassId} {dI : Nat → Nat → Nat} {b : Nat} {A : Nat → Prop} {ad : Nat → Nat} {cA : Nat → ClassId} {tys : List (ClassId × FieldType)} {G : am_H} {as : List Value} {s0 : State} {H : Heap} {locs : List Loc} (hX : va_X b X.1 X.2 s0 s0.heap) (hbl : b < s0.heap.size) (hbA : ¬ A b) (hA : ∀ q, s0.heap.size ≤ q → A q) (hS : va_S A s0.heap H locs) (hR : am_Rel dC dI b A ad cA tys G s0 H) (hN : am_Nx s0) :
    ∀ U : State, U.heap = H → s0.WarmedH U.vm → am_pre X dC dI b A ad cA tys G as (as.map (am_cv ad b)).toArray U := by
  intro U hU hW
  refine ⟨rfl, hU ▸ am_Rel.mv hW.alike hR, ?_, by rw [hU]; exact Nat.lt_of_lt_of_le hbl hS.1, am_Nx.wm hW hN, fun q hq => hA q (Nat.le_trans hS.1 (hU ▸ hq))⟩
  rw [hU]
  exact va_X.moved hW.alike (va_X.kept hX (hS.2.1 b hbl hbA))
theorem am_tl {ad : Nat → Nat} {b : Nat} (v : Option Value) (r : List Value) : (v.map (am_cv ad b)).toList ++ r.map (am_cv ad b) = (v.toList ++ r).map (am_cv ad b) := by cases v <;> rfl
section SND
variable {X : Nat × (Nat → Int32)} {D i pc nx aa bb xx : Nat} {v : Int32} {w : Int64} {L : List (Option Value)} {st : List Value} {G : am_H} {c s : Nat} {P : Option Value → am_H → Prop}
theorem am_addT {tys : List (ClassId × FieldType)} {cA : Nat → ClassId} {ca : ClassId} {ty1 : List FieldType} {cl : am_C} (hT : ∀ (k : Nat) (c : am_C) (ty : FieldType), G[k]? = some c → am_ty c = some ty → ∃ t0 : Nat, tys[t0]? = some (cA k, ty)) (h : ∀ ty, am_ty cl = some ty → ty1 = [ty]) :
    ∀ (k : Nat) (c : am_C) (ty : FieldType), (G ++ [cl])[k]? = some c → am_ty c = some ty → ∃ t0 : Nat, (tys ++ ty1.map (fun t => (ca, t)))[t0]? = some ((fun k => if k = G.length then ca else cA k) k, ty) := by
  intro k c0 ty hk hty
  by_cases z : k < G.length
  · rw [List.getElem?_append_left z] at hk
    obtain ⟨t0, ht⟩ := hT k c0 ty hk hty
    refine ⟨t0, ?_⟩
    show _ = some (if k = G.length then ca else cA k, ty)
    rw [if_neg (by omega), List.getElem?_append_left (List.getElem?_eq_some_iff.mp ht).1]
    exact ht
  · rw [List.getElem?_append_right (by omega)] at hk
    have hk0 : k = G.length := by
      have := (List.getElem?_eq_some_iff.mp hk).1
      simp at this
      omega
    subst hk0
    simp only [Nat.sub_self, List.getElem?_cons_zero, Option.some.injEq] at hk
    subst hk
    refine ⟨tys.length, ?_⟩
    rw [List.getElem?_append_right (Nat.le_refl _), h ty hty]
    simp
theorem am_fd (n a : Nat) (ha : a < 5) : ∀ v ∈ am_df a, am_fv n v := by
  match a, ha with
  | 0, _ => exact List.forall_mem_cons.mpr ⟨trivial, List.forall_mem_cons.mpr ⟨trivial, List.forall_mem_cons.mpr ⟨trivial, List.forall_mem_cons.mpr ⟨trivial, List.forall_mem_cons.mpr ⟨trivial, List.forall_mem_cons.mpr ⟨trivial, fun _ h => absurd h List.not_mem_nil⟩⟩⟩⟩⟩⟩
  | 1, _ => exact List.forall_mem_cons.mpr ⟨trivial, List.forall_mem_cons.mpr ⟨trivial, fun _ h => absurd h List.not_mem_nil⟩⟩
  | 2, _ => exact List.forall_mem_cons.mpr ⟨trivial, List.forall_mem_cons.mpr ⟨trivial, List.forall_mem_cons.mpr ⟨trivial, List.forall_mem_cons.mpr ⟨trivial, fun _ h => absurd h List.not_mem_nil⟩⟩⟩⟩
  | 3, _ => exact List.forall_mem_cons.mpr ⟨trivial, List.forall_mem_cons.mpr ⟨trivial, List.forall_mem_cons.mpr ⟨trivial, fun _ h => absurd h List.not_mem_nil⟩⟩⟩
  | 4, _ => exact List.forall_mem_cons.mpr ⟨trivial, List.forall_mem_cons.mpr ⟨trivial, List.forall_mem_cons.mpr ⟨trivial, List.forall_mem_cons.mpr ⟨trivial, List.forall_mem_cons.mpr ⟨trivial, List.forall_mem_cons.mpr ⟨trivial, List.forall_mem_cons.mpr ⟨trivial, List.forall_mem_cons.mpr ⟨trivial, fun _ h => absurd h List.not_mem_nil⟩⟩⟩⟩⟩⟩⟩⟩
  | k + 5, h => omega

theorem am_z60 (hca : aa < 5) (h1 : Cond.classLink (am_mo i) xx (am_cn aa) ∈ am_GT) (h2 : Cond.instantiable (am_cn aa) (am_N aa) ∈ am_GT) (h3 : Cond.initialized (am_cn aa) ∈ am_GT) (hd : decode (am_by i) pc = .ok (.new xx, 3)) (hn : nx = pc + 3) (h0 : am_step X D i pc 60 nx aa bb v w L st G c s P (am_go X D i P)) : am_WP X D i pc L st G c s P := by
  intro p l e R s0 m args below meth cd dC dI b A ad cA tys H locs ls Q hF hX hbl hbA hA hS hR hL hfin
  obtain ⟨hx, hb, hml, hown, hts, hrt, hlk, hnm, hDf, hDl, hmc, hms, hN⟩ := id hF
  obtain ⟨hK, hP, hD, hT⟩ := id hR
  subst hn
  obtain ⟨hc1, hs1, ⟨hf1, hf2, hf3⟩, h⟩ := h0
  refine va_new hx hb hts (am_cl_in aa hca) (am_tT aa) (am_cl_ty aa hca) hown (hts _ h1) (hts _ h2) (hts _ h3) hK hP hD hS hA (am_cl_at aa hca) (fs := (am_df aa).map (am_cv ad b)) (fun k hk => by rw [(am_cl_df aa hca k hk).2]; exact (am_cl_df aa hca k hk).1) (Nat.le_trans hc1 hmc) (Nat.le_trans hs1 hms) hd (fun q H1 hP1 hD1 hS1 => ?_)
  have e := am_ws_app (ad := ad) (b := b) (q := q) (cA := cA) (ca := 0) (c := am_o aa (am_df aa)) hf3 (am_fd _ aa hca)
  have h2 := (h _ _ _ _ _ _ _ _ _ _ _ _ _ _ _ _ _ _ _ _ _ hF hX hbl hbA hA hS1 ⟨hK, e ▸ hP1, e ▸ hD1, by simpa using am_addT (ca := 0) (ty1 := []) (cl := am_o aa (am_df aa)) hT (fun ty z => by cases z)⟩ (hL.mv hf1 (fun k hk => am_ext_lt hk)) (hfin.mono ⟨by simp, fun k hk => am_ext_lt hk, fun z => by omega⟩))
  rw [List.map_cons, am_st_s hf2 (ad := ad) (fun k hk => am_ext_lt hk)] at h2
  have e2 : am_cv (am_ext ad G.length q) b (.ref G.length) = .ref q := by show Value.ref _ = _; rw [am_ext_at]
  rw [e2] at h2
  exact h2
theorem am_z61 (hd : (aa = 0 ∧ decode (am_by i) pc = .ok (.newarray .int, 2) ∧ Cond.arrayClass .int ∈ am_GT) ∨ (aa = 1 ∧ decode (am_by i) pc = .ok (.newarray .boolean, 2) ∧ Cond.arrayClass .boolean ∈ am_GT) ∨ (aa = 2 ∧ decode (am_by i) pc = .ok (.newarray .long, 2) ∧ Cond.arrayClass .long ∈ am_GT)) (hn : nx = pc + 2) (h0 : am_step X D i pc 61 nx aa bb v w L st G c s P (am_go X D i P)) : am_WP X D i pc L st G c s P := by
  intro p l e R s0 m args below meth cd dC dI b A ad cA tys H locs ls Q hF hX hbl hbA hA hS hR hL hfin
  obtain ⟨hx, hb, hml, hown, hts, hrt, hlk, hnm, hDf, hDl, hmc, hms, hN⟩ := id hF
  obtain ⟨hK, hP, hD, hT⟩ := id hR
  subst hn
  obtain ⟨n, r, rfl, hn0, hnb, hc1, hs1, ⟨hf1, hf2, hf3⟩, h⟩ := am_I1_s h0
  rcases hd with ⟨rfl, hd, ha⟩ | ⟨rfl, hd, ha⟩ | ⟨rfl, hd, ha⟩
  · refine va_newa (atype := .int) (ty := .int) (a0 := (n.toNatClampNeg, .inl (fun _ => 0))) hx hb (hts _ ha) rfl hK hP hD hS hA (fun _ => rfl) hn0 rfl (show n.toNatClampNeg * 4 ≤ _ by omega) (Nat.le_trans hc1 hmc) (Nat.le_trans hs1 hms) hd (fun q ca H1 hK1 hP1 hD1 hS1 => ?_)
    have e := am_ws_app (ad := ad) (b := b) (q := q) (cA := cA) (ca := ca) (c := am_ai 0 n.toNatClampNeg (fun _ => 0)) hf3 (trivial)
    have h2 := (h _ _ _ _ _ _ _ _ _ _ _ _ _ _ _ _ _ _ _ _ _ hF hX hbl hbA hA hS1 ⟨hK1, e ▸ hP1, e ▸ hD1, am_addT (ca := ca) (ty1 := [.int]) (cl := am_ai 0 n.toNatClampNeg (fun _ => 0)) hT (fun ty z => by cases z; rfl)⟩ (hL.mv hf1 (fun k hk => am_ext_lt hk)) (hfin.mono ⟨by simp, fun k hk => am_ext_lt hk, fun z => by omega⟩))
    rw [List.map_cons, am_st_s hf2 (ad := ad) (fun k hk => am_ext_lt hk)] at h2
    have e2 : am_cv (am_ext ad G.length q) b (.ref G.length) = .ref q := by show Value.ref _ = _; rw [am_ext_at]
    rw [e2] at h2
    exact h2
  · refine va_newa (atype := .boolean) (ty := .boolean) (a0 := (n.toNatClampNeg, .inl (fun _ => 0))) hx hb (hts _ ha) rfl hK hP hD hS hA (fun _ => rfl) hn0 rfl (show n.toNatClampNeg * 1 ≤ _ by omega) (Nat.le_trans hc1 hmc) (Nat.le_trans hs1 hms) hd (fun q ca H1 hK1 hP1 hD1 hS1 => ?_)
    have e := am_ws_app (ad := ad) (b := b) (q := q) (cA := cA) (ca := ca) (c := am_ai 1 n.toNatClampNeg (fun _ => 0)) hf3 (trivial)
    have h2 := (h _ _ _ _ _ _ _ _ _ _ _ _ _ _ _ _ _ _ _ _ _ hF hX hbl hbA hA hS1 ⟨hK1, e ▸ hP1, e ▸ hD1, am_addT (ca := ca) (ty1 := [.boolean]) (cl := am_ai 1 n.toNatClampNeg (fun _ => 0)) hT (fun ty z => by cases z; rfl)⟩ (hL.mv hf1 (fun k hk => am_ext_lt hk)) (hfin.mono ⟨by simp, fun k hk => am_ext_lt hk, fun z => by omega⟩))
    rw [List.map_cons, am_st_s hf2 (ad := ad) (fun k hk => am_ext_lt hk)] at h2
    have e2 : am_cv (am_ext ad G.length q) b (.ref G.length) = .ref q := by show Value.ref _ = _; rw [am_ext_at]
    rw [e2] at h2
    exact h2
  · refine va_newa (atype := .long) (ty := .long) (a0 := (n.toNatClampNeg, .inr (.inl (fun _ => 0)))) hx hb (hts _ ha) rfl hK hP hD hS hA (fun _ => rfl) hn0 rfl (show n.toNatClampNeg * 8 ≤ _ by omega) (Nat.le_trans hc1 hmc) (Nat.le_trans hs1 hms) hd (fun q ca H1 hK1 hP1 hD1 hS1 => ?_)
    have e := am_ws_app (ad := ad) (b := b) (q := q) (cA := cA) (ca := ca) (c := am_al n.toNatClampNeg (fun _ => 0)) hf3 (trivial)
    have h2 := (h _ _ _ _ _ _ _ _ _ _ _ _ _ _ _ _ _ _ _ _ _ hF hX hbl hbA hA hS1 ⟨hK1, e ▸ hP1, e ▸ hD1, am_addT (ca := ca) (ty1 := [.long]) (cl := am_al n.toNatClampNeg (fun _ => 0)) hT (fun ty z => by cases z; rfl)⟩ (hL.mv hf1 (fun k hk => am_ext_lt hk)) (hfin.mono ⟨by simp, fun k hk => am_ext_lt hk, fun z => by omega⟩))
    rw [List.map_cons, am_st_s hf2 (ad := ad) (fun k hk => am_ext_lt hk)] at h2
    have e2 : am_cv (am_ext ad G.length q) b (.ref G.length) = .ref q := by show Value.ref _ = _; rw [am_ext_at]
    rw [e2] at h2
    exact h2
theorem am_z62 (h1 : Cond.classLink (am_mo i) xx RX2 ∈ am_GT) (hd : decode (am_by i) pc = .ok (.anewarray xx, 3)) (hn : nx = pc + 3) (h0 : am_step X D i pc 62 nx aa bb v w L st G c s P (am_go X D i P)) : am_WP X D i pc L st G c s P := by
  intro p l e R s0 m args below meth cd dC dI b A ad cA tys H locs ls Q hF hX hbl hbA hA hS hR hL hfin
  obtain ⟨hx, hb, hml, hown, hts, hrt, hlk, hnm, hDf, hDl, hmc, hms, hN⟩ := id hF
  obtain ⟨hK, hP, hD, hT⟩ := id hR
  subst hn
  obtain ⟨n, r, rfl, hn0, hnb, hc1, hs1, ⟨hf1, hf2, hf3⟩, h⟩ := am_I1_s h0
  · refine va_newq hx hb hown (hts _ h1) hN.2 hK hP hD hS hA hn0 rfl (by omega) (Nat.le_trans hc1 hmc) (Nat.le_trans hs1 hms) hd (fun q ca H1 hK1 hP1 hD1 hS1 => ?_)
    have e := am_ws_app (ad := ad) (b := b) (q := q) (cA := cA) (ca := ca) (c := am_ar n.toNatClampNeg (fun _ => none)) hf3 (fun _ _ z => by cases z)
    have h2 := (h _ _ _ _ _ _ _ _ _ _ _ _ _ _ _ _ _ _ _ _ _ hF hX hbl hbA hA hS1 ⟨hK1, e ▸ hP1, e ▸ hD1, am_addT (ca := ca) (ty1 := [.object RX2]) (cl := am_ar n.toNatClampNeg (fun _ => none)) hT (fun ty z => by cases z; rfl)⟩ (hL.mv hf1 (fun k hk => am_ext_lt hk)) (hfin.mono ⟨by simp, fun k hk => am_ext_lt hk, fun z => by omega⟩))
    rw [List.map_cons, am_st_s hf2 (ad := ad) (fun k hk => am_ext_lt hk)] at h2
    have e2 : am_cv (am_ext ad G.length q) b (.ref G.length) = .ref q := by show Value.ref _ = _; rw [am_ext_at]
    rw [e2] at h2
    exact h2
theorem am_z69 (h1 : Cond.methodLink (am_mo i) xx objectInit ∈ am_GT) (h2 : Cond.instanceMethod objectInit ∈ am_GT) (h3 : Cond.code objectInit ⟨#[0xb1]⟩ 1 none ∈ am_GT) (hd : decode (am_by i) pc = .ok (.invokespecial xx, 3)) (hn : nx = pc + 3) (h0 : am_step X D i pc 69 nx aa bb v w L st G c s P (am_go X D i P)) : am_WP X D i pc L st G c s P := by
  intro p l e R s0 m args below meth cd dC dI b A ad cA tys H locs ls Q hF hX hbl hbA hA hS hR hL hfin
  obtain ⟨hx, hb, hml, hown, hts, hrt, hlk, hnm, hDf, hDl, hmc, hms, hN⟩ := id hF
  obtain ⟨hK, hP, hD, hT⟩ := id hR
  subst hn
  obtain ⟨k, r, rfl, hD1, hcat, h⟩ := am_R1_s h0
  exact W.objInit hx hb hown (hts _ h1) (hts _ h2) (hts _ h3) rfl (hL.2.1.1.trans hml.symm) rfl hd (Nat.le_trans hD1 hDf) (by rw [am_catm]; show 2 * 0 + _ + 12 ≤ _; omega) (h _ _ _ _ _ _ _ _ _ _ _ _ _ _ _ _ _ _ _ _ _ hF hX hbl hbA hA hS hR hL hfin)
theorem am_z65 (hpd : (parseMethodDescriptor (am_y aa).desc).map (fun d => d.parameters.length) = some bb) (hcn : (am_y aa).cls ≠ "java/lang/invoke/MethodHandle" ∧ (am_y aa).cls ≠ "java/lang/invoke/VarHandle") (hcd : Cond.code (am_y aa) (am_by aa) (am_ml aa) (am_rt aa) ∈ am_GT) (hml2 : am_ml aa ≤ 21) (hini : Cond.initialized (am_y aa).cls ∈ am_GT) (hz : am_mc aa = 0 ∧ am_ms aa = 0) (hlk2 : Cond.methodLink (am_mo i) xx (am_y aa) ∈ am_GT) (him : Cond.instanceMethod (am_y aa) ∈ am_GT) (hse : Cond.selects (am_y aa).cls (am_y aa) (am_y aa) ∈ am_GT) (hci : am_ci aa < 5 ∧ (am_y aa).cls = am_cn (am_ci aa)) (hcs : c ≤ am_mc i ∧ s ≤ am_ms i) (hd : decode (am_by i) pc = .ok (.invokevirtual xx, 3)) (hn : nx = pc + 3) (h0 : am_step X D i pc 65 nx aa bb v w L st G c s P (am_go X D i P)) : am_WP X D i pc L st G c s P := by
  intro p l e R s0 m args below meth cd dC dI b A ad cA tys H locs ls Q hF hX hbl hbA hA hS hR hL hfin
  obtain ⟨hx, hb, hml, hown, hts, hrt, hlk, hnm, hDf, hDl, hmc, hms, hN⟩ := id hF
  obtain ⟨hK, hP, hD, hT⟩ := id hR
  subst hn
  obtain ⟨as, r1, ha, h1⟩ := am_A_s h0
  obtain ⟨k, r, rfl, hob, hcat, D', hDD, h⟩ := am_R1_s h1
  obtain ⟨pre, rfl, has, hpl⟩ := am_pop_s _ _ _ _ _ ha
  rw [List.append_nil] at has
  obtain ⟨fs, hob⟩ := Option.isSome_iff_exists.mp hob
  have hrv := va_recv hK hP (am_cl_at (am_ci aa) hci.1) (am_ws_get (am_ob_s hob))
  refine am_call (va_runV (As := as.map (am_cv ad b)) (rest := r.map (am_cv ad b)) (C := (am_y aa).cls) ⟨hx, hb, hml, hown, hts⟩ (h l dC dI b A ad cA tys hbA) ⟨callB_of bb hts (am_goodW hcd) rfl rfl rfl (hts _ hini) (hts _ hlk2) ⟨hcn.1, hcn.2, hpd⟩ ⟨Nat.le_trans hDD hDf, by show 8 + (am_ml aa + 11) + 40 * D' ≤ _; omega⟩, hts _ him, hts _ hse⟩ ⟨am_blind, by rw [hci.2]; exact hrv, am_preOk (as := .ref k :: as) hX hbl hbA hA hS hR hN⟩ rfl (by rw [List.length_map, has, List.length_reverse, hpl]) hL.2.1.1 (by show List.map _ _ = _; rw [List.map_append, has, List.map_reverse, List.reverse_reverse]; rfl) (by rw [am_catm]; show 2 * 0 + _ ≤ 8; omega) hd ⟨by rw [hz.1]; omega, by rw [hz.2]; omega⟩) hS (fun v1 G1 ad1 cA1 tys1 t H1 locs1 ha1 hp1 hrv1 hag hR1 hS1 => ?_)
  have e1 : ad1 = ad := hag.2.2 hz.1
  subst e1
  rw [hz.1, hz.2, Nat.add_zero, Nat.add_zero, am_tl]
  exact (hp1 _ _ _ _ _ _ _ _ _ _ _ _ _ _ _ _ _ _ _ _ _ hF hX hbl hbA hA hS1 (am_Rel.mv ha1.symm hR1) hL (hfin.mono ⟨hag.1, fun _ _ => rfl, fun _ => rfl⟩))
theorem am_z66 (hpd : (parseMethodDescriptor (am_y aa).desc).map (fun d => d.parameters.length) = some bb) (hcn : (am_y aa).cls ≠ "java/lang/invoke/MethodHandle" ∧ (am_y aa).cls ≠ "java/lang/invoke/VarHandle") (hcd : Cond.code (am_y aa) (am_by aa) (am_ml aa) (am_rt aa) ∈ am_GT) (hml2 : am_ml aa ≤ 21) (hini : Cond.initialized (am_y aa).cls ∈ am_GT) (hz : am_mc aa = 0 ∧ am_ms aa = 0) (hlk2 : Cond.methodLink (am_mo i) xx (am_y aa) ∈ am_GT) (hst : Cond.static (am_y aa) ∈ am_GT) (hcs : c ≤ am_mc i ∧ s ≤ am_ms i) (hd : decode (am_by i) pc = .ok (.invokestatic xx, 3)) (hn : nx = pc + 3) (h0 : am_step X D i pc 66 nx aa bb v w L st G c s P (am_go X D i P)) : am_WP X D i pc L st G c s P := by
  intro p l e R s0 m args below meth cd dC dI b A ad cA tys H locs ls Q hF hX hbl hbA hA hS hR hL hfin
  obtain ⟨hx, hb, hml, hown, hts, hrt, hlk, hnm, hDf, hDl, hmc, hms, hN⟩ := id hF
  obtain ⟨hK, hP, hD, hT⟩ := id hR
  subst hn
  obtain ⟨as, r, ha, hcat, D', hDD, h⟩ := am_A_s h0
  obtain ⟨pre, rfl, has, hpl⟩ := am_pop_s _ _ _ _ _ ha
  rw [List.append_nil] at has
  refine am_call (va_runS (As := as.map (am_cv ad b)) (rest := r.map (am_cv ad b)) ⟨hx, hb, hml, hown, hts⟩ (h l dC dI b A ad cA tys hbA) ⟨callB_of bb hts (am_goodW hcd) rfl rfl rfl (hts _ hini) (hts _ hlk2) ⟨hcn.1, hcn.2, hpd⟩ ⟨Nat.le_trans hDD hDf, by show 8 + (am_ml aa + 11) + 40 * D' ≤ _; omega⟩, hts _ hst⟩ ⟨am_blind, am_preOk (as := as) hX hbl hbA hA hS hR hN⟩ rfl (by rw [List.length_map, has, List.length_reverse, hpl]) hL.2.1.1 (by show List.map _ _ = _; rw [List.map_append, has, List.map_reverse, List.reverse_reverse]) (by rw [am_catm]; show 2 * 0 + _ ≤ 8; omega) hd ⟨by rw [hz.1]; omega, by rw [hz.2]; omega⟩) hS (fun v1 G1 ad1 cA1 tys1 t H1 locs1 ha1 hp1 hrv1 hag hR1 hS1 => ?_)
  have e1 : ad1 = ad := hag.2.2 hz.1
  subst e1
  rw [hz.1, hz.2, Nat.add_zero, Nat.add_zero, am_tl]
  exact (hp1 _ _ _ _ _ _ _ _ _ _ _ _ _ _ _ _ _ _ _ _ _ hF hX hbl hbA hA hS1 (am_Rel.mv ha1.symm hR1) hL (hfin.mono ⟨hag.1, fun _ _ => rfl, fun _ => rfl⟩))
theorem am_z67 (hpd : (parseMethodDescriptor (am_y aa).desc).map (fun d => d.parameters.length) = some bb) (hcn : (am_y aa).cls ≠ "java/lang/invoke/MethodHandle" ∧ (am_y aa).cls ≠ "java/lang/invoke/VarHandle") (hcd : Cond.code (am_y aa) (am_by aa) (am_ml aa) (am_rt aa) ∈ am_GT) (hml2 : am_ml aa ≤ 21) (hini : Cond.initialized (am_y aa).cls ∈ am_GT) (hz : am_mc aa = 0 ∧ am_ms aa = 0) (hnl : (am_mo i, xx, am_y aa, RX4) ∈ am_nl) (hst : Cond.static (am_y aa) ∈ am_GT) (hcs : c ≤ am_mc i ∧ s ≤ am_ms i) (hd : decode (am_by i) pc = .ok (.invokestatic xx, 3)) (hn : nx = pc + 3) (h0 : am_step X D i pc 67 nx aa bb v w L st G c s P (am_go X D i P)) : am_WP X D i pc L st G c s P := by
  intro p l e R s0 m args below meth cd dC dI b A ad cA tys H locs ls Q hF hX hbl hbA hA hS hR hL hfin
  obtain ⟨hx, hb, hml, hown, hts, hrt, hlk, hnm, hDf, hDl, hmc, hms, hN⟩ := id hF
  obtain ⟨hK, hP, hD, hT⟩ := id hR
  subst hn
  obtain ⟨as, r, ha, hcat, D', hDD, h⟩ := am_A_s h0
  obtain ⟨pre, rfl, has, hpl⟩ := am_pop_s _ _ _ _ _ ha
  rw [List.append_nil] at has
  have hnl2 : va_Nw (.methodLinkNest (am_mo i) xx (am_y aa) RX4) s0 := hN.1 (am_mo i, xx, am_y aa, RX4) hnl
  have hcn3 : va_CN R s0 args (am_mo i) xx (am_y aa) RX4 (am_by aa) (am_ml aa) (am_rt aa) (am_W aa) (am_rm D' aa) (am_mc aa) (am_ms aa) bb := va_cnB bb hts (am_goodW hcd) rfl rfl rfl hnl2 (hts _ hini) ⟨hcn.1, hcn.2, hpd⟩ ⟨Nat.le_trans hDD hDf, by show 8 + (am_ml aa + 11) + 40 * D' ≤ _; omega⟩
  refine am_call (va_runSN (As := as.map (am_cv ad b)) (rest := r.map (am_cv ad b)) ⟨hx, hb, hml, hown, hts⟩ (h l dC dI b A ad cA tys hbA) ⟨hcn3, hts _ hst, trivial⟩ ⟨am_blind, am_preOk (as := as) hX hbl hbA hA hS hR hN⟩ rfl (by rw [List.length_map, has, List.length_reverse, hpl]) hL.2.1.1 (by show List.map _ _ = _; rw [List.map_append, has, List.map_reverse, List.reverse_reverse]) (by rw [am_catm]; show 2 * 0 + _ ≤ 8; omega) hd ⟨by rw [hz.1]; omega, by rw [hz.2]; omega⟩) hS (fun v1 G1 ad1 cA1 tys1 t H1 locs1 ha1 hp1 hrv1 hag hR1 hS1 => ?_)
  have e1 : ad1 = ad := hag.2.2 hz.1
  subst e1
  rw [hz.1, hz.2, Nat.add_zero, Nat.add_zero, am_tl]
  exact (hp1 _ _ _ _ _ _ _ _ _ _ _ _ _ _ _ _ _ _ _ _ _ hF hX hbl hbA hA hS1 (am_Rel.mv ha1.symm hR1) hL (hfin.mono ⟨hag.1, fun _ _ => rfl, fun _ => rfl⟩))
theorem am_z68 (hpd : (parseMethodDescriptor (am_y aa).desc).map (fun d => d.parameters.length) = some bb) (hcn : (am_y aa).cls ≠ "java/lang/invoke/MethodHandle" ∧ (am_y aa).cls ≠ "java/lang/invoke/VarHandle") (hcd : Cond.code (am_y aa) (am_by aa) (am_ml aa) (am_rt aa) ∈ am_GT) (hml2 : am_ml aa ≤ 21) (hini : Cond.initialized (am_y aa).cls ∈ am_GT) (hnv : am_rt aa = none) (hyi : (am_y aa).name = "<init>") (hlk2 : Cond.methodLink (am_mo i) xx (am_y aa) ∈ am_GT) (him : Cond.instanceMethod (am_y aa) ∈ am_GT) (hd : decode (am_by i) pc = .ok (.invokespecial xx, 3)) (hn : nx = pc + 3) (h0 : am_step X D i pc 68 nx aa bb v w L st G c s P (am_go X D i P)) : am_WP X D i pc L st G c s P := by
  intro p l e R s0 m args below meth cd dC dI b A ad cA tys H locs ls Q hF hX hbl hbA hA hS hR hL hfin
  obtain ⟨hx, hb, hml, hown, hts, hrt, hlk, hnm, hDf, hDl, hmc, hms, hN⟩ := id hF
  obtain ⟨hK, hP, hD, hT⟩ := id hR
  subst hn
  obtain ⟨as, r1, ha, h1⟩ := am_A_s h0
  obtain ⟨k, r, rfl, hcat, hc1, hs1, ⟨hf1, hf2, hf3⟩, D', hDD, h⟩ := am_R1_s h1
  obtain ⟨pre, rfl, has, hpl⟩ := am_pop_s _ _ _ _ _ ha
  rw [List.append_nil] at has
  have hcb : CallB R s0 args (am_mo i) xx (am_y aa) (am_by aa) (am_ml aa) none (am_W aa) (am_rm D' aa) (am_mc aa) (am_ms aa) bb := hnv ▸ (callB_of bb hts (am_goodW hcd) rfl rfl rfl (hts _ hini) (hts _ hlk2) ⟨hcn.1, hcn.2, hpd⟩ ⟨Nat.le_trans hDD hDf, by show 8 + (am_ml aa + 11) + 40 * D' ≤ _; omega⟩)
  refine am_call (va_runI (As := as.map (am_cv ad b)) (rest := r.map (am_cv ad b)) ⟨hx, hb, hml, hown, hts⟩ (h l dC dI b A ad cA tys hbA) ⟨hcb, hyi, hts _ him⟩ ⟨am_blind, am_preOk (as := .ref k :: as) hX hbl hbA hA hS hR hN⟩ rfl (by rw [List.length_map, has, List.length_reverse, hpl]) hL.2.1.1 (by show List.map _ _ = _; rw [List.map_append, has, List.map_reverse, List.reverse_reverse]; rfl) (by rw [am_catm]; show 2 * 0 + _ ≤ 8; omega) hd ⟨by omega, by omega⟩) hS (fun v1 G1 ad1 cA1 tys1 t H1 locs1 ha1 hp1 hrv1 hag hR1 hS1 => ?_)
  rw [← am_st_s hf2 hag.2.1, am_tl]
  exact (hp1 _ _ _ _ _ _ _ _ _ _ _ _ _ _ _ _ _ _ _ _ _ hF hX hbl hbA hA hS1 (am_Rel.mv ha1.symm hR1) (hL.mv hf1 hag.2.1) (hfin.mono ⟨hag.1, hag.2.1, fun z => hag.2.2 (by omega)⟩))
theorem am_z70 (hr0 : (am_rt i = some .int ∧ ¬ aa = 1) ∨ (am_rt i = some .boolean ∧ aa = 1)) (hd : decode (am_by i) pc = .ok (.ireturn, 1)) (h0 : am_step X D i pc 70 nx aa bb v w L st G c s P (am_go X D i P)) : am_WP X D i pc L st G c s P := by
  intro p l e R s0 m args below meth cd dC dI b A ad cA tys H locs ls Q hF hX hbl hbA hA hS hR hL hfin
  obtain ⟨hx, hb, hml, hown, hts, hrt, hlk, hnm, hDf, hDl, hmc, hms, hN⟩ := id hF
  obtain ⟨hK, hP, hD, hT⟩ := id hR
  obtain ⟨x, r, rfl, h⟩ := am_I1_s h0
  obtain ⟨rfl, h1, h2, h3, h4⟩ := am_mt_s h0
  refine hfin .ireturn (some (.int x)) G ad cA tys H locs ls pc c s h2 h3 h4 ?_ ?_ hd am_Ag.rf hS hR
  · rcases hr0 with ⟨a, -⟩ | ⟨a, z⟩ <;> rw [a]
    · trivial
    · exact h1 z
  · exact Or.inl ⟨rfl, hr0.elim (fun a => Or.inl a.1) (fun a => Or.inr a.1)⟩
theorem am_z71 (hr0 : am_rt i = some .long) (hd : decode (am_by i) pc = .ok (.lreturn, 1)) (h0 : am_step X D i pc 71 nx aa bb v w L st G c s P (am_go X D i P)) : am_WP X D i pc L st G c s P := by
  intro p l e R s0 m args below meth cd dC dI b A ad cA tys H locs ls Q hF hX hbl hbA hA hS hR hL hfin
  obtain ⟨hx, hb, hml, hown, hts, hrt, hlk, hnm, hDf, hDl, hmc, hms, hN⟩ := id hF
  obtain ⟨hK, hP, hD, hT⟩ := id hR
  obtain ⟨x, r, rfl, h⟩ := am_J1_s h0
  obtain ⟨rfl, h2, h3, h4⟩ := am_mt_s h0
  exact hfin .lreturn (some (.long x)) G ad cA tys H locs ls pc c s h2 h3 h4 (by rw [hr0]; trivial) (Or.inr (Or.inl ⟨rfl, hr0⟩)) hd am_Ag.rf hS hR
theorem am_z72 (hr0 : ∃ n, am_rt i = some (.object n)) (hd : decode (am_by i) pc = .ok (.areturn, 1)) (h0 : am_step X D i pc 72 nx aa bb v w L st G c s P (am_go X D i P)) : am_WP X D i pc L st G c s P := by
  intro p l e R s0 m args below meth cd dC dI b A ad cA tys H locs ls Q hF hX hbl hbA hA hS hR hL hfin
  obtain ⟨hx, hb, hml, hown, hts, hrt, hlk, hnm, hDf, hDl, hmc, hms, hN⟩ := id hF
  obtain ⟨hK, hP, hD, hT⟩ := id hR
  have h0 : am_AR st (fun x r => am_mt r (c ≤ am_mc i ∧ s ≤ am_ms i ∧ P (some x) G)) := h0
  obtain ⟨x, r, rfl, h, hx2⟩ := am_AR_s h0
  obtain ⟨rfl, h2, h3, h4⟩ := am_mt_s h
  refine hfin .areturn (some x) G ad cA tys H locs ls pc c s h2 h3 h4 ?_ (Or.inr (Or.inr (Or.inl ⟨rfl, hr0⟩))) hd am_Ag.rf hS hR
  obtain ⟨n, hr0⟩ := hr0
  rw [hr0]
  rcases hx2 with ⟨k, rfl⟩ | rfl <;> trivial
theorem am_z73 (hr0 : am_rt i = none) (hd : decode (am_by i) pc = .ok (.return_, 1)) (h0 : am_step X D i pc 73 nx aa bb v w L st G c s P (am_go X D i P)) : am_WP X D i pc L st G c s P := by
  intro p l e R s0 m args below meth cd dC dI b A ad cA tys H locs ls Q hF hX hbl hbA hA hS hR hL hfin
  obtain ⟨hx, hb, hml, hown, hts, hrt, hlk, hnm, hDf, hDl, hmc, hms, hN⟩ := id hF
  obtain ⟨hK, hP, hD, hT⟩ := id hR
  obtain ⟨rfl, h2, h3, h4⟩ := am_mt_s h0
  exact hfin .return_ none G ad cA tys H locs ls pc c s h2 h3 h4 (by rw [hr0]; trivial) (Or.inr (Or.inr (Or.inr ⟨rfl, hr0⟩))) hd am_Ag.rf hS hR
theorem am_sw_s {x : Int32} {d : Nat} {K : Nat → Prop} : ∀ (tg : List Nat) (lo : Int32), 0 ≤ lo.toInt → lo.toInt + tg.length < 2 ^ 31 → am_sw x lo d K tg →
    ((x.toInt < lo.toInt ∨ lo.toInt + tg.length ≤ x.toInt) ∧ K d) ∨ ∃ (k t : Nat), tg[k]? = some t ∧ x.toInt = lo.toInt + k ∧ K t
  | [], lo, _, _, h => Or.inl ⟨by simp; omega, h⟩
  | t :: r, lo, h0, h1, h => by
    simp only [am_sw] at h
    simp only [List.length_cons] at h1
    split at h
    · next e => exact Or.inr ⟨0, t, rfl, by rw [e]; simp, h⟩
    · next e =>
      have e1 : (lo + 1).toInt = lo.toInt + 1 := by
        rw [Int32.toInt_add]
        have : (1 : Int32).toInt = 1 := rfl
        rw [this]
        apply Int.bmod_eq_of_le <;> omega
      rcases am_sw_s r (lo + 1) (by omega) (by rw [e1]; omega) h with ⟨h2, h3⟩ | ⟨k, t2, h2, h3, h4⟩
      · refine Or.inl ⟨?_, h3⟩
        rw [e1] at h2
        have : ¬ x.toInt = lo.toInt := fun q => e (Int32.toInt_inj.mp q)
        simp only [List.length_cons]
        omega
      · exact Or.inr ⟨k + 1, t2, by simpa using h2, by rw [h3, e1]; omega, h4⟩
theorem am_z74 (hd : ∃ (d lo hi : Int) (offs : Array Int) (len : Nat), decode (am_by i) pc = .ok (.tableswitch d lo hi offs, len) ∧ (pc : Int) + d = (aa : Int) ∧ lo = v.toInt ∧ 0 ≤ lo ∧ hi + 1 = lo + (am_swt i pc).length ∧ hi < 1000 ∧ ∀ k, k < (am_swt i pc).length → ∃ off, offs[k]? = some off ∧ ∀ t, (am_swt i pc)[k]? = some t → (pc : Int) + off = (t : Int)) (h0 : am_step X D i pc 74 nx aa bb v w L st G c s P (am_go X D i P)) : am_WP X D i pc L st G c s P := by
  intro p l e R s0 m args below meth cd dC dI b A ad cA tys H locs ls Q hF hX hbl hbA hA hS hR hL hfin
  obtain ⟨hx, hb, hml, hown, hts, hrt, hlk, hnm, hDf, hDl, hmc, hms, hN⟩ := id hF
  obtain ⟨hK, hP, hD, hT⟩ := id hR
  obtain ⟨x, r, rfl, h⟩ := am_I1_s h0
  obtain ⟨d, lo, hi, offs, len, hd, h1, rfl, h3, h4, h5, h6⟩ := hd
  rcases am_sw_s _ _ h3 (by omega) h with ⟨h7, h⟩ | ⟨k, t, h7, h8, h⟩
  · exact lv_tableOut hx hb hd (by omega) h1 (h _ _ _ _ _ _ _ _ _ _ _ _ _ _ _ _ _ _ _ _ _ hF hX hbl hbA hA hS hR hL hfin)
  · have hk : k < (am_swt i pc).length := (List.getElem?_eq_some_iff.mp h7).1
    obtain ⟨off, h9, h10⟩ := h6 k hk
    exact lv_tableIn hx hb hd (by omega) (by omega) (by rw [h8, show (v.toInt + (k : Int) - v.toInt).toNat = k by omega]; exact h9) (h10 t h7) (h _ _ _ _ _ _ _ _ _ _ _ _ _ _ _ _ _ _ _ _ _ hF hX hbl hbA hA hS hR hL hfin)
theorem am_z75 (h1 : Cond.methodLink (am_mo i) xx Lib.Math.max.name ∈ am_GT) (h2 : Cond.static Lib.Math.max.name ∈ am_GT) (h3 : Cond.initialized "java/lang/Math" ∈ am_GT) (h4 : Cond.code Lib.Math.max.name Lib.Math.max.code 2 (some .int) ∈ am_GT) (hcs : c ≤ am_mc i ∧ s ≤ am_ms i) (hd : decode (am_by i) pc = .ok (.invokestatic xx, 3)) (hn : nx = pc + 3) (h0 : am_step X D i pc 75 nx aa bb v w L st G c s P (am_go X D i P)) : am_WP X D i pc L st G c s P := by
  intro p l e R s0 m args below meth cd dC dI b A ad cA tys H locs ls Q hF hX hbl hbA hA hS hR hL hfin
  obtain ⟨hx, hb, hml, hown, hts, hrt, hlk, hnm, hDf, hDl, hmc, hms, hN⟩ := id hF
  obtain ⟨hK, hP, hD, hT⟩ := id hR
  subst hn
  obtain ⟨x, y, r, rfl, hD1, hcat, h⟩ := am_I2_s h0
  exact va_mmax hx hb (hml.trans hL.2.1.1.symm) hown (hts _ h1) (hts _ h2) (hts _ h3) (hts _ h4) (Nat.le_trans hD1 hDf) (by rw [am_catm]; omega) (Nat.le_trans hcs.1 hmc) (Nat.le_trans hcs.2 hms) hd (h _ _ _ _ _ _ _ _ _ _ _ _ _ _ _ _ _ _ _ _ _ hF hX hbl hbA hA hS hR hL hfin)
theorem am_z76 (h1 : Cond.methodLink (am_mo i) xx Lib.Math.min.name ∈ am_GT) (h2 : Cond.static Lib.Math.min.name ∈ am_GT) (h3 : Cond.initialized "java/lang/Math" ∈ am_GT) (h4 : Cond.code Lib.Math.min.name Lib.Math.min.code 2 (some .int) ∈ am_GT) (hcs : c ≤ am_mc i ∧ s ≤ am_ms i) (hd : decode (am_by i) pc = .ok (.invokestatic xx, 3)) (hn : nx = pc + 3) (h0 : am_step X D i pc 76 nx aa bb v w L st G c s P (am_go X D i P)) : am_WP X D i pc L st G c s P := by
  intro p l e R s0 m args below meth cd dC dI b A ad cA tys H locs ls Q hF hX hbl hbA hA hS hR hL hfin
  obtain ⟨hx, hb, hml, hown, hts, hrt, hlk, hnm, hDf, hDl, hmc, hms, hN⟩ := id hF
  obtain ⟨hK, hP, hD, hT⟩ := id hR
  subst hn
  obtain ⟨x, y, r, rfl, hD1, hcat, h⟩ := am_I2_s h0
  exact va_mmin hx hb (hml.trans hL.2.1.1.symm) hown (hts _ h1) (hts _ h2) (hts _ h3) (hts _ h4) (Nat.le_trans hD1 hDf) (by rw [am_catm]; omega) (Nat.le_trans hcs.1 hmc) (Nat.le_trans hcs.2 hms) hd (h _ _ _ _ _ _ _ _ _ _ _ _ _ _ _ _ _ _ _ _ _ hF hX hbl hbA hA hS hR hL hfin)
end SND
