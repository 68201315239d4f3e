def am_clOk : Bool := (List.range 5).all (fun a => (u_ws (am_cn a) (am_T a) (am_N a)).all (fun w => decide (w ∈ am_GT)))
theorem am_cl_in : ∀ a, a < 5 → ∀ w ∈ u_ws (am_cn a) (am_T a) (am_N a), w ∈ am_GT := by decide +kernel
theorem am_cl_at : ∀ a, a < 5 → vwCl[a]? = some (am_cn a, am_T a, am_N a)
  | 0, _ => rfl | 1, _ => rfl | 2, _ => rfl | 3, _ => rfl | 4, _ => rfl | k + 5, h => by omega
theorem am_cl_nm : ∀ a, a < 5 → ∀ x, x < am_N a → ∀ y, y < am_N a → x ≠ y → (am_T a x).2.1 ≠ (am_T a y).2.1
  | 0, _ => nmX0 | 1, _ => nmX1 | 2, _ => nmX2 | 3, _ => nmX3 | 4, _ => nmX4 | k + 5, h => by omega
theorem am_cl_ty : ∀ a, a < 5 → ∀ k, k < am_N a → parseFieldDescriptor (am_T a k).2.2.1 = some (am_tT a k)
  | 0, _ => tyX0_ok | 1, _ => tyX1_ok | 2, _ => tyX2_ok | 3, _ => tyX3_ok | 4, _ => tyX4_ok | k + 5, h => by omega
theorem am_cl_df : ∀ a, a < 5 → ∀ k, k < am_N a → defaultValue (am_tT a k) = vp_V (am_df a) k ∧ (∀ ad b, vp_V ((am_df a).map (am_cv ad b)) k = vp_V (am_df a) k) := by
  intro a ha
  match a, ha with
  | 0, _ => intro k hk; match k, hk with | 0, _ => exact ⟨rfl, fun _ _ => rfl⟩ | 1, _ => exact ⟨rfl, fun _ _ => rfl⟩ | 2, _ => exact ⟨rfl, fun _ _ => rfl⟩ | 3, _ => exact ⟨rfl, fun _ _ => rfl⟩ | 4, _ => exact ⟨rfl, fun _ _ => rfl⟩ | 5, _ => exact ⟨rfl, fun _ _ => rfl⟩ | n + 6, h => exact absurd h (by simp [am_N])
  | 1, _ => intro k hk; match k, hk with | 0, _ => exact ⟨rfl, fun _ _ => rfl⟩ | 1, _ => exact ⟨rfl, fun _ _ => rfl⟩ | n + 2, h => exact absurd h (by simp [am_N])
  | 2, _ => intro k hk; match k, hk with | 0, _ => exact ⟨rfl, fun _ _ => rfl⟩ | 1, _ => exact ⟨rfl, fun _ _ => rfl⟩ | 2, _ => exact ⟨rfl, fun _ _ => rfl⟩ | 3, _ => exact ⟨rfl, fun _ _ => rfl⟩ | n + 4, h => exact absurd h (by simp [am_N])
  | 3, _ => intro k hk; match k, hk with | 0, _ => exact ⟨rfl, fun _ _ => rfl⟩ | 1, _ => exact ⟨rfl, fun _ _ => rfl⟩ | 2, _ => exact ⟨rfl, fun _ _ => rfl⟩ | n + 3, h => exact absurd h (by simp [am_N])
  | 4, _ => intro k hk; match k, hk with | 0, _ => exact ⟨rfl, fun _ _ => rfl⟩ | 1, _ => exact ⟨rfl, fun _ _ => rfl⟩ | 2, _ => exact ⟨rfl, fun _ _ => rfl⟩ | 3, _ => exact ⟨rfl, fun _ _ => rfl⟩ | 4, _ => exact ⟨rfl, fun _ _ => rfl⟩ | 5, _ => exact ⟨rfl, fun _ _ => rfl⟩ | 6, _ => exact ⟨rfl, fun _ _ => rfl⟩ | 7, _ => exact ⟨rfl, fun _ _ => rfl⟩ | n + 8, h => exact absurd h (by simp [am_N])
  | k + 5, h => omega

theorem am_fit_n {ty : FieldType} {v : Value} {ad : Nat → Nat} {b : Nat} (h : am_fit ty v) : narrow ty (am_cv ad b v) = am_cv ad b v ∧ fits ty (am_cv ad b v) = true := by
  unfold am_fit at h
  split at h
  · exact ⟨rfl, rfl⟩
  · rcases h with rfl | rfl <;> exact ⟨rfl, rfl⟩
  · exact ⟨rfl, rfl⟩
  · exact ⟨rfl, rfl⟩
  · exact ⟨rfl, rfl⟩
  · exact h.elim
theorem am_cv_s {ad ad' : Nat → Nat} {b n : Nat} {v : Value} (hv : am_fv n v) (h : ∀ k, k < n → ad' k = ad k) : am_cv ad' b v = am_cv ad b v := by
  cases v with
  | ref k => show Value.ref _ = Value.ref _; rw [h k hv]
  | _ => rfl
theorem am_e_s {ad ad' : Nat → Nat} {b n : Nat} {cA : ClassId} {c : am_C} (hc : am_fC n c) (h : ∀ k, k < n → ad' k = ad k) : am_e ad' b cA c = am_e ad b cA c := by
  match c, hc with
  | .inl (_, n, f), _ => rfl
  | .inr (.inl (n, f)), _ => rfl
  | .inr (.inr (.inl (n, f))), hc =>
    show (Sum.inl _ : va_E) = Sum.inl _
    have e : (fun j => (f j).map ad') = fun j => (f j).map ad := funext fun j => by
      cases hj : f j with
      | none => rfl
      | some k => show some _ = some _; rw [h k (hc j k hj)]
    rw [e]
  | .inr (.inr (.inr (ci, fs))), hc =>
    show (Sum.inr _ : va_E) = Sum.inr _
    have e : fs.map (am_cv ad' b) = fs.map (am_cv ad b) := List.map_congr_left (fun v hv => am_cv_s (hc v hv) h)
    rw [e]
theorem am_st_s {ad ad' : Nat → Nat} {b n : Nat} {st : List Value} (hs : ∀ v ∈ st, am_fv n v) (h : ∀ k, k < n → ad' k = ad k) : st.map (am_cv ad' b) = st.map (am_cv ad b) := List.map_congr_left (fun v hv => am_cv_s (hs v hv) h)
theorem am_LOk.mv {ad ad' : Nat → Nat} {b nL n : Nat} {ls : Array Slot} {L : List (Option Value)} (hL : am_LOk ad b ls nL L) (hs : ∀ o ∈ L, ∀ v, o = some v → am_fv n v) (h : ∀ k, k < n → ad' k = ad k) : am_LOk ad' b ls nL L :=
  ⟨hL.1, hL.2.1, fun k v hk => by rw [am_cv_s (hs _ (List.mem_of_getElem? hk) v rfl) h]; exact hL.2.2 k v hk⟩
/-- one cell more -/
def am_ext (ad : Nat → Nat) (n q : Nat) : Nat → Nat := fun k => if k = n then q else ad k
theorem am_ext_lt {ad : Nat → Nat} {n q k : Nat} (h : k < n) : am_ext ad n q k = ad k := if_neg (by omega)
theorem am_ext_at {ad : Nat → Nat} {n q : Nat} : am_ext ad n q n = q := if_pos rfl
theorem am_ws_app {ad : Nat → Nat} {b q : Nat} {cA : Nat → ClassId} {ca : ClassId} {G : am_H} {c : am_C} (hf : ∀ c ∈ G, am_fC G.length c) (hc : am_fC G.length c) : am_ws (am_ext ad G.length q) b (fun k => if k = G.length then ca else cA k) (G ++ [c]) = am_ws ad b cA G ++ [(q, am_e ad b ca c)] := by
  unfold am_ws
  rw [List.mapIdx_append]
  congr 1
  · apply List.ext_getElem?
    intro j
    rw [List.getElem?_mapIdx, List.getElem?_mapIdx]
    cases hj : G[j]? with
    | none => rfl
    | some c0 =>
      have hlt : j < G.length := (List.getElem?_eq_some_iff.mp hj).1
      show some (am_ext ad G.length q j, am_e (am_ext ad G.length q) b (if j = G.length then ca else cA j) c0) = some (ad j, am_e ad b (cA j) c0)
      rw [am_ext_lt hlt, if_neg (by omega), am_e_s (hf c0 (List.mem_of_getElem? hj)) (ad := ad) (ad' := am_ext ad G.length q) (fun k hk => am_ext_lt hk)]
  · show [(am_ext ad G.length q (0 + G.length), am_e (am_ext ad G.length q) b (if 0 + G.length = G.length then ca else cA _) c)] = _
    rw [Nat.zero_add, am_ext_at, if_pos rfl, am_e_s hc (fun k hk => am_ext_lt hk)]
theorem am_pop_s : ∀ (n : Nat) (st acc as r : List Value), am_pop n st acc = some (as, r) → ∃ pre, st = pre ++ r ∧ as = pre.reverse ++ acc ∧ pre.length = n
  | 0, st, acc, as, r, h => by
    simp only [am_pop, Option.some.injEq, Prod.mk.injEq] at h
    exact ⟨[], by simp [h.2], by simp [h.1], rfl⟩
  | n + 1, v :: st, acc, as, r, h => by
    obtain ⟨pre, h1, h2, h3⟩ := am_pop_s n st (v :: acc) as r h
    exact ⟨v :: pre, by simp [h1], by simp [h2], by simp [h3]⟩
  | _ + 1, [], _, _, _, h => by cases h
theorem am_Nx.sm {u U : State} (h : u.vm = U.vm) (hN : am_Nx u) : am_Nx U := ⟨fun q hq => va_Nw.same rfl h (hN.1 q hq), va_AO.moved (by rw [h]; exact Vm.Alike.refl _) hN.2⟩
theorem am_Nx.wm {s U : State} (h : s.WarmedH U.vm) (hN : am_Nx s) : am_Nx U := ⟨fun q hq => va_Nw.warmM h (hN.1 q hq), va_AO.moved h.alike hN.2⟩
theorem am_Rel.mv {dC : Nat → ClassId} {dI : Nat → Nat → Nat} {b : Nat} {A : Nat → Prop} {ad : Nat → Nat} {cA : Nat → ClassId} {tys : List (ClassId × FieldType)} {G : am_H} {u U : State} {H : Heap} (hvm : u.vm.Alike U.vm) (h : am_Rel dC dI b A ad cA tys G u H) : am_Rel dC dI b A ad cA tys G U H := ⟨va_K.moved hvm h.1, h.2⟩
theorem am_set_ty {G : am_H} {k : Nat} {c0 c1 : am_C} {tys : List (ClassId × FieldType)} {cA : Nat → ClassId} (h : ∀ (k : Nat) (c : am_C) (ty : FieldType), G[k]? = some c → am_ty c = some ty → ∃ t0 : Nat, tys[t0]? = some (cA k, ty)) (hk : G[k]? = some c0) (ht : am_ty c1 = am_ty c0) : ∀ (j : Nat) (c : am_C) (ty : FieldType), (G.set k c1)[j]? = some c → am_ty c = some ty → ∃ t0 : Nat, tys[t0]? = some (cA j, ty) := by
  intro j c ty hj hty
  rw [List.getElem?_set] at hj
  split at hj
  · next e =>
    subst e
    split at hj
    · cases hj
      exact h k c0 ty hk (ht ▸ hty)
    · cases hj
  · exact h j c ty hj hty
theorem am_alen_s {G : am_H} {k n : Nat} (h : am_alen G k = some n) : ∃ c ty, G[k]? = some c ∧ am_ty c = some ty ∧ ∀ ad b cA, ∃ x : vp_A, am_e ad b cA c = .inl (cA, x) ∧ x.1 = n := by
  unfold am_alen at h
  split at h
  · next heq => cases h; exact ⟨_, _, heq, rfl, fun ad b cA => ⟨_, rfl, rfl⟩⟩
  · next heq => cases h; exact ⟨_, _, heq, rfl, fun ad b cA => ⟨_, rfl, rfl⟩⟩
  · next heq => cases h; exact ⟨_, _, heq, rfl, fun ad b cA => ⟨_, rfl, rfl⟩⟩
  · cases h
theorem am_vin {i : Int32} {n : Nat} (h : vp_in i n) : vp_in i n := h
section SND
variable {X : Nat × (Nat → Int32)} {D i pc nx aa bb xx : Nat} {v : Int32} {w : Int64} {L : List (Option Value)} {st : List Value} {G : am_H} {c s : Nat} {P : Option Value → am_H → Prop}

theorem am_z48 (hca : aa < 5) (hkb : bb < am_N aa) (hl : Cond.fieldLink (am_mo i) xx (am_T aa bb).1 (am_T aa bb).2.1 (am_T aa bb).2.2.1 ∈ am_GT) (hd : decode (am_by i) pc = .ok (.getfield xx, 3)) (hn : nx = pc + 3) (h0 : am_step X D i pc 48 nx aa bb v w L st G c s P (am_go X D i P)) : am_WP X D i pc L st G c s P := by
  intro p l e R s0 m args below meth cd dC dI b A ad cA tys H locs ls Q hF hX hbl hbA hA hS hR hL hfin
  obtain ⟨hx, hb, hml, hown, hts, hrt, hlk, hnm, hDf, hDl, hmc, hms, hN⟩ := id hF
  obtain ⟨hK, hP, hD, hT⟩ := id hR
  subst hn
  obtain ⟨k, r, rfl, h⟩ := am_R1_s h0
  obtain ⟨fs, v, ho, hv, h⟩ := am_get_s h
  exact va_get hx hb hts (am_cl_in aa hca) hown hK hP k (am_ws_get (am_ob_s ho)) (am_cl_at aa hca) bb hkb (hts _ hl) (fun _ z => z) (by rw [List.getElem?_map, hv]; rfl) hd (h _ _ _ _ _ _ _ _ _ _ _ _ _ _ _ _ _ _ _ _ _ hF hX hbl hbA hA hS hR hL hfin)
theorem am_z49 (hca : aa < 5) (hkb : bb < am_N aa) (hl : Cond.fieldLink (am_mo i) xx (am_T aa bb).1 (am_T aa bb).2.1 (am_T aa bb).2.2.1 ∈ am_GT) (hfi : (am_T aa bb).2.2.2 = false) (hd : decode (am_by i) pc = .ok (.putfield xx, 3)) (hn : nx = pc + 3) (h0 : am_step X D i pc 49 nx aa bb v w L st G c s P (am_go X D i P)) : am_WP X D i pc L st G c s P := by
  intro p l e R s0 m args below meth cd dC dI b A ad cA tys H locs ls Q hF hX hbl hbA hA hS hR hL hfin
  obtain ⟨hx, hb, hml, hown, hts, hrt, hlk, hnm, hDf, hDl, hmc, hms, hN⟩ := id hF
  obtain ⟨hK, hP, hD, hT⟩ := id hR
  subst hn
  obtain ⟨v, k, r, rfl, hft, h⟩ := am_VR_s h0
  obtain ⟨fs, ho, hlen, h⟩ := am_put_s h
  have hg := am_ob_s ho
  have hw := am_ws_get (ad := ad) (b := b) (cA := cA) hg
  have e : (am_ws ad b cA G).set k (ad k, .inr (aa, (fs.map (am_cv ad b)).set bb (am_cv ad b v))) = am_ws ad b cA (G.set k (am_o aa (fs.set bb v))) := by
    rw [← am_ws_set]
    show _ = List.set _ k (ad k, (Sum.inr (aa, (fs.set bb v).map (am_cv ad b)) : va_E))
    rw [List.map_set]
  refine va_put hx hb hts (am_cl_in aa hca) (am_tT aa) (am_cl_ty aa hca) (am_cl_nm aa hca) hown hK hP hD hS k hw (am_cl_at aa hca) bb hkb (hts _ hl) (fun _ z => z) hfi (am_cl_ty aa hca bb hkb) (am_fit_n hft).1 (am_fit_n hft).2 (by rw [List.length_map]; exact hlen) hd (fun H1 locs1 hP1 hD1 hS1 => ?_)
  rw [e] at hP1 hD1
  exact (h _ _ _ _ _ _ _ _ _ _ _ _ _ _ _ _ _ _ _ _ _ hF hX hbl hbA hA hS1 ⟨hK, hP1, hD1, am_set_ty hT hg rfl⟩ hL (hfin.mono ⟨by rw [List.length_set]; exact Nat.le_refl _, fun _ _ => rfl, fun _ => rfl⟩))
theorem am_z50 (hca : aa < 5) (hkb : bb < am_N aa) (hl : Cond.fieldLink (am_mo i) xx (am_T aa bb).1 (am_T aa bb).2.1 (am_T aa bb).2.2.1 ∈ am_GT) (hfi : (am_T aa bb).2.2.2 = true) (hin : (am_y i).name = "<init>") (hde : (am_T aa bb).1 = am_mo i) (hd : decode (am_by i) pc = .ok (.putfield xx, 3)) (hn : nx = pc + 3) (h0 : am_step X D i pc 50 nx aa bb v w L st G c s P (am_go X D i P)) : am_WP X D i pc L st G c s P := by
  intro p l e R s0 m args below meth cd dC dI b A ad cA tys H locs ls Q hF hX hbl hbA hA hS hR hL hfin
  obtain ⟨hx, hb, hml, hown, hts, hrt, hlk, hnm, hDf, hDl, hmc, hms, hN⟩ := id hF
  obtain ⟨hK, hP, hD, hT⟩ := id hR
  subst hn
  obtain ⟨v, k, r, rfl, hft, h⟩ := am_VR_s h0
  obtain ⟨fs, ho, hlen, h⟩ := am_put_s h
  have hg := am_ob_s ho
  have hw := am_ws_get (ad := ad) (b := b) (cA := cA) hg
  have e : (am_ws ad b cA G).set k (ad k, .inr (aa, (fs.map (am_cv ad b)).set bb (am_cv ad b v))) = am_ws ad b cA (G.set k (am_o aa (fs.set bb v))) := by
    rw [← am_ws_set]
    show _ = List.set _ k (ad k, (Sum.inr (aa, (fs.set bb v).map (am_cv ad b)) : va_E))
    rw [List.map_set]
  refine va_putF hx hb hts (am_cl_in aa hca) (am_tT aa) (am_cl_ty aa hca) (am_cl_nm aa hca) hown hK hP hD hS k hw (am_cl_at aa hca) bb hkb (hts _ hl) (fun _ z => z) hfi (hnm hin) hde (am_cl_ty aa hca bb hkb) (am_fit_n hft).1 (am_fit_n hft).2 (by rw [List.length_map]; exact hlen) hd (fun H1 locs1 hP1 hD1 hS1 => ?_)
  rw [e] at hP1 hD1
  exact (h _ _ _ _ _ _ _ _ _ _ _ _ _ _ _ _ _ _ _ _ _ hF hX hbl hbA hA hS1 ⟨hK, hP1, hD1, am_set_ty hT hg rfl⟩ hL (hfin.mono ⟨by rw [List.length_set]; exact Nat.le_refl _, fun _ _ => rfl, fun _ => rfl⟩))
theorem am_z51 (hd : decode (am_by i) pc = .ok (.iaload, 1)) (hn : nx = pc + 1) (h0 : am_step X D i pc 51 nx aa bb v w L st G c s P (am_go X D i P)) : am_WP X D i pc L st G c s P := by
  intro p l e R s0 m args below meth cd dC dI b A ad cA tys H locs ls Q hF hX hbl hbA hA hS hR hL hfin
  obtain ⟨hx, hb, hml, hown, hts, hrt, hlk, hnm, hDf, hDl, hmc, hms, hN⟩ := id hF
  obtain ⟨hK, hP, hD, hT⟩ := id hR
  subst hn
  rcases am_IRS_s h0 with ⟨j, k, r, rfl, h⟩ | ⟨j, z, r, rfl, hin, h⟩
  · obtain ⟨n, f, ho, hin, h⟩ := am_arr_s h
    have hg := am_ia_s ho
    obtain ⟨t0, ht⟩ := hT k _ _ hg rfl
    exact va_iald hx hb hK hP k t0 (am_ws_get hg) ht hin hd (h _ _ _ _ _ _ _ _ _ _ _ _ _ _ _ _ _ _ _ _ _ hF hX hbl hbA hA hS hR hL hfin)
  · exact va_sld hx hb hX hbl hbA hS hin hd (h _ _ _ _ _ _ _ _ _ _ _ _ _ _ _ _ _ _ _ _ _ hF hX hbl hbA hA hS hR hL hfin)
theorem am_z55 (hd : decode (am_by i) pc = .ok (.baload, 1)) (hn : nx = pc + 1) (h0 : am_step X D i pc 55 nx aa bb v w L st G c s P (am_go X D i P)) : am_WP X D i pc L st G c s P := by
  intro p l e R s0 m args below meth cd dC dI b A ad cA tys H locs ls Q hF hX hbl hbA hA hS hR hL hfin
  obtain ⟨hx, hb, hml, hown, hts, hrt, hlk, hnm, hDf, hDl, hmc, hms, hN⟩ := id hF
  obtain ⟨hK, hP, hD, hT⟩ := id hR
  subst hn
  obtain ⟨j, k, r, rfl, h⟩ := am_IR_s h0
  obtain ⟨n, f, ho, hin, h⟩ := am_arr_s h
  have hg := am_ia_s ho
  obtain ⟨t0, ht⟩ := hT k _ _ hg rfl
  exact va_zald hx hb hK hP k t0 (am_ws_get hg) ht hin hd (h _ _ _ _ _ _ _ _ _ _ _ _ _ _ _ _ _ _ _ _ _ hF hX hbl hbA hA hS hR hL hfin)
theorem am_z53 (hd : decode (am_by i) pc = .ok (.laload, 1)) (hn : nx = pc + 1) (h0 : am_step X D i pc 53 nx aa bb v w L st G c s P (am_go X D i P)) : am_WP X D i pc L st G c s P := by
  intro p l e R s0 m args below meth cd dC dI b A ad cA tys H locs ls Q hF hX hbl hbA hA hS hR hL hfin
  obtain ⟨hx, hb, hml, hown, hts, hrt, hlk, hnm, hDf, hDl, hmc, hms, hN⟩ := id hF
  obtain ⟨hK, hP, hD, hT⟩ := id hR
  subst hn
  obtain ⟨j, k, r, rfl, h⟩ := am_IR_s h0
  obtain ⟨n, f, ho, hin, h⟩ := am_arr_s h
  have hg := am_la_s ho
  obtain ⟨t0, ht⟩ := hT k _ _ hg rfl
  exact va_lald hx hb hK hP k t0 (am_ws_get hg) ht hin hd (h _ _ _ _ _ _ _ _ _ _ _ _ _ _ _ _ _ _ _ _ _ hF hX hbl hbA hA hS hR hL hfin)
theorem am_z57 (hd : decode (am_by i) pc = .ok (.aaload, 1)) (hn : nx = pc + 1) (h0 : am_step X D i pc 57 nx aa bb v w L st G c s P (am_go X D i P)) : am_WP X D i pc L st G c s P := by
  intro p l e R s0 m args below meth cd dC dI b A ad cA tys H locs ls Q hF hX hbl hbA hA hS hR hL hfin
  obtain ⟨hx, hb, hml, hown, hts, hrt, hlk, hnm, hDf, hDl, hmc, hms, hN⟩ := id hF
  obtain ⟨hK, hP, hD, hT⟩ := id hR
  subst hn
  obtain ⟨j, k, r, rfl, h⟩ := am_IR_s h0
  obtain ⟨n, f, ho, hin, h⟩ := am_arr_s h
  have hg := am_ra_s ho
  obtain ⟨t0, ht⟩ := hT k _ _ hg rfl
  have e : am_cv ad b (va_rf (f j.toNatClampNeg)) = va_rf ((f j.toNatClampNeg).map ad) := by cases f j.toNatClampNeg <;> rfl
  have h2 := (h _ _ _ _ _ _ _ _ _ _ _ _ _ _ _ _ _ _ _ _ _ hF hX hbl hbA hA hS hR hL hfin)
  rw [List.map_cons, e] at h2
  exact va_aldq hx hb hK hP k t0 (am_ws_get hg) ht hin hd h2
theorem am_z52 (hd : decode (am_by i) pc = .ok (.iastore, 1)) (hn : nx = pc + 1) (h0 : am_step X D i pc 52 nx aa bb v w L st G c s P (am_go X D i P)) : am_WP X D i pc L st G c s P := by
  intro p l e R s0 m args below meth cd dC dI b A ad cA tys H locs ls Q hF hX hbl hbA hA hS hR hL hfin
  obtain ⟨hx, hb, hml, hown, hts, hrt, hlk, hnm, hDf, hDl, hmc, hms, hN⟩ := id hF
  obtain ⟨hK, hP, hD, hT⟩ := id hR
  subst hn
  obtain ⟨y, j, k, r, rfl, h⟩ := am_IIR_s h0
  obtain ⟨n, f, ho, hin, h⟩ := am_arr_s h
  have hg := am_ia_s ho
  obtain ⟨t0, ht⟩ := hT k _ _ hg rfl
  refine va_iast hx hb hK hP hD hS k t0 (am_ws_get hg) ht hin hd (fun H1 locs1 hP1 hD1 hS1 => ?_)
  have e := am_ws_set (ad := ad) (b := b) (cA := cA) (G := G) (k := k) (c := am_ai 0 n (upd f j.toNatClampNeg y))
  exact (h _ _ _ _ _ _ _ _ _ _ _ _ _ _ _ _ _ _ _ _ _ hF hX hbl hbA hA hS1 ⟨hK, e ▸ hP1, e ▸ hD1, am_set_ty hT hg rfl⟩ hL (hfin.mono ⟨by rw [List.length_set]; exact Nat.le_refl _, fun _ _ => rfl, fun _ => rfl⟩))
theorem am_z56 (hd : decode (am_by i) pc = .ok (.bastore, 1)) (hn : nx = pc + 1) (h0 : am_step X D i pc 56 nx aa bb v w L st G c s P (am_go X D i P)) : am_WP X D i pc L st G c s P := by
  intro p l e R s0 m args below meth cd dC dI b A ad cA tys H locs ls Q hF hX hbl hbA hA hS hR hL hfin
  obtain ⟨hx, hb, hml, hown, hts, hrt, hlk, hnm, hDf, hDl, hmc, hms, hN⟩ := id hF
  obtain ⟨hK, hP, hD, hT⟩ := id hR
  subst hn
  obtain ⟨y, j, k, r, rfl, h⟩ := am_IIR_s h0
  obtain ⟨n, f, ho, hin, h⟩ := am_arr_s h
  have hg := am_ia_s ho
  obtain ⟨t0, ht⟩ := hT k _ _ hg rfl
  refine va_zast hx hb hK hP hD hS k t0 (am_ws_get hg) ht hin hd (fun H1 locs1 hP1 hD1 hS1 => ?_)
  have e := am_ws_set (ad := ad) (b := b) (cA := cA) (G := G) (k := k) (c := am_ai 1 n (upd f j.toNatClampNeg (vp_nar .boolean y)))
  exact (h _ _ _ _ _ _ _ _ _ _ _ _ _ _ _ _ _ _ _ _ _ hF hX hbl hbA hA hS1 ⟨hK, e ▸ hP1, e ▸ hD1, am_set_ty hT hg rfl⟩ hL (hfin.mono ⟨by rw [List.length_set]; exact Nat.le_refl _, fun _ _ => rfl, fun _ => rfl⟩))
theorem am_z54 (hd : decode (am_by i) pc = .ok (.lastore, 1)) (hn : nx = pc + 1) (h0 : am_step X D i pc 54 nx aa bb v w L st G c s P (am_go X D i P)) : am_WP X D i pc L st G c s P := by
  intro p l e R s0 m args below meth cd dC dI b A ad cA tys H locs ls Q hF hX hbl hbA hA hS hR hL hfin
  obtain ⟨hx, hb, hml, hown, hts, hrt, hlk, hnm, hDf, hDl, hmc, hms, hN⟩ := id hF
  obtain ⟨hK, hP, hD, hT⟩ := id hR
  subst hn
  obtain ⟨y, j, k, r, rfl, h⟩ := am_JIR_s h0
  obtain ⟨n, f, ho, hin, h⟩ := am_arr_s h
  have hg := am_la_s ho
  obtain ⟨t0, ht⟩ := hT k _ _ hg rfl
  refine va_last hx hb hK hP hD hS k t0 (am_ws_get hg) ht hin hd (fun H1 locs1 hP1 hD1 hS1 => ?_)
  have e := am_ws_set (ad := ad) (b := b) (cA := cA) (G := G) (k := k) (c := am_al n (vp_updL f j.toNatClampNeg y))
  exact (h _ _ _ _ _ _ _ _ _ _ _ _ _ _ _ _ _ _ _ _ _ hF hX hbl hbA hA hS1 ⟨hK, e ▸ hP1, e ▸ hD1, am_set_ty hT hg rfl⟩ hL (hfin.mono ⟨by rw [List.length_set]; exact Nat.le_refl _, fun _ _ => rfl, fun _ => rfl⟩))
theorem am_z58 (hd : decode (am_by i) pc = .ok (.aastore, 1)) (hn : nx = pc + 1) (h0 : am_step X D i pc 58 nx aa bb v w L st G c s P (am_go X D i P)) : am_WP X D i pc L st G c s P := by
  intro p l e R s0 m args below meth cd dC dI b A ad cA tys H locs ls Q hF hX hbl hbA hA hS hR hL hfin
  obtain ⟨hx, hb, hml, hown, hts, hrt, hlk, hnm, hDf, hDl, hmc, hms, hN⟩ := id hF
  obtain ⟨hK, hP, hD, hT⟩ := id hR
  subst hn
  obtain ⟨y, j, k, r, rfl, hob, h⟩ := am_RIR_s h0
  obtain ⟨n, f, ho, hin, h⟩ := am_arr_s h
  obtain ⟨vs, hob⟩ := Option.isSome_iff_exists.mp hob
  have hg := am_ra_s ho
  obtain ⟨t0, ht⟩ := hT k _ _ hg rfl
  refine va_astq hx hb hK hP hD hS k t0 y 2 (r := (am_cn 2, am_T 2, am_N 2)) (am_ws_get hg) ht (am_ws_get (am_ob_s hob)) (am_cl_at 2 (by decide)) hin hd (fun H1 locs1 hP1 hD1 hS1 => ?_)
  have e := am_ws_set (ad := ad) (b := b) (cA := cA) (G := G) (k := k) (c := am_ar n (va_up f j.toNatClampNeg (some y)))
  have e2 : am_e ad b (cA k) (am_ar n (va_up f j.toNatClampNeg (some y))) = .inl (cA k, n, .inr (.inr (.inr (.inr (va_up (fun j => (f j).map ad) j.toNatClampNeg (some (ad y))))))) := by
    show (Sum.inl _ : va_E) = Sum.inl _
    have e3 : (fun q => ((va_up f j.toNatClampNeg (some y)) q).map ad) = va_up (fun j => (f j).map ad) j.toNatClampNeg (some (ad y)) := funext fun q => by
      unfold va_up
      by_cases hq : q = j.toNatClampNeg
      · rw [if_pos hq, if_pos hq]; rfl
      · rw [if_neg hq, if_neg hq]
    rw [e3]
  rw [e2] at e
  exact (h _ _ _ _ _ _ _ _ _ _ _ _ _ _ _ _ _ _ _ _ _ hF hX hbl hbA hA hS1 ⟨hK, e ▸ hP1, e ▸ hD1, am_set_ty hT hg rfl⟩ hL (hfin.mono ⟨by rw [List.length_set]; exact Nat.le_refl _, fun _ _ => rfl, fun _ => rfl⟩))
theorem am_z59 (hd : decode (am_by i) pc = .ok (.arraylength, 1)) (hn : nx = pc + 1) (h0 : am_step X D i pc 59 nx aa bb v w L st G c s P (am_go X D i P)) : am_WP X D i pc L st G c s P := by
  intro p l e R s0 m args below meth cd dC dI b A ad cA tys H locs ls Q hF hX hbl hbA hA hS hR hL hfin
  obtain ⟨hx, hb, hml, hown, hts, hrt, hlk, hnm, hDf, hDl, hmc, hms, hN⟩ := id hF
  obtain ⟨hK, hP, hD, hT⟩ := id hR
  subst hn
  rcases am_RS_s h0 with ⟨k, r, rfl, h⟩ | ⟨z, r, rfl, h⟩
  · obtain ⟨n, ho, h⟩ := am_len_s h
    obtain ⟨c0, ty, hg, hty, he⟩ := am_alen_s ho
    obtain ⟨t0, ht⟩ := hT k _ _ hg hty
    obtain ⟨x, e1, e2⟩ := he ad b (cA k)
    have hw := am_ws_get (ad := ad) (b := b) (cA := cA) hg
    rw [e1] at hw
    exact va_alen hx hb hK hP k t0 hw ht (by rw [e2]) hd (h _ _ _ _ _ _ _ _ _ _ _ _ _ _ _ _ _ _ _ _ _ hF hX hbl hbA hA hS hR hL hfin)
  · exact va_slen hx hb hX hbl hbA hS hd (h _ _ _ _ _ _ _ _ _ _ _ _ _ _ _ _ _ _ _ _ _ hF hX hbl hbA hA hS hR hL hfin)
end SND
