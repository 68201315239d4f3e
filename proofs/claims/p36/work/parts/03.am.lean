/-! An abstract machine over numbered cells: a reference is the number of a cell, the law's script is '.float _'.
am_WP: a frame at pc with locals L, stack st, heap G ends with P (answer and heap). -/
abbrev am_C : Type := (Nat × Nat × (Nat → Int32)) ⊕ (Nat × (Nat → Int64)) ⊕ (Nat × (Nat → Option Nat)) ⊕ (Nat × List Value)
abbrev am_H : Type := List am_C
abbrev am_ai (kd n : Nat) (f : Nat → Int32) : am_C := .inl (kd, n, f)
abbrev am_al (n : Nat) (f : Nat → Int64) : am_C := .inr (.inl (n, f))
abbrev am_ar (n : Nat) (f : Nat → Option Nat) : am_C := .inr (.inr (.inl (n, f)))
abbrev am_o (ci : Nat) (fs : List Value) : am_C := .inr (.inr (.inr (ci, fs)))
def am_cv (ad : Nat → Nat) (b : Nat) : Value → Value
  | .ref k => .ref (ad k)
  | .float _ => .ref b
  | v => v
def am_e (ad : Nat → Nat) (b : Nat) (cA : ClassId) : am_C → va_E
  | .inl (_, n, f) => .inl (cA, n, .inl f)
  | .inr (.inl (n, f)) => .inl (cA, n, .inr (.inl f))
  | .inr (.inr (.inl (n, f))) => .inl (cA, n, .inr (.inr (.inr (.inr (fun j => (f j).map ad)))))
  | .inr (.inr (.inr (ci, fs))) => .inr (ci, fs.map (am_cv ad b))
def am_ty : am_C → Option FieldType
  | .inl (k, _, _) => some (if k = 1 then .boolean else .int)
  | .inr (.inl _) => some .long
  | .inr (.inr (.inl _)) => some (.object RX2)
  | .inr (.inr (.inr _)) => none
def am_ws (ad : Nat → Nat) (b : Nat) (cA : Nat → ClassId) (G : am_H) : va_W := G.mapIdx (fun k c => (ad k, am_e ad b (cA k) c))
theorem am_ws_get {ad : Nat → Nat} {b : Nat} {cA : Nat → ClassId} {G : am_H} {k : Nat} {c : am_C} (h : G[k]? = some c) : (am_ws ad b cA G)[k]? = some (ad k, am_e ad b (cA k) c) := by
  simp [am_ws, List.getElem?_mapIdx, h]
theorem am_ws_set {ad : Nat → Nat} {b : Nat} {cA : Nat → ClassId} {G : am_H} {k : Nat} {c : am_C} : (am_ws ad b cA G).set k (ad k, am_e ad b (cA k) c) = am_ws ad b cA (G.set k c) := by
  apply List.ext_getElem?
  intro j
  simp only [am_ws, List.getElem?_set, List.getElem?_mapIdx, List.length_mapIdx]
  by_cases h : k = j
  · subst h
    simp only [if_true]
    by_cases h2 : k < G.length
    · simp [h2]
    · simp [h2]
  · simp [h]
def am_nl : List (String × Nat × MethodName × String) := [(RX2, 39, yX4_range, RX4), (RX2, 60, yX4_sumOf, RX4), (RX2, 29, yX4_contains, RX4), (RX0, 57, yX4_range, RX4), (RX0, 80, yX4_contains, RX4)]
/-- the words that are no good words: nest links, and the class of an array of problems -/
def am_Nx (U : State) : Prop := (∀ q ∈ am_nl, va_Nw (.methodLinkNest q.1 q.2.1 q.2.2.1 q.2.2.2) U) ∧ va_AO RX2 U
def am_GT : List Cond := lw_tbl.filter goodWord
def am_W (i : Nat) : List Cond := Cond.code (am_y i) (am_by i) (am_ml i) (am_rt i) :: am_GT
def am_rm (D i : Nat) : Room := { frames := D, cells := am_mc i, slots := am_ms i, locals := 40 * D }
def am_Fr (i D : Nat) (p : Program) (R : Room) (s : State) (m : MethodId) (args : Array Value) (meth : Method) (c : Code) : Prop :=
  p.tables.exec = Jvm.exec ∧ c.code = am_by i ∧ c.maxLocals = am_ml i ∧ s.vm.findClass (am_mo i) = some m.cls ∧ (∀ w ∈ am_GT, w.before args s = true) ∧ meth.sig.returnType = am_rt i ∧ meth.locks = false ∧ ((am_y i).name = "<init>" → meth.name = "<init>") ∧ D ≤ R.frames ∧ 40 * D ≤ R.locals ∧ am_mc i ≤ R.cells ∧ am_ms i ≤ R.slots ∧ am_Nx s
def am_Rel (dC : Nat → ClassId) (dI : Nat → Nat → Nat) (b : Nat) (A : Nat → Prop) (ad : Nat → Nat) (cA : Nat → ClassId) (tys : List (ClassId × FieldType)) (G : am_H) (U : State) (H : Heap) : Prop :=
  va_K (dC, dI) vwCl tys U ∧ va_P (dC, dI) vwCl (am_ws ad b cA G) H ∧ va_D A (am_ws ad b cA G) ∧ ∀ (k : Nat) (c : am_C) (ty : FieldType), G[k]? = some c → am_ty c = some ty → ∃ t0 : Nat, tys[t0]? = some (cA k, ty)
def am_LOk (ad : Nat → Nat) (b : Nat) (ls : Array Slot) (nL : Nat) (L : List (Option Value)) : Prop :=
  L.length = nL ∧ lv_has ls nL [] ∧ ∀ (k : Nat) (v : Value), L[k]? = some (some v) → ls[k]? = some (.val (am_cv ad b v))
def am_Ag (i : Nat) (ad : Nat → Nat) (G : am_H) (ad1 : Nat → Nat) (G1 : am_H) : Prop := G.length ≤ G1.length ∧ (∀ k, k < G.length → ad1 k = ad k) ∧ (am_mc i = 0 → ad1 = ad)
theorem am_Ag.rf {i : Nat} {ad : Nat → Nat} {G : am_H} : am_Ag i ad G ad G := ⟨Nat.le_refl _, fun _ _ => rfl, fun _ => rfl⟩
theorem am_Ag.tr {i : Nat} {a0 a1 a2 : Nat → Nat} {G0 G1 G2 : am_H} (h : am_Ag i a0 G0 a1 G1) (h2 : am_Ag i a1 G1 a2 G2) : am_Ag i a0 G0 a2 G2 :=
  ⟨Nat.le_trans h.1 h2.1, fun k hk => (h2.2.1 k (Nat.lt_of_lt_of_le hk h.1)).trans (h.2.1 k hk), fun z => (h2.2.2 z).trans (h.2.2 z)⟩
/-- an answer that fits the method's type -/
def am_rv (ty : Option FieldType) (v : Option Value) : Prop := match ty, v with
  | none, none => True
  | some .int, some (.int _) => True
  | some .boolean, some (.int x) => x = 0 ∨ x = 1
  | some .long, some (.long _) => True
  | some (.object _), some (.ref _) => True
  | some (.object _), some .null => True
  | _, _ => False
def am_ri (ins : Instr) (ty : Option FieldType) : Prop := (ins = .ireturn ∧ (ty = some .int ∨ ty = some .boolean)) ∨ (ins = .lreturn ∧ ty = some .long) ∨ (ins = .areturn ∧ ∃ n, ty = some (.object n)) ∨ (ins = .return_ ∧ ty = none)
def am_Fin (i : Nat) (P : Option Value → am_H → Prop) (p : Program) (l : Launch) (e : Env) (R : Room) (s0 : State) (m : MethodId) (args : Array Value) (below : List Frame) (meth : Method) (cd : Code) (dC : Nat → ClassId) (dI : Nat → Nat → Nat) (b : Nat) (A : Nat → Prop) (Q : State → Prop) (ad : Nat → Nat) (G : am_H) : Prop :=
  ∀ (ins : Instr) (v : Option Value) (G1 : am_H) (ad1 : Nat → Nat) (cA1 : Nat → ClassId) (tys1 : List (ClassId × FieldType)) (H1 : Heap) (locs1 : List Loc) (ls1 : Array Slot) (pc1 c1 s1 : Nat),
    c1 ≤ am_mc i → s1 ≤ am_ms i → P v G1 → am_rv (am_rt i) v → am_ri ins (am_rt i) → decode (am_by i) pc1 = .ok (ins, 1) → am_Ag i ad G ad1 G1 → va_S A s0.heap H1 locs1 → am_Rel dC dI b A ad1 cA1 tys1 G1 s0 H1 →
    W p l e R s0 m args below meth cd H1 locs1 c1 s1 Q (F0 m pc1 ls1 (v.toList.map (am_cv ad1 b)))
theorem am_Fin.mono {i : Nat} {P : Option Value → am_H → Prop} {p : Program} {l : Launch} {e : Env} {R : Room} {s0 : State} {m : MethodId} {args : Array Value} {below : List Frame} {meth : Method} {cd : Code} {dC : Nat → ClassId} {dI : Nat → Nat → Nat} {b : Nat} {A : Nat → Prop} {Q : State → Prop} {ad ad' : Nat → Nat} {G G' : am_H}
    (h : am_Fin i P p l e R s0 m args below meth cd dC dI b A Q ad G) (g : am_Ag i ad G ad' G') : am_Fin i P p l e R s0 m args below meth cd dC dI b A Q ad' G' :=
  fun ins v G1 ad1 cA1 tys1 H1 locs1 ls1 pc1 c1 s1 a1 a2 a3 a4 a5 a6 a7 => h ins v G1 ad1 cA1 tys1 H1 locs1 ls1 pc1 c1 s1 a1 a2 a3 a4 a5 a6 (g.tr a7)
def am_WP (X : Nat × (Nat → Int32)) (D i pc : Nat) (L : List (Option Value)) (st : List Value) (G : am_H) (c s : Nat) (P : Option Value → am_H → Prop) : Prop :=
  ∀ (p : Program) (l : Launch) (e : Env) (R : Room) (s0 : State) (m : MethodId) (args : Array Value) (below : List Frame) (meth : Method) (cd : Code) (dC : Nat → ClassId) (dI : Nat → Nat → Nat) (b : Nat) (A : Nat → Prop) (ad : Nat → Nat) (cA : Nat → ClassId) (tys : List (ClassId × FieldType)) (H : Heap) (locs : List Loc) (ls : Array Slot) (Q : State → Prop),
    am_Fr i D p R s0 m args meth cd → va_X b X.1 X.2 s0 s0.heap → b < s0.heap.size → ¬ A b → (∀ q, s0.heap.size ≤ q → A q) → va_S A s0.heap H locs → am_Rel dC dI b A ad cA tys G s0 H → am_LOk ad b ls (am_ml i) L →
    am_Fin i P p l e R s0 m args below meth cd dC dI b A Q ad G →
    W p l e R s0 m args below meth cd H locs c s Q (F0 m pc ls (st.map (am_cv ad b)))
def am_pre (X : Nat × (Nat → Int32)) (dC : Nat → ClassId) (dI : Nat → Nat → Nat) (b : Nat) (A : Nat → Prop) (ad : Nat → Nat) (cA : Nat → ClassId) (tys : List (ClassId × FieldType)) (G : am_H) (as : List Value) : Array Value → State → Prop := fun v U =>
  v = (as.map (am_cv ad b)).toArray ∧ am_Rel dC dI b A ad cA tys G U U.heap ∧ va_X b X.1 X.2 U U.heap ∧ b < U.heap.size ∧ am_Nx U ∧ ∀ q, U.heap.size ≤ q → A q
def am_post (dC : Nat → ClassId) (dI : Nat → Nat → Nat) (b : Nat) (A : Nat → Prop) (ad : Nat → Nat) (G : am_H) (j : Nat) (P : Option Value → am_H → Prop) : Array Value → State → Outcome → State → Prop := fun _ st oc t =>
  (∃ (v : Option Value) (G1 : am_H) (ad1 : Nat → Nat) (cA1 : Nat → ClassId) (tys1 : List (ClassId × FieldType)), oc = .returned (v.map (am_cv ad1 b)) ∧ P v G1 ∧ am_rv (am_rt j) v ∧ am_Ag j ad G ad1 G1 ∧ am_Rel dC dI b A ad1 cA1 tys1 G1 t t.heap) ∧ va_F A st t
def am_Call (X : Nat × (Nat → Int32)) (D j : Nat) (as : List Value) (G : am_H) (P : Option Value → am_H → Prop) : Prop :=
  ∀ (l : Launch) (dC : Nat → ClassId) (dI : Nat → Nat → Nat) (b : Nat) (A : Nat → Prop) (ad : Nat → Nat) (cA : Nat → ClassId) (tys : List (ClassId × FieldType)), ¬ A b →
    Met l (am_y j) (am_W j) (am_rm D j) (am_pre X dC dI b A ad cA tys G as) (am_post dC dI b A ad G j P) (am_mc j) (am_ms j) A
/-- a call from a frame that has room for D frames -/
def am_CB (X : Nat × (Nat → Int32)) (D j : Nat) (as : List Value) (G : am_H) (P : Option Value → am_H → Prop) : Prop := ∃ D', D' + 1 ≤ D ∧ am_Call X D' j as G P
-- ===== the instructions =====
abbrev am_K : Type := Nat → List (Option Value) → List Value → am_H → Nat → Nat → Prop
def am_lg : List (Option Value) → Nat → Option Value
  | [], _ => none
  | x :: _, 0 => x
  | _ :: t, k + 1 => am_lg t k
def am_k2 : Option Value → Option Value
  | some (.long _) => none
  | some (.double _) => none
  | o => o
def am_l1 : List (Option Value) → Nat → Value → List (Option Value)
  | [], _, _ => []
  | _ :: t, 0, v => some v :: t
  | x :: t, 1, v => am_k2 x :: am_l1 t 0 v
  | x :: t, k + 2, v => x :: am_l1 t (k + 1) v
def am_l2 : List (Option Value) → Nat → Value → List (Option Value)
  | x :: _ :: t, 0, v => some v :: none :: t
  | x :: t, 1, v => am_k2 x :: am_l2 t 0 v
  | x :: t, k + 2, v => x :: am_l2 t (k + 1) v
  | t, _, _ => t.map (fun _ => none)
def am_iv (o : Option Value) (K : Int32 → Prop) : Prop := match o with | some (.int x) => K x | _ => False
def am_lv (o : Option Value) (K : Int64 → Prop) : Prop := match o with | some (.long x) => K x | _ => False
def am_av (o : Option Value) (K : Value → Prop) : Prop := match o with | some (.ref k) => K (.ref k) | some .null => K .null | some (.float z) => K (.float z) | _ => False
def am_ob (G : am_H) (k ci : Nat) : Option (List Value) := match G[k]? with
  | some (.inr (.inr (.inr (c, fs)))) => if c = ci then some fs else none
  | _ => none
def am_ia (G : am_H) (k kd : Nat) : Option (Nat × (Nat → Int32)) := match G[k]? with
  | some (.inl (z, n, f)) => if z = kd then some (n, f) else none
  | _ => none
def am_la (G : am_H) (k : Nat) : Option (Nat × (Nat → Int64)) := match G[k]? with
  | some (.inr (.inl (n, f))) => some (n, f)
  | _ => none
def am_ra (G : am_H) (k : Nat) : Option (Nat × (Nat → Option Nat)) := match G[k]? with
  | some (.inr (.inr (.inl (n, f)))) => some (n, f)
  | _ => none
def am_alen (G : am_H) (k : Nat) : Option Nat := match G[k]? with
  | some (.inl (_, n, _)) => some n
  | some (.inr (.inl (n, _))) => some n
  | some (.inr (.inr (.inl (n, _)))) => some n
  | _ => none
def am_fit (ty : FieldType) (v : Value) : Prop := match ty, v with
  | .int, .int _ => True
  | .boolean, .int x => x = 0 ∨ x = 1
  | .long, .long _ => True
  | .object _, .ref _ => True
  | .array _, .ref _ => True
  | _, _ => False
def am_gt (o : Option Value) (K : Value → Prop) : Prop := match o with | some v => K v | none => False
def am_get (o : Option (List Value)) (k : Nat) (K : Value → Prop) : Prop := match o with
  | some fs => am_gt fs[k]? K
  | none => False
def am_put (o : Option (List Value)) (K : List Value → Prop) : Prop := match o with | some fs => K fs | none => False
def am_arr {α : Type} (o : Option (Nat × α)) (i : Int32) (K : Nat → α → Nat → Prop) : Prop := match o with
  | some (n, f) => vp_in i n ∧ K n f i.toNatClampNeg
  | none => False
def am_len (o : Option Nat) (K : Int32 → Prop) : Prop := match o with | some n => K (Int32.ofNat n) | none => False
def am_pop : Nat → List Value → List Value → Option (List Value × List Value)
  | 0, st, acc => some (acc, st)
  | n + 1, v :: st, acc => am_pop n st (v :: acc)
  | _ + 1, [], _ => none
def am_cat (r : List Value) : Nat := (r.map fun v => v.category).sum
/-- no value speaks of a cell that isn't there yet -/
def am_fv (n : Nat) : Value → Prop | .ref k => k < n | _ => True
def am_fC (n : Nat) : am_C → Prop
  | .inr (.inr (.inl (_, f))) => ∀ j k, f j = some k → k < n
  | .inr (.inr (.inr (_, fs))) => ∀ v ∈ fs, am_fv n v
  | _ => True
def am_fr (L : List (Option Value)) (st : List Value) (G : am_H) : Prop := (∀ o ∈ L, ∀ v, o = some v → am_fv G.length v) ∧ (∀ v ∈ st, am_fv G.length v) ∧ ∀ c ∈ G, am_fC G.length c
def am_sw (x : Int32) (lo : Int32) (dflt : Nat) (K : Nat → Prop) : List Nat → Prop
  | [] => K dflt
  | t :: r => if x = lo then K t else am_sw x (lo + 1) dflt K r
def am_ci : Nat → Nat := fun j => if j < 15 then 0 else if j < 23 then 1 else if j < 40 then 2 else if j < 44 then 3 else if j < 92 then 4 else 5
def am_I1 (st : List Value) (K : Int32 → List Value → Prop) : Prop := match st with | .int x :: r => K x r | _ => False
def am_I2 (st : List Value) (K : Int32 → Int32 → List Value → Prop) : Prop := match st with | .int y :: .int x :: r => K x y r | _ => False
def am_J1 (st : List Value) (K : Int64 → List Value → Prop) : Prop := match st with | .long x :: r => K x r | _ => False
def am_J2 (st : List Value) (K : Int64 → Int64 → List Value → Prop) : Prop := match st with | .long y :: .long x :: r => K x y r | _ => False
def am_JI (st : List Value) (K : Int64 → Int32 → List Value → Prop) : Prop := match st with | .int y :: .long x :: r => K x y r | _ => False
def am_R1 (st : List Value) (K : Nat → List Value → Prop) : Prop := match st with | .ref x :: r => K x r | _ => False
def am_IR (st : List Value) (K : Int32 → Nat → List Value → Prop) : Prop := match st with | .int j :: .ref k :: r => K j k r | _ => False
def am_IRS (st : List Value) (K : Int32 → Nat → List Value → Prop) (S : Int32 → List Value → Prop) : Prop := match st with | .int j :: .ref k :: r => K j k r | .int j :: .float _ :: r => S j r | _ => False
def am_IIR (st : List Value) (K : Int32 → Int32 → Nat → List Value → Prop) : Prop := match st with | .int y :: .int j :: .ref k :: r => K y j k r | _ => False
def am_JIR (st : List Value) (K : Int64 → Int32 → Nat → List Value → Prop) : Prop := match st with | .long y :: .int j :: .ref k :: r => K y j k r | _ => False
def am_RIR (st : List Value) (K : Nat → Int32 → Nat → List Value → Prop) : Prop := match st with | .ref y :: .int j :: .ref k :: r => K y j k r | _ => False
def am_VR (st : List Value) (K : Value → Nat → List Value → Prop) : Prop := match st with | v :: .ref k :: r => K v k r | _ => False
def am_RS (st : List Value) (K : Nat → List Value → Prop) (S : List Value → Prop) : Prop := match st with | .ref k :: r => K k r | .float _ :: r => S r | _ => False
def am_RN (st : List Value) (K S : List Value → Prop) : Prop := match st with | .ref _ :: r => K r | .null :: r => S r | _ => False
def am_V1 (st : List Value) (K : Value → List Value → Prop) : Prop := match st with | v :: r => K v r | _ => False
def am_AR (st : List Value) (K : Value → List Value → Prop) : Prop := match st with | .ref k :: r => K (.ref k) r | .null :: r => K .null r | _ => False
def am_A (o : Option (List Value × List Value)) (K : List Value → List Value → Prop) : Prop := match o with | some (as, r) => K as r | none => False
def am_mt (r : List Value) (K : Prop) : Prop := match r with | [] => K | _ => False
def am_na (kd n : Nat) : am_C := if kd = 2 then am_al n (fun _ => 0) else am_ai kd n (fun _ => 0)
def am_step (X : Nat × (Nat → Int32)) (D i pc op nx a b : Nat) (v : Int32) (w : Int64) (L : List (Option Value)) (st : List Value) (G : am_H) (c s : Nat) (P : Option Value → am_H → Prop) (K : am_K) : Prop :=
  match op with
  | 1 => am_iv (am_lg L a) (fun x => K nx L (.int x :: st) G c s)
  | 2 => am_av (am_lg L a) (fun x => K nx L (x :: st) G c s)
  | 3 => am_lv (am_lg L a) (fun x => K nx L (.long x :: st) G c s)
  | 4 => K nx L (.int v :: st) G c s
  | 5 => K nx L (.long w :: st) G c s
  | 6 => am_I1 st (fun x r => K nx (am_l1 L a (.int x)) r G c s)
  | 7 => am_AR st (fun x r => K nx (am_l1 L a x) r G c s)
  | 8 => am_J1 st (fun x r => K nx (am_l2 L a (.long x)) r G c s)
  | 9 => am_iv (am_lg L a) (fun x => K nx (am_l1 L a (.int (x + v))) st G c s)
  | 10 => am_I2 st (fun x y r => K nx L (.int (x + y) :: r) G c s)
  | 11 => am_I2 st (fun x y r => K nx L (.int (x - y) :: r) G c s)
  | 12 => am_I2 st (fun x y r => K nx L (.int (x * y) :: r) G c s)
  | 13 => am_I2 st (fun x y r => ¬ y = 0 ∧ K nx L (.int (x / y) :: r) G c s)
  | 14 => am_I2 st (fun x y r => ¬ y = 0 ∧ K nx L (.int (x - x / y * y) :: r) G c s)
  | 15 => am_I1 st (fun x r => K nx L (.int (-x) :: r) G c s)
  | 16 => am_I2 st (fun x y r => K nx L (.int (x <<< (y &&& 31)) :: r) G c s)
  | 17 => am_I2 st (fun x y r => K nx L (.int (x >>> (y &&& 31)) :: r) G c s)
  | 18 => am_I2 st (fun x y r => K nx L (.int ((x.toUInt32 >>> (y.toUInt32 &&& Int32.toUInt32 31)).toInt32) :: r) G c s)
  | 19 => am_I2 st (fun x y r => K nx L (.int (x &&& y) :: r) G c s)
  | 20 => am_I2 st (fun x y r => K nx L (.int (x ||| y) :: r) G c s)
  | 21 => am_I2 st (fun x y r => K nx L (.int (x ^^^ y) :: r) G c s)
  | 22 => am_J2 st (fun x y r => K nx L (.long (x + y) :: r) G c s)
  | 23 => am_J2 st (fun x y r => K nx L (.long (x - y) :: r) G c s)
  | 24 => am_J2 st (fun x y r => K nx L (.long (x &&& y) :: r) G c s)
  | 25 => am_J2 st (fun x y r => K nx L (.long (x ||| y) :: r) G c s)
  | 26 => am_J2 st (fun x y r => K nx L (.long (x ^^^ y) :: r) G c s)
  | 27 => am_JI st (fun x y r => K nx L (.long (x <<< (y.toInt64 &&& 63)) :: r) G c s)
  | 28 => am_JI st (fun x y r => K nx L (.long (x >>> (y.toInt64 &&& 63)) :: r) G c s)
  | 29 => am_JI st (fun x y r => K nx L (.long ((x.toUInt64 >>> (y.toInt64.toUInt64 &&& Int64.toUInt64 63)).toInt64) :: r) G c s)
  | 30 => am_J2 st (fun x y r => K nx L (.int (lg_cmp x y) :: r) G c s)
  | 31 => am_J1 st (fun x r => K nx L (.int x.toInt32 :: r) G c s)
  | 32 => am_I1 st (fun x r => K nx L (.long x.toInt64 :: r) G c s)
  | 33 => am_I2 st (fun x y r => if x = y then K a L r G c s else K nx L r G c s)
  | 34 => am_I2 st (fun x y r => if x = y then K nx L r G c s else K a L r G c s)
  | 35 => am_I2 st (fun x y r => if x < y then K a L r G c s else K nx L r G c s)
  | 36 => am_I2 st (fun x y r => if x < y then K nx L r G c s else K a L r G c s)
  | 37 => am_I2 st (fun x y r => if y < x then K a L r G c s else K nx L r G c s)
  | 38 => am_I2 st (fun x y r => if y < x then K nx L r G c s else K a L r G c s)
  | 39 => am_I1 st (fun x r => if x = 0 then K a L r G c s else K nx L r G c s)
  | 40 => am_I1 st (fun x r => if x = 0 then K nx L r G c s else K a L r G c s)
  | 41 => am_I1 st (fun x r => if x < 0 then K a L r G c s else K nx L r G c s)
  | 42 => am_I1 st (fun x r => if x < 0 then K nx L r G c s else K a L r G c s)
  | 43 => am_I1 st (fun x r => if 0 < x then K a L r G c s else K nx L r G c s)
  | 44 => am_I1 st (fun x r => if 0 < x then K nx L r G c s else K a L r G c s)
  | 45 => K a L st G c s
  | 46 => am_RN st (fun r => K a L r G c s) (fun r => K nx L r G c s)
  | 48 => am_R1 st (fun k r => am_get (am_ob G k a) b (fun v => K nx L (v :: r) G c s))
  | 49 => am_VR st (fun v k r => am_fit (am_tT a b) v ∧ am_put (am_ob G k a) (fun fs => b < fs.length ∧ K nx L r (G.set k (am_o a (fs.set b v))) c s))
  | 50 => am_VR st (fun v k r => am_fit (am_tT a b) v ∧ am_put (am_ob G k a) (fun fs => b < fs.length ∧ K nx L r (G.set k (am_o a (fs.set b v))) c s))
  | 51 => am_IRS st (fun j k r => am_arr (am_ia G k 0) j (fun _ f j => K nx L (.int (f j) :: r) G c s)) (fun j r => vp_in j X.1 ∧ K nx L (.int (X.2 j.toNatClampNeg) :: r) G c s)
  | 52 => am_IIR st (fun y j k r => am_arr (am_ia G k 0) j (fun n f j => K nx L r (G.set k (am_ai 0 n (upd f j y))) c s))
  | 53 => am_IR st (fun j k r => am_arr (am_la G k) j (fun _ f j => K nx L (.long (f j) :: r) G c s))
  | 54 => am_JIR st (fun y j k r => am_arr (am_la G k) j (fun n f j => K nx L r (G.set k (am_al n (vp_updL f j y))) c s))
  | 55 => am_IR st (fun j k r => am_arr (am_ia G k 1) j (fun _ f j => K nx L (.int (f j) :: r) G c s))
  | 56 => am_IIR st (fun y j k r => am_arr (am_ia G k 1) j (fun n f j => K nx L r (G.set k (am_ai 1 n (upd f j (vp_nar .boolean y)))) c s))
  | 57 => am_IR st (fun j k r => am_arr (am_ra G k) j (fun _ f j => K nx L (va_rf (f j) :: r) G c s))
  | 58 => am_RIR st (fun z j k r => (am_ob G z 2).isSome ∧ am_arr (am_ra G k) j (fun n f j => K nx L r (G.set k (am_ar n (va_up f j (some z)))) c s))
  | 59 => am_RS st (fun k r => am_len (am_alen G k) (fun n => K nx L (.int n :: r) G c s)) (fun r => K nx L (.int (Int32.ofNat X.1) :: r) G c s)
  | 60 => c + 1 ≤ am_mc i ∧ s + am_N a ≤ am_ms i ∧ am_fr L st G ∧ K nx L (.ref G.length :: st) (G ++ [am_o a (am_df a)]) (c + 1) (s + am_N a)
  | 61 => am_I1 st (fun n r => ¬ n < 0 ∧ n.toNatClampNeg ≤ 60000000 ∧ c + 1 ≤ am_mc i ∧ s + n.toNatClampNeg ≤ am_ms i ∧ am_fr L r G ∧ K nx L (.ref G.length :: r) (G ++ [am_na a n.toNatClampNeg]) (c + 1) (s + n.toNatClampNeg))
  | 62 => am_I1 st (fun n r => ¬ n < 0 ∧ n.toNatClampNeg ≤ 60000000 ∧ c + 1 ≤ am_mc i ∧ s + n.toNatClampNeg ≤ am_ms i ∧ am_fr L r G ∧ K nx L (.ref G.length :: r) (G ++ [am_ar n.toNatClampNeg (fun _ => none)]) (c + 1) (s + n.toNatClampNeg))
  | 63 => am_V1 st (fun v r => v.category = 1 ∧ K nx L (v :: v :: r) G c s)
  | 64 => K nx L (.null :: st) G c s
  | 65 => am_A (am_pop b st []) (fun as r => am_R1 r (fun k r => (am_ob G k (am_ci a)).isSome ∧ am_cat r ≤ 8 ∧ am_CB X D a (.ref k :: as) G (fun v G1 => K nx L (v.toList ++ r) G1 c s)))
  | 66 => am_A (am_pop b st []) (fun as r => am_cat r ≤ 8 ∧ am_CB X D a as G (fun v G1 => K nx L (v.toList ++ r) G1 c s))
  | 67 => am_A (am_pop b st []) (fun as r => am_cat r ≤ 8 ∧ am_CB X D a as G (fun v G1 => K nx L (v.toList ++ r) G1 c s))
  | 68 => am_A (am_pop b st []) (fun as r => am_R1 r (fun k r => am_cat r ≤ 8 ∧ c + am_mc a ≤ am_mc i ∧ s + am_ms a ≤ am_ms i ∧ am_fr L r G ∧ am_CB X D a (.ref k :: as) G (fun v G1 => K nx L (v.toList ++ r) G1 (c + am_mc a) (s + am_ms a))))
  | 69 => am_R1 st (fun _ r => 1 ≤ D ∧ am_cat r ≤ 8 ∧ K nx L r G c s)
  | 70 => am_I1 st (fun x r => am_mt r ((a = 1 → x = 0 ∨ x = 1) ∧ c ≤ am_mc i ∧ s ≤ am_ms i ∧ P (some (.int x)) G))
  | 71 => am_J1 st (fun x r => am_mt r (c ≤ am_mc i ∧ s ≤ am_ms i ∧ P (some (.long x)) G))
  | 72 => am_AR st (fun x r => am_mt r (c ≤ am_mc i ∧ s ≤ am_ms i ∧ P (some x) G))
  | 73 => am_mt st (c ≤ am_mc i ∧ s ≤ am_ms i ∧ P none G)
  | 74 => am_I1 st (fun x r => am_sw x v a (fun t => K t L r G c s) (am_swt i pc))
  | 75 => am_I2 st (fun x y r => 1 ≤ D ∧ am_cat r ≤ 8 ∧ K nx L (.int (if x < y then y else x) :: r) G c s)
  | 76 => am_I2 st (fun x y r => 1 ≤ D ∧ am_cat r ≤ 8 ∧ K nx L (.int (if y < x then y else x) :: r) G c s)
  | _ => False
