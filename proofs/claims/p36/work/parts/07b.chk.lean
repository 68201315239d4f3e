theorem am_mf_all {j : Nat} (h : j < 109) : am_mf j = true := by
  by_cases h0 : j < 10
  · have := am_mf_0 (j - 0) (by omega); rwa [show 0 + (j - 0) = j by omega] at this
  by_cases h10 : j < 20
  · have := am_mf_10 (j - 10) (by omega); rwa [show 10 + (j - 10) = j by omega] at this
  by_cases h20 : j < 30
  · have := am_mf_20 (j - 20) (by omega); rwa [show 20 + (j - 20) = j by omega] at this
  by_cases h30 : j < 40
  · have := am_mf_30 (j - 30) (by omega); rwa [show 30 + (j - 30) = j by omega] at this
  by_cases h40 : j < 50
  · have := am_mf_40 (j - 40) (by omega); rwa [show 40 + (j - 40) = j by omega] at this
  by_cases h50 : j < 60
  · have := am_mf_50 (j - 50) (by omega); rwa [show 50 + (j - 50) = j by omega] at this
  by_cases h60 : j < 70
  · have := am_mf_60 (j - 60) (by omega); rwa [show 60 + (j - 60) = j by omega] at this
  by_cases h70 : j < 80
  · have := am_mf_70 (j - 70) (by omega); rwa [show 70 + (j - 70) = j by omega] at this
  by_cases h80 : j < 90
  · have := am_mf_80 (j - 80) (by omega); rwa [show 80 + (j - 80) = j by omega] at this
  by_cases h90 : j < 91
  · have := am_mf_90 (j - 90) (by omega); rwa [show 90 + (j - 90) = j by omega] at this
  by_cases h91 : j < 92
  · have := am_mf_91 (j - 91) (by omega); rwa [show 91 + (j - 91) = j by omega] at this
  by_cases h92 : j < 93
  · have := am_mf_92 (j - 92) (by omega); rwa [show 92 + (j - 92) = j by omega] at this
  by_cases h93 : j < 94
  · have := am_mf_93 (j - 93) (by omega); rwa [show 93 + (j - 93) = j by omega] at this
  by_cases h94 : j < 95
  · have := am_mf_94 (j - 94) (by omega); rwa [show 94 + (j - 94) = j by omega] at this
  by_cases h95 : j < 96
  · have := am_mf_95 (j - 95) (by omega); rwa [show 95 + (j - 95) = j by omega] at this
  by_cases h96 : j < 97
  · have := am_mf_96 (j - 96) (by omega); rwa [show 96 + (j - 96) = j by omega] at this
  by_cases h97 : j < 98
  · have := am_mf_97 (j - 97) (by omega); rwa [show 97 + (j - 97) = j by omega] at this
  by_cases h98 : j < 99
  · have := am_mf_98 (j - 98) (by omega); rwa [show 98 + (j - 98) = j by omega] at this
  by_cases h99 : j < 100
  · have := am_mf_99 (j - 99) (by omega); rwa [show 99 + (j - 99) = j by omega] at this
  by_cases h100 : j < 101
  · have := am_mf_100 (j - 100) (by omega); rwa [show 100 + (j - 100) = j by omega] at this
  by_cases h101 : j < 102
  · have := am_mf_101 (j - 101) (by omega); rwa [show 101 + (j - 101) = j by omega] at this
  by_cases h102 : j < 103
  · have := am_mf_102 (j - 102) (by omega); rwa [show 102 + (j - 102) = j by omega] at this
  by_cases h103 : j < 104
  · have := am_mf_103 (j - 103) (by omega); rwa [show 103 + (j - 103) = j by omega] at this
  by_cases h104 : j < 105
  · have := am_mf_104 (j - 104) (by omega); rwa [show 104 + (j - 104) = j by omega] at this
  by_cases h105 : j < 106
  · have := am_mf_105 (j - 105) (by omega); rwa [show 105 + (j - 105) = j by omega] at this
  by_cases h106 : j < 107
  · have := am_mf_106 (j - 106) (by omega); rwa [show 106 + (j - 106) = j by omega] at this
  by_cases h107 : j < 108
  · have := am_mf_107 (j - 107) (by omega); rwa [show 107 + (j - 107) = j by omega] at this
  by_cases h108 : j < 109
  · have := am_mf_108 (j - 108) (by omega); rwa [show 108 + (j - 108) = j by omega] at this
  omega
theorem am_mwIn {j : Nat} (h : am_mf j = true) {w : Cond} (hw : w ∈ am_mw j) : w ∈ am_GT := by
  simp only [am_mf, Bool.and_eq_true] at h
  obtain ⟨k, hk⟩ := List.getElem?_of_mem hw
  have q := h.1.1.2
  simp only [Bool.and_eq_true, decide_eq_true_eq] at q
  exact am_seg q hk
theorem am_mfs1 {j : Nat} (h : am_mf j = true) (hk : am_kd j = 1) : (parseMethodDescriptor (am_y j).desc).map (fun d => d.parameters.length) = some (am_ar_ j) ∧ ((am_y j).cls ≠ "java/lang/invoke/MethodHandle" ∧ (am_y j).cls ≠ "java/lang/invoke/VarHandle") ∧ am_ml j ≤ 21 ∧ (am_mc j = 0 ∧ am_ms j = 0) ∧ am_ci j < 5 ∧ (am_y j).cls = am_cn (am_ci j) ∧ True := by
  simp only [am_mf, Bool.and_eq_true, decide_eq_true_eq, hk, if_true, show ¬ (1 : Nat) = 2 by decide, if_false] at h
  obtain ⟨⟨⟨⟨⟨⟨h1, h2⟩, h3⟩, h4⟩, h5⟩, h6⟩, h7⟩ := h
  exact ⟨h1, ⟨h2, h3⟩, h4, h6, h7.1, h7.2, trivial⟩
theorem am_mfs0 {j : Nat} (h : am_mf j = true) (hk : am_kd j = 0) : (parseMethodDescriptor (am_y j).desc).map (fun d => d.parameters.length) = some (am_ar_ j) ∧ ((am_y j).cls ≠ "java/lang/invoke/MethodHandle" ∧ (am_y j).cls ≠ "java/lang/invoke/VarHandle") ∧ am_ml j ≤ 21 ∧ (am_mc j = 0 ∧ am_ms j = 0) := by
  simp only [am_mf, Bool.and_eq_true, decide_eq_true_eq, hk, show ¬ (0 : Nat) = 2 by decide, if_false] at h
  obtain ⟨⟨⟨⟨⟨⟨h1, h2⟩, h3⟩, h4⟩, h5⟩, h6⟩, h7⟩ := h
  exact ⟨h1, ⟨h2, h3⟩, h4, h6⟩
theorem am_mfs2 {j : Nat} (h : am_mf j = true) (hk : am_kd j = 2) : (parseMethodDescriptor (am_y j).desc).map (fun d => d.parameters.length) = some (am_ar_ j) ∧ ((am_y j).cls ≠ "java/lang/invoke/MethodHandle" ∧ (am_y j).cls ≠ "java/lang/invoke/VarHandle") ∧ am_ml j ≤ 21 ∧ am_rt j = none ∧ (am_y j).name = "<init>" := by
  simp only [am_mf, Bool.and_eq_true, decide_eq_true_eq, hk, if_true] at h
  obtain ⟨⟨⟨⟨⟨⟨h1, h2⟩, h3⟩, h4⟩, h5⟩, h6⟩, h7⟩ := h
  exact ⟨h1, ⟨h2, h3⟩, h4, h6.1, h6.2⟩
def am_ck (i pc : Nat) (ins : Instr) (n op aa bb xx : Nat) (v : Int32) (w : Int64) : Bool := match ins with
  | .iload_n k => decide (op = 1) && decide ((k : Nat) = aa) && decide (n = 1)
  | .iload k => decide (op = 1) && decide (k = aa) && decide (n = 2)
  | .aload_n k => decide (op = 2) && decide ((k : Nat) = aa) && decide (n = 1)
  | .aload k => decide (op = 2) && decide (k = aa) && decide (n = 2)
  | .lload_n k => decide (op = 3) && decide ((k : Nat) = aa) && decide (n = 1)
  | .lload k => decide (op = 3) && decide (k = aa) && decide (n = 2)
  | .istore_n k => decide (op = 6) && decide ((k : Nat) = aa) && decide (n = 1) && decide (aa < am_ml i)
  | .istore k => decide (op = 6) && decide (k = aa) && decide (n = 2) && decide (aa < am_ml i)
  | .astore_n k => decide (op = 7) && decide ((k : Nat) = aa) && decide (n = 1) && decide (aa < am_ml i)
  | .astore k => decide (op = 7) && decide (k = aa) && decide (n = 2) && decide (aa < am_ml i)
  | .lstore_n k => decide (op = 8) && decide ((k : Nat) = aa) && decide (n = 1) && decide (aa + 1 < am_ml i)
  | .lstore k => decide (op = 8) && decide (k = aa) && decide (n = 2) && decide (aa + 1 < am_ml i)
  | .iconst z => decide (op = 4) && decide (Int32.ofInt z = v) && decide (n = 1)
  | .bipush z => decide (op = 4) && decide ((Int8.ofInt z).toInt32 = v) && decide (n = 2)
  | .sipush z => decide (op = 4) && decide ((Int16.ofInt z).toInt32 = v) && decide (n = 3)
  | .ldc z => decide (op = 4) && decide (z = xx) && decide (n = 2) && decide (Cond.constant (am_mo i) xx v ∈ am_wO)
  | .ldc_w z => decide (op = 4) && decide (z = xx) && decide (n = 3) && decide (Cond.constant (am_mo i) xx v ∈ am_wO)
  | .lconst z => decide (op = 5) && decide (Int64.ofNat (z : Nat) = w) && decide (n = 1)
  | .ldc2_w z => decide (op = 5) && decide (z = xx) && decide (n = 3) && decide (Cond.constantLong (am_mo i) xx w ∈ am_wO)
  | .iinc k z => decide (op = 9) && decide (k = aa) && decide (n = 3) && decide (Int32.ofInt z = v) && decide (aa < am_ml i)
  | .iadd => decide (op = 10) && decide (n = 1)
  | .isub => decide (op = 11) && decide (n = 1)
  | .imul => decide (op = 12) && decide (n = 1)
  | .idiv => decide (op = 13) && decide (n = 1)
  | .irem => decide (op = 14) && decide (n = 1)
  | .ineg => decide (op = 15) && decide (n = 1)
  | .ishl => decide (op = 16) && decide (n = 1)
  | .ishr => decide (op = 17) && decide (n = 1)
  | .iushr => decide (op = 18) && decide (n = 1)
  | .iand => decide (op = 19) && decide (n = 1)
  | .ior => decide (op = 20) && decide (n = 1)
  | .ixor => decide (op = 21) && decide (n = 1)
  | .ladd => decide (op = 22) && decide (n = 1)
  | .lsub => decide (op = 23) && decide (n = 1)
  | .land => decide (op = 24) && decide (n = 1)
  | .lor => decide (op = 25) && decide (n = 1)
  | .lxor => decide (op = 26) && decide (n = 1)
  | .lshl => decide (op = 27) && decide (n = 1)
  | .lshr => decide (op = 28) && decide (n = 1)
  | .lushr => decide (op = 29) && decide (n = 1)
  | .lcmp => decide (op = 30) && decide (n = 1)
  | .l2i => decide (op = 31) && decide (n = 1)
  | .i2l => decide (op = 32) && decide (n = 1)
  | .iaload => decide (op = 51) && decide (n = 1)
  | .iastore => decide (op = 52) && decide (n = 1)
  | .laload => decide (op = 53) && decide (n = 1)
  | .lastore => decide (op = 54) && decide (n = 1)
  | .baload => decide (op = 55) && decide (n = 1)
  | .bastore => decide (op = 56) && decide (n = 1)
  | .aaload => decide (op = 57) && decide (n = 1)
  | .aastore => decide (op = 58) && decide (n = 1)
  | .arraylength => decide (op = 59) && decide (n = 1)
  | .dup => decide (op = 63) && decide (n = 1)
  | .aconst_null => decide (op = 64) && decide (n = 1)
  | .ireturn => decide (op = 70) && decide (n = 1) && (decide (am_rt i = some .int ∧ ¬ aa = 1) || decide (am_rt i = some .boolean ∧ aa = 1))
  | .lreturn => decide (op = 71) && decide (n = 1) && decide (am_rt i = some .long)
  | .areturn => decide (op = 72) && decide (n = 1) && (match am_rt i with | some (.object _) => true | _ => false)
  | .return_ => decide (op = 73) && decide (n = 1) && decide (am_rt i = none)
  | .if_icmp .eq off => decide (op = 33) && decide ((pc : Int) + off = (aa : Int)) && decide (n = 3)
  | .ifCond .eq off => decide (op = 39) && decide ((pc : Int) + off = (aa : Int)) && decide (n = 3)
  | .if_icmp .ne off => decide (op = 34) && decide ((pc : Int) + off = (aa : Int)) && decide (n = 3)
  | .ifCond .ne off => decide (op = 40) && decide ((pc : Int) + off = (aa : Int)) && decide (n = 3)
  | .if_icmp .lt off => decide (op = 35) && decide ((pc : Int) + off = (aa : Int)) && decide (n = 3)
  | .ifCond .lt off => decide (op = 41) && decide ((pc : Int) + off = (aa : Int)) && decide (n = 3)
  | .if_icmp .ge off => decide (op = 36) && decide ((pc : Int) + off = (aa : Int)) && decide (n = 3)
  | .ifCond .ge off => decide (op = 42) && decide ((pc : Int) + off = (aa : Int)) && decide (n = 3)
  | .if_icmp .gt off => decide (op = 37) && decide ((pc : Int) + off = (aa : Int)) && decide (n = 3)
  | .ifCond .gt off => decide (op = 43) && decide ((pc : Int) + off = (aa : Int)) && decide (n = 3)
  | .if_icmp .le off => decide (op = 38) && decide ((pc : Int) + off = (aa : Int)) && decide (n = 3)
  | .ifCond .le off => decide (op = 44) && decide ((pc : Int) + off = (aa : Int)) && decide (n = 3)
  | .goto off => decide (op = 45) && decide ((pc : Int) + off = (aa : Int)) && decide (n = 3)
  | .ifnonnull off => decide (op = 46) && decide ((pc : Int) + off = (aa : Int)) && decide (n = 3)
  | .getfield z => decide (op = 48) && decide (z = xx) && decide (n = 3) && decide (aa < 5) && decide (bb < am_N aa) && decide (Cond.fieldLink (am_mo i) xx (am_T aa bb).1 (am_T aa bb).2.1 (am_T aa bb).2.2.1 ∈ am_wF)
  | .putfield z => (decide (op = 49) && decide ((am_T aa bb).2.2.2 = false) || decide (op = 50) && decide ((am_T aa bb).2.2.2 = true) && decide ((am_y i).name = "<init>") && decide ((am_T aa bb).1 = am_mo i)) && decide (z = xx) && decide (n = 3) && decide (aa < 5) && decide (bb < am_N aa) && decide (Cond.fieldLink (am_mo i) xx (am_T aa bb).1 (am_T aa bb).2.1 (am_T aa bb).2.2.1 ∈ am_wF)
  | .new z => decide (op = 60) && decide (z = xx) && decide (n = 3) && decide (aa < 5) && decide (Cond.classLink (am_mo i) xx (am_cn aa) ∈ am_wO) && decide (Cond.instantiable (am_cn aa) (am_N aa) ∈ am_wO) && decide (Cond.initialized (am_cn aa) ∈ am_wO)
  | .newarray .int => decide (op = 61) && decide (aa = 0) && decide (n = 2) && decide (Cond.arrayClass .int ∈ am_wO)
  | .newarray .boolean => decide (op = 61) && decide (aa = 1) && decide (n = 2) && decide (Cond.arrayClass .boolean ∈ am_wO)
  | .newarray .long => decide (op = 61) && decide (aa = 2) && decide (n = 2) && decide (Cond.arrayClass .long ∈ am_wO)
  | .anewarray z => decide (op = 62) && decide (z = xx) && decide (n = 3) && decide (Cond.classLink (am_mo i) xx RX2 ∈ am_wO)
  | .invokevirtual z => decide (op = 65) && decide (z = xx) && decide (n = 3) && decide (aa < 109) && decide (bb = am_ar_ aa) && decide (am_kd aa = 1) && decide (Cond.methodLink (am_mo i) xx (am_y aa) ∈ am_wM)
  | .invokestatic z => (decide (op = 75) && decide (z = xx) && decide (n = 3) && decide (Cond.methodLink (am_mo i) xx Lib.Math.max.name ∈ am_wO)) || (decide (op = 76) && decide (z = xx) && decide (n = 3) && decide (Cond.methodLink (am_mo i) xx Lib.Math.min.name ∈ am_wO)) || (((decide (op = 66) && decide (Cond.methodLink (am_mo i) xx (am_y aa) ∈ am_wM)) || (decide (op = 67) && decide ((am_mo i, xx, am_y aa, RX4) ∈ am_nl))) && decide (z = xx) && decide (n = 3) && decide (aa < 109) && decide (bb = am_ar_ aa) && decide (am_kd aa = 0))
  | .invokespecial z => (decide (op = 69) && decide (z = xx) && decide (n = 3) && decide (Cond.methodLink (am_mo i) xx objectInit ∈ am_wO)) || (decide (op = 68) && decide (z = xx) && decide (n = 3) && decide (aa < 109) && decide (bb = am_ar_ aa) && decide (am_kd aa = 2) && decide (Cond.methodLink (am_mo i) xx (am_y aa) ∈ am_wM))
  | .tableswitch d lo hi offs => decide (op = 74) && decide ((pc : Int) + d = (aa : Int)) && decide (lo = v.toInt) && decide (0 ≤ lo) && decide (hi + 1 = lo + (am_swt i pc).length) && decide (hi < 1000) && decide (offs.toList.map (fun off => (pc : Int) + off) = (am_swt i pc).map (fun (t : Nat) => (t : Int)))
  | _ => false
def am_chk (i : Nat) (q : Nat × am_I) : Bool := match decode (am_by i) q.1 with
  | .ok (ins, n) => decide (q.2.2.1 = q.1 + n) && am_ck i q.1 ins n q.2.1 q.2.2.2.1 q.2.2.2.2.1 q.2.2.2.2.2.1 q.2.2.2.2.2.2.1 q.2.2.2.2.2.2.2
  | .error _ => false
set_option maxHeartbeats 4000000 in
theorem am_sound0 {X : Nat × (Nat → Int32)} {D i pc op nx aa bb xx n : Nat} {ins : Instr} {v : Int32} {w : Int64} {L : List (Option Value)} {st : List Value} {G : am_H} {c s : Nat} {P : Option Value → am_H → Prop} (hd : decode (am_by i) pc = .ok (ins, n)) (hn : nx = pc + n) (hk : am_ck i pc ins n op aa bb xx v w = true) (hcs : c ≤ am_mc i ∧ s ≤ am_ms i) (h : am_step X D i pc op nx aa bb v w L st G c s P (am_go X D i P)) : am_WP X D i pc L st G c s P := by
  unfold am_ck at hk
  split at hk
  · next k =>
    simp only [Bool.and_eq_true, decide_eq_true_eq] at hk
    obtain ⟨⟨e1, e2⟩, e3⟩ := hk
    subst e1; subst e3; exact am_z1 (Or.inl ⟨k, hd, e2, hn⟩) h
  · next k =>
    simp only [Bool.and_eq_true, decide_eq_true_eq] at hk
    obtain ⟨⟨e1, e2⟩, e3⟩ := hk
    subst e1; subst e2; subst e3; exact am_z1 (Or.inr ⟨hd, hn⟩) h
  · next k =>
    simp only [Bool.and_eq_true, decide_eq_true_eq] at hk
    obtain ⟨⟨e1, e2⟩, e3⟩ := hk
    subst e1; subst e3; exact am_z2 (Or.inl ⟨k, hd, e2, hn⟩) h
  · next k =>
    simp only [Bool.and_eq_true, decide_eq_true_eq] at hk
    obtain ⟨⟨e1, e2⟩, e3⟩ := hk
    subst e1; subst e2; subst e3; exact am_z2 (Or.inr ⟨hd, hn⟩) h
  · next k =>
    simp only [Bool.and_eq_true, decide_eq_true_eq] at hk
    obtain ⟨⟨e1, e2⟩, e3⟩ := hk
    subst e1; subst e3; exact am_z3 (Or.inl ⟨k, hd, e2, hn⟩) h
  · next k =>
    simp only [Bool.and_eq_true, decide_eq_true_eq] at hk
    obtain ⟨⟨e1, e2⟩, e3⟩ := hk
    subst e1; subst e2; subst e3; exact am_z3 (Or.inr ⟨hd, hn⟩) h
  · next k =>
    simp only [Bool.and_eq_true, decide_eq_true_eq] at hk
    obtain ⟨⟨⟨e1, e2⟩, e3⟩, e4⟩ := hk
    subst e1; subst e3; exact am_z6 e4 (Or.inl ⟨k, hd, e2, hn⟩) h
  · next k =>
    simp only [Bool.and_eq_true, decide_eq_true_eq] at hk
    obtain ⟨⟨⟨e1, e2⟩, e3⟩, e4⟩ := hk
    subst e1; subst e2; subst e3; exact am_z6 e4 (Or.inr ⟨hd, hn⟩) h
  · next k =>
    simp only [Bool.and_eq_true, decide_eq_true_eq] at hk
    obtain ⟨⟨⟨e1, e2⟩, e3⟩, e4⟩ := hk
    subst e1; subst e3; exact am_z7 e4 (Or.inl ⟨k, hd, e2, hn⟩) h
  · next k =>
    simp only [Bool.and_eq_true, decide_eq_true_eq] at hk
    obtain ⟨⟨⟨e1, e2⟩, e3⟩, e4⟩ := hk
    subst e1; subst e2; subst e3; exact am_z7 e4 (Or.inr ⟨hd, hn⟩) h
  · next k =>
    simp only [Bool.and_eq_true, decide_eq_true_eq] at hk
    obtain ⟨⟨⟨e1, e2⟩, e3⟩, e4⟩ := hk
    subst e1; subst e3; exact am_z8 e4 (Or.inl ⟨k, hd, e2, hn⟩) h
  · next k =>
    simp only [Bool.and_eq_true, decide_eq_true_eq] at hk
    obtain ⟨⟨⟨e1, e2⟩, e3⟩, e4⟩ := hk
    subst e1; subst e2; subst e3; exact am_z8 e4 (Or.inr ⟨hd, hn⟩) h
  · next z =>
    simp only [Bool.and_eq_true, decide_eq_true_eq] at hk
    obtain ⟨⟨e1, e2⟩, e3⟩ := hk
    subst e1; subst e3; exact am_z4 (xx := xx) (Or.inl ⟨z, hd, e2, hn⟩) h
  · next z =>
    simp only [Bool.and_eq_true, decide_eq_true_eq] at hk
    obtain ⟨⟨e1, e2⟩, e3⟩ := hk
    subst e1; subst e3; exact am_z4 (xx := xx) (Or.inr (Or.inl ⟨z, hd, e2, hn⟩)) h
  · next z =>
    simp only [Bool.and_eq_true, decide_eq_true_eq] at hk
    obtain ⟨⟨e1, e2⟩, e3⟩ := hk
    subst e1; subst e3; exact am_z4 (xx := xx) (Or.inr (Or.inr (Or.inl ⟨z, hd, e2, hn⟩))) h
  · next z =>
    simp only [Bool.and_eq_true, decide_eq_true_eq] at hk
    obtain ⟨⟨⟨e1, e2⟩, e3⟩, e4⟩ := hk
    subst e1; subst e2; subst e3; exact am_z4 (Or.inr (Or.inr (Or.inr (Or.inl ⟨hd, am_wO_in _ e4, hn⟩)))) h
  · next z =>
    simp only [Bool.and_eq_true, decide_eq_true_eq] at hk
    obtain ⟨⟨⟨e1, e2⟩, e3⟩, e4⟩ := hk
    subst e1; subst e2; subst e3; exact am_z4 (Or.inr (Or.inr (Or.inr (Or.inr ⟨hd, am_wO_in _ e4, hn⟩)))) h
  · next z =>
    simp only [Bool.and_eq_true, decide_eq_true_eq] at hk
    obtain ⟨⟨e1, e2⟩, e3⟩ := hk
    subst e1; subst e3; exact am_z5 (xx := xx) (Or.inl ⟨z, hd, e2, hn⟩) h
  · next z =>
    simp only [Bool.and_eq_true, decide_eq_true_eq] at hk
    obtain ⟨⟨⟨e1, e2⟩, e3⟩, e4⟩ := hk
    subst e1; subst e2; subst e3; exact am_z5 (Or.inr ⟨hd, am_wO_in _ e4, hn⟩) h
  · next k z =>
    simp only [Bool.and_eq_true, decide_eq_true_eq] at hk
    obtain ⟨⟨⟨⟨e1, e2⟩, e3⟩, e4⟩, e5⟩ := hk
    subst e1; subst e2; subst e3; exact am_z9 e5 ⟨z, hd, e4⟩ hn h
  · skip
    simp only [Bool.and_eq_true, decide_eq_true_eq] at hk
    obtain ⟨e1, e2⟩ := hk
    subst e1; subst e2; exact am_z10 hd hn h
  · skip
    simp only [Bool.and_eq_true, decide_eq_true_eq] at hk
    obtain ⟨e1, e2⟩ := hk
    subst e1; subst e2; exact am_z11 hd hn h
  · skip
    simp only [Bool.and_eq_true, decide_eq_true_eq] at hk
    obtain ⟨e1, e2⟩ := hk
    subst e1; subst e2; exact am_z12 hd hn h
  · skip
    simp only [Bool.and_eq_true, decide_eq_true_eq] at hk
    obtain ⟨e1, e2⟩ := hk
    subst e1; subst e2; exact am_z13 hd hn h
  · skip
    simp only [Bool.and_eq_true, decide_eq_true_eq] at hk
    obtain ⟨e1, e2⟩ := hk
    subst e1; subst e2; exact am_z14 hd hn h
  · skip
    simp only [Bool.and_eq_true, decide_eq_true_eq] at hk
    obtain ⟨e1, e2⟩ := hk
    subst e1; subst e2; exact am_z15 hd hn h
  · skip
    simp only [Bool.and_eq_true, decide_eq_true_eq] at hk
    obtain ⟨e1, e2⟩ := hk
    subst e1; subst e2; exact am_z16 hd hn h
  · skip
    simp only [Bool.and_eq_true, decide_eq_true_eq] at hk
    obtain ⟨e1, e2⟩ := hk
    subst e1; subst e2; exact am_z17 hd hn h
  · skip
    simp only [Bool.and_eq_true, decide_eq_true_eq] at hk
    obtain ⟨e1, e2⟩ := hk
    subst e1; subst e2; exact am_z18 hd hn h
  · skip
    simp only [Bool.and_eq_true, decide_eq_true_eq] at hk
    obtain ⟨e1, e2⟩ := hk
    subst e1; subst e2; exact am_z19 hd hn h
  · skip
    simp only [Bool.and_eq_true, decide_eq_true_eq] at hk
    obtain ⟨e1, e2⟩ := hk
    subst e1; subst e2; exact am_z20 hd hn h
  · skip
    simp only [Bool.and_eq_true, decide_eq_true_eq] at hk
    obtain ⟨e1, e2⟩ := hk
    subst e1; subst e2; exact am_z21 hd hn h
  · skip
    simp only [Bool.and_eq_true, decide_eq_true_eq] at hk
    obtain ⟨e1, e2⟩ := hk
    subst e1; subst e2; exact am_z22 hd hn h
  · skip
    simp only [Bool.and_eq_true, decide_eq_true_eq] at hk
    obtain ⟨e1, e2⟩ := hk
    subst e1; subst e2; exact am_z23 hd hn h
  · skip
    simp only [Bool.and_eq_true, decide_eq_true_eq] at hk
    obtain ⟨e1, e2⟩ := hk
    subst e1; subst e2; exact am_z24 hd hn h
  · skip
    simp only [Bool.and_eq_true, decide_eq_true_eq] at hk
    obtain ⟨e1, e2⟩ := hk
    subst e1; subst e2; exact am_z25 hd hn h
  · skip
    simp only [Bool.and_eq_true, decide_eq_true_eq] at hk
    obtain ⟨e1, e2⟩ := hk
    subst e1; subst e2; exact am_z26 hd hn h
  · skip
    simp only [Bool.and_eq_true, decide_eq_true_eq] at hk
    obtain ⟨e1, e2⟩ := hk
    subst e1; subst e2; exact am_z27 hd hn h
  · skip
    simp only [Bool.and_eq_true, decide_eq_true_eq] at hk
    obtain ⟨e1, e2⟩ := hk
    subst e1; subst e2; exact am_z28 hd hn h
  · skip
    simp only [Bool.and_eq_true, decide_eq_true_eq] at hk
    obtain ⟨e1, e2⟩ := hk
    subst e1; subst e2; exact am_z29 hd hn h
  · skip
    simp only [Bool.and_eq_true, decide_eq_true_eq] at hk
    obtain ⟨e1, e2⟩ := hk
    subst e1; subst e2; exact am_z30 hd hn h
  · skip
    simp only [Bool.and_eq_true, decide_eq_true_eq] at hk
    obtain ⟨e1, e2⟩ := hk
    subst e1; subst e2; exact am_z31 hd hn h
  · skip
    simp only [Bool.and_eq_true, decide_eq_true_eq] at hk
    obtain ⟨e1, e2⟩ := hk
    subst e1; subst e2; exact am_z32 hd hn h
  · skip
    simp only [Bool.and_eq_true, decide_eq_true_eq] at hk
    obtain ⟨e1, e2⟩ := hk
    subst e1; subst e2; exact am_z51 hd hn h
  · skip
    simp only [Bool.and_eq_true, decide_eq_true_eq] at hk
    obtain ⟨e1, e2⟩ := hk
    subst e1; subst e2; exact am_z52 hd hn h
  · skip
    simp only [Bool.and_eq_true, decide_eq_true_eq] at hk
    obtain ⟨e1, e2⟩ := hk
    subst e1; subst e2; exact am_z53 hd hn h
  · skip
    simp only [Bool.and_eq_true, decide_eq_true_eq] at hk
    obtain ⟨e1, e2⟩ := hk
    subst e1; subst e2; exact am_z54 hd hn h
  · skip
    simp only [Bool.and_eq_true, decide_eq_true_eq] at hk
    obtain ⟨e1, e2⟩ := hk
    subst e1; subst e2; exact am_z55 hd hn h
  · skip
    simp only [Bool.and_eq_true, decide_eq_true_eq] at hk
    obtain ⟨e1, e2⟩ := hk
    subst e1; subst e2; exact am_z56 hd hn h
  · skip
    simp only [Bool.and_eq_true, decide_eq_true_eq] at hk
    obtain ⟨e1, e2⟩ := hk
    subst e1; subst e2; exact am_z57 hd hn h
  · skip
    simp only [Bool.and_eq_true, decide_eq_true_eq] at hk
    obtain ⟨e1, e2⟩ := hk
    subst e1; subst e2; exact am_z58 hd hn h
  · skip
    simp only [Bool.and_eq_true, decide_eq_true_eq] at hk
    obtain ⟨e1, e2⟩ := hk
    subst e1; subst e2; exact am_z59 hd hn h
  · skip
    simp only [Bool.and_eq_true, decide_eq_true_eq] at hk
    obtain ⟨e1, e2⟩ := hk
    subst e1; subst e2; exact am_z63 hd hn h
  · skip
    simp only [Bool.and_eq_true, decide_eq_true_eq] at hk
    obtain ⟨e1, e2⟩ := hk
    subst e1; subst e2; exact am_z64 hd hn h
  · skip
    simp only [Bool.and_eq_true, decide_eq_true_eq] at hk
    obtain ⟨⟨e1, e2⟩, e3⟩ := hk
    subst e1; subst e2; simp only [Bool.or_eq_true, decide_eq_true_eq] at e3; exact am_z70 e3 hd h
  · skip
    simp only [Bool.and_eq_true, decide_eq_true_eq] at hk
    obtain ⟨⟨e1, e2⟩, e3⟩ := hk
    subst e1; subst e2; exact am_z71 e3 hd h
  · skip
    simp only [Bool.and_eq_true, decide_eq_true_eq] at hk
    obtain ⟨⟨e1, e2⟩, e3⟩ := hk
    subst e1; subst e2; exact am_z72 (by revert e3; cases am_rt i with | none => (intro q; cases q) | some t => (cases t <;> intro q <;> first | exact ⟨_, rfl⟩ | cases q)) hd h
  · skip
    simp only [Bool.and_eq_true, decide_eq_true_eq] at hk
    obtain ⟨⟨e1, e2⟩, e3⟩ := hk
    subst e1; subst e2; exact am_z73 e3 hd h
  · next off =>
    simp only [Bool.and_eq_true, decide_eq_true_eq] at hk
    obtain ⟨⟨e1, e2⟩, e3⟩ := hk
    subst e1; subst e3; exact am_z33 ⟨off, hd, e2⟩ hn h
  · next off =>
    simp only [Bool.and_eq_true, decide_eq_true_eq] at hk
    obtain ⟨⟨e1, e2⟩, e3⟩ := hk
    subst e1; subst e3; exact am_z39 ⟨off, hd, e2⟩ hn h
  · next off =>
    simp only [Bool.and_eq_true, decide_eq_true_eq] at hk
    obtain ⟨⟨e1, e2⟩, e3⟩ := hk
    subst e1; subst e3; exact am_z34 ⟨off, hd, e2⟩ hn h
  · next off =>
    simp only [Bool.and_eq_true, decide_eq_true_eq] at hk
    obtain ⟨⟨e1, e2⟩, e3⟩ := hk
    subst e1; subst e3; exact am_z40 ⟨off, hd, e2⟩ hn h
  · next off =>
    simp only [Bool.and_eq_true, decide_eq_true_eq] at hk
    obtain ⟨⟨e1, e2⟩, e3⟩ := hk
    subst e1; subst e3; exact am_z35 ⟨off, hd, e2⟩ hn h
  · next off =>
    simp only [Bool.and_eq_true, decide_eq_true_eq] at hk
    obtain ⟨⟨e1, e2⟩, e3⟩ := hk
    subst e1; subst e3; exact am_z41 ⟨off, hd, e2⟩ hn h
  · next off =>
    simp only [Bool.and_eq_true, decide_eq_true_eq] at hk
    obtain ⟨⟨e1, e2⟩, e3⟩ := hk
    subst e1; subst e3; exact am_z36 ⟨off, hd, e2⟩ hn h
  · next off =>
    simp only [Bool.and_eq_true, decide_eq_true_eq] at hk
    obtain ⟨⟨e1, e2⟩, e3⟩ := hk
    subst e1; subst e3; exact am_z42 ⟨off, hd, e2⟩ hn h
  · next off =>
    simp only [Bool.and_eq_true, decide_eq_true_eq] at hk
    obtain ⟨⟨e1, e2⟩, e3⟩ := hk
    subst e1; subst e3; exact am_z37 ⟨off, hd, e2⟩ hn h
  · next off =>
    simp only [Bool.and_eq_true, decide_eq_true_eq] at hk
    obtain ⟨⟨e1, e2⟩, e3⟩ := hk
    subst e1; subst e3; exact am_z43 ⟨off, hd, e2⟩ hn h
  · next off =>
    simp only [Bool.and_eq_true, decide_eq_true_eq] at hk
    obtain ⟨⟨e1, e2⟩, e3⟩ := hk
    subst e1; subst e3; exact am_z38 ⟨off, hd, e2⟩ hn h
  · next off =>
    simp only [Bool.and_eq_true, decide_eq_true_eq] at hk
    obtain ⟨⟨e1, e2⟩, e3⟩ := hk
    subst e1; subst e3; exact am_z44 ⟨off, hd, e2⟩ hn h
  · next off =>
    simp only [Bool.and_eq_true, decide_eq_true_eq] at hk
    obtain ⟨⟨e1, e2⟩, e3⟩ := hk
    subst e1; subst e3; exact am_z45 ⟨off, hd, e2⟩ h
  · next off =>
    simp only [Bool.and_eq_true, decide_eq_true_eq] at hk
    obtain ⟨⟨e1, e2⟩, e3⟩ := hk
    subst e1; subst e3; exact am_z46 ⟨off, hd, e2⟩ hn h
  · next z =>
    simp only [Bool.and_eq_true, decide_eq_true_eq] at hk
    obtain ⟨⟨⟨⟨⟨e1, e2⟩, e3⟩, e4⟩, e5⟩, e6⟩ := hk
    subst e1; subst e2; subst e3; exact am_z48 e4 e5 (am_wF_in _ e6) hd hn h
  · next z =>
    simp only [Bool.and_eq_true, decide_eq_true_eq] at hk
    obtain ⟨⟨⟨⟨⟨e1, e2⟩, e3⟩, e4⟩, e5⟩, e6⟩ := hk
    subst e2; subst e3; simp only [Bool.or_eq_true, Bool.and_eq_true, decide_eq_true_eq] at e1; rcases e1 with ⟨e7, e8⟩ | ⟨⟨⟨e7, e8⟩, e9⟩, e10⟩ <;> subst e7; (· exact am_z49 e4 e5 (am_wF_in _ e6) e8 hd hn h); (· exact am_z50 e4 e5 (am_wF_in _ e6) e8 e9 e10 hd hn h)
  · next z =>
    simp only [Bool.and_eq_true, decide_eq_true_eq] at hk
    obtain ⟨⟨⟨⟨⟨⟨e1, e2⟩, e3⟩, e4⟩, e5⟩, e6⟩, e7⟩ := hk
    subst e1; subst e2; subst e3; exact am_z60 e4 (am_wO_in _ e5) (am_wO_in _ e6) (am_wO_in _ e7) hd hn h
  · skip
    simp only [Bool.and_eq_true, decide_eq_true_eq] at hk
    obtain ⟨⟨⟨e1, e2⟩, e3⟩, e4⟩ := hk
    subst e1; subst e2; subst e3; exact am_z61 (Or.inl ⟨rfl, hd, am_wO_in _ e4⟩) hn h
  · skip
    simp only [Bool.and_eq_true, decide_eq_true_eq] at hk
    obtain ⟨⟨⟨e1, e2⟩, e3⟩, e4⟩ := hk
    subst e1; subst e2; subst e3; exact am_z61 (Or.inr (Or.inl ⟨rfl, hd, am_wO_in _ e4⟩)) hn h
  · skip
    simp only [Bool.and_eq_true, decide_eq_true_eq] at hk
    obtain ⟨⟨⟨e1, e2⟩, e3⟩, e4⟩ := hk
    subst e1; subst e2; subst e3; exact am_z61 (Or.inr (Or.inr ⟨rfl, hd, am_wO_in _ e4⟩)) hn h
  · next z =>
    simp only [Bool.and_eq_true, decide_eq_true_eq] at hk
    obtain ⟨⟨⟨e1, e2⟩, e3⟩, e4⟩ := hk
    subst e1; subst e2; subst e3; exact am_z62 (am_wO_in _ e4) hd hn h
  · next z =>
    simp only [Bool.and_eq_true, decide_eq_true_eq] at hk
    obtain ⟨⟨⟨⟨⟨⟨e1, e2⟩, e3⟩, e4⟩, e5⟩, e6⟩, e7⟩ := hk
    subst e1; subst e2; subst e3; subst e5; obtain ⟨f1, f2, f3, f4, f5, f6, f7⟩ := am_mfs1 (am_mf_all e4) e6; exact am_z65 f1 f2 (am_mwIn (am_mf_all e4) (by simp [am_mw])) f3 (am_mwIn (am_mf_all e4) (by simp [am_mw])) f4 (am_wM_in _ e7) (am_mwIn (am_mf_all e4) (by simp [am_mw, e6])) (am_mwIn (am_mf_all e4) (by simp [am_mw, e6])) ⟨f5, f6⟩ hcs hd hn h
  · next z =>
    simp only [Bool.or_eq_true, Bool.and_eq_true, decide_eq_true_eq] at hk
    rcases hk with (⟨⟨⟨e1, e2⟩, e3⟩, e4⟩ | ⟨⟨⟨e1, e2⟩, e3⟩, e4⟩) | ⟨⟨⟨⟨⟨e1, e2⟩, e3⟩, e4⟩, e5⟩, e6⟩
    · subst e1; subst e2; subst e3
      exact am_z75 (am_wO_in _ e4) (am_wO_in _ (by decide +kernel)) (am_wO_in _ (by decide +kernel)) (am_wO_in _ (by decide +kernel)) hcs hd hn h
    · subst e1; subst e2; subst e3
      exact am_z76 (am_wO_in _ e4) (am_wO_in _ (by decide +kernel)) (am_wO_in _ (by decide +kernel)) (am_wO_in _ (by decide +kernel)) hcs hd hn h
    · subst e2; subst e3; subst e5
      obtain ⟨f1, f2, f3, f4⟩ := am_mfs0 (am_mf_all e4) e6
      rcases e1 with ⟨e7, e8⟩ | ⟨e7, e8⟩ <;> subst e7
      · exact am_z66 f1 f2 (am_mwIn (am_mf_all e4) (by simp [am_mw])) f3 (am_mwIn (am_mf_all e4) (by simp [am_mw])) f4 (am_wM_in _ e8) (am_mwIn (am_mf_all e4) (by simp [am_mw, e6])) hcs hd hn h
      · exact am_z67 f1 f2 (am_mwIn (am_mf_all e4) (by simp [am_mw])) f3 (am_mwIn (am_mf_all e4) (by simp [am_mw])) f4 e8 (am_mwIn (am_mf_all e4) (by simp [am_mw, e6])) hcs hd hn h
  · next z =>
    simp only [Bool.or_eq_true, Bool.and_eq_true, decide_eq_true_eq] at hk
    rcases hk with ⟨⟨⟨e1, e2⟩, e3⟩, e4⟩ | ⟨⟨⟨⟨⟨⟨e1, e2⟩, e3⟩, e4⟩, e5⟩, e6⟩, e7⟩
    · subst e1; subst e2; subst e3
      exact am_z69 (am_wO_in _ e4) (am_wO_in _ (by decide +kernel)) (am_wO_in _ (by decide +kernel)) hd hn h
    · subst e1; subst e2; subst e3; subst e5
      obtain ⟨f1, f2, f3, f4, f5⟩ := am_mfs2 (am_mf_all e4) e6
      exact am_z68 f1 f2 (am_mwIn (am_mf_all e4) (by simp [am_mw])) f3 (am_mwIn (am_mf_all e4) (by simp [am_mw])) f4 f5 (am_wM_in _ e7) (am_mwIn (am_mf_all e4) (by simp [am_mw, e6])) hd hn h
  · next d lo hi offs =>
    simp only [Bool.and_eq_true, decide_eq_true_eq] at hk
    obtain ⟨⟨⟨⟨⟨⟨e1, e2⟩, e3⟩, e4⟩, e5⟩, e6⟩, e7⟩ := hk
    subst e1
    refine am_z74 ⟨d, lo, hi, offs, n, hd, e2, e3, e4, e5, e6, fun k hk => ?_⟩ h
    have hlen : offs.toList.length = (am_swt i pc).length := by have q := congrArg List.length e7; simpa using q
    have hko : k < offs.toList.length := by omega
    refine ⟨offs.toList[k], ?_, fun t ht => ?_⟩
    · rw [← Array.getElem?_toList, List.getElem?_eq_getElem hko]
    · have q := congrArg (fun l => l[k]?) e7
      simp only [List.getElem?_map, ht, List.getElem?_eq_getElem hko, Option.map_some, Option.some.injEq] at q
      exact q
  · cases hk
theorem am_sound {X : Nat × (Nat → Int32)} {D i pc op nx aa bb xx : Nat} {v : Int32} {w : Int64} {L : List (Option Value)} {st : List Value} {G : am_H} {c s : Nat} {P : Option Value → am_H → Prop} (hk : am_chk i (pc, op, nx, aa, bb, xx, v, w) = true) (hcs : c ≤ am_mc i ∧ s ≤ am_ms i) (h : am_step X D i pc op nx aa bb v w L st G c s P (am_go X D i P)) : am_WP X D i pc L st G c s P := by
  unfold am_chk at hk
  split at hk
  · next ins n hd =>
    simp only [Bool.and_eq_true, decide_eq_true_eq] at hk
    exact am_sound0 hd hk.1 hk.2 hcs h
  · cases hk
