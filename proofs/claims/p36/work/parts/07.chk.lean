def am_ar_ : Nat → Nat := fun i => match i with
  | 0 => 1
  | 1 => 1
  | 2 => 5
  | 3 => 0
  | 4 => 1
  | 5 => 2
  | 6 => 2
  | 7 => 1
  | 8 => 1
  | 9 => 2
  | 10 => 2
  | 11 => 2
  | 12 => 1
  | 13 => 2
  | 14 => 1
  | 15 => 0
  | 16 => 1
  | 17 => 1
  | 18 => 1
  | 19 => 1
  | 20 => 1
  | 21 => 1
  | 22 => 2
  | 23 => 0
  | 24 => 3
  | 25 => 1
  | 26 => 1
  | 27 => 1
  | 28 => 0
  | 29 => 0
  | 30 => 1
  | 31 => 1
  | 32 => 2
  | 33 => 0
  | 34 => 1
  | 35 => 1
  | 36 => 0
  | 37 => 0
  | 38 => 0
  | 39 => 0
  | 40 => 0
  | 41 => 3
  | 42 => 2
  | 43 => 2
  | 44 => 0
  | 45 => 3
  | 46 => 3
  | 47 => 3
  | 48 => 2
  | 49 => 1
  | 50 => 2
  | 51 => 3
  | 52 => 0
  | 53 => 0
  | 54 => 1
  | 55 => 0
  | 56 => 2
  | 57 => 2
  | 58 => 2
  | 59 => 1
  | 60 => 0
  | 61 => 0
  | 62 => 1
  | 63 => 0
  | 64 => 1
  | 65 => 0
  | 66 => 1
  | 67 => 1
  | 68 => 1
  | 69 => 0
  | 70 => 1
  | 71 => 2
  | 72 => 2
  | 73 => 2
  | 74 => 1
  | 75 => 0
  | 76 => 2
  | 77 => 2
  | 78 => 2
  | 79 => 3
  | 80 => 1
  | 81 => 0
  | 82 => 0
  | 83 => 3
  | 84 => 3
  | 85 => 1
  | 86 => 1
  | 87 => 1
  | 88 => 2
  | 89 => 2
  | 90 => 1
  | 91 => 1
  | 92 => 1
  | 93 => 1
  | 94 => 2
  | 95 => 2
  | 96 => 1
  | 97 => 2
  | 98 => 2
  | 99 => 3
  | 100 => 3
  | 101 => 3
  | 102 => 2
  | 103 => 3
  | 104 => 3
  | 105 => 3
  | 106 => 2
  | 107 => 2
  | 108 => 2
  | 109 => 1
  | _ => 0
def am_kd : Nat → Nat := fun i => match i with
  | 0 => 2
  | 1 => 1
  | 2 => 0
  | 3 => 1
  | 4 => 1
  | 5 => 1
  | 6 => 1
  | 7 => 1
  | 8 => 1
  | 9 => 1
  | 10 => 1
  | 11 => 1
  | 12 => 1
  | 13 => 1
  | 14 => 1
  | 15 => 2
  | 16 => 1
  | 17 => 1
  | 18 => 0
  | 19 => 0
  | 20 => 1
  | 21 => 1
  | 22 => 1
  | 23 => 2
  | 24 => 1
  | 25 => 1
  | 26 => 1
  | 27 => 1
  | 28 => 1
  | 29 => 1
  | 30 => 1
  | 31 => 1
  | 32 => 1
  | 33 => 1
  | 34 => 1
  | 35 => 1
  | 36 => 1
  | 37 => 1
  | 38 => 1
  | 39 => 1
  | 40 => 2
  | 41 => 1
  | 42 => 1
  | 43 => 1
  | 44 => 2
  | 45 => 1
  | 46 => 1
  | 47 => 1
  | 48 => 1
  | 49 => 1
  | 50 => 1
  | 51 => 1
  | 52 => 1
  | 53 => 1
  | 54 => 1
  | 55 => 1
  | 56 => 1
  | 57 => 1
  | 58 => 1
  | 59 => 1
  | 60 => 1
  | 61 => 1
  | 62 => 1
  | 63 => 1
  | 64 => 1
  | 65 => 1
  | 66 => 1
  | 67 => 1
  | 68 => 1
  | 69 => 1
  | 70 => 1
  | 71 => 1
  | 72 => 1
  | 73 => 1
  | 74 => 1
  | 75 => 1
  | 76 => 1
  | 77 => 1
  | 78 => 1
  | 79 => 1
  | 80 => 1
  | 81 => 1
  | 82 => 1
  | 83 => 1
  | 84 => 1
  | 85 => 1
  | 86 => 1
  | 87 => 1
  | 88 => 0
  | 89 => 0
  | 90 => 0
  | 91 => 0
  | 92 => 0
  | 93 => 0
  | 94 => 0
  | 95 => 0
  | 96 => 0
  | 97 => 0
  | 98 => 0
  | 99 => 0
  | 100 => 0
  | 101 => 0
  | 102 => 0
  | 103 => 0
  | 104 => 0
  | 105 => 0
  | 106 => 0
  | 107 => 0
  | 108 => 0
  | _ => 3
theorem am_seg {ps : List Nat} {ws : List Cond} {k : Nat} {w : Cond} (h : ps.map (fun i => lw_tbl[i]?) = ws.map some ∧ ws.all goodWord = true) (hk : ws[k]? = some w) : w ∈ am_GT := by
  have q := congrArg (fun l => l[k]?) h.1
  simp only [List.getElem?_map, hk, Option.map_some] at q
  cases hp : ps[k]? with
  | none => rw [hp] at q; cases q
  | some i =>
    rw [hp] at q
    simp only [Option.map_some, Option.some.injEq] at q
    exact List.mem_filter.mpr ⟨List.mem_of_getElem? q, List.all_eq_true.mp h.2 w (List.mem_of_getElem? hk)⟩
def am_wF : List Cond := [.fieldLink RX0 15 (am_T 0 0).1 (am_T 0 0).2.1 (am_T 0 0).2.2.1, .fieldLink RX0 21 (am_T 0 3).1 (am_T 0 3).2.1 (am_T 0 3).2.2.1, .fieldLink RX0 25 (am_T 0 4).1 (am_T 0 4).2.1 (am_T 0 4).2.2.1, .fieldLink RX0 28 (am_T 0 5).1 (am_T 0 5).2.1 (am_T 0 5).2.2.1, .fieldLink RX0 32 (am_T 2 0).1 (am_T 2 0).2.1 (am_T 2 0).2.2.1, .fieldLink RX0 37 (am_T 0 1).1 (am_T 0 1).2.1 (am_T 0 1).2.2.1, .fieldLink RX0 38 (am_T 0 2).1 (am_T 0 2).2.1 (am_T 0 2).2.2.1, .fieldLink RX1 9 (am_T 1 0).1 (am_T 1 0).2.1 (am_T 1 0).2.2.1, .fieldLink RX1 15 (am_T 1 1).1 (am_T 1 1).2.1 (am_T 1 1).2.2.1, .fieldLink RX2 9 (am_T 2 3).1 (am_T 2 3).2.1 (am_T 2 3).2.2.1, .fieldLink RX2 15 (am_T 2 0).1 (am_T 2 0).2.1 (am_T 2 0).2.2.1, .fieldLink RX2 19 (am_T 2 1).1 (am_T 2 1).2.1 (am_T 2 1).2.2.1, .fieldLink RX2 22 (am_T 2 2).1 (am_T 2 2).2.1 (am_T 2 2).2.2.1, .fieldLink RX3 9 (am_T 3 0).1 (am_T 3 0).2.1 (am_T 3 0).2.2.1, .fieldLink RX3 15 (am_T 3 1).1 (am_T 3 1).2.1 (am_T 3 1).2.2.1, .fieldLink RX3 18 (am_T 3 2).1 (am_T 3 2).2.1 (am_T 3 2).2.2.1, .fieldLink RX3 30 (am_T 0 5).1 (am_T 0 5).2.1 (am_T 0 5).2.2.1, .fieldLink RX4 10 (am_T 4 0).1 (am_T 4 0).2.1 (am_T 4 0).2.2.1, .fieldLink RX4 29 (am_T 4 1).1 (am_T 4 1).2.1 (am_T 4 1).2.2.1, .fieldLink RX4 36 (am_T 4 2).1 (am_T 4 2).2.1 (am_T 4 2).2.2.1, .fieldLink RX4 43 (am_T 4 3).1 (am_T 4 3).2.1 (am_T 4 3).2.2.1, .fieldLink RX4 47 (am_T 4 4).1 (am_T 4 4).2.1 (am_T 4 4).2.2.1, .fieldLink RX4 50 (am_T 4 5).1 (am_T 4 5).2.1 (am_T 4 5).2.2.1, .fieldLink RX4 53 (am_T 4 6).1 (am_T 4 6).2.1 (am_T 4 6).2.2.1, .fieldLink RX4 57 (am_T 4 7).1 (am_T 4 7).2.1 (am_T 4 7).2.2.1, .fieldLink RX4 85 (am_T 2 0).1 (am_T 2 0).2.1 (am_T 2 0).2.2.1, .fieldLink RX4 89 (am_T 2 1).1 (am_T 2 1).2.1 (am_T 2 1).2.2.1, .fieldLink RX4 92 (am_T 2 2).1 (am_T 2 2).2.1 (am_T 2 2).2.2.1, .fieldLink RX4 102 (am_T 1 1).1 (am_T 1 1).2.1 (am_T 1 1).2.2.1, .fieldLink RX4 123 (am_T 0 5).1 (am_T 0 5).2.1 (am_T 0 5).2.2.1, .fieldLink RX4 162 (am_T 1 0).1 (am_T 1 0).2.1 (am_T 1 0).2.2.1]
theorem am_wF_0 : [77, 80, 81, 82, 44, 78, 79, 121, 123, 50, 43, 46, 48, 105, 106, 107, 83, 131, 132, 133, 134, 135, 136, 137, 138, 45, 47, 49, 124, 84, 122].map (fun i => lw_tbl[i]?) = ((am_wF.drop 0).take 40).map some ∧ ((am_wF.drop 0).take 40).all goodWord = true := by decide +kernel
theorem am_wF_in : ∀ w ∈ am_wF, w ∈ am_GT := by
  intro w hw
  obtain ⟨k, hk⟩ := List.getElem?_of_mem hw
  by_cases h0 : k < 40
  · exact am_seg (k := k - 0) am_wF_0 (by simp only [List.getElem?_take, List.getElem?_drop]; rw [if_pos (by omega), show 0 + (k - 0) = k by omega]; exact hk)
  have := (List.getElem?_eq_some_iff.mp hk).1
  have h2 : am_wF.length = 31 := rfl
  omega
def am_wM : List Cond := [.methodLink RX0 41 (am_y 39), .methodLink RX0 45 (am_y 27), .methodLink RX0 49 (am_y 35), .methodLink RX0 53 (am_y 29), .methodLink RX0 60 (am_y 2), .methodLink RX0 64 (am_y 4), .methodLink RX0 68 (am_y 5), .methodLink RX0 72 (am_y 91), .methodLink RX0 77 (am_y 3), .methodLink RX0 83 (am_y 6), .methodLink RX0 86 (am_y 7), .methodLink RX0 89 (am_y 8), .methodLink RX0 93 (am_y 9), .methodLink RX0 96 (am_y 11), .methodLink RX0 103 (am_y 93), .methodLink RX1 19 (am_y 16), .methodLink RX1 23 (am_y 19), .methodLink RX1 27 (am_y 20), .methodLink RX2 25 (am_y 24), .methodLink RX2 33 (am_y 92), .methodLink RX2 43 (am_y 29), .methodLink RX2 47 (am_y 26), .methodLink RX2 51 (am_y 31), .methodLink RX2 54 (am_y 34), .methodLink RX2 57 (am_y 28), .methodLink RX2 63 (am_y 36), .methodLink RX2 67 (am_y 37), .methodLink RX2 70 (am_y 38), .methodLink RX2 73 (am_y 33), .methodLink RX3 22 (am_y 43), .methodLink RX3 26 (am_y 42), .methodLink RX3 41 (am_y 13), .methodLink RX4 9 (am_y 23), .methodLink RX4 16 (am_y 89), .methodLink RX4 20 (am_y 24), .methodLink RX4 26 (am_y 0), .methodLink RX4 35 (am_y 40), .methodLink RX4 42 (am_y 15), .methodLink RX4 61 (am_y 92), .methodLink RX4 67 (am_y 51), .methodLink RX4 70 (am_y 50), .methodLink RX4 74 (am_y 26), .methodLink RX4 78 (am_y 31), .methodLink RX4 81 (am_y 32), .methodLink RX4 95 (am_y 33), .methodLink RX4 99 (am_y 29), .methodLink RX4 103 (am_y 36), .methodLink RX4 107 (am_y 37), .methodLink RX4 110 (am_y 38), .methodLink RX4 113 (am_y 27), .methodLink RX4 116 (am_y 35), .methodLink RX4 119 (am_y 61), .methodLink RX4 126 (am_y 7), .methodLink RX4 129 (am_y 11), .methodLink RX4 132 (am_y 10), .methodLink RX4 135 (am_y 12), .methodLink RX4 138 (am_y 1), .methodLink RX4 142 (am_y 17), .methodLink RX4 145 (am_y 21), .methodLink RX4 148 (am_y 69), .methodLink RX4 151 (am_y 70), .methodLink RX4 154 (am_y 72), .methodLink RX4 158 (am_y 18), .methodLink RX4 161 (am_y 16), .methodLink RX4 166 (am_y 71), .methodLink RX4 170 (am_y 20), .methodLink RX4 172 (am_y 30), .methodLink RX4 175 (am_y 22), .methodLink RX4 178 (am_y 73), .methodLink RX4 182 (am_y 14), .methodLink RX4 185 (am_y 13), .methodLink RX4 188 (am_y 41), .methodLink RX4 192 (am_y 83), .methodLink RX4 196 (am_y 88), .methodLink RX4 204 (am_y 28), .methodLink RX4 207 (am_y 84), .methodLink RX4 211 (am_y 87), .methodLink RX4 215 (am_y 25), .methodLink RL 69 (am_y 52), .methodLink RL 72 (am_y 53), .methodLink RL 75 (am_y 60), .methodLink RL 78 (am_y 75), .methodLink RL 81 (am_y 56), .methodLink RL 33 (am_y 49), .methodLink RL 84 (am_y 57), .methodLink RL 87 (am_y 54), .methodLink RL 90 (am_y 79), .methodLink RL 93 (am_y 96), .methodLink RL 96 (am_y 67), .methodLink RL 99 (am_y 80), .methodLink RL 102 (am_y 74), .methodLink RL 105 (am_y 77), .methodLink RL 108 (am_y 99), .methodLink RL 112 (am_y 59), .methodLink RL 115 (am_y 63), .methodLink RL 118 (am_y 64), .methodLink RL 121 (am_y 65), .methodLink RL 124 (am_y 66), .methodLink RL 127 (am_y 58), .methodLink RL 130 (am_y 48), .methodLink RL 41 (am_y 55), .methodLink RL 133 (am_y 81), .methodLink RL 136 (am_y 82), .methodLink RL 139 (am_y 78), .methodLink RL 142 (am_y 76), .methodLink RL 22 (am_y 95), .methodLink RL 145 (am_y 85), .methodLink RL 26 (am_y 46), .methodLink RL 148 (am_y 86), .methodLink RL 37 (am_y 45), .methodLink RL 30 (am_y 47), .methodLink RL 153 (am_y 62), .methodLink RL 156 (am_y 68), .methodLink RL 11 (am_y 44), .methodLink RL 12 (am_y 94), .methodLink RL 18 (am_y 106), .methodLink RL 45 (am_y 97), .methodLink RL 48 (am_y 98), .methodLink RL 51 (am_y 100), .methodLink RL 55 (am_y 101), .methodLink RL 58 (am_y 102), .methodLink RL 61 (am_y 103), .methodLink RL 63 (am_y 104), .methodLink RL 66 (am_y 105)]
theorem am_wM_0 : [215, 245, 249, 257, 259, 262, 270, 279, 266, 275, 325, 321, 317, 313, 406, 431, 435, 427, 555, 224, 223, 194, 190, 253, 225, 219, 229, 239, 244, 521, 525, 532, 39, 61, 64, 70, 101, 117, 160, 166].map (fun i => lw_tbl[i]?) = ((am_wM.drop 0).take 40).map some ∧ ((am_wM.drop 0).take 40).all goodWord = true := by decide +kernel
theorem am_wM_40 : [174, 341, 455, 491, 186, 198, 298, 299, 304, 348, 357, 207, 342, 343, 349, 309, 211, 380, 423, 442, 446, 468, 377, 573, 450, 454, 456, 460, 472, 333, 400, 517, 362, 236, 366, 502, 547, 551, 294, 300].map (fun i => lw_tbl[i]?) = ((am_wM.drop 40).take 40).map some ∧ ((am_wM.drop 40).take 40).all goodWord = true := by decide +kernel
theorem am_wM_80 : [305, 329, 337, 182, 344, 353, 358, 370, 373, 384, 392, 396, 412, 415, 419, 438, 464, 476, 483, 487, 203, 498, 506, 513, 533, 287, 543, 170, 556, 156, 178, 565, 569, 31, 283, 560, 291, 367, 389, 480].map (fun i => lw_tbl[i]?) = ((am_wM.drop 80).take 40).map some ∧ ((am_wM.drop 80).take 40).all goodWord = true := by decide +kernel
theorem am_wM_120 : [495, 510, 537, 540].map (fun i => lw_tbl[i]?) = ((am_wM.drop 120).take 40).map some ∧ ((am_wM.drop 120).take 40).all goodWord = true := by decide +kernel
theorem am_wM_in : ∀ w ∈ am_wM, w ∈ am_GT := by
  intro w hw
  obtain ⟨k, hk⟩ := List.getElem?_of_mem hw
  by_cases h0 : k < 40
  · exact am_seg (k := k - 0) am_wM_0 (by simp only [List.getElem?_take, List.getElem?_drop]; rw [if_pos (by omega), show 0 + (k - 0) = k by omega]; exact hk)
  by_cases h40 : k < 80
  · exact am_seg (k := k - 40) am_wM_40 (by simp only [List.getElem?_take, List.getElem?_drop]; rw [if_pos (by omega), show 40 + (k - 40) = k by omega]; exact hk)
  by_cases h80 : k < 120
  · exact am_seg (k := k - 80) am_wM_80 (by simp only [List.getElem?_take, List.getElem?_drop]; rw [if_pos (by omega), show 80 + (k - 80) = k by omega]; exact hk)
  by_cases h120 : k < 160
  · exact am_seg (k := k - 120) am_wM_120 (by simp only [List.getElem?_take, List.getElem?_drop]; rw [if_pos (by omega), show 120 + (k - 120) = k by omega]; exact hk)
  have := (List.getElem?_eq_some_iff.mp hk).1
  have h2 : am_wM.length = 124 := rfl
  omega
def am_wO : List Cond := [.methodLink RX0 3 objectInit, .instanceMethod objectInit, .code objectInit ⟨#[0xb1]⟩ 1 none, .methodLink RX0 9 Lib.Math.max.name, .static Lib.Math.max.name, .initialized "java/lang/Math", .code Lib.Math.max.name Lib.Math.max.code 2 (some .int), .arrayClass .long, .arrayClass .int, .constantLong RX0 99 (532021755375), .constantLong RX0 101 (567489872400), .methodLink RX1 3 objectInit, .methodLink RX2 3 objectInit, .methodLink RX3 3 objectInit, .methodLink RX3 35 Lib.Math.min.name, .static Lib.Math.min.name, .code Lib.Math.min.name Lib.Math.min.code 2 (some .int), .methodLink RX4 1 objectInit, .classLink RX4 7 (am_cn 2), .instantiable (am_cn 2) (am_N 2), .initialized (am_cn 2), .classLink RX4 24 (am_cn 0), .instantiable (am_cn 0) (am_N 0), .initialized (am_cn 0), .classLink RX4 33 (am_cn 3), .instantiable (am_cn 3) (am_N 3), .initialized (am_cn 3), .classLink RX4 40 (am_cn 1), .instantiable (am_cn 1) (am_N 1), .initialized (am_cn 1), .classLink RX4 7 RX2, .methodLink RX4 199 Lib.Math.max.name, .constant RJ6 264 (65536), .constant RJ6 265 (1431655765), .constant RJ6 266 (858993459), .constant RJ6 267 (252645135), .constantLong RJ13 314 (6148914691236517205), .constantLong RJ13 316 (3689348814741910323), .constantLong RJ13 318 (1085102592571150095), .constant RL 7 (2146121005), .constant RL 8 (2147483647), .constant RL 151 (1000000), .constant RL 152 (262144), .classLink RL 9 (am_cn 4), .instantiable (am_cn 4) (am_N 4), .initialized (am_cn 4)]
theorem am_wO_0 : [73, 35, 36, 74, 75, 24, 76, 98, 60, 404, 405, 120, 42, 104, 529, 530, 531, 34, 37, 38, 22, 68, 69, 23, 99, 100, 25, 115, 116, 26, 37, 388, 282, 163, 164, 165, 409, 410, 411, 286].map (fun i => lw_tbl[i]?) = ((am_wO.drop 0).take 40).map some ∧ ((am_wO.drop 0).take 40).all goodWord = true := by decide +kernel
theorem am_wO_40 : [290, 563, 564, 29, 30, 21].map (fun i => lw_tbl[i]?) = ((am_wO.drop 40).take 40).map some ∧ ((am_wO.drop 40).take 40).all goodWord = true := by decide +kernel
theorem am_wO_in : ∀ w ∈ am_wO, w ∈ am_GT := by
  intro w hw
  obtain ⟨k, hk⟩ := List.getElem?_of_mem hw
  by_cases h0 : k < 40
  · exact am_seg (k := k - 0) am_wO_0 (by simp only [List.getElem?_take, List.getElem?_drop]; rw [if_pos (by omega), show 0 + (k - 0) = k by omega]; exact hk)
  by_cases h40 : k < 80
  · exact am_seg (k := k - 40) am_wO_40 (by simp only [List.getElem?_take, List.getElem?_drop]; rw [if_pos (by omega), show 40 + (k - 40) = k by omega]; exact hk)
  have := (List.getElem?_eq_some_iff.mp hk).1
  have h2 : am_wO.length = 46 := rfl
  omega
def am_mp : Nat → List Nat := fun i => match i with
  | 0 => [72, 23, 71]
  | 1 => [214, 23, 212, 213]
  | 2 => [261, 23, 260]
  | 3 => [269, 23, 268, 5]
  | 4 => [265, 23, 264, 4]
  | 5 => [273, 23, 272, 6]
  | 6 => [278, 23, 277, 7]
  | 7 => [328, 23, 326, 327]
  | 8 => [324, 23, 323, 9]
  | 9 => [320, 23, 319, 8]
  | 10 => [352, 23, 350, 351]
  | 11 => [316, 23, 314, 315]
  | 12 => [312, 23, 310, 311]
  | 13 => [403, 23, 401, 402]
  | 14 => [336, 23, 334, 335]
  | 15 => [119, 26, 118]
  | 16 => [434, 26, 432, 433]
  | 17 => [383, 26, 381, 382]
  | 18 => [379, 26, 378]
  | 19 => [437, 26, 436]
  | 20 => [430, 26, 428, 429]
  | 21 => [426, 26, 424, 425]
  | 22 => [463, 26, 461, 462]
  | 23 => [41, 22, 40]
  | 24 => [67, 22, 65, 66]
  | 25 => [554, 22, 552, 553]
  | 26 => [197, 22, 195, 196]
  | 27 => [248, 22, 246, 247]
  | 28 => [228, 22, 226, 227]
  | 29 => [201, 22, 199, 200]
  | 30 => [459, 22, 457, 458]
  | 31 => [193, 22, 191, 192]
  | 32 => [494, 22, 492, 493]
  | 33 => [189, 22, 187, 188]
  | 34 => [256, 22, 255, 3]
  | 35 => [252, 22, 250, 251]
  | 36 => [222, 22, 220, 221]
  | 37 => [232, 22, 230, 231]
  | 38 => [242, 22, 240, 241]
  | 39 => [218, 22, 216, 217]
  | 40 => [103, 25, 102]
  | 41 => [520, 25, 518, 519]
  | 42 => [528, 25, 527, 18]
  | 43 => [524, 25, 523, 17]
  | 44 => [33, 21, 32]
  | 45 => [159, 21, 157, 158]
  | 46 => [173, 21, 171, 172]
  | 47 => [181, 21, 179, 180]
  | 48 => [490, 21, 488, 489]
  | 49 => [185, 21, 183, 184]
  | 50 => [177, 21, 176, 1]
  | 51 => [169, 21, 168, 0]
  | 52 => [297, 21, 295, 296]
  | 53 => [303, 21, 301, 302]
  | 54 => [356, 21, 354, 355]
  | 55 => [206, 21, 204, 205]
  | 56 => [340, 21, 338, 339]
  | 57 => [347, 21, 345, 346]
  | 58 => [486, 21, 484, 485]
  | 59 => [418, 21, 416, 417]
  | 60 => [308, 21, 306, 307]
  | 61 => [210, 21, 209, 2]
  | 62 => [568, 21, 566, 567]
  | 63 => [422, 21, 420, 421]
  | 64 => [441, 21, 439, 440]
  | 65 => [467, 21, 465, 466]
  | 66 => [479, 21, 477, 478]
  | 67 => [376, 21, 374, 375]
  | 68 => [572, 21, 570, 571]
  | 69 => [445, 21, 444, 11]
  | 70 => [449, 21, 448, 12]
  | 71 => [453, 21, 452, 13]
  | 72 => [471, 21, 470, 14]
  | 73 => [475, 21, 474, 15]
  | 74 => [395, 21, 393, 394]
  | 75 => [332, 21, 330, 331]
  | 76 => [536, 21, 534, 535]
  | 77 => [399, 21, 397, 398]
  | 78 => [516, 21, 514, 515]
  | 79 => [361, 21, 359, 360]
  | 80 => [387, 21, 385, 386]
  | 81 => [501, 21, 499, 500]
  | 82 => [509, 21, 507, 508]
  | 83 => [365, 21, 364, 10]
  | 84 => [505, 21, 504, 16]
  | 85 => [546, 21, 544, 545]
  | 86 => [559, 21, 557, 558]
  | 87 => [550, 21, 549, 19]
  | 88 => [238, 21, 237]
  | 89 => [63, 21, 62]
  | 90 => [235, 21, 234]
  | 91 => [281, 27, 280]
  | 92 => [162, 27, 161]
  | 93 => [408, 28, 407]
  | 94 => [285, 20, 284]
  | 95 => [289, 20, 288]
  | 96 => [372, 20, 371]
  | 97 => [293, 20, 292]
  | 98 => [369, 20, 368]
  | 99 => [414, 20, 413]
  | 100 => [391, 20, 390]
  | 101 => [482, 20, 481]
  | 102 => [497, 20, 496]
  | 103 => [512, 20, 511]
  | 104 => [539, 20, 538]
  | 105 => [542, 20, 541]
  | 106 => [562, 20, 561]
  | 107 => [76, 24, 75]
  | 108 => [531, 24, 530]
  | _ => []
def am_mw (j : Nat) : List Cond := Cond.code (am_y j) (am_by j) (am_ml j) (am_rt j) :: .initialized (am_y j).cls :: (if am_kd j = 0 then [.static (am_y j)] else if am_kd j = 1 then [.instanceMethod (am_y j), .selects (am_y j).cls (am_y j) (am_y j)] else [.instanceMethod (am_y j)])
def am_mf (j : Nat) : Bool := decide ((parseMethodDescriptor (am_y j).desc).map (fun d => d.parameters.length) = some (am_ar_ j)) && decide ((am_y j).cls ≠ "java/lang/invoke/MethodHandle") && decide ((am_y j).cls ≠ "java/lang/invoke/VarHandle") && decide (am_ml j ≤ 21) && (decide ((am_mp j).map (fun i => lw_tbl[i]?) = (am_mw j).map some) && (am_mw j).all goodWord) && (if am_kd j = 2 then decide (am_rt j = none) && decide ((am_y j).name = "<init>") else decide (am_mc j = 0) && decide (am_ms j = 0)) && (if am_kd j = 1 then decide (am_ci j < 5) && decide ((am_y j).cls = am_cn (am_ci j)) else true)
set_option maxRecDepth 100000 in
theorem am_mf_0 : ∀ j, j < 10 → am_mf (0 + j) = true := by decide +kernel
set_option maxRecDepth 100000 in
theorem am_mf_10 : ∀ j, j < 10 → am_mf (10 + j) = true := by decide +kernel
set_option maxRecDepth 100000 in
theorem am_mf_20 : ∀ j, j < 10 → am_mf (20 + j) = true := by decide +kernel
set_option maxRecDepth 100000 in
theorem am_mf_30 : ∀ j, j < 10 → am_mf (30 + j) = true := by decide +kernel
set_option maxRecDepth 100000 in
theorem am_mf_40 : ∀ j, j < 10 → am_mf (40 + j) = true := by decide +kernel
set_option maxRecDepth 100000 in
theorem am_mf_50 : ∀ j, j < 10 → am_mf (50 + j) = true := by decide +kernel
set_option maxRecDepth 100000 in
theorem am_mf_60 : ∀ j, j < 10 → am_mf (60 + j) = true := by decide +kernel
set_option maxRecDepth 100000 in
theorem am_mf_70 : ∀ j, j < 10 → am_mf (70 + j) = true := by decide +kernel
set_option maxRecDepth 100000 in
theorem am_mf_80 : ∀ j, j < 10 → am_mf (80 + j) = true := by decide +kernel
