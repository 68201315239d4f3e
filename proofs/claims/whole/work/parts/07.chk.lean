def am_ar_ : Nat → Nat := fun i => match i with
  | 0 => 1
  | 1 => 1
  | 2 => 5
  | 3 => 0
  | 4 => 1
  | 5 => 2
  | 6 => 2
  | 7 => 1
  | 8 => 1
  | 9 => 2
  | 10 => 2
  | 11 => 2
  | 12 => 1
  | 13 => 2
  | 14 => 1
  | 15 => 0
  | 16 => 1
  | 17 => 1
  | 18 => 1
  | 19 => 1
  | 20 => 1
  | 21 => 1
  | 22 => 2
  | 23 => 0
  | 24 => 3
  | 25 => 1
  | 26 => 1
  | 27 => 1
  | 28 => 0
  | 29 => 0
  | 30 => 1
  | 31 => 1
  | 32 => 2
  | 33 => 0
  | 34 => 1
  | 35 => 1
  | 36 => 0
  | 37 => 0
  | 38 => 0
  | 39 => 0
  | 40 => 0
  | 41 => 3
  | 42 => 2
  | 43 => 2
  | 44 => 0
  | 45 => 3
  | 46 => 3
  | 47 => 3
  | 48 => 2
  | 49 => 1
  | 50 => 2
  | 51 => 3
  | 52 => 0
  | 53 => 0
  | 54 => 1
  | 55 => 0
  | 56 => 2
  | 57 => 2
  | 58 => 2
  | 59 => 1
  | 60 => 0
  | 61 => 0
  | 62 => 1
  | 63 => 0
  | 64 => 0
  | 65 => 1
  | 66 => 0
  | 67 => 1
  | 68 => 1
  | 69 => 1
  | 70 => 0
  | 71 => 1
  | 72 => 2
  | 73 => 2
  | 74 => 2
  | 75 => 1
  | 76 => 0
  | 77 => 2
  | 78 => 2
  | 79 => 2
  | 80 => 3
  | 81 => 1
  | 82 => 0
  | 83 => 0
  | 84 => 3
  | 85 => 3
  | 86 => 1
  | 87 => 1
  | 88 => 1
  | 89 => 2
  | 90 => 2
  | 91 => 1
  | 92 => 0
  | 93 => 3
  | 94 => 2
  | 95 => 1
  | 96 => 3
  | 97 => 1
  | 98 => 1
  | 99 => 1
  | 100 => 3
  | 101 => 2
  | 102 => 3
  | 103 => 3
  | 104 => 2
  | 105 => 0
  | 106 => 0
  | 107 => 1
  | 108 => 0
  | 109 => 0
  | 110 => 0
  | 111 => 0
  | 112 => 2
  | 113 => 2
  | 114 => 1
  | 115 => 4
  | 116 => 0
  | 117 => 2
  | 118 => 3
  | 119 => 0
  | 120 => 2
  | 121 => 0
  | 122 => 1
  | 123 => 0
  | 124 => 2
  | 125 => 2
  | 126 => 2
  | 127 => 1
  | 128 => 1
  | 129 => 0
  | 130 => 1
  | 131 => 0
  | 132 => 1
  | 133 => 0
  | 134 => 0
  | 135 => 0
  | 136 => 1
  | 137 => 2
  | 138 => 2
  | 139 => 0
  | 140 => 1
  | 141 => 0
  | 142 => 0
  | 143 => 0
  | 144 => 1
  | 145 => 1
  | 146 => 1
  | 147 => 1
  | 148 => 0
  | 149 => 1
  | 150 => 0
  | 151 => 0
  | 152 => 0
  | 153 => 2
  | 154 => 2
  | 155 => 0
  | 156 => 2
  | 157 => 2
  | 158 => 2
  | 159 => 3
  | 160 => 1
  | 161 => 0
  | 162 => 0
  | 163 => 1
  | 164 => 1
  | 165 => 1
  | 166 => 1
  | 167 => 1
  | 168 => 2
  | 169 => 2
  | 170 => 1
  | _ => 0
def am_kd : Nat → Nat := fun i => match i with
  | 0 => 2
  | 1 => 1
  | 2 => 0
  | 3 => 1
  | 4 => 1
  | 5 => 1
  | 6 => 1
  | 7 => 1
  | 8 => 1
  | 9 => 1
  | 10 => 1
  | 11 => 1
  | 12 => 1
  | 13 => 1
  | 14 => 1
  | 15 => 2
  | 16 => 1
  | 17 => 1
  | 18 => 0
  | 19 => 0
  | 20 => 1
  | 21 => 1
  | 22 => 1
  | 23 => 2
  | 24 => 1
  | 25 => 1
  | 26 => 1
  | 27 => 1
  | 28 => 1
  | 29 => 1
  | 30 => 1
  | 31 => 1
  | 32 => 1
  | 33 => 1
  | 34 => 1
  | 35 => 1
  | 36 => 1
  | 37 => 1
  | 38 => 1
  | 39 => 1
  | 40 => 2
  | 41 => 1
  | 42 => 1
  | 43 => 1
  | 44 => 2
  | 45 => 1
  | 46 => 1
  | 47 => 1
  | 48 => 1
  | 49 => 1
  | 50 => 1
  | 51 => 1
  | 52 => 1
  | 53 => 1
  | 54 => 1
  | 55 => 1
  | 56 => 1
  | 57 => 1
  | 58 => 1
  | 59 => 1
  | 60 => 1
  | 61 => 1
  | 62 => 1
  | 63 => 1
  | 64 => 1
  | 65 => 1
  | 66 => 1
  | 67 => 1
  | 68 => 1
  | 69 => 1
  | 70 => 1
  | 71 => 1
  | 72 => 1
  | 73 => 1
  | 74 => 1
  | 75 => 1
  | 76 => 1
  | 77 => 1
  | 78 => 1
  | 79 => 1
  | 80 => 1
  | 81 => 1
  | 82 => 1
  | 83 => 1
  | 84 => 1
  | 85 => 1
  | 86 => 1
  | 87 => 1
  | 88 => 1
  | 89 => 0
  | 90 => 0
  | 91 => 0
  | 92 => 2
  | 93 => 0
  | 94 => 0
  | 95 => 0
  | 96 => 1
  | 97 => 1
  | 98 => 1
  | 99 => 1
  | 100 => 1
  | 101 => 1
  | 102 => 1
  | 103 => 1
  | 104 => 1
  | 105 => 1
  | 106 => 1
  | 107 => 1
  | 108 => 1
  | 109 => 1
  | 110 => 1
  | 111 => 1
  | 112 => 1
  | 113 => 1
  | 114 => 1
  | 115 => 1
  | 116 => 1
  | 117 => 1
  | 118 => 1
  | 119 => 1
  | 120 => 1
  | 121 => 1
  | 122 => 1
  | 123 => 1
  | 124 => 1
  | 125 => 1
  | 126 => 1
  | 127 => 1
  | 128 => 1
  | 129 => 1
  | 130 => 1
  | 131 => 1
  | 132 => 0
  | 133 => 1
  | 134 => 1
  | 135 => 1
  | 136 => 1
  | 137 => 1
  | 138 => 1
  | 139 => 1
  | 140 => 1
  | 141 => 1
  | 142 => 1
  | 143 => 1
  | 144 => 1
  | 145 => 0
  | 146 => 1
  | 147 => 1
  | 148 => 1
  | 149 => 1
  | 150 => 1
  | 151 => 1
  | 152 => 1
  | 153 => 1
  | 154 => 1
  | 155 => 1
  | 156 => 1
  | 157 => 1
  | 158 => 1
  | 159 => 1
  | 160 => 1
  | 161 => 1
  | 162 => 1
  | 163 => 1
  | 164 => 1
  | 165 => 0
  | 166 => 0
  | 167 => 0
  | 168 => 0
  | 169 => 0
  | _ => 3
theorem am_seg {ps : List Nat} {ws : List Cond} {k : Nat} {w : Cond} (h : ps.map (fun i => lw_tbl[i]?) = ws.map some ∧ ws.all goodWord = true) (hk : ws[k]? = some w) : w ∈ am_GT := by
  have q := congrArg (fun l => l[k]?) h.1
  simp only [List.getElem?_map, hk, Option.map_some] at q
  cases hp : ps[k]? with
  | none => rw [hp] at q; cases q
  | some i =>
    rw [hp] at q
    simp only [Option.map_some, Option.some.injEq] at q
    exact List.mem_filter.mpr ⟨List.mem_of_getElem? q, List.all_eq_true.mp h.2 w (List.mem_of_getElem? hk)⟩
def am_wF : List Cond := [.fieldLink RX0 15 (am_T 0 0).1 (am_T 0 0).2.1 (am_T 0 0).2.2.1, .fieldLink RX0 21 (am_T 0 3).1 (am_T 0 3).2.1 (am_T 0 3).2.2.1, .fieldLink RX0 25 (am_T 0 4).1 (am_T 0 4).2.1 (am_T 0 4).2.2.1, .fieldLink RX0 28 (am_T 0 5).1 (am_T 0 5).2.1 (am_T 0 5).2.2.1, .fieldLink RX0 32 (am_T 2 0).1 (am_T 2 0).2.1 (am_T 2 0).2.2.1, .fieldLink RX0 37 (am_T 0 1).1 (am_T 0 1).2.1 (am_T 0 1).2.2.1, .fieldLink RX0 38 (am_T 0 2).1 (am_T 0 2).2.1 (am_T 0 2).2.2.1, .fieldLink RX1 9 (am_T 1 0).1 (am_T 1 0).2.1 (am_T 1 0).2.2.1, .fieldLink RX1 15 (am_T 1 1).1 (am_T 1 1).2.1 (am_T 1 1).2.2.1, .fieldLink RX2 9 (am_T 2 3).1 (am_T 2 3).2.1 (am_T 2 3).2.2.1, .fieldLink RX2 15 (am_T 2 0).1 (am_T 2 0).2.1 (am_T 2 0).2.2.1, .fieldLink RX2 19 (am_T 2 1).1 (am_T 2 1).2.1 (am_T 2 1).2.2.1, .fieldLink RX2 22 (am_T 2 2).1 (am_T 2 2).2.1 (am_T 2 2).2.2.1, .fieldLink RX3 9 (am_T 3 0).1 (am_T 3 0).2.1 (am_T 3 0).2.2.1, .fieldLink RX3 15 (am_T 3 1).1 (am_T 3 1).2.1 (am_T 3 1).2.2.1, .fieldLink RX3 18 (am_T 3 2).1 (am_T 3 2).2.1 (am_T 3 2).2.2.1, .fieldLink RX3 30 (am_T 0 5).1 (am_T 0 5).2.1 (am_T 0 5).2.2.1, .fieldLink RX4 10 (am_T 4 0).1 (am_T 4 0).2.1 (am_T 4 0).2.2.1, .fieldLink RX4 29 (am_T 4 1).1 (am_T 4 1).2.1 (am_T 4 1).2.2.1, .fieldLink RX4 36 (am_T 4 2).1 (am_T 4 2).2.1 (am_T 4 2).2.2.1, .fieldLink RX4 43 (am_T 4 3).1 (am_T 4 3).2.1 (am_T 4 3).2.2.1, .fieldLink RX4 47 (am_T 4 4).1 (am_T 4 4).2.1 (am_T 4 4).2.2.1, .fieldLink RX4 50 (am_T 4 5).1 (am_T 4 5).2.1 (am_T 4 5).2.2.1, .fieldLink RX4 53 (am_T 4 6).1 (am_T 4 6).2.1 (am_T 4 6).2.2.1, .fieldLink RX4 57 (am_T 4 7).1 (am_T 4 7).2.1 (am_T 4 7).2.2.1, .fieldLink RX4 85 (am_T 2 0).1 (am_T 2 0).2.1 (am_T 2 0).2.2.1, .fieldLink RX4 89 (am_T 2 1).1 (am_T 2 1).2.1 (am_T 2 1).2.2.1, .fieldLink RX4 92 (am_T 2 2).1 (am_T 2 2).2.1 (am_T 2 2).2.2.1, .fieldLink RX4 102 (am_T 1 1).1 (am_T 1 1).2.1 (am_T 1 1).2.2.1, .fieldLink RX4 123 (am_T 0 5).1 (am_T 0 5).2.1 (am_T 0 5).2.2.1, .fieldLink RX4 162 (am_T 1 0).1 (am_T 1 0).2.1 (am_T 1 0).2.2.1, .fieldLink RX5 7 (am_T 5 0).1 (am_T 5 0).2.1 (am_T 5 0).2.2.1, .fieldLink RX5 13 (am_T 5 1).1 (am_T 5 1).2.1 (am_T 5 1).2.2.1, .fieldLink RX5 16 (am_T 5 2).1 (am_T 5 2).2.1 (am_T 5 2).2.2.1, .fieldLink RX5 20 (am_T 5 3).1 (am_T 5 3).2.1 (am_T 5 3).2.2.1, .fieldLink RX5 23 (am_T 5 11).1 (am_T 5 11).2.1 (am_T 5 11).2.2.1, .fieldLink RX5 26 (am_T 5 12).1 (am_T 5 12).2.1 (am_T 5 12).2.2.1, .fieldLink RX5 29 (am_T 5 13).1 (am_T 5 13).2.1 (am_T 5 13).2.2.1, .fieldLink RX5 32 (am_T 5 14).1 (am_T 5 14).2.1 (am_T 5 14).2.2.1, .fieldLink RX5 35 (am_T 5 15).1 (am_T 5 15).2.1 (am_T 5 15).2.2.1, .fieldLink RX5 38 (am_T 5 16).1 (am_T 5 16).2.1 (am_T 5 16).2.2.1, .fieldLink RX5 41 (am_T 5 18).1 (am_T 5 18).2.1 (am_T 5 18).2.2.1, .fieldLink RX5 44 (am_T 5 19).1 (am_T 5 19).2.1 (am_T 5 19).2.2.1, .fieldLink RX5 47 (am_T 5 20).1 (am_T 5 20).2.1 (am_T 5 20).2.2.1, .fieldLink RX5 50 (am_T 5 21).1 (am_T 5 21).2.1 (am_T 5 21).2.2.1, .fieldLink RX5 85 (am_T 5 4).1 (am_T 5 4).2.1 (am_T 5 4).2.2.1, .fieldLink RX5 108 (am_T 5 5).1 (am_T 5 5).2.1 (am_T 5 5).2.2.1, .fieldLink RX5 111 (am_T 5 6).1 (am_T 5 6).2.1 (am_T 5 6).2.2.1, .fieldLink RX5 114 (am_T 5 7).1 (am_T 5 7).2.1 (am_T 5 7).2.2.1, .fieldLink RX5 117 (am_T 5 8).1 (am_T 5 8).2.1 (am_T 5 8).2.2.1, .fieldLink RX5 121 (am_T 5 9).1 (am_T 5 9).2.1 (am_T 5 9).2.2.1, .fieldLink RX5 124 (am_T 5 10).1 (am_T 5 10).2.1 (am_T 5 10).2.2.1, .fieldLink RX5 167 (am_T 5 17).1 (am_T 5 17).2.1 (am_T 5 17).2.2.1]
theorem am_wF_0 : [112, 115, 116, 117, 79, 113, 114, 156, 158, 85, 78, 81, 83, 140, 141, 142, 118, 166, 167, 168, 169, 170, 171, 172, 173, 80, 82, 84, 159, 119, 157, 580, 581, 582, 583, 591, 592, 593, 594, 595].map (fun i => lw_tbl[i]?) = ((am_wF.drop 0).take 40).map some ∧ ((am_wF.drop 0).take 40).all goodWord = true := by decide +kernel
theorem am_wF_40 : [596, 598, 599, 600, 601, 584, 585, 586, 587, 588, 589, 590, 597].map (fun i => lw_tbl[i]?) = ((am_wF.drop 40).take 40).map some ∧ ((am_wF.drop 40).take 40).all goodWord = true := by decide +kernel
theorem am_wF_in : ∀ w ∈ am_wF, w ∈ am_GT := by
  intro w hw
  obtain ⟨k, hk⟩ := List.getElem?_of_mem hw
  by_cases h0 : k < 40
  · exact am_seg (k := k - 0) am_wF_0 (by simp only [List.getElem?_take, List.getElem?_drop]; rw [if_pos (by omega), show 0 + (k - 0) = k by omega]; exact hk)
  by_cases h40 : k < 80
  · exact am_seg (k := k - 40) am_wF_40 (by simp only [List.getElem?_take, List.getElem?_drop]; rw [if_pos (by omega), show 40 + (k - 40) = k by omega]; exact hk)
  have := (List.getElem?_eq_some_iff.mp hk).1
  have h2 : am_wF.length = 53 := rfl
  omega
def am_wM : List Cond := [.methodLink RX0 41 (am_y 39), .methodLink RX0 45 (am_y 27), .methodLink RX0 49 (am_y 35), .methodLink RX0 53 (am_y 29), .methodLink RX0 60 (am_y 2), .methodLink RX0 64 (am_y 4), .methodLink RX0 68 (am_y 5), .methodLink RX0 72 (am_y 165), .methodLink RX0 77 (am_y 3), .methodLink RX0 83 (am_y 6), .methodLink RX0 86 (am_y 7), .methodLink RX0 89 (am_y 8), .methodLink RX0 93 (am_y 9), .methodLink RX0 96 (am_y 11), .methodLink RX0 103 (am_y 167), .methodLink RX1 19 (am_y 16), .methodLink RX1 23 (am_y 19), .methodLink RX1 27 (am_y 20), .methodLink RX2 25 (am_y 24), .methodLink RX2 33 (am_y 166), .methodLink RX2 43 (am_y 29), .methodLink RX2 47 (am_y 26), .methodLink RX2 51 (am_y 31), .methodLink RX2 54 (am_y 34), .methodLink RX2 57 (am_y 28), .methodLink RX2 63 (am_y 36), .methodLink RX2 67 (am_y 37), .methodLink RX2 70 (am_y 38), .methodLink RX2 73 (am_y 33), .methodLink RX3 22 (am_y 43), .methodLink RX3 26 (am_y 42), .methodLink RX3 41 (am_y 13), .methodLink RX4 9 (am_y 23), .methodLink RX4 16 (am_y 90), .methodLink RX4 20 (am_y 24), .methodLink RX4 26 (am_y 0), .methodLink RX4 35 (am_y 40), .methodLink RX4 42 (am_y 15), .methodLink RX4 61 (am_y 166), .methodLink RX4 67 (am_y 51), .methodLink RX4 70 (am_y 50), .methodLink RX4 74 (am_y 26), .methodLink RX4 78 (am_y 31), .methodLink RX4 81 (am_y 32), .methodLink RX4 95 (am_y 33), .methodLink RX4 99 (am_y 29), .methodLink RX4 103 (am_y 36), .methodLink RX4 107 (am_y 37), .methodLink RX4 110 (am_y 38), .methodLink RX4 113 (am_y 27), .methodLink RX4 116 (am_y 35), .methodLink RX4 119 (am_y 61), .methodLink RX4 126 (am_y 7), .methodLink RX4 129 (am_y 11), .methodLink RX4 132 (am_y 10), .methodLink RX4 135 (am_y 12), .methodLink RX4 138 (am_y 1), .methodLink RX4 142 (am_y 17), .methodLink RX4 145 (am_y 21), .methodLink RX4 148 (am_y 70), .methodLink RX4 151 (am_y 71), .methodLink RX4 154 (am_y 73), .methodLink RX4 158 (am_y 18), .methodLink RX4 161 (am_y 16), .methodLink RX4 166 (am_y 72), .methodLink RX4 170 (am_y 20), .methodLink RX4 172 (am_y 30), .methodLink RX4 175 (am_y 22), .methodLink RX4 178 (am_y 74), .methodLink RX4 182 (am_y 14), .methodLink RX4 185 (am_y 13), .methodLink RX4 188 (am_y 41), .methodLink RX4 192 (am_y 84), .methodLink RX4 196 (am_y 89), .methodLink RX4 204 (am_y 28), .methodLink RX4 207 (am_y 85), .methodLink RX4 211 (am_y 88), .methodLink RX4 215 (am_y 25), .methodLink RX5 53 (am_y 96), .methodLink RX5 57 (am_y 93), .methodLink RX5 61 (am_y 94), .methodLink RX5 65 (am_y 97), .methodLink RX5 70 (am_y 95), .methodLink RX5 74 (am_y 101), .methodLink RX5 78 (am_y 105), .methodLink RX5 82 (am_y 106), .methodLink RX5 89 (am_y 109), .methodLink RX5 92 (am_y 99), .methodLink RX5 95 (am_y 108), .methodLink RX5 99 (am_y 112), .methodLink RX5 102 (am_y 98), .methodLink RX5 105 (am_y 113), .methodLink RX5 127 (am_y 115), .methodLink RX5 131 (am_y 117), .methodLink RX5 134 (am_y 118), .methodLink RX5 138 (am_y 119), .methodLink RX5 141 (am_y 120), .methodLink RX5 145 (am_y 116), .methodLink RX5 148 (am_y 121), .methodLink RX5 151 (am_y 122), .methodLink RX5 154 (am_y 128), .methodLink RX5 158 (am_y 132), .methodLink RX5 161 (am_y 136), .methodLink RX5 164 (am_y 137), .methodLink RX5 170 (am_y 138), .methodLink RX5 173 (am_y 134), .methodLink RX5 176 (am_y 135), .methodLink RX5 179 (am_y 139), .methodLink RX5 182 (am_y 141), .methodLink RX5 185 (am_y 133), .methodLink RX5 188 (am_y 143), .methodLink RX5 191 (am_y 145), .methodLink RX5 194 (am_y 148), .methodLink RX5 197 (am_y 151), .methodLink RX5 200 (am_y 152), .methodLink RX5 203 (am_y 155), .methodLink RX5 206 (am_y 156), .methodLink RX5 209 (am_y 158), .methodLink RL 9 (am_y 44), .methodLink RL 12 (am_y 92), .methodLink RL 13 (am_y 45), .methodLink RL 17 (am_y 100), .methodLink RL 18 (am_y 46), .methodLink RL 22 (am_y 102), .methodLink RL 23 (am_y 47), .methodLink RL 26 (am_y 103), .methodLink RL 27 (am_y 48), .methodLink RL 31 (am_y 104), .methodLink RL 32 (am_y 49), .methodLink RL 36 (am_y 107), .methodLink RL 37 (am_y 52), .methodLink RL 41 (am_y 110), .methodLink RL 42 (am_y 53), .methodLink RL 45 (am_y 111), .methodLink RL 46 (am_y 54), .methodLink RL 49 (am_y 114), .methodLink RL 50 (am_y 55), .methodLink RL 53 (am_y 123), .methodLink RL 54 (am_y 56), .methodLink RL 57 (am_y 124), .methodLink RL 58 (am_y 57), .methodLink RL 61 (am_y 125), .methodLink RL 62 (am_y 58), .methodLink RL 65 (am_y 126), .methodLink RL 66 (am_y 59), .methodLink RL 69 (am_y 127), .methodLink RL 70 (am_y 60), .methodLink RL 73 (am_y 129), .methodLink RL 74 (am_y 62), .methodLink RL 77 (am_y 130), .methodLink RL 78 (am_y 63), .methodLink RL 81 (am_y 131), .methodLink RL 82 (am_y 64), .methodLink RL 85 (am_y 133), .methodLink RL 86 (am_y 65), .methodLink RL 89 (am_y 140), .methodLink RL 90 (am_y 66), .methodLink RL 93 (am_y 142), .methodLink RL 94 (am_y 67), .methodLink RL 97 (am_y 144), .methodLink RL 98 (am_y 68), .methodLink RL 101 (am_y 146), .methodLink RL 102 (am_y 69), .methodLink RL 105 (am_y 147), .methodLink RL 106 (am_y 75), .methodLink RL 109 (am_y 149), .methodLink RL 110 (am_y 76), .methodLink RL 113 (am_y 150), .methodLink RL 114 (am_y 77), .methodLink RL 117 (am_y 153), .methodLink RL 118 (am_y 78), .methodLink RL 121 (am_y 154), .methodLink RL 122 (am_y 79), .methodLink RL 125 (am_y 157), .methodLink RL 126 (am_y 80), .methodLink RL 129 (am_y 159), .methodLink RL 130 (am_y 81), .methodLink RL 133 (am_y 160), .methodLink RL 134 (am_y 82), .methodLink RL 137 (am_y 161), .methodLink RL 138 (am_y 83), .methodLink RL 141 (am_y 162), .methodLink RL 142 (am_y 86), .methodLink RL 145 (am_y 163), .methodLink RL 146 (am_y 87), .methodLink RL 149 (am_y 164)]
theorem am_wM_0 : [309, 317, 318, 319, 321, 324, 332, 341, 328, 337, 365, 361, 357, 386, 497, 415, 419, 411, 565, 257, 256, 229, 242, 293, 258, 313, 314, 315, 316, 515, 519, 526, 74, 96, 99, 105, 136, 152, 195, 201].map (fun i => lw_tbl[i]?) = ((am_wM.drop 0).take 40).map some ∧ ((am_wM.drop 0).take 40).all goodWord = true := by decide +kernel
theorem am_wM_40 : [209, 221, 225, 230, 238, 243, 252, 262, 276, 285, 289, 301, 349, 353, 370, 382, 305, 395, 407, 426, 430, 451, 467, 474, 434, 438, 439, 443, 455, 479, 491, 511, 531, 269, 535, 545, 557, 561, 576, 652].map (fun i => lw_tbl[i]?) = ((am_wM.drop 40).take 40).map some ∧ ((am_wM.drop 40).take 40).all goodWord = true := by decide +kernel
theorem am_wM_80 : [656, 678, 659, 666, 686, 690, 698, 702, 706, 726, 718, 722, 738, 758, 746, 750, 754, 734, 742, 766, 786, 802, 825, 829, 821, 809, 813, 817, 837, 845, 846, 854, 865, 877, 881, 893, 897, 905, 66, 572].map (fun i => lw_tbl[i]?) = ((am_wM.drop 80).take 40).map some ∧ ((am_wM.drop 80).take 40).all goodWord = true := by decide +kernel
theorem am_wM_120 : [191, 648, 205, 662, 213, 670, 217, 674, 234, 682, 248, 694, 272, 710, 281, 714, 297, 730, 345, 762, 366, 770, 374, 774, 378, 778, 387, 782, 391, 790, 399, 794, 403, 798, 422, 805, 447, 833, 459, 841].map (fun i => lw_tbl[i]?) = ((am_wM.drop 120).take 40).map some ∧ ((am_wM.drop 120).take 40).all goodWord = true := by decide +kernel
theorem am_wM_160 : [463, 850, 470, 857, 475, 861, 483, 869, 487, 873, 503, 885, 507, 889, 527, 901, 536, 909, 541, 913, 549, 917, 553, 921, 566, 925].map (fun i => lw_tbl[i]?) = ((am_wM.drop 160).take 40).map some ∧ ((am_wM.drop 160).take 40).all goodWord = true := by decide +kernel
theorem am_wM_in : ∀ w ∈ am_wM, w ∈ am_GT := by
  intro w hw
  obtain ⟨k, hk⟩ := List.getElem?_of_mem hw
  by_cases h0 : k < 40
  · exact am_seg (k := k - 0) am_wM_0 (by simp only [List.getElem?_take, List.getElem?_drop]; rw [if_pos (by omega), show 0 + (k - 0) = k by omega]; exact hk)
  by_cases h40 : k < 80
  · exact am_seg (k := k - 40) am_wM_40 (by simp only [List.getElem?_take, List.getElem?_drop]; rw [if_pos (by omega), show 40 + (k - 40) = k by omega]; exact hk)
  by_cases h80 : k < 120
  · exact am_seg (k := k - 80) am_wM_80 (by simp only [List.getElem?_take, List.getElem?_drop]; rw [if_pos (by omega), show 80 + (k - 80) = k by omega]; exact hk)
  by_cases h120 : k < 160
  · exact am_seg (k := k - 120) am_wM_120 (by simp only [List.getElem?_take, List.getElem?_drop]; rw [if_pos (by omega), show 120 + (k - 120) = k by omega]; exact hk)
  by_cases h160 : k < 200
  · exact am_seg (k := k - 160) am_wM_160 (by simp only [List.getElem?_take, List.getElem?_drop]; rw [if_pos (by omega), show 160 + (k - 160) = k by omega]; exact hk)
  have := (List.getElem?_eq_some_iff.mp hk).1
  have h2 : am_wM.length = 186 := rfl
  omega
def am_wO : List Cond := [.methodLink RX0 3 objectInit, .instanceMethod objectInit, .code objectInit ⟨#[0xb1]⟩ 1 none, .methodLink RX0 9 Lib.Math.max.name, .static Lib.Math.max.name, .initialized "java/lang/Math", .code Lib.Math.max.name Lib.Math.max.code 2 (some .int), .arrayClass .long, .arrayClass .int, .constantLong RX0 99 (532021755375), .constantLong RX0 101 (567489872400), .methodLink RX1 3 objectInit, .methodLink RX2 3 objectInit, .methodLink RX3 3 objectInit, .methodLink RX3 35 Lib.Math.min.name, .static Lib.Math.min.name, .code Lib.Math.min.name Lib.Math.min.code 2 (some .int), .methodLink RX4 1 objectInit, .classLink RX4 7 (am_cn 2), .instantiable (am_cn 2) (am_N 2), .initialized (am_cn 2), .classLink RX4 24 (am_cn 0), .instantiable (am_cn 0) (am_N 0), .initialized (am_cn 0), .classLink RX4 33 (am_cn 3), .instantiable (am_cn 3) (am_N 3), .initialized (am_cn 3), .classLink RX4 40 (am_cn 1), .instantiable (am_cn 1) (am_N 1), .initialized (am_cn 1), .classLink RX4 7 RX2, .methodLink RX4 199 Lib.Math.max.name, .methodLink RX5 1 objectInit, .arrayClass .boolean, .constant RX5 69 (262143), .constant RJ6 264 (65536), .constant RJ6 265 (1431655765), .constant RJ6 266 (858993459), .constant RJ6 267 (252645135), .constantLong RJ13 314 (6148914691236517205), .constantLong RJ13 316 (3689348814741910323), .constantLong RJ13 318 (1085102592571150095), .classLink RL 7 (am_cn 4), .instantiable (am_cn 4) (am_N 4), .initialized (am_cn 4), .classLink RL 10 (am_cn 5), .instantiable (am_cn 5) (am_N 5), .initialized (am_cn 5)]
theorem am_wO_0 : [108, 70, 71, 109, 110, 58, 111, 133, 95, 495, 496, 155, 77, 139, 523, 524, 525, 69, 72, 73, 56, 103, 104, 57, 134, 135, 59, 150, 151, 60, 72, 540, 575, 647, 655, 344, 198, 199, 200, 500].map (fun i => lw_tbl[i]?) = ((am_wO.drop 0).take 40).map some ∧ ((am_wO.drop 0).take 40).all goodWord = true := by decide +kernel
theorem am_wO_40 : [501, 502, 64, 65, 55, 570, 571, 61].map (fun i => lw_tbl[i]?) = ((am_wO.drop 40).take 40).map some ∧ ((am_wO.drop 40).take 40).all goodWord = true := by decide +kernel
theorem am_wO_in : ∀ w ∈ am_wO, w ∈ am_GT := by
  intro w hw
  obtain ⟨k, hk⟩ := List.getElem?_of_mem hw
  by_cases h0 : k < 40
  · exact am_seg (k := k - 0) am_wO_0 (by simp only [List.getElem?_take, List.getElem?_drop]; rw [if_pos (by omega), show 0 + (k - 0) = k by omega]; exact hk)
  by_cases h40 : k < 80
  · exact am_seg (k := k - 40) am_wO_40 (by simp only [List.getElem?_take, List.getElem?_drop]; rw [if_pos (by omega), show 40 + (k - 40) = k by omega]; exact hk)
  have := (List.getElem?_eq_some_iff.mp hk).1
  have h2 : am_wO.length = 48 := rfl
  omega
def am_mp : Nat → List Nat := fun i => match i with
  | 0 => [107, 57, 106]
  | 1 => [308, 57, 306, 307]
  | 2 => [323, 57, 322]
  | 3 => [331, 57, 330, 5]
  | 4 => [327, 57, 326, 4]
  | 5 => [335, 57, 334, 6]
  | 6 => [340, 57, 339, 7]
  | 7 => [352, 57, 350, 351]
  | 8 => [364, 57, 363, 9]
  | 9 => [360, 57, 359, 8]
  | 10 => [373, 57, 371, 372]
  | 11 => [356, 57, 354, 355]
  | 12 => [385, 57, 383, 384]
  | 13 => [494, 57, 492, 493]
  | 14 => [482, 57, 480, 481]
  | 15 => [154, 60, 153]
  | 16 => [418, 60, 416, 417]
  | 17 => [398, 60, 396, 397]
  | 18 => [469, 60, 468]
  | 19 => [421, 60, 420]
  | 20 => [414, 60, 412, 413]
  | 21 => [410, 60, 408, 409]
  | 22 => [446, 60, 444, 445]
  | 23 => [76, 56, 75]
  | 24 => [102, 56, 100, 101]
  | 25 => [564, 56, 562, 563]
  | 26 => [224, 56, 222, 223]
  | 27 => [288, 56, 286, 287]
  | 28 => [261, 56, 259, 260]
  | 29 => [246, 56, 244, 245]
  | 30 => [442, 56, 440, 441]
  | 31 => [228, 56, 226, 227]
  | 32 => [233, 56, 231, 232]
  | 33 => [241, 56, 239, 240]
  | 34 => [296, 56, 295, 2]
  | 35 => [292, 56, 290, 291]
  | 36 => [255, 56, 253, 254]
  | 37 => [265, 56, 263, 264]
  | 38 => [279, 56, 277, 278]
  | 39 => [312, 56, 310, 311]
  | 40 => [138, 59, 137]
  | 41 => [514, 59, 512, 513]
  | 42 => [522, 59, 521, 16]
  | 43 => [518, 59, 517, 15]
  | 44 => [68, 55, 67]
  | 45 => [194, 55, 192, 193]
  | 46 => [208, 55, 206, 207]
  | 47 => [216, 55, 214, 215]
  | 48 => [220, 55, 218, 219]
  | 49 => [237, 55, 235, 236]
  | 50 => [212, 55, 211, 1]
  | 51 => [204, 55, 203, 0]
  | 52 => [251, 55, 249, 250]
  | 53 => [275, 55, 273, 274]
  | 54 => [284, 55, 282, 283]
  | 55 => [300, 55, 298, 299]
  | 56 => [348, 55, 346, 347]
  | 57 => [369, 55, 367, 368]
  | 58 => [377, 55, 375, 376]
  | 59 => [381, 55, 379, 380]
  | 60 => [390, 55, 388, 389]
  | 61 => [304, 55, 303, 3]
  | 62 => [394, 55, 392, 393]
  | 63 => [402, 55, 400, 401]
  | 64 => [406, 55, 404, 405]
  | 65 => [425, 55, 423, 424]
  | 66 => [450, 55, 448, 449]
  | 67 => [462, 55, 460, 461]
  | 68 => [466, 55, 464, 465]
  | 69 => [473, 55, 471, 472]
  | 70 => [429, 55, 428, 10]
  | 71 => [433, 55, 432, 11]
  | 72 => [437, 55, 436, 12]
  | 73 => [454, 55, 453, 13]
  | 74 => [458, 55, 457, 14]
  | 75 => [478, 55, 476, 477]
  | 76 => [486, 55, 484, 485]
  | 77 => [490, 55, 488, 489]
  | 78 => [506, 55, 504, 505]
  | 79 => [510, 55, 508, 509]
  | 80 => [530, 55, 528, 529]
  | 81 => [539, 55, 537, 538]
  | 82 => [544, 55, 542, 543]
  | 83 => [552, 55, 550, 551]
  | 84 => [534, 55, 533, 17]
  | 85 => [548, 55, 547, 18]
  | 86 => [556, 55, 554, 555]
  | 87 => [569, 55, 567, 568]
  | 88 => [560, 55, 559, 19]
  | 89 => [271, 55, 270]
  | 90 => [98, 55, 97]
  | 91 => [268, 55, 267]
  | 92 => [574, 61, 573]
  | 93 => [654, 61, 653]
  | 94 => [658, 61, 657]
  | 95 => [661, 61, 660]
  | 96 => [579, 61, 578, 20]
  | 97 => [681, 61, 680, 22]
  | 98 => [721, 61, 720, 28]
  | 99 => [705, 61, 704, 26]
  | 100 => [651, 61, 649, 650]
  | 101 => [669, 61, 668, 21]
  | 102 => [665, 61, 663, 664]
  | 103 => [673, 61, 671, 672]
  | 104 => [677, 61, 675, 676]
  | 105 => [689, 61, 688, 23]
  | 106 => [693, 61, 692, 24]
  | 107 => [685, 61, 683, 684]
  | 108 => [709, 61, 708, 27]
  | 109 => [701, 61, 700, 25]
  | 110 => [697, 61, 695, 696]
  | 111 => [713, 61, 711, 712]
  | 112 => [729, 61, 728, 30]
  | 113 => [725, 61, 724, 29]
  | 114 => [717, 61, 715, 716]
  | 115 => [741, 61, 740, 32]
  | 116 => [737, 61, 736, 31]
  | 117 => [761, 61, 760, 37]
  | 118 => [749, 61, 748, 34]
  | 119 => [753, 61, 752, 35]
  | 120 => [757, 61, 756, 36]
  | 121 => [745, 61, 744, 33]
  | 122 => [769, 61, 768, 38]
  | 123 => [733, 61, 731, 732]
  | 124 => [765, 61, 763, 764]
  | 125 => [773, 61, 771, 772]
  | 126 => [777, 61, 775, 776]
  | 127 => [781, 61, 779, 780]
  | 128 => [789, 61, 788, 39]
  | 129 => [785, 61, 783, 784]
  | 130 => [793, 61, 791, 792]
  | 131 => [797, 61, 795, 796]
  | 132 => [804, 61, 803]
  | 133 => [801, 61, 799, 800]
  | 134 => [812, 61, 811, 40]
  | 135 => [816, 61, 815, 41]
  | 136 => [828, 61, 827, 44]
  | 137 => [832, 61, 831, 45]
  | 138 => [824, 61, 823, 43]
  | 139 => [820, 61, 819, 42]
  | 140 => [808, 61, 806, 807]
  | 141 => [840, 61, 839, 46]
  | 142 => [836, 61, 834, 835]
  | 143 => [849, 61, 848, 47]
  | 144 => [844, 61, 842, 843]
  | 145 => [856, 61, 855]
  | 146 => [853, 61, 851, 852]
  | 147 => [860, 61, 858, 859]
  | 148 => [868, 61, 867, 48]
  | 149 => [864, 61, 862, 863]
  | 150 => [872, 61, 870, 871]
  | 151 => [880, 61, 879, 49]
  | 152 => [884, 61, 883, 50]
  | 153 => [876, 61, 874, 875]
  | 154 => [888, 61, 886, 887]
  | 155 => [896, 61, 895, 51]
  | 156 => [900, 61, 899, 52]
  | 157 => [892, 61, 890, 891]
  | 158 => [908, 61, 907, 53]
  | 159 => [904, 61, 902, 903]
  | 160 => [912, 61, 910, 911]
  | 161 => [916, 61, 914, 915]
  | 162 => [920, 61, 918, 919]
  | 163 => [924, 61, 922, 923]
  | 164 => [928, 61, 926, 927]
  | 165 => [343, 62, 342]
  | 166 => [197, 62, 196]
  | 167 => [499, 63, 498]
  | 168 => [111, 58, 110]
  | 169 => [525, 58, 524]
  | _ => []
def am_mw (j : Nat) : List Cond := Cond.code (am_y j) (am_by j) (am_ml j) (am_rt j) :: .initialized (am_y j).cls :: (if am_kd j = 0 then [.static (am_y j)] else if am_kd j = 1 then [.instanceMethod (am_y j), .selects (am_y j).cls (am_y j) (am_y j)] else [.instanceMethod (am_y j)])
def am_mf (j : Nat) : Bool := decide ((parseMethodDescriptor (am_y j).desc).map (fun d => d.parameters.length) = some (am_ar_ j)) && decide ((am_y j).cls ≠ "java/lang/invoke/MethodHandle") && decide ((am_y j).cls ≠ "java/lang/invoke/VarHandle") && decide (am_ml j ≤ 21) && (decide ((am_mp j).map (fun i => lw_tbl[i]?) = (am_mw j).map some) && (am_mw j).all goodWord) && (if am_kd j = 2 then decide (am_rt j = none) && decide ((am_y j).name = "<init>") else decide (am_mc j = 0) && decide (am_ms j = 0)) && (if am_kd j = 1 then decide (am_ci j < 6) && decide ((am_y j).cls = am_cn (am_ci j)) else true)
set_option maxRecDepth 100000 in
theorem am_mf_0 : ∀ j, j < 10 → am_mf (0 + j) = true := by decide +kernel
set_option maxRecDepth 100000 in
theorem am_mf_10 : ∀ j, j < 10 → am_mf (10 + j) = true := by decide +kernel
set_option maxRecDepth 100000 in
theorem am_mf_20 : ∀ j, j < 10 → am_mf (20 + j) = true := by decide +kernel
set_option maxRecDepth 100000 in
theorem am_mf_30 : ∀ j, j < 10 → am_mf (30 + j) = true := by decide +kernel
set_option maxRecDepth 100000 in
theorem am_mf_40 : ∀ j, j < 10 → am_mf (40 + j) = true := by decide +kernel
set_option maxRecDepth 100000 in
theorem am_mf_50 : ∀ j, j < 10 → am_mf (50 + j) = true := by decide +kernel
set_option maxRecDepth 100000 in
theorem am_mf_60 : ∀ j, j < 10 → am_mf (60 + j) = true := by decide +kernel
set_option maxRecDepth 100000 in
theorem am_mf_70 : ∀ j, j < 10 → am_mf (70 + j) = true := by decide +kernel
set_option maxRecDepth 100000 in
theorem am_mf_80 : ∀ j, j < 10 → am_mf (80 + j) = true := by decide +kernel
set_option maxRecDepth 100000 in
theorem am_mf_90 : ∀ j, j < 10 → am_mf (90 + j) = true := by decide +kernel
set_option maxRecDepth 100000 in
theorem am_mf_100 : ∀ j, j < 10 → am_mf (100 + j) = true := by decide +kernel
set_option maxRecDepth 100000 in
theorem am_mf_110 : ∀ j, j < 10 → am_mf (110 + j) = true := by decide +kernel
set_option maxRecDepth 100000 in
theorem am_mf_120 : ∀ j, j < 10 → am_mf (120 + j) = true := by decide +kernel
set_option maxRecDepth 100000 in
theorem am_mf_130 : ∀ j, j < 10 → am_mf (130 + j) = true := by decide +kernel
set_option maxRecDepth 100000 in
theorem am_mf_140 : ∀ j, j < 10 → am_mf (140 + j) = true := by decide +kernel
set_option maxRecDepth 100000 in
theorem am_mf_150 : ∀ j, j < 10 → am_mf (150 + j) = true := by decide +kernel
set_option maxRecDepth 100000 in
theorem am_mf_160 : ∀ j, j < 10 → am_mf (160 + j) = true := by decide +kernel
theorem am_mf_all {j : Nat} (h : j < 170) : am_mf j = true := by
  by_cases h0 : j < 10
  · have := am_mf_0 (j - 0) (by omega); rwa [show 0 + (j - 0) = j by omega] at this
  by_cases h10 : j < 20
  · have := am_mf_10 (j - 10) (by omega); rwa [show 10 + (j - 10) = j by omega] at this
  by_cases h20 : j < 30
  · have := am_mf_20 (j - 20) (by omega); rwa [show 20 + (j - 20) = j by omega] at this
  by_cases h30 : j < 40
  · have := am_mf_30 (j - 30) (by omega); rwa [show 30 + (j - 30) = j by omega] at this
  by_cases h40 : j < 50
  · have := am_mf_40 (j - 40) (by omega); rwa [show 40 + (j - 40) = j by omega] at this
  by_cases h50 : j < 60
  · have := am_mf_50 (j - 50) (by omega); rwa [show 50 + (j - 50) = j by omega] at this
  by_cases h60 : j < 70
  · have := am_mf_60 (j - 60) (by omega); rwa [show 60 + (j - 60) = j by omega] at this
  by_cases h70 : j < 80
  · have := am_mf_70 (j - 70) (by omega); rwa [show 70 + (j - 70) = j by omega] at this
  by_cases h80 : j < 90
  · have := am_mf_80 (j - 80) (by omega); rwa [show 80 + (j - 80) = j by omega] at this
  by_cases h90 : j < 100
  · have := am_mf_90 (j - 90) (by omega); rwa [show 90 + (j - 90) = j by omega] at this
  by_cases h100 : j < 110
  · have := am_mf_100 (j - 100) (by omega); rwa [show 100 + (j - 100) = j by omega] at this
  by_cases h110 : j < 120
  · have := am_mf_110 (j - 110) (by omega); rwa [show 110 + (j - 110) = j by omega] at this
  by_cases h120 : j < 130
  · have := am_mf_120 (j - 120) (by omega); rwa [show 120 + (j - 120) = j by omega] at this
  by_cases h130 : j < 140
  · have := am_mf_130 (j - 130) (by omega); rwa [show 130 + (j - 130) = j by omega] at this
  by_cases h140 : j < 150
  · have := am_mf_140 (j - 140) (by omega); rwa [show 140 + (j - 140) = j by omega] at this
  by_cases h150 : j < 160
  · have := am_mf_150 (j - 150) (by omega); rwa [show 150 + (j - 150) = j by omega] at this
  by_cases h160 : j < 170
  · have := am_mf_160 (j - 160) (by omega); rwa [show 160 + (j - 160) = j by omega] at this
  omega
theorem am_mwIn {j : Nat} (h : am_mf j = true) {w : Cond} (hw : w ∈ am_mw j) : w ∈ am_GT := by
  simp only [am_mf, Bool.and_eq_true] at h
  obtain ⟨k, hk⟩ := List.getElem?_of_mem hw
  have q := h.1.1.2
  simp only [Bool.and_eq_true, decide_eq_true_eq] at q
  exact am_seg q hk
theorem am_mfs1 {j : Nat} (h : am_mf j = true) (hk : am_kd j = 1) : (parseMethodDescriptor (am_y j).desc).map (fun d => d.parameters.length) = some (am_ar_ j) ∧ ((am_y j).cls ≠ "java/lang/invoke/MethodHandle" ∧ (am_y j).cls ≠ "java/lang/invoke/VarHandle") ∧ am_ml j ≤ 21 ∧ (am_mc j = 0 ∧ am_ms j = 0) ∧ am_ci j < 6 ∧ (am_y j).cls = am_cn (am_ci j) ∧ True := by
  simp only [am_mf, Bool.and_eq_true, decide_eq_true_eq, hk, if_true, show ¬ (1 : Nat) = 2 by decide, if_false] at h
  obtain ⟨⟨⟨⟨⟨⟨h1, h2⟩, h3⟩, h4⟩, h5⟩, h6⟩, h7⟩ := h
  exact ⟨h1, ⟨h2, h3⟩, h4, h6, h7.1, h7.2, trivial⟩
theorem am_mfs0 {j : Nat} (h : am_mf j = true) (hk : am_kd j = 0) : (parseMethodDescriptor (am_y j).desc).map (fun d => d.parameters.length) = some (am_ar_ j) ∧ ((am_y j).cls ≠ "java/lang/invoke/MethodHandle" ∧ (am_y j).cls ≠ "java/lang/invoke/VarHandle") ∧ am_ml j ≤ 21 ∧ (am_mc j = 0 ∧ am_ms j = 0) := by
  simp only [am_mf, Bool.and_eq_true, decide_eq_true_eq, hk, show ¬ (0 : Nat) = 2 by decide, if_false] at h
  obtain ⟨⟨⟨⟨⟨⟨h1, h2⟩, h3⟩, h4⟩, h5⟩, h6⟩, h7⟩ := h
  exact ⟨h1, ⟨h2, h3⟩, h4, h6⟩
theorem am_mfs2 {j : Nat} (h : am_mf j = true) (hk : am_kd j = 2) : (parseMethodDescriptor (am_y j).desc).map (fun d => d.parameters.length) = some (am_ar_ j) ∧ ((am_y j).cls ≠ "java/lang/invoke/MethodHandle" ∧ (am_y j).cls ≠ "java/lang/invoke/VarHandle") ∧ am_ml j ≤ 21 ∧ am_rt j = none ∧ (am_y j).name = "<init>" := by
  simp only [am_mf, Bool.and_eq_true, decide_eq_true_eq, hk, if_true] at h
  obtain ⟨⟨⟨⟨⟨⟨h1, h2⟩, h3⟩, h4⟩, h5⟩, h6⟩, h7⟩ := h
  exact ⟨h1, ⟨h2, h3⟩, h4, h6.1, h6.2⟩
def am_ck (i pc : Nat) (ins : Instr) (n op aa bb xx : Nat) (v : Int32) (w : Int64) : Bool := match ins with
  | .iload_n k => decide (op = 1) && decide ((k : Nat) = aa) && decide (n = 1)
  | .iload k => decide (op = 1) && decide (k = aa) && decide (n = 2)
  | .aload_n k => decide (op = 2) && decide ((k : Nat) = aa) && decide (n = 1)
  | .aload k => decide (op = 2) && decide (k = aa) && decide (n = 2)
  | .lload_n k => decide (op = 3) && decide ((k : Nat) = aa) && decide (n = 1)
  | .lload k => decide (op = 3) && decide (k = aa) && decide (n = 2)
  | .istore_n k => decide (op = 6) && decide ((k : Nat) = aa) && decide (n = 1) && decide (aa < am_ml i)
  | .istore k => decide (op = 6) && decide (k = aa) && decide (n = 2) && decide (aa < am_ml i)
  | .astore_n k => decide (op = 7) && decide ((k : Nat) = aa) && decide (n = 1) && decide (aa < am_ml i)
  | .astore k => decide (op = 7) && decide (k = aa) && decide (n = 2) && decide (aa < am_ml i)
  | .lstore_n k => decide (op = 8) && decide ((k : Nat) = aa) && decide (n = 1) && decide (aa + 1 < am_ml i)
  | .lstore k => decide (op = 8) && decide (k = aa) && decide (n = 2) && decide (aa + 1 < am_ml i)
  | .iconst z => decide (op = 4) && decide (Int32.ofInt z = v) && decide (n = 1)
  | .bipush z => decide (op = 4) && decide ((Int8.ofInt z).toInt32 = v) && decide (n = 2)
  | .sipush z => decide (op = 4) && decide ((Int16.ofInt z).toInt32 = v) && decide (n = 3)
  | .ldc z => decide (op = 4) && decide (z = xx) && decide (n = 2) && decide (Cond.constant (am_mo i) xx v ∈ am_wO)
  | .ldc_w z => decide (op = 4) && decide (z = xx) && decide (n = 3) && decide (Cond.constant (am_mo i) xx v ∈ am_wO)
  | .lconst z => decide (op = 5) && decide (Int64.ofNat (z : Nat) = w) && decide (n = 1)
  | .ldc2_w z => decide (op = 5) && decide (z = xx) && decide (n = 3) && decide (Cond.constantLong (am_mo i) xx w ∈ am_wO)
  | .iinc k z => decide (op = 9) && decide (k = aa) && decide (n = 3) && decide (Int32.ofInt z = v) && decide (aa < am_ml i)
  | .iadd => decide (op = 10) && decide (n = 1)
  | .isub => decide (op = 11) && decide (n = 1)
  | .imul => decide (op = 12) && decide (n = 1)
  | .idiv => decide (op = 13) && decide (n = 1)
  | .irem => decide (op = 14) && decide (n = 1)
  | .ineg => decide (op = 15) && decide (n = 1)
  | .ishl => decide (op = 16) && decide (n = 1)
  | .ishr => decide (op = 17) && decide (n = 1)
  | .iushr => decide (op = 18) && decide (n = 1)
  | .iand => decide (op = 19) && decide (n = 1)
  | .ior => decide (op = 20) && decide (n = 1)
  | .ixor => decide (op = 21) && decide (n = 1)
  | .ladd => decide (op = 22) && decide (n = 1)
  | .lsub => decide (op = 23) && decide (n = 1)
  | .land => decide (op = 24) && decide (n = 1)
  | .lor => decide (op = 25) && decide (n = 1)
  | .lxor => decide (op = 26) && decide (n = 1)
  | .lshl => decide (op = 27) && decide (n = 1)
  | .lshr => decide (op = 28) && decide (n = 1)
  | .lushr => decide (op = 29) && decide (n = 1)
  | .lcmp => decide (op = 30) && decide (n = 1)
  | .l2i => decide (op = 31) && decide (n = 1)
  | .i2l => decide (op = 32) && decide (n = 1)
  | .iaload => decide (op = 51) && decide (n = 1)
  | .iastore => decide (op = 52) && decide (n = 1)
  | .laload => decide (op = 53) && decide (n = 1)
  | .lastore => decide (op = 54) && decide (n = 1)
  | .baload => decide (op = 55) && decide (n = 1)
  | .bastore => decide (op = 56) && decide (n = 1)
  | .aaload => decide (op = 57) && decide (n = 1)
  | .aastore => decide (op = 58) && decide (n = 1)
  | .arraylength => decide (op = 59) && decide (n = 1)
  | .dup => decide (op = 63) && decide (n = 1)
  | .aconst_null => decide (op = 64) && decide (n = 1)
  | .ireturn => decide (op = 70) && decide (n = 1) && (decide (am_rt i = some .int ∧ ¬ aa = 1) || decide (am_rt i = some .boolean ∧ aa = 1))
  | .lreturn => decide (op = 71) && decide (n = 1) && decide (am_rt i = some .long)
  | .areturn => decide (op = 72) && decide (n = 1) && (match am_rt i with | some (.object _) => true | _ => false)
  | .return_ => decide (op = 73) && decide (n = 1) && decide (am_rt i = none)
  | .if_icmp .eq off => decide (op = 33) && decide ((pc : Int) + off = (aa : Int)) && decide (n = 3)
  | .ifCond .eq off => decide (op = 39) && decide ((pc : Int) + off = (aa : Int)) && decide (n = 3)
  | .if_icmp .ne off => decide (op = 34) && decide ((pc : Int) + off = (aa : Int)) && decide (n = 3)
  | .ifCond .ne off => decide (op = 40) && decide ((pc : Int) + off = (aa : Int)) && decide (n = 3)
  | .if_icmp .lt off => decide (op = 35) && decide ((pc : Int) + off = (aa : Int)) && decide (n = 3)
  | .ifCond .lt off => decide (op = 41) && decide ((pc : Int) + off = (aa : Int)) && decide (n = 3)
  | .if_icmp .ge off => decide (op = 36) && decide ((pc : Int) + off = (aa : Int)) && decide (n = 3)
  | .ifCond .ge off => decide (op = 42) && decide ((pc : Int) + off = (aa : Int)) && decide (n = 3)
  | .if_icmp .gt off => decide (op = 37) && decide ((pc : Int) + off = (aa : Int)) && decide (n = 3)
  | .ifCond .gt off => decide (op = 43) && decide ((pc : Int) + off = (aa : Int)) && decide (n = 3)
  | .if_icmp .le off => decide (op = 38) && decide ((pc : Int) + off = (aa : Int)) && decide (n = 3)
  | .ifCond .le off => decide (op = 44) && decide ((pc : Int) + off = (aa : Int)) && decide (n = 3)
  | .goto off => decide (op = 45) && decide ((pc : Int) + off = (aa : Int)) && decide (n = 3)
  | .ifnonnull off => decide (op = 46) && decide ((pc : Int) + off = (aa : Int)) && decide (n = 3)
  | .getfield z => decide (op = 48) && decide (z = xx) && decide (n = 3) && decide (aa < 6) && decide (bb < am_N aa) && decide (Cond.fieldLink (am_mo i) xx (am_T aa bb).1 (am_T aa bb).2.1 (am_T aa bb).2.2.1 ∈ am_wF)
  | .putfield z => (decide (op = 49) && decide ((am_T aa bb).2.2.2 = false) || decide (op = 50) && decide ((am_T aa bb).2.2.2 = true) && decide ((am_y i).name = "<init>") && decide ((am_T aa bb).1 = am_mo i)) && decide (z = xx) && decide (n = 3) && decide (aa < 6) && decide (bb < am_N aa) && decide (Cond.fieldLink (am_mo i) xx (am_T aa bb).1 (am_T aa bb).2.1 (am_T aa bb).2.2.1 ∈ am_wF)
  | .new z => decide (op = 60) && decide (z = xx) && decide (n = 3) && decide (aa < 6) && decide (Cond.classLink (am_mo i) xx (am_cn aa) ∈ am_wO) && decide (Cond.instantiable (am_cn aa) (am_N aa) ∈ am_wO) && decide (Cond.initialized (am_cn aa) ∈ am_wO)
  | .newarray .int => decide (op = 61) && decide (aa = 0) && decide (n = 2) && decide (Cond.arrayClass .int ∈ am_wO)
  | .newarray .boolean => decide (op = 61) && decide (aa = 1) && decide (n = 2) && decide (Cond.arrayClass .boolean ∈ am_wO)
  | .newarray .long => decide (op = 61) && decide (aa = 2) && decide (n = 2) && decide (Cond.arrayClass .long ∈ am_wO)
  | .anewarray z => decide (op = 62) && decide (z = xx) && decide (n = 3) && decide (Cond.classLink (am_mo i) xx RX2 ∈ am_wO)
  | .invokevirtual z => decide (op = 65) && decide (z = xx) && decide (n = 3) && decide (aa < 170) && decide (bb = am_ar_ aa) && decide (am_kd aa = 1) && decide (Cond.methodLink (am_mo i) xx (am_y aa) ∈ am_wM)
  | .invokestatic z => (decide (op = 75) && decide (z = xx) && decide (n = 3) && decide (Cond.methodLink (am_mo i) xx Lib.Math.max.name ∈ am_wO)) || (decide (op = 76) && decide (z = xx) && decide (n = 3) && decide (Cond.methodLink (am_mo i) xx Lib.Math.min.name ∈ am_wO)) || (((decide (op = 66) && decide (Cond.methodLink (am_mo i) xx (am_y aa) ∈ am_wM)) || (decide (op = 67) && decide ((am_mo i, xx, am_y aa, RX4) ∈ am_nl))) && decide (z = xx) && decide (n = 3) && decide (aa < 170) && decide (bb = am_ar_ aa) && decide (am_kd aa = 0))
  | .invokespecial z => (decide (op = 69) && decide (z = xx) && decide (n = 3) && decide (Cond.methodLink (am_mo i) xx objectInit ∈ am_wO)) || (decide (op = 68) && decide (z = xx) && decide (n = 3) && decide (aa < 170) && decide (bb = am_ar_ aa) && decide (am_kd aa = 2) && decide (Cond.methodLink (am_mo i) xx (am_y aa) ∈ am_wM))
  | .tableswitch d lo hi offs => decide (op = 74) && decide ((pc : Int) + d = (aa : Int)) && decide (lo = v.toInt) && decide (0 ≤ lo) && decide (hi + 1 = lo + (am_swt i pc).length) && decide (hi < 1000) && decide (offs.toList.map (fun off => (pc : Int) + off) = (am_swt i pc).map (fun (t : Nat) => (t : Int)))
  | _ => false
def am_chk (i : Nat) (q : Nat × am_I) : Bool := match decode (am_by i) q.1 with
  | .ok (ins, n) => decide (q.2.2.1 = q.1 + n) && am_ck i q.1 ins n q.2.1 q.2.2.2.1 q.2.2.2.2.1 q.2.2.2.2.2.1 q.2.2.2.2.2.2.1 q.2.2.2.2.2.2.2
  | .error _ => false
set_option maxHeartbeats 4000000 in
theorem am_sound0 {X : Nat × (Nat → Int32)} {D i pc op nx aa bb xx n : Nat} {ins : Instr} {v : Int32} {w : Int64} {L : List (Option Value)} {st : List Value} {G : am_H} {c s : Nat} {P : Option Value → am_H → Prop} (hd : decode (am_by i) pc = .ok (ins, n)) (hn : nx = pc + n) (hk : am_ck i pc ins n op aa bb xx v w = true) (hcs : c ≤ am_mc i ∧ s ≤ am_ms i) (h : am_step X D i pc op nx aa bb v w L st G c s P (am_go X D i P)) : am_WP X D i pc L st G c s P := by
  unfold am_ck at hk
  split at hk
  · next k =>
    simp only [Bool.and_eq_true, decide_eq_true_eq] at hk
    obtain ⟨⟨e1, e2⟩, e3⟩ := hk
    subst e1; subst e3; exact am_z1 (Or.inl ⟨k, hd, e2, hn⟩) h
  · next k =>
    simp only [Bool.and_eq_true, decide_eq_true_eq] at hk
    obtain ⟨⟨e1, e2⟩, e3⟩ := hk
    subst e1; subst e2; subst e3; exact am_z1 (Or.inr ⟨hd, hn⟩) h
  · next k =>
    simp only [Bool.and_eq_true, decide_eq_true_eq] at hk
    obtain ⟨⟨e1, e2⟩, e3⟩ := hk
    subst e1; subst e3; exact am_z2 (Or.inl ⟨k, hd, e2, hn⟩) h
  · next k =>
    simp only [Bool.and_eq_true, decide_eq_true_eq] at hk
    obtain ⟨⟨e1, e2⟩, e3⟩ := hk
    subst e1; subst e2; subst e3; exact am_z2 (Or.inr ⟨hd, hn⟩) h
  · next k =>
    simp only [Bool.and_eq_true, decide_eq_true_eq] at hk
    obtain ⟨⟨e1, e2⟩, e3⟩ := hk
    subst e1; subst e3; exact am_z3 (Or.inl ⟨k, hd, e2, hn⟩) h
  · next k =>
    simp only [Bool.and_eq_true, decide_eq_true_eq] at hk
    obtain ⟨⟨e1, e2⟩, e3⟩ := hk
    subst e1; subst e2; subst e3; exact am_z3 (Or.inr ⟨hd, hn⟩) h
  · next k =>
    simp only [Bool.and_eq_true, decide_eq_true_eq] at hk
    obtain ⟨⟨⟨e1, e2⟩, e3⟩, e4⟩ := hk
    subst e1; subst e3; exact am_z6 e4 (Or.inl ⟨k, hd, e2, hn⟩) h
  · next k =>
    simp only [Bool.and_eq_true, decide_eq_true_eq] at hk
    obtain ⟨⟨⟨e1, e2⟩, e3⟩, e4⟩ := hk
    subst e1; subst e2; subst e3; exact am_z6 e4 (Or.inr ⟨hd, hn⟩) h
  · next k =>
    simp only [Bool.and_eq_true, decide_eq_true_eq] at hk
    obtain ⟨⟨⟨e1, e2⟩, e3⟩, e4⟩ := hk
    subst e1; subst e3; exact am_z7 e4 (Or.inl ⟨k, hd, e2, hn⟩) h
  · next k =>
    simp only [Bool.and_eq_true, decide_eq_true_eq] at hk
    obtain ⟨⟨⟨e1, e2⟩, e3⟩, e4⟩ := hk
    subst e1; subst e2; subst e3; exact am_z7 e4 (Or.inr ⟨hd, hn⟩) h
  · next k =>
    simp only [Bool.and_eq_true, decide_eq_true_eq] at hk
    obtain ⟨⟨⟨e1, e2⟩, e3⟩, e4⟩ := hk
    subst e1; subst e3; exact am_z8 e4 (Or.inl ⟨k, hd, e2, hn⟩) h
  · next k =>
    simp only [Bool.and_eq_true, decide_eq_true_eq] at hk
    obtain ⟨⟨⟨e1, e2⟩, e3⟩, e4⟩ := hk
    subst e1; subst e2; subst e3; exact am_z8 e4 (Or.inr ⟨hd, hn⟩) h
  · next z =>
    simp only [Bool.and_eq_true, decide_eq_true_eq] at hk
    obtain ⟨⟨e1, e2⟩, e3⟩ := hk
    subst e1; subst e3; exact am_z4 (xx := xx) (Or.inl ⟨z, hd, e2, hn⟩) h
  · next z =>
    simp only [Bool.and_eq_true, decide_eq_true_eq] at hk
    obtain ⟨⟨e1, e2⟩, e3⟩ := hk
    subst e1; subst e3; exact am_z4 (xx := xx) (Or.inr (Or.inl ⟨z, hd, e2, hn⟩)) h
  · next z =>
    simp only [Bool.and_eq_true, decide_eq_true_eq] at hk
    obtain ⟨⟨e1, e2⟩, e3⟩ := hk
    subst e1; subst e3; exact am_z4 (xx := xx) (Or.inr (Or.inr (Or.inl ⟨z, hd, e2, hn⟩))) h
  · next z =>
    simp only [Bool.and_eq_true, decide_eq_true_eq] at hk
    obtain ⟨⟨⟨e1, e2⟩, e3⟩, e4⟩ := hk
    subst e1; subst e2; subst e3; exact am_z4 (Or.inr (Or.inr (Or.inr (Or.inl ⟨hd, am_wO_in _ e4, hn⟩)))) h
  · next z =>
    simp only [Bool.and_eq_true, decide_eq_true_eq] at hk
    obtain ⟨⟨⟨e1, e2⟩, e3⟩, e4⟩ := hk
    subst e1; subst e2; subst e3; exact am_z4 (Or.inr (Or.inr (Or.inr (Or.inr ⟨hd, am_wO_in _ e4, hn⟩)))) h
  · next z =>
    simp only [Bool.and_eq_true, decide_eq_true_eq] at hk
    obtain ⟨⟨e1, e2⟩, e3⟩ := hk
    subst e1; subst e3; exact am_z5 (xx := xx) (Or.inl ⟨z, hd, e2, hn⟩) h
  · next z =>
    simp only [Bool.and_eq_true, decide_eq_true_eq] at hk
    obtain ⟨⟨⟨e1, e2⟩, e3⟩, e4⟩ := hk
    subst e1; subst e2; subst e3; exact am_z5 (Or.inr ⟨hd, am_wO_in _ e4, hn⟩) h
  · next k z =>
    simp only [Bool.and_eq_true, decide_eq_true_eq] at hk
    obtain ⟨⟨⟨⟨e1, e2⟩, e3⟩, e4⟩, e5⟩ := hk
    subst e1; subst e2; subst e3; exact am_z9 e5 ⟨z, hd, e4⟩ hn h
  · skip
    simp only [Bool.and_eq_true, decide_eq_true_eq] at hk
    obtain ⟨e1, e2⟩ := hk
    subst e1; subst e2; exact am_z10 hd hn h
  · skip
    simp only [Bool.and_eq_true, decide_eq_true_eq] at hk
    obtain ⟨e1, e2⟩ := hk
    subst e1; subst e2; exact am_z11 hd hn h
  · skip
    simp only [Bool.and_eq_true, decide_eq_true_eq] at hk
    obtain ⟨e1, e2⟩ := hk
    subst e1; subst e2; exact am_z12 hd hn h
  · skip
    simp only [Bool.and_eq_true, decide_eq_true_eq] at hk
    obtain ⟨e1, e2⟩ := hk
    subst e1; subst e2; exact am_z13 hd hn h
  · skip
    simp only [Bool.and_eq_true, decide_eq_true_eq] at hk
    obtain ⟨e1, e2⟩ := hk
    subst e1; subst e2; exact am_z14 hd hn h
  · skip
    simp only [Bool.and_eq_true, decide_eq_true_eq] at hk
    obtain ⟨e1, e2⟩ := hk
    subst e1; subst e2; exact am_z15 hd hn h
  · skip
    simp only [Bool.and_eq_true, decide_eq_true_eq] at hk
    obtain ⟨e1, e2⟩ := hk
    subst e1; subst e2; exact am_z16 hd hn h
  · skip
    simp only [Bool.and_eq_true, decide_eq_true_eq] at hk
    obtain ⟨e1, e2⟩ := hk
    subst e1; subst e2; exact am_z17 hd hn h
  · skip
    simp only [Bool.and_eq_true, decide_eq_true_eq] at hk
    obtain ⟨e1, e2⟩ := hk
    subst e1; subst e2; exact am_z18 hd hn h
  · skip
    simp only [Bool.and_eq_true, decide_eq_true_eq] at hk
    obtain ⟨e1, e2⟩ := hk
    subst e1; subst e2; exact am_z19 hd hn h
  · skip
    simp only [Bool.and_eq_true, decide_eq_true_eq] at hk
    obtain ⟨e1, e2⟩ := hk
    subst e1; subst e2; exact am_z20 hd hn h
  · skip
    simp only [Bool.and_eq_true, decide_eq_true_eq] at hk
    obtain ⟨e1, e2⟩ := hk
    subst e1; subst e2; exact am_z21 hd hn h
  · skip
    simp only [Bool.and_eq_true, decide_eq_true_eq] at hk
    obtain ⟨e1, e2⟩ := hk
    subst e1; subst e2; exact am_z22 hd hn h
  · skip
    simp only [Bool.and_eq_true, decide_eq_true_eq] at hk
    obtain ⟨e1, e2⟩ := hk
    subst e1; subst e2; exact am_z23 hd hn h
  · skip
    simp only [Bool.and_eq_true, decide_eq_true_eq] at hk
    obtain ⟨e1, e2⟩ := hk
    subst e1; subst e2; exact am_z24 hd hn h
  · skip
    simp only [Bool.and_eq_true, decide_eq_true_eq] at hk
    obtain ⟨e1, e2⟩ := hk
    subst e1; subst e2; exact am_z25 hd hn h
  · skip
    simp only [Bool.and_eq_true, decide_eq_true_eq] at hk
    obtain ⟨e1, e2⟩ := hk
    subst e1; subst e2; exact am_z26 hd hn h
  · skip
    simp only [Bool.and_eq_true, decide_eq_true_eq] at hk
    obtain ⟨e1, e2⟩ := hk
    subst e1; subst e2; exact am_z27 hd hn h
  · skip
    simp only [Bool.and_eq_true, decide_eq_true_eq] at hk
    obtain ⟨e1, e2⟩ := hk
    subst e1; subst e2; exact am_z28 hd hn h
  · skip
    simp only [Bool.and_eq_true, decide_eq_true_eq] at hk
    obtain ⟨e1, e2⟩ := hk
    subst e1; subst e2; exact am_z29 hd hn h
  · skip
    simp only [Bool.and_eq_true, decide_eq_true_eq] at hk
    obtain ⟨e1, e2⟩ := hk
    subst e1; subst e2; exact am_z30 hd hn h
  · skip
    simp only [Bool.and_eq_true, decide_eq_true_eq] at hk
    obtain ⟨e1, e2⟩ := hk
    subst e1; subst e2; exact am_z31 hd hn h
  · skip
    simp only [Bool.and_eq_true, decide_eq_true_eq] at hk
    obtain ⟨e1, e2⟩ := hk
    subst e1; subst e2; exact am_z32 hd hn h
  · skip
    simp only [Bool.and_eq_true, decide_eq_true_eq] at hk
    obtain ⟨e1, e2⟩ := hk
    subst e1; subst e2; exact am_z51 hd hn h
  · skip
    simp only [Bool.and_eq_true, decide_eq_true_eq] at hk
    obtain ⟨e1, e2⟩ := hk
    subst e1; subst e2; exact am_z52 hd hn h
  · skip
    simp only [Bool.and_eq_true, decide_eq_true_eq] at hk
    obtain ⟨e1, e2⟩ := hk
    subst e1; subst e2; exact am_z53 hd hn h
  · skip
    simp only [Bool.and_eq_true, decide_eq_true_eq] at hk
    obtain ⟨e1, e2⟩ := hk
    subst e1; subst e2; exact am_z54 hd hn h
  · skip
    simp only [Bool.and_eq_true, decide_eq_true_eq] at hk
    obtain ⟨e1, e2⟩ := hk
    subst e1; subst e2; exact am_z55 hd hn h
  · skip
    simp only [Bool.and_eq_true, decide_eq_true_eq] at hk
    obtain ⟨e1, e2⟩ := hk
    subst e1; subst e2; exact am_z56 hd hn h
  · skip
    simp only [Bool.and_eq_true, decide_eq_true_eq] at hk
    obtain ⟨e1, e2⟩ := hk
    subst e1; subst e2; exact am_z57 hd hn h
  · skip
    simp only [Bool.and_eq_true, decide_eq_true_eq] at hk
    obtain ⟨e1, e2⟩ := hk
    subst e1; subst e2; exact am_z58 hd hn h
  · skip
    simp only [Bool.and_eq_true, decide_eq_true_eq] at hk
    obtain ⟨e1, e2⟩ := hk
    subst e1; subst e2; exact am_z59 hd hn h
  · skip
    simp only [Bool.and_eq_true, decide_eq_true_eq] at hk
    obtain ⟨e1, e2⟩ := hk
    subst e1; subst e2; exact am_z63 hd hn h
  · skip
    simp only [Bool.and_eq_true, decide_eq_true_eq] at hk
    obtain ⟨e1, e2⟩ := hk
    subst e1; subst e2; exact am_z64 hd hn h
  · skip
    simp only [Bool.and_eq_true, decide_eq_true_eq] at hk
    obtain ⟨⟨e1, e2⟩, e3⟩ := hk
    subst e1; subst e2; simp only [Bool.or_eq_true, decide_eq_true_eq] at e3; exact am_z70 e3 hd h
  · skip
    simp only [Bool.and_eq_true, decide_eq_true_eq] at hk
    obtain ⟨⟨e1, e2⟩, e3⟩ := hk
    subst e1; subst e2; exact am_z71 e3 hd h
  · skip
    simp only [Bool.and_eq_true, decide_eq_true_eq] at hk
    obtain ⟨⟨e1, e2⟩, e3⟩ := hk
    subst e1; subst e2; exact am_z72 (by revert e3; cases am_rt i with | none => (intro q; cases q) | some t => (cases t <;> intro q <;> first | exact ⟨_, rfl⟩ | cases q)) hd h
  · skip
    simp only [Bool.and_eq_true, decide_eq_true_eq] at hk
    obtain ⟨⟨e1, e2⟩, e3⟩ := hk
    subst e1; subst e2; exact am_z73 e3 hd h
  · next off =>
    simp only [Bool.and_eq_true, decide_eq_true_eq] at hk
    obtain ⟨⟨e1, e2⟩, e3⟩ := hk
    subst e1; subst e3; exact am_z33 ⟨off, hd, e2⟩ hn h
  · next off =>
    simp only [Bool.and_eq_true, decide_eq_true_eq] at hk
    obtain ⟨⟨e1, e2⟩, e3⟩ := hk
    subst e1; subst e3; exact am_z39 ⟨off, hd, e2⟩ hn h
  · next off =>
    simp only [Bool.and_eq_true, decide_eq_true_eq] at hk
    obtain ⟨⟨e1, e2⟩, e3⟩ := hk
    subst e1; subst e3; exact am_z34 ⟨off, hd, e2⟩ hn h
  · next off =>
    simp only [Bool.and_eq_true, decide_eq_true_eq] at hk
    obtain ⟨⟨e1, e2⟩, e3⟩ := hk
    subst e1; subst e3; exact am_z40 ⟨off, hd, e2⟩ hn h
  · next off =>
    simp only [Bool.and_eq_true, decide_eq_true_eq] at hk
    obtain ⟨⟨e1, e2⟩, e3⟩ := hk
    subst e1; subst e3; exact am_z35 ⟨off, hd, e2⟩ hn h
  · next off =>
    simp only [Bool.and_eq_true, decide_eq_true_eq] at hk
    obtain ⟨⟨e1, e2⟩, e3⟩ := hk
    subst e1; subst e3; exact am_z41 ⟨off, hd, e2⟩ hn h
  · next off =>
    simp only [Bool.and_eq_true, decide_eq_true_eq] at hk
    obtain ⟨⟨e1, e2⟩, e3⟩ := hk
    subst e1; subst e3; exact am_z36 ⟨off, hd, e2⟩ hn h
  · next off =>
    simp only [Bool.and_eq_true, decide_eq_true_eq] at hk
    obtain ⟨⟨e1, e2⟩, e3⟩ := hk
    subst e1; subst e3; exact am_z42 ⟨off, hd, e2⟩ hn h
  · next off =>
    simp only [Bool.and_eq_true, decide_eq_true_eq] at hk
    obtain ⟨⟨e1, e2⟩, e3⟩ := hk
    subst e1; subst e3; exact am_z37 ⟨off, hd, e2⟩ hn h
  · next off =>
    simp only [Bool.and_eq_true, decide_eq_true_eq] at hk
    obtain ⟨⟨e1, e2⟩, e3⟩ := hk
    subst e1; subst e3; exact am_z43 ⟨off, hd, e2⟩ hn h
  · next off =>
    simp only [Bool.and_eq_true, decide_eq_true_eq] at hk
    obtain ⟨⟨e1, e2⟩, e3⟩ := hk
    subst e1; subst e3; exact am_z38 ⟨off, hd, e2⟩ hn h
  · next off =>
    simp only [Bool.and_eq_true, decide_eq_true_eq] at hk
    obtain ⟨⟨e1, e2⟩, e3⟩ := hk
    subst e1; subst e3; exact am_z44 ⟨off, hd, e2⟩ hn h
  · next off =>
    simp only [Bool.and_eq_true, decide_eq_true_eq] at hk
    obtain ⟨⟨e1, e2⟩, e3⟩ := hk
    subst e1; subst e3; exact am_z45 ⟨off, hd, e2⟩ h
  · next off =>
    simp only [Bool.and_eq_true, decide_eq_true_eq] at hk
    obtain ⟨⟨e1, e2⟩, e3⟩ := hk
    subst e1; subst e3; exact am_z46 ⟨off, hd, e2⟩ hn h
  · next z =>
    simp only [Bool.and_eq_true, decide_eq_true_eq] at hk
    obtain ⟨⟨⟨⟨⟨e1, e2⟩, e3⟩, e4⟩, e5⟩, e6⟩ := hk
    subst e1; subst e2; subst e3; exact am_z48 e4 e5 (am_wF_in _ e6) hd hn h
  · next z =>
    simp only [Bool.and_eq_true, decide_eq_true_eq] at hk
    obtain ⟨⟨⟨⟨⟨e1, e2⟩, e3⟩, e4⟩, e5⟩, e6⟩ := hk
    subst e2; subst e3; simp only [Bool.or_eq_true, Bool.and_eq_true, decide_eq_true_eq] at e1; rcases e1 with ⟨e7, e8⟩ | ⟨⟨⟨e7, e8⟩, e9⟩, e10⟩ <;> subst e7; (· exact am_z49 e4 e5 (am_wF_in _ e6) e8 hd hn h); (· exact am_z50 e4 e5 (am_wF_in _ e6) e8 e9 e10 hd hn h)
  · next z =>
    simp only [Bool.and_eq_true, decide_eq_true_eq] at hk
    obtain ⟨⟨⟨⟨⟨⟨e1, e2⟩, e3⟩, e4⟩, e5⟩, e6⟩, e7⟩ := hk
    subst e1; subst e2; subst e3; exact am_z60 e4 (am_wO_in _ e5) (am_wO_in _ e6) (am_wO_in _ e7) hd hn h
  · skip
    simp only [Bool.and_eq_true, decide_eq_true_eq] at hk
    obtain ⟨⟨⟨e1, e2⟩, e3⟩, e4⟩ := hk
    subst e1; subst e2; subst e3; exact am_z61 (Or.inl ⟨rfl, hd, am_wO_in _ e4⟩) hn h
  · skip
    simp only [Bool.and_eq_true, decide_eq_true_eq] at hk
    obtain ⟨⟨⟨e1, e2⟩, e3⟩, e4⟩ := hk
    subst e1; subst e2; subst e3; exact am_z61 (Or.inr (Or.inl ⟨rfl, hd, am_wO_in _ e4⟩)) hn h
  · skip
    simp only [Bool.and_eq_true, decide_eq_true_eq] at hk
    obtain ⟨⟨⟨e1, e2⟩, e3⟩, e4⟩ := hk
    subst e1; subst e2; subst e3; exact am_z61 (Or.inr (Or.inr ⟨rfl, hd, am_wO_in _ e4⟩)) hn h
  · next z =>
    simp only [Bool.and_eq_true, decide_eq_true_eq] at hk
    obtain ⟨⟨⟨e1, e2⟩, e3⟩, e4⟩ := hk
    subst e1; subst e2; subst e3; exact am_z62 (am_wO_in _ e4) hd hn h
  · next z =>
    simp only [Bool.and_eq_true, decide_eq_true_eq] at hk
    obtain ⟨⟨⟨⟨⟨⟨e1, e2⟩, e3⟩, e4⟩, e5⟩, e6⟩, e7⟩ := hk
    subst e1; subst e2; subst e3; subst e5; obtain ⟨f1, f2, f3, f4, f5, f6, f7⟩ := am_mfs1 (am_mf_all e4) e6; exact am_z65 f1 f2 (am_mwIn (am_mf_all e4) (by simp [am_mw])) f3 (am_mwIn (am_mf_all e4) (by simp [am_mw])) f4 (am_wM_in _ e7) (am_mwIn (am_mf_all e4) (by simp [am_mw, e6])) (am_mwIn (am_mf_all e4) (by simp [am_mw, e6])) ⟨f5, f6⟩ hcs hd hn h
  · next z =>
    simp only [Bool.or_eq_true, Bool.and_eq_true, decide_eq_true_eq] at hk
    rcases hk with (⟨⟨⟨e1, e2⟩, e3⟩, e4⟩ | ⟨⟨⟨e1, e2⟩, e3⟩, e4⟩) | ⟨⟨⟨⟨⟨e1, e2⟩, e3⟩, e4⟩, e5⟩, e6⟩
    · subst e1; subst e2; subst e3
      exact am_z75 (am_wO_in _ e4) (am_wO_in _ (by decide +kernel)) (am_wO_in _ (by decide +kernel)) (am_wO_in _ (by decide +kernel)) hcs hd hn h
    · subst e1; subst e2; subst e3
      exact am_z76 (am_wO_in _ e4) (am_wO_in _ (by decide +kernel)) (am_wO_in _ (by decide +kernel)) (am_wO_in _ (by decide +kernel)) hcs hd hn h
    · subst e2; subst e3; subst e5
      obtain ⟨f1, f2, f3, f4⟩ := am_mfs0 (am_mf_all e4) e6
      rcases e1 with ⟨e7, e8⟩ | ⟨e7, e8⟩ <;> subst e7
      · exact am_z66 f1 f2 (am_mwIn (am_mf_all e4) (by simp [am_mw])) f3 (am_mwIn (am_mf_all e4) (by simp [am_mw])) f4 (am_wM_in _ e8) (am_mwIn (am_mf_all e4) (by simp [am_mw, e6])) hcs hd hn h
      · exact am_z67 f1 f2 (am_mwIn (am_mf_all e4) (by simp [am_mw])) f3 (am_mwIn (am_mf_all e4) (by simp [am_mw])) f4 e8 (am_mwIn (am_mf_all e4) (by simp [am_mw, e6])) hcs hd hn h
  · next z =>
    simp only [Bool.or_eq_true, Bool.and_eq_true, decide_eq_true_eq] at hk
    rcases hk with ⟨⟨⟨e1, e2⟩, e3⟩, e4⟩ | ⟨⟨⟨⟨⟨⟨e1, e2⟩, e3⟩, e4⟩, e5⟩, e6⟩, e7⟩
    · subst e1; subst e2; subst e3
      exact am_z69 (am_wO_in _ e4) (am_wO_in _ (by decide +kernel)) (am_wO_in _ (by decide +kernel)) hd hn h
    · subst e1; subst e2; subst e3; subst e5
      obtain ⟨f1, f2, f3, f4, f5⟩ := am_mfs2 (am_mf_all e4) e6
      exact am_z68 f1 f2 (am_mwIn (am_mf_all e4) (by simp [am_mw])) f3 (am_mwIn (am_mf_all e4) (by simp [am_mw])) f4 f5 (am_wM_in _ e7) (am_mwIn (am_mf_all e4) (by simp [am_mw, e6])) hd hn h
  · next d lo hi offs =>
    simp only [Bool.and_eq_true, decide_eq_true_eq] at hk
    obtain ⟨⟨⟨⟨⟨⟨e1, e2⟩, e3⟩, e4⟩, e5⟩, e6⟩, e7⟩ := hk
    subst e1
    refine am_z74 ⟨d, lo, hi, offs, n, hd, e2, e3, e4, e5, e6, fun k hk => ?_⟩ h
    have hlen : offs.toList.length = (am_swt i pc).length := by have q := congrArg List.length e7; simpa using q
    have hko : k < offs.toList.length := by omega
    refine ⟨offs.toList[k], ?_, fun t ht => ?_⟩
    · rw [← Array.getElem?_toList, List.getElem?_eq_getElem hko]
    · have q := congrArg (fun l => l[k]?) e7
      simp only [List.getElem?_map, ht, List.getElem?_eq_getElem hko, Option.map_some, Option.some.injEq] at q
      exact q
  · cases hk
theorem am_sound {X : Nat × (Nat → Int32)} {D i pc op nx aa bb xx : Nat} {v : Int32} {w : Int64} {L : List (Option Value)} {st : List Value} {G : am_H} {c s : Nat} {P : Option Value → am_H → Prop} (hk : am_chk i (pc, op, nx, aa, bb, xx, v, w) = true) (hcs : c ≤ am_mc i ∧ s ≤ am_ms i) (h : am_step X D i pc op nx aa bb v w L st G c s P (am_go X D i P)) : am_WP X D i pc L st G c s P := by
  unfold am_chk at hk
  split at hk
  · next ins n hd =>
    simp only [Bool.and_eq_true, decide_eq_true_eq] at hk
    exact am_sound0 hd hk.1 hk.2 hcs h
  · cases hk
