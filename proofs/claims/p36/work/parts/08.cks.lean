theorem am_c0 : (am_tb 0).all (fun l => l.all (am_chk 0)) = true := by decide +kernel
theorem am_c1 : (am_tb 1).all (fun l => l.all (am_chk 1)) = true := by decide +kernel
theorem am_c2 : (am_tb 2).all (fun l => l.all (am_chk 2)) = true := by decide +kernel
theorem am_c3 : (am_tb 3).all (fun l => l.all (am_chk 3)) = true := by decide +kernel
theorem am_c4 : (am_tb 4).all (fun l => l.all (am_chk 4)) = true := by decide +kernel
theorem am_c5 : (am_tb 5).all (fun l => l.all (am_chk 5)) = true := by decide +kernel
theorem am_c6 : (am_tb 6).all (fun l => l.all (am_chk 6)) = true := by decide +kernel
theorem am_c7 : (am_tb 7).all (fun l => l.all (am_chk 7)) = true := by decide +kernel
theorem am_c8 : (am_tb 8).all (fun l => l.all (am_chk 8)) = true := by decide +kernel
theorem am_c9 : (am_tb 9).all (fun l => l.all (am_chk 9)) = true := by decide +kernel
theorem am_c10 : (am_tb 10).all (fun l => l.all (am_chk 10)) = true := by decide +kernel
theorem am_c11 : (am_tb 11).all (fun l => l.all (am_chk 11)) = true := by decide +kernel
theorem am_c12 : (am_tb 12).all (fun l => l.all (am_chk 12)) = true := by decide +kernel
theorem am_c13 : (am_tb 13).all (fun l => l.all (am_chk 13)) = true := by decide +kernel
theorem am_c14 : (am_tb 14).all (fun l => l.all (am_chk 14)) = true := by decide +kernel
theorem am_c15 : (am_tb 15).all (fun l => l.all (am_chk 15)) = true := by decide +kernel
theorem am_c16 : (am_tb 16).all (fun l => l.all (am_chk 16)) = true := by decide +kernel
theorem am_c17 : (am_tb 17).all (fun l => l.all (am_chk 17)) = true := by decide +kernel
theorem am_c18 : (am_tb 18).all (fun l => l.all (am_chk 18)) = true := by decide +kernel
theorem am_c19 : (am_tb 19).all (fun l => l.all (am_chk 19)) = true := by decide +kernel
theorem am_c20 : (am_tb 20).all (fun l => l.all (am_chk 20)) = true := by decide +kernel
theorem am_c21 : (am_tb 21).all (fun l => l.all (am_chk 21)) = true := by decide +kernel
theorem am_c22 : (am_tb 22).all (fun l => l.all (am_chk 22)) = true := by decide +kernel
theorem am_c23 : (am_tb 23).all (fun l => l.all (am_chk 23)) = true := by decide +kernel
theorem am_c24 : (am_tb 24).all (fun l => l.all (am_chk 24)) = true := by decide +kernel
theorem am_c25 : (am_tb 25).all (fun l => l.all (am_chk 25)) = true := by decide +kernel
theorem am_c26 : (am_tb 26).all (fun l => l.all (am_chk 26)) = true := by decide +kernel
theorem am_c27 : (am_tb 27).all (fun l => l.all (am_chk 27)) = true := by decide +kernel
theorem am_c28 : (am_tb 28).all (fun l => l.all (am_chk 28)) = true := by decide +kernel
theorem am_c29 : (am_tb 29).all (fun l => l.all (am_chk 29)) = true := by decide +kernel
theorem am_c30 : (am_tb 30).all (fun l => l.all (am_chk 30)) = true := by decide +kernel
theorem am_c31 : (am_tb 31).all (fun l => l.all (am_chk 31)) = true := by decide +kernel
theorem am_c32 : (am_tb 32).all (fun l => l.all (am_chk 32)) = true := by decide +kernel
theorem am_c33 : (am_tb 33).all (fun l => l.all (am_chk 33)) = true := by decide +kernel
theorem am_c34 : (am_tb 34).all (fun l => l.all (am_chk 34)) = true := by decide +kernel
theorem am_c35 : (am_tb 35).all (fun l => l.all (am_chk 35)) = true := by decide +kernel
theorem am_c36 : (am_tb 36).all (fun l => l.all (am_chk 36)) = true := by decide +kernel
theorem am_c37 : (am_tb 37).all (fun l => l.all (am_chk 37)) = true := by decide +kernel
theorem am_c38 : (am_tb 38).all (fun l => l.all (am_chk 38)) = true := by decide +kernel
theorem am_c39 : (am_tb 39).all (fun l => l.all (am_chk 39)) = true := by decide +kernel
theorem am_c40 : (am_tb 40).all (fun l => l.all (am_chk 40)) = true := by decide +kernel
theorem am_c41 : (am_tb 41).all (fun l => l.all (am_chk 41)) = true := by decide +kernel
theorem am_c42 : (am_tb 42).all (fun l => l.all (am_chk 42)) = true := by decide +kernel
theorem am_c43 : (am_tb 43).all (fun l => l.all (am_chk 43)) = true := by decide +kernel
theorem am_c44 : (am_tb 44).all (fun l => l.all (am_chk 44)) = true := by decide +kernel
theorem am_c45 : (am_tb 45).all (fun l => l.all (am_chk 45)) = true := by decide +kernel
theorem am_c46 : (am_tb 46).all (fun l => l.all (am_chk 46)) = true := by decide +kernel
theorem am_c47 : (am_tb 47).all (fun l => l.all (am_chk 47)) = true := by decide +kernel
theorem am_c48 : (am_tb 48).all (fun l => l.all (am_chk 48)) = true := by decide +kernel
theorem am_c49 : (am_tb 49).all (fun l => l.all (am_chk 49)) = true := by decide +kernel
theorem am_c50 : (am_tb 50).all (fun l => l.all (am_chk 50)) = true := by decide +kernel
theorem am_c51 : (am_tb 51).all (fun l => l.all (am_chk 51)) = true := by decide +kernel
theorem am_c52 : (am_tb 52).all (fun l => l.all (am_chk 52)) = true := by decide +kernel
theorem am_c53 : (am_tb 53).all (fun l => l.all (am_chk 53)) = true := by decide +kernel
theorem am_c54 : (am_tb 54).all (fun l => l.all (am_chk 54)) = true := by decide +kernel
theorem am_c55 : (am_tb 55).all (fun l => l.all (am_chk 55)) = true := by decide +kernel
theorem am_c56 : (am_tb 56).all (fun l => l.all (am_chk 56)) = true := by decide +kernel
theorem am_c57 : (am_tb 57).all (fun l => l.all (am_chk 57)) = true := by decide +kernel
theorem am_c58 : (am_tb 58).all (fun l => l.all (am_chk 58)) = true := by decide +kernel
theorem am_c59 : (am_tb 59).all (fun l => l.all (am_chk 59)) = true := by decide +kernel
theorem am_c60 : (am_tb 60).all (fun l => l.all (am_chk 60)) = true := by decide +kernel
theorem am_c61 : (am_tb 61).all (fun l => l.all (am_chk 61)) = true := by decide +kernel
theorem am_c62 : (am_tb 62).all (fun l => l.all (am_chk 62)) = true := by decide +kernel
theorem am_c63 : (am_tb 63).all (fun l => l.all (am_chk 63)) = true := by decide +kernel
theorem am_c64 : (am_tb 64).all (fun l => l.all (am_chk 64)) = true := by decide +kernel
theorem am_c65 : (am_tb 65).all (fun l => l.all (am_chk 65)) = true := by decide +kernel
theorem am_c66 : (am_tb 66).all (fun l => l.all (am_chk 66)) = true := by decide +kernel
theorem am_c67 : (am_tb 67).all (fun l => l.all (am_chk 67)) = true := by decide +kernel
theorem am_c68 : (am_tb 68).all (fun l => l.all (am_chk 68)) = true := by decide +kernel
theorem am_c69 : (am_tb 69).all (fun l => l.all (am_chk 69)) = true := by decide +kernel
theorem am_c70 : (am_tb 70).all (fun l => l.all (am_chk 70)) = true := by decide +kernel
theorem am_c71 : (am_tb 71).all (fun l => l.all (am_chk 71)) = true := by decide +kernel
theorem am_c72 : (am_tb 72).all (fun l => l.all (am_chk 72)) = true := by decide +kernel
theorem am_c73 : (am_tb 73).all (fun l => l.all (am_chk 73)) = true := by decide +kernel
theorem am_c74 : (am_tb 74).all (fun l => l.all (am_chk 74)) = true := by decide +kernel
theorem am_c75 : (am_tb 75).all (fun l => l.all (am_chk 75)) = true := by decide +kernel
theorem am_c76 : (am_tb 76).all (fun l => l.all (am_chk 76)) = true := by decide +kernel
theorem am_c77 : (am_tb 77).all (fun l => l.all (am_chk 77)) = true := by decide +kernel
theorem am_c78 : (am_tb 78).all (fun l => l.all (am_chk 78)) = true := by decide +kernel
theorem am_c79 : (am_tb 79).all (fun l => l.all (am_chk 79)) = true := by decide +kernel
theorem am_c80 : (am_tb 80).all (fun l => l.all (am_chk 80)) = true := by decide +kernel
theorem am_c81 : (am_tb 81).all (fun l => l.all (am_chk 81)) = true := by decide +kernel
theorem am_c82 : (am_tb 82).all (fun l => l.all (am_chk 82)) = true := by decide +kernel
theorem am_c83 : (am_tb 83).all (fun l => l.all (am_chk 83)) = true := by decide +kernel
theorem am_c84 : (am_tb 84).all (fun l => l.all (am_chk 84)) = true := by decide +kernel
theorem am_c85 : (am_tb 85).all (fun l => l.all (am_chk 85)) = true := by decide +kernel
theorem am_c86 : (am_tb 86).all (fun l => l.all (am_chk 86)) = true := by decide +kernel
theorem am_c87 : (am_tb 87).all (fun l => l.all (am_chk 87)) = true := by decide +kernel
theorem am_c88 : (am_tb 88).all (fun l => l.all (am_chk 88)) = true := by decide +kernel
theorem am_c89 : (am_tb 89).all (fun l => l.all (am_chk 89)) = true := by decide +kernel
theorem am_c90 : (am_tb 90).all (fun l => l.all (am_chk 90)) = true := by decide +kernel
theorem am_c91 : (am_tb 91).all (fun l => l.all (am_chk 91)) = true := by decide +kernel
theorem am_c92 : (am_tb 92).all (fun l => l.all (am_chk 92)) = true := by decide +kernel
theorem am_c93 : (am_tb 93).all (fun l => l.all (am_chk 93)) = true := by decide +kernel
theorem am_c94 : (am_tb 94).all (fun l => l.all (am_chk 94)) = true := by decide +kernel
theorem am_c95 : (am_tb 95).all (fun l => l.all (am_chk 95)) = true := by decide +kernel
theorem am_c96 : (am_tb 96).all (fun l => l.all (am_chk 96)) = true := by decide +kernel
theorem am_c97 : (am_tb 97).all (fun l => l.all (am_chk 97)) = true := by decide +kernel
theorem am_c98 : (am_tb 98).all (fun l => l.all (am_chk 98)) = true := by decide +kernel
theorem am_c99 : (am_tb 99).all (fun l => l.all (am_chk 99)) = true := by decide +kernel
theorem am_c100 : (am_tb 100).all (fun l => l.all (am_chk 100)) = true := by decide +kernel
theorem am_c101 : (am_tb 101).all (fun l => l.all (am_chk 101)) = true := by decide +kernel
theorem am_c102 : (am_tb 102).all (fun l => l.all (am_chk 102)) = true := by decide +kernel
theorem am_c103 : (am_tb 103).all (fun l => l.all (am_chk 103)) = true := by decide +kernel
theorem am_c104 : (am_tb 104).all (fun l => l.all (am_chk 104)) = true := by decide +kernel
theorem am_c105 : (am_tb 105).all (fun l => l.all (am_chk 105)) = true := by decide +kernel
theorem am_c106 : (am_tb 106).all (fun l => l.all (am_chk 106)) = true := by decide +kernel
theorem am_c107 : (am_tb 107).all (fun l => l.all (am_chk 107)) = true := by decide +kernel
theorem am_c108 : (am_tb 108).all (fun l => l.all (am_chk 108)) = true := by decide +kernel
theorem am_cL0 : ((am_tb 109).getD 0 []).all (am_chk 109) = true := by decide +kernel
theorem am_cL1 : ((am_tb 109).getD 1 []).all (am_chk 109) = true := by decide +kernel
theorem am_cL2 : ((am_tb 109).getD 2 []).all (am_chk 109) = true := by decide +kernel
theorem am_cL3 : ((am_tb 109).getD 3 []).all (am_chk 109) = true := by decide +kernel
theorem am_cL4 : ((am_tb 109).getD 4 []).all (am_chk 109) = true := by decide +kernel
theorem am_cL5 : ((am_tb 109).getD 5 []).all (am_chk 109) = true := by decide +kernel
theorem am_cL6 : ((am_tb 109).getD 6 []).all (am_chk 109) = true := by decide +kernel
theorem am_cL7 : ((am_tb 109).getD 7 []).all (am_chk 109) = true := by decide +kernel
theorem am_cL8 : ((am_tb 109).getD 8 []).all (am_chk 109) = true := by decide +kernel
theorem am_c109 : (am_tb 109).all (fun l => l.all (am_chk 109)) = true := List.all_eq_true.mpr (fun l hl => by
  obtain ⟨k, hk⟩ := List.getElem?_of_mem hl
  have hlen : k < 9 := (List.getElem?_eq_some_iff.mp hk).1
  have e : l = (am_tb 109).getD k [] := by simp [List.getD, hk]
  rw [e]
  match k, hlen with
  | 0, _ => exact am_cL0
  | 1, _ => exact am_cL1
  | 2, _ => exact am_cL2
  | 3, _ => exact am_cL3
  | 4, _ => exact am_cL4
  | 5, _ => exact am_cL5
  | 6, _ => exact am_cL6
  | 7, _ => exact am_cL7
  | 8, _ => exact am_cL8
  | k + 9, h => omega)
theorem am_call_ok : ∀ i, (am_tb i).all (fun l => l.all (am_chk i)) = true
  | 0 => am_c0
  | 1 => am_c1
  | 2 => am_c2
  | 3 => am_c3
  | 4 => am_c4
  | 5 => am_c5
  | 6 => am_c6
  | 7 => am_c7
  | 8 => am_c8
  | 9 => am_c9
  | 10 => am_c10
  | 11 => am_c11
  | 12 => am_c12
  | 13 => am_c13
  | 14 => am_c14
  | 15 => am_c15
  | 16 => am_c16
  | 17 => am_c17
  | 18 => am_c18
  | 19 => am_c19
  | 20 => am_c20
  | 21 => am_c21
  | 22 => am_c22
  | 23 => am_c23
  | 24 => am_c24
  | 25 => am_c25
  | 26 => am_c26
  | 27 => am_c27
  | 28 => am_c28
  | 29 => am_c29
  | 30 => am_c30
  | 31 => am_c31
  | 32 => am_c32
  | 33 => am_c33
  | 34 => am_c34
  | 35 => am_c35
  | 36 => am_c36
  | 37 => am_c37
  | 38 => am_c38
  | 39 => am_c39
  | 40 => am_c40
  | 41 => am_c41
  | 42 => am_c42
  | 43 => am_c43
  | 44 => am_c44
  | 45 => am_c45
  | 46 => am_c46
  | 47 => am_c47
  | 48 => am_c48
  | 49 => am_c49
  | 50 => am_c50
  | 51 => am_c51
  | 52 => am_c52
  | 53 => am_c53
  | 54 => am_c54
  | 55 => am_c55
  | 56 => am_c56
  | 57 => am_c57
  | 58 => am_c58
  | 59 => am_c59
  | 60 => am_c60
  | 61 => am_c61
  | 62 => am_c62
  | 63 => am_c63
  | 64 => am_c64
  | 65 => am_c65
  | 66 => am_c66
  | 67 => am_c67
  | 68 => am_c68
  | 69 => am_c69
  | 70 => am_c70
  | 71 => am_c71
  | 72 => am_c72
  | 73 => am_c73
  | 74 => am_c74
  | 75 => am_c75
  | 76 => am_c76
  | 77 => am_c77
  | 78 => am_c78
  | 79 => am_c79
  | 80 => am_c80
  | 81 => am_c81
  | 82 => am_c82
  | 83 => am_c83
  | 84 => am_c84
  | 85 => am_c85
  | 86 => am_c86
  | 87 => am_c87
  | 88 => am_c88
  | 89 => am_c89
  | 90 => am_c90
  | 91 => am_c91
  | 92 => am_c92
  | 93 => am_c93
  | 94 => am_c94
  | 95 => am_c95
  | 96 => am_c96
  | 97 => am_c97
  | 98 => am_c98
  | 99 => am_c99
  | 100 => am_c100
  | 101 => am_c101
  | 102 => am_c102
  | 103 => am_c103
  | 104 => am_c104
  | 105 => am_c105
  | 106 => am_c106
  | 107 => am_c107
  | 108 => am_c108
  | 109 => am_c109
  | _ + 110 => rfl
