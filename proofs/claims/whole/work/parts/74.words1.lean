/-! the law's words: each is of the tables -/
def GW (w : Cond) : Prop := w ∈ lw_tbl ∧ ((w.onTables && w.keeps) = true ∨ ∃ ty, w = .arrayClass ty)
theorem lwt_0 {w : Cond} (h : w ∈ k2_sels lw_privs) : w ∈ lw_tbl := List.mem_append_left _ h
theorem lwt_1 {w : Cond} (h : w ∈ tables_1_1) : w ∈ lw_tbl := List.mem_append_right _ (List.mem_append_left _ h)
theorem lwt_2 {w : Cond} (h : w ∈ tables_1_2) : w ∈ lw_tbl := List.mem_append_right _ (List.mem_append_right _ (List.mem_append_left _ h))
theorem lwt_3 {w : Cond} (h : w ∈ tables_1_3) : w ∈ lw_tbl := List.mem_append_right _ (List.mem_append_right _ (List.mem_append_right _ (List.mem_append_left _ h)))
theorem lwt_4 {w : Cond} (h : w ∈ tables_1_4) : w ∈ lw_tbl := List.mem_append_right _ (List.mem_append_right _ (List.mem_append_right _ (List.mem_append_right _ h)))
theorem gi_n : GoodIn lw_tbl [] := fun _ h => absurd h List.not_mem_nil
theorem gi_c {w : Cond} {ws : List Cond} (h : GW w) (h2 : GoodIn lw_tbl ws) : GoodIn lw_tbl (w :: ws) := fun v hv => by
  rcases List.mem_cons.mp hv with rfl | hv
  · exact h
  · exact h2 v hv
theorem gf_X0 : GoodIn lw_tbl wsX00 := fun w hw => by
  obtain ⟨k, hk, rfl⟩ := List.mem_map.mp hw
  rw [List.mem_range] at hk
  rcases (show k = 0 ∨ k = 1 ∨ k = 2 by omega) with rfl | rfl | rfl
  · exact ⟨lwt_1 (List.mem_of_getElem? (i := 139) (by decide +kernel)), Or.inl rfl⟩
  · exact ⟨lwt_1 (List.mem_of_getElem? (i := 141) (by decide +kernel)), Or.inl rfl⟩
  · exact ⟨lwt_1 (List.mem_of_getElem? (i := 143) (by decide +kernel)), Or.inl rfl⟩
theorem gf_X1 : GoodIn lw_tbl wsX10 := fun w hw => by
  obtain ⟨k, hk, rfl⟩ := List.mem_map.mp hw
  rw [List.mem_range] at hk
  rcases (show k = 0 ∨ k = 1 ∨ k = 2 ∨ k = 3 by omega) with rfl | rfl | rfl | rfl
  · exact ⟨lwt_1 (List.mem_of_getElem? (i := 157) (by decide +kernel)), Or.inl rfl⟩
  · exact ⟨lwt_1 (List.mem_of_getElem? (i := 159) (by decide +kernel)), Or.inl rfl⟩
  · exact ⟨lwt_1 (List.mem_of_getElem? (i := 161) (by decide +kernel)), Or.inl rfl⟩
  · exact ⟨lwt_1 (List.mem_of_getElem? (i := 163) (by decide +kernel)), Or.inl rfl⟩
theorem gf_X2 : GoodIn lw_tbl wsX20 := fun w hw => by
  obtain ⟨k, hk, rfl⟩ := List.mem_map.mp hw
  rw [List.mem_range] at hk
  rcases (show k = 0 ∨ k = 1 ∨ k = 2 ∨ k = 3 ∨ k = 4 ∨ k = 5 ∨ k = 6 ∨ k = 7 ∨ k = 8 by omega) with rfl | rfl | rfl | rfl | rfl | rfl | rfl | rfl | rfl
  · exact ⟨lwt_1 (List.mem_of_getElem? (i := 52) (by decide +kernel)), Or.inl rfl⟩
  · exact ⟨lwt_1 (List.mem_of_getElem? (i := 54) (by decide +kernel)), Or.inl rfl⟩
  · exact ⟨lwt_1 (List.mem_of_getElem? (i := 56) (by decide +kernel)), Or.inl rfl⟩
  · exact ⟨lwt_1 (List.mem_of_getElem? (i := 58) (by decide +kernel)), Or.inl rfl⟩
  · exact ⟨lwt_1 (List.mem_of_getElem? (i := 60) (by decide +kernel)), Or.inl rfl⟩
  · exact ⟨lwt_1 (List.mem_of_getElem? (i := 62) (by decide +kernel)), Or.inl rfl⟩
  · exact ⟨lwt_1 (List.mem_of_getElem? (i := 64) (by decide +kernel)), Or.inl rfl⟩
  · exact ⟨lwt_1 (List.mem_of_getElem? (i := 66) (by decide +kernel)), Or.inl rfl⟩
  · exact ⟨lwt_1 (List.mem_of_getElem? (i := 68) (by decide +kernel)), Or.inl rfl⟩
theorem gf_X3 : GoodIn lw_tbl wsX30 := fun w hw => by
  obtain ⟨k, hk, rfl⟩ := List.mem_map.mp hw
  rw [List.mem_range] at hk
  rcases (show k = 0 ∨ k = 1 ∨ k = 2 ∨ k = 3 ∨ k = 4 by omega) with rfl | rfl | rfl | rfl | rfl
  · exact ⟨lwt_1 (List.mem_of_getElem? (i := 87) (by decide +kernel)), Or.inl rfl⟩
  · exact ⟨lwt_1 (List.mem_of_getElem? (i := 89) (by decide +kernel)), Or.inl rfl⟩
  · exact ⟨lwt_1 (List.mem_of_getElem? (i := 91) (by decide +kernel)), Or.inl rfl⟩
  · exact ⟨lwt_1 (List.mem_of_getElem? (i := 93) (by decide +kernel)), Or.inl rfl⟩
  · exact ⟨lwt_1 (List.mem_of_getElem? (i := 95) (by decide +kernel)), Or.inl rfl⟩
theorem gf_X4 : GoodIn lw_tbl wsX40 := fun w hw => by
  obtain ⟨k, hk, rfl⟩ := List.mem_map.mp hw
  rw [List.mem_range] at hk
  rcases (show k = 0 ∨ k = 1 ∨ k = 2 ∨ k = 3 ∨ k = 4 ∨ k = 5 by omega) with rfl | rfl | rfl | rfl | rfl | rfl
  · exact ⟨lwt_1 (List.mem_of_getElem? (i := 114) (by decide +kernel)), Or.inl rfl⟩
  · exact ⟨lwt_1 (List.mem_of_getElem? (i := 116) (by decide +kernel)), Or.inl rfl⟩
  · exact ⟨lwt_1 (List.mem_of_getElem? (i := 118) (by decide +kernel)), Or.inl rfl⟩
  · exact ⟨lwt_1 (List.mem_of_getElem? (i := 120) (by decide +kernel)), Or.inl rfl⟩
  · exact ⟨lwt_1 (List.mem_of_getElem? (i := 122) (by decide +kernel)), Or.inl rfl⟩
  · exact ⟨lwt_1 (List.mem_of_getElem? (i := 124) (by decide +kernel)), Or.inl rfl⟩
theorem gf_X5 : GoodIn lw_tbl wsX50 := fun w hw => by
  obtain ⟨k, hk, rfl⟩ := List.mem_map.mp hw
  rw [List.mem_range] at hk
  rcases (show k = 0 ∨ k = 1 ∨ k = 2 ∨ k = 3 ∨ k = 4 ∨ k = 5 ∨ k = 6 ∨ k = 7 ∨ k = 8 ∨ k = 9 ∨ k = 10 ∨ k = 11 ∨ k = 12 ∨ k = 13 ∨ k = 14 by omega) with rfl | rfl | rfl | rfl | rfl | rfl | rfl | rfl | rfl | rfl | rfl | rfl | rfl | rfl | rfl
  · exact ⟨lwt_1 (List.mem_of_getElem? (i := 181) (by decide +kernel)), Or.inl rfl⟩
  · exact ⟨lwt_1 (List.mem_of_getElem? (i := 183) (by decide +kernel)), Or.inl rfl⟩
  · exact ⟨lwt_1 (List.mem_of_getElem? (i := 185) (by decide +kernel)), Or.inl rfl⟩
  · exact ⟨lwt_1 (List.mem_of_getElem? (i := 187) (by decide +kernel)), Or.inl rfl⟩
  · exact ⟨lwt_1 (List.mem_of_getElem? (i := 189) (by decide +kernel)), Or.inl rfl⟩
  · exact ⟨lwt_1 (List.mem_of_getElem? (i := 191) (by decide +kernel)), Or.inl rfl⟩
  · exact ⟨lwt_1 (List.mem_of_getElem? (i := 193) (by decide +kernel)), Or.inl rfl⟩
  · exact ⟨lwt_1 (List.mem_of_getElem? (i := 195) (by decide +kernel)), Or.inl rfl⟩
  · exact ⟨lwt_1 (List.mem_of_getElem? (i := 197) (by decide +kernel)), Or.inl rfl⟩
  · exact ⟨lwt_1 (List.mem_of_getElem? (i := 199) (by decide +kernel)), Or.inl rfl⟩
  · exact ⟨lwt_1 (List.mem_of_getElem? (i := 201) (by decide +kernel)), Or.inl rfl⟩
  · exact ⟨lwt_1 (List.mem_of_getElem? (i := 203) (by decide +kernel)), Or.inl rfl⟩
  · exact ⟨lwt_1 (List.mem_of_getElem? (i := 205) (by decide +kernel)), Or.inl rfl⟩
  · exact ⟨lwt_1 (List.mem_of_getElem? (i := 207) (by decide +kernel)), Or.inl rfl⟩
  · exact ⟨lwt_1 (List.mem_of_getElem? (i := 209) (by decide +kernel)), Or.inl rfl⟩
theorem gf_X6 : GoodIn lw_tbl wsX60 := fun w hw => by
  obtain ⟨k, hk, rfl⟩ := List.mem_map.mp hw
  rw [List.mem_range] at hk
  rcases (show k = 0 ∨ k = 1 ∨ k = 2 ∨ k = 3 ∨ k = 4 ∨ k = 5 ∨ k = 6 ∨ k = 7 ∨ k = 8 ∨ k = 9 ∨ k = 10 ∨ k = 11 ∨ k = 12 ∨ k = 13 ∨ k = 14 ∨ k = 15 ∨ k = 16 ∨ k = 17 ∨ k = 18 ∨ k = 19 ∨ k = 20 ∨ k = 21 ∨ k = 22 ∨ k = 23 ∨ k = 24 ∨ k = 25 ∨ k = 26 ∨ k = 27 by omega) with rfl | rfl | rfl | rfl | rfl | rfl | rfl | rfl | rfl | rfl | rfl | rfl | rfl | rfl | rfl | rfl | rfl | rfl | rfl | rfl | rfl | rfl | rfl | rfl | rfl | rfl | rfl | rfl
  · exact ⟨lwt_3 (List.mem_of_getElem? (i := 138) (by decide +kernel)), Or.inl rfl⟩
  · exact ⟨lwt_3 (List.mem_of_getElem? (i := 140) (by decide +kernel)), Or.inl rfl⟩
  · exact ⟨lwt_3 (List.mem_of_getElem? (i := 142) (by decide +kernel)), Or.inl rfl⟩
  · exact ⟨lwt_3 (List.mem_of_getElem? (i := 144) (by decide +kernel)), Or.inl rfl⟩
  · exact ⟨lwt_3 (List.mem_of_getElem? (i := 146) (by decide +kernel)), Or.inl rfl⟩
  · exact ⟨lwt_3 (List.mem_of_getElem? (i := 148) (by decide +kernel)), Or.inl rfl⟩
  · exact ⟨lwt_3 (List.mem_of_getElem? (i := 150) (by decide +kernel)), Or.inl rfl⟩
  · exact ⟨lwt_3 (List.mem_of_getElem? (i := 152) (by decide +kernel)), Or.inl rfl⟩
  · exact ⟨lwt_3 (List.mem_of_getElem? (i := 154) (by decide +kernel)), Or.inl rfl⟩
  · exact ⟨lwt_3 (List.mem_of_getElem? (i := 156) (by decide +kernel)), Or.inl rfl⟩
  · exact ⟨lwt_3 (List.mem_of_getElem? (i := 158) (by decide +kernel)), Or.inl rfl⟩
  · exact ⟨lwt_3 (List.mem_of_getElem? (i := 160) (by decide +kernel)), Or.inl rfl⟩
  · exact ⟨lwt_3 (List.mem_of_getElem? (i := 162) (by decide +kernel)), Or.inl rfl⟩
  · exact ⟨lwt_3 (List.mem_of_getElem? (i := 164) (by decide +kernel)), Or.inl rfl⟩
  · exact ⟨lwt_3 (List.mem_of_getElem? (i := 166) (by decide +kernel)), Or.inl rfl⟩
  · exact ⟨lwt_3 (List.mem_of_getElem? (i := 168) (by decide +kernel)), Or.inl rfl⟩
  · exact ⟨lwt_3 (List.mem_of_getElem? (i := 170) (by decide +kernel)), Or.inl rfl⟩
  · exact ⟨lwt_3 (List.mem_of_getElem? (i := 172) (by decide +kernel)), Or.inl rfl⟩
  · exact ⟨lwt_3 (List.mem_of_getElem? (i := 174) (by decide +kernel)), Or.inl rfl⟩
  · exact ⟨lwt_3 (List.mem_of_getElem? (i := 176) (by decide +kernel)), Or.inl rfl⟩
  · exact ⟨lwt_3 (List.mem_of_getElem? (i := 178) (by decide +kernel)), Or.inl rfl⟩
  · exact ⟨lwt_3 (List.mem_of_getElem? (i := 180) (by decide +kernel)), Or.inl rfl⟩
  · exact ⟨lwt_3 (List.mem_of_getElem? (i := 182) (by decide +kernel)), Or.inl rfl⟩
  · exact ⟨lwt_3 (List.mem_of_getElem? (i := 184) (by decide +kernel)), Or.inl rfl⟩
  · exact ⟨lwt_3 (List.mem_of_getElem? (i := 186) (by decide +kernel)), Or.inl rfl⟩
  · exact ⟨lwt_3 (List.mem_of_getElem? (i := 188) (by decide +kernel)), Or.inl rfl⟩
  · exact ⟨lwt_3 (List.mem_of_getElem? (i := 190) (by decide +kernel)), Or.inl rfl⟩
  · exact ⟨lwt_3 (List.mem_of_getElem? (i := 192) (by decide +kernel)), Or.inl rfl⟩
theorem gw_0 : GW (Cond.code yX5_init cX5_init 2 none) := ⟨lwt_1 (List.mem_of_getElem? (i := 15) rfl), Or.inl rfl⟩
theorem gw_1 : GW (Cond.fieldLink RX5 52 "DripEars" "now" "LDripEars$Scene;") := ⟨lwt_1 (List.mem_of_getElem? (i := 170) (by decide +kernel)), Or.inl rfl⟩
theorem gw_2 : GW (Cond.initialized RX4) := ⟨lwt_1 (List.mem_of_getElem? (i := 4) (by decide +kernel)), Or.inl rfl⟩
theorem gw_3 : GW (Cond.instantiable RX4 6) := ⟨lwt_1 (List.mem_of_getElem? (i := 98) (by decide +kernel)), Or.inl rfl⟩
theorem gw_4 : GW (Cond.fieldLink RX5 45 "DripEars" "reader" "LDripEars$Reader;") := ⟨lwt_1 (List.mem_of_getElem? (i := 169) (by decide +kernel)), Or.inl rfl⟩
theorem gw_5 : GW (Cond.initialized RX3) := ⟨lwt_1 (List.mem_of_getElem? (i := 3) (by decide +kernel)), Or.inl rfl⟩
theorem gw_6 : GW (Cond.instantiable RX3 5) := ⟨lwt_1 (List.mem_of_getElem? (i := 74) (by decide +kernel)), Or.inl rfl⟩
theorem gw_7 : GW (Cond.classLink RX5 42 RX3) := ⟨lwt_1 (List.mem_of_getElem? (i := 73) (by decide +kernel)), Or.inl rfl⟩
theorem gw_8 : GW (Cond.fieldLink RX5 38 "DripEars" "told" "LDripEars$Lane;") := ⟨lwt_1 (List.mem_of_getElem? (i := 168) (by decide +kernel)), Or.inl rfl⟩
theorem gw_9 : GW (Cond.initialized RX2) := ⟨lwt_1 (List.mem_of_getElem? (i := 2) (by decide +kernel)), Or.inl rfl⟩
theorem gw_10 : GW (Cond.instantiable RX2 9) := ⟨lwt_1 (List.mem_of_getElem? (i := 22) (by decide +kernel)), Or.inl rfl⟩
theorem gw_11 : GW (Cond.classLink RX5 35 RX2) := ⟨lwt_1 (List.mem_of_getElem? (i := 21) (by decide +kernel)), Or.inl rfl⟩
theorem gw_12 : GW (Cond.fieldLink RX5 32 "DripEars" "otherHas" "[I") := ⟨lwt_1 (List.mem_of_getElem? (i := 180) (by decide +kernel)), Or.inl rfl⟩
theorem gw_13 : GW (Cond.fieldLink RX5 29 "DripEars" "oneHas" "[I") := ⟨lwt_1 (List.mem_of_getElem? (i := 179) (by decide +kernel)), Or.inl rfl⟩
theorem gw_14 : GW (Cond.fieldLink RX5 26 "DripEars" "lowerings" "[I") := ⟨lwt_1 (List.mem_of_getElem? (i := 178) (by decide +kernel)), Or.inl rfl⟩
theorem gw_15 : GW (Cond.fieldLink RX5 23 "DripEars" "doings" "[I") := ⟨lwt_1 (List.mem_of_getElem? (i := 177) (by decide +kernel)), Or.inl rfl⟩
theorem gw_16 : GW (Cond.fieldLink RX5 19 "DripEars" "isKept" "[Z") := ⟨lwt_1 (List.mem_of_getElem? (i := 175) (by decide +kernel)), Or.inl rfl⟩
theorem gw_17 : GW (Cond.arrayClass .boolean) := ⟨lwt_1 (List.mem_of_getElem? (i := 72) (by decide +kernel)), Or.inr ⟨_, rfl⟩⟩
theorem gw_18 : GW (Cond.fieldLink RX5 15 "DripEars" "kept" "[LDripEars$Scene;") := ⟨lwt_1 (List.mem_of_getElem? (i := 174) (by decide +kernel)), Or.inl rfl⟩
theorem gw_19 : GW (Cond.classLink RX5 13 RX4) := ⟨lwt_1 (List.mem_of_getElem? (i := 19) (by decide +kernel)), Or.inl rfl⟩
theorem gw_20 : GW (Cond.fieldLink RX5 9 "DripEars" "text" "[I") := ⟨lwt_1 (List.mem_of_getElem? (i := 166) (by decide +kernel)), Or.inl rfl⟩
theorem gw_21 : GW (Cond.arrayClass .int) := ⟨lwt_1 (List.mem_of_getElem? (i := 71) (by decide +kernel)), Or.inr ⟨_, rfl⟩⟩
theorem gw_22 : GW (Cond.code objectInit ⟨#[0xb1]⟩ 1 none) := ⟨lwt_1 (List.mem_of_getElem? (i := 18) rfl), Or.inl rfl⟩
theorem gw_23 : GW (Cond.instanceMethod objectInit) := ⟨lwt_1 (List.mem_of_getElem? (i := 17) (by decide +kernel)), Or.inl rfl⟩
theorem gw_24 : GW (Cond.methodLink RX5 1 objectInit) := ⟨lwt_1 (List.mem_of_getElem? (i := 16) (by decide +kernel)), Or.inl rfl⟩
theorem gw_25 : GW (Cond.fieldLink RX3 18 "DripEars$Reader" "figures" "[I") := ⟨lwt_1 (List.mem_of_getElem? (i := 83) (by decide +kernel)), Or.inl rfl⟩
theorem gw_26 : GW (Cond.fieldLink RX3 12 "DripEars$Reader" "draft" "LDripEars$Lane;") := ⟨lwt_1 (List.mem_of_getElem? (i := 81) (by decide +kernel)), Or.inl rfl⟩
theorem gw_27 : GW (Cond.classLink RX3 9 RX2) := ⟨lwt_1 (List.mem_of_getElem? (i := 79) (by decide +kernel)), Or.inl rfl⟩
theorem gw_28 : GW (Cond.methodLink RX3 3 objectInit) := ⟨lwt_1 (List.mem_of_getElem? (i := 78) (by decide +kernel)), Or.inl rfl⟩
theorem gw_29 : GW (Cond.code yX3_init cX3_init 1 none) := ⟨lwt_1 (List.mem_of_getElem? (i := 77) rfl), Or.inl rfl⟩
theorem gw_30 : GW (Cond.instanceMethod yX3_init) := ⟨lwt_1 (List.mem_of_getElem? (i := 76) (by decide +kernel)), Or.inl rfl⟩
theorem gw_31 : GW (Cond.fieldLink RX2 27 "DripEars$Lane" "rain" "[I") := ⟨lwt_1 (List.mem_of_getElem? (i := 51) (by decide +kernel)), Or.inl rfl⟩
theorem gw_32 : GW (Cond.fieldLink RX2 24 "DripEars$Lane" "loud" "[I") := ⟨lwt_1 (List.mem_of_getElem? (i := 48) (by decide +kernel)), Or.inl rfl⟩
theorem gw_33 : GW (Cond.fieldLink RX2 21 "DripEars$Lane" "thing" "[I") := ⟨lwt_1 (List.mem_of_getElem? (i := 45) (by decide +kernel)), Or.inl rfl⟩
theorem gw_34 : GW (Cond.fieldLink RX2 18 "DripEars$Lane" "place" "[I") := ⟨lwt_1 (List.mem_of_getElem? (i := 42) (by decide +kernel)), Or.inl rfl⟩
theorem gw_35 : GW (Cond.fieldLink RX2 15 "DripEars$Lane" "kind" "[I") := ⟨lwt_1 (List.mem_of_getElem? (i := 40) (by decide +kernel)), Or.inl rfl⟩
theorem gw_36 : GW (Cond.fieldLink RX2 9 "DripEars$Lane" "wall" "[I") := ⟨lwt_1 (List.mem_of_getElem? (i := 37) (by decide +kernel)), Or.inl rfl⟩
theorem gw_37 : GW (Cond.methodLink RX2 3 objectInit) := ⟨lwt_1 (List.mem_of_getElem? (i := 26) (by decide +kernel)), Or.inl rfl⟩
theorem gw_38 : GW (Cond.code yX2_init cX2_init 1 none) := ⟨lwt_1 (List.mem_of_getElem? (i := 25) rfl), Or.inl rfl⟩
theorem gw_39 : GW (Cond.instanceMethod yX2_init) := ⟨lwt_1 (List.mem_of_getElem? (i := 24) (by decide +kernel)), Or.inl rfl⟩
theorem gw_40 : GW (Cond.fieldLink RX5 69 "DripEars" "heardSayings" "LDripEars$Heard;") := ⟨lwt_1 (List.mem_of_getElem? (i := 173) (by decide +kernel)), Or.inl rfl⟩
theorem gw_41 : GW (Cond.initialized RX1) := ⟨lwt_1 (List.mem_of_getElem? (i := 6) (by decide +kernel)), Or.inl rfl⟩
theorem gw_42 : GW (Cond.instantiable RX1 4) := ⟨lwt_1 (List.mem_of_getElem? (i := 147) (by decide +kernel)), Or.inl rfl⟩
theorem gw_43 : GW (Cond.classLink RX5 66 RX1) := ⟨lwt_1 (List.mem_of_getElem? (i := 146) (by decide +kernel)), Or.inl rfl⟩
theorem gw_44 : GW (Cond.fieldLink RX5 62 "DripEars" "acts" "LDripEars$Acts;") := ⟨lwt_1 (List.mem_of_getElem? (i := 172) (by decide +kernel)), Or.inl rfl⟩
theorem gw_45 : GW (Cond.initialized RX0) := ⟨lwt_1 (List.mem_of_getElem? (i := 5) (by decide +kernel)), Or.inl rfl⟩
theorem gw_46 : GW (Cond.instantiable RX0 3) := ⟨lwt_1 (List.mem_of_getElem? (i := 128) (by decide +kernel)), Or.inl rfl⟩
theorem gw_47 : GW (Cond.classLink RX5 59 RX0) := ⟨lwt_1 (List.mem_of_getElem? (i := 127) (by decide +kernel)), Or.inl rfl⟩
theorem gw_48 : GW (Cond.fieldLink RX5 56 "DripEars" "trial" "LDripEars$Scene;") := ⟨lwt_1 (List.mem_of_getElem? (i := 171) (by decide +kernel)), Or.inl rfl⟩
theorem gw_49 : GW (Cond.fieldLink RX1 18 "DripEars$Heard" "was" "[Z") := ⟨lwt_1 (List.mem_of_getElem? (i := 154) (by decide +kernel)), Or.inl rfl⟩
theorem gw_50 : GW (Cond.fieldLink RX1 15 "DripEars$Heard" "rain" "[I") := ⟨lwt_1 (List.mem_of_getElem? (i := 153) (by decide +kernel)), Or.inl rfl⟩
theorem gw_51 : GW (Cond.fieldLink RX1 9 "DripEars$Heard" "loud" "[I") := ⟨lwt_1 (List.mem_of_getElem? (i := 152) (by decide +kernel)), Or.inl rfl⟩
theorem gw_52 : GW (Cond.methodLink RX1 3 objectInit) := ⟨lwt_1 (List.mem_of_getElem? (i := 151) (by decide +kernel)), Or.inl rfl⟩
theorem gw_53 : GW (Cond.code yX1_init cX1_init 1 none) := ⟨lwt_1 (List.mem_of_getElem? (i := 150) rfl), Or.inl rfl⟩
theorem gw_54 : GW (Cond.instanceMethod yX1_init) := ⟨lwt_1 (List.mem_of_getElem? (i := 149) (by decide +kernel)), Or.inl rfl⟩
theorem gw_55 : GW (Cond.methodLink RX0 17 yX4_init) := ⟨lwt_1 (List.mem_of_getElem? (i := 134) (by decide +kernel)), Or.inl rfl⟩
theorem gw_56 : GW (Cond.fieldLink RX0 11 "DripEars$Acts" "ahead" "[LDripEars$Scene;") := ⟨lwt_1 (List.mem_of_getElem? (i := 135) (by decide +kernel)), Or.inl rfl⟩
theorem gw_57 : GW (Cond.classLink RX0 9 RX4) := ⟨lwt_1 (List.mem_of_getElem? (i := 133) (by decide +kernel)), Or.inl rfl⟩
theorem gw_58 : GW (Cond.methodLink RX0 3 objectInit) := ⟨lwt_1 (List.mem_of_getElem? (i := 132) (by decide +kernel)), Or.inl rfl⟩
theorem gw_59 : GW (Cond.code yX0_init cX0_init 3 none) := ⟨lwt_1 (List.mem_of_getElem? (i := 131) rfl), Or.inl rfl⟩
theorem gw_60 : GW (Cond.instanceMethod yX0_init) := ⟨lwt_1 (List.mem_of_getElem? (i := 130) (by decide +kernel)), Or.inl rfl⟩
theorem gw_61 : GW (Cond.methodLink RX5 61 yX0_init) := ⟨lwt_1 (List.mem_of_getElem? (i := 129) (by decide +kernel)), Or.inl rfl⟩
theorem gw_62 : GW (Cond.fieldLink RX4 21 "DripEars$Scene" "lane" "LDripEars$Lane;") := ⟨lwt_1 (List.mem_of_getElem? (i := 103) (by decide +kernel)), Or.inl rfl⟩
theorem gw_63 : GW (Cond.fieldLink RX4 18 "DripEars$Scene" "voice" "[I") := ⟨lwt_1 (List.mem_of_getElem? (i := 108) (by decide +kernel)), Or.inl rfl⟩
theorem gw_64 : GW (Cond.fieldLink RX4 15 "DripEars$Scene" "knows" "[I") := ⟨lwt_1 (List.mem_of_getElem? (i := 106) (by decide +kernel)), Or.inl rfl⟩
theorem gw_65 : GW (Cond.fieldLink RX4 9 "DripEars$Scene" "hearer" "[I") := ⟨lwt_1 (List.mem_of_getElem? (i := 104) (by decide +kernel)), Or.inl rfl⟩
theorem gw_66 : GW (Cond.methodLink RX4 3 objectInit) := ⟨lwt_1 (List.mem_of_getElem? (i := 102) (by decide +kernel)), Or.inl rfl⟩
theorem gw_67 : GW (Cond.code yX4_init cX4_init 2 none) := ⟨lwt_1 (List.mem_of_getElem? (i := 101) rfl), Or.inl rfl⟩
theorem gw_68 : GW (Cond.instanceMethod yX4_init) := ⟨lwt_1 (List.mem_of_getElem? (i := 100) (by decide +kernel)), Or.inl rfl⟩
theorem gw_69 : GW (Cond.methodLink RX5 49 yX4_init) := ⟨lwt_1 (List.mem_of_getElem? (i := 99) (by decide +kernel)), Or.inl rfl⟩
theorem gw_70 : GW (Cond.code yX6_init cX6_init 1 none) := ⟨lwt_3 (List.mem_of_getElem? (i := 108) rfl), Or.inl rfl⟩
theorem gw_71 : GW (Cond.fieldLink RX6 53 "DripEarsModel" "kept" "[I") := ⟨lwt_3 (List.mem_of_getElem? (i := 137) (by decide +kernel)), Or.inl rfl⟩
theorem gw_72 : GW (Cond.fieldLink RX6 49 "DripEarsModel" "isKept" "[Z") := ⟨lwt_3 (List.mem_of_getElem? (i := 136) (by decide +kernel)), Or.inl rfl⟩
theorem gw_73 : GW (Cond.fieldLink RX6 46 "DripEarsModel" "heardIs" "[I") := ⟨lwt_3 (List.mem_of_getElem? (i := 134) (by decide +kernel)), Or.inl rfl⟩
theorem gw_74 : GW (Cond.fieldLink RX6 43 "DripEarsModel" "heardRain" "[I") := ⟨lwt_3 (List.mem_of_getElem? (i := 133) (by decide +kernel)), Or.inl rfl⟩
theorem gw_75 : GW (Cond.fieldLink RX6 40 "DripEarsModel" "heardLoud" "[I") := ⟨lwt_3 (List.mem_of_getElem? (i := 132) (by decide +kernel)), Or.inl rfl⟩
theorem gw_76 : GW (Cond.fieldLink RX6 37 "DripEarsModel" "row" "[I") := ⟨lwt_3 (List.mem_of_getElem? (i := 130) (by decide +kernel)), Or.inl rfl⟩
theorem gw_77 : GW (Cond.fieldLink RX6 34 "DripEarsModel" "text" "[I") := ⟨lwt_3 (List.mem_of_getElem? (i := 124) (by decide +kernel)), Or.inl rfl⟩
theorem gw_78 : GW (Cond.fieldLink RX6 31 "DripEarsModel" "readRain" "[I") := ⟨lwt_3 (List.mem_of_getElem? (i := 120) (by decide +kernel)), Or.inl rfl⟩
theorem gw_79 : GW (Cond.fieldLink RX6 28 "DripEarsModel" "readSaying" "[I") := ⟨lwt_3 (List.mem_of_getElem? (i := 119) (by decide +kernel)), Or.inl rfl⟩
theorem gw_80 : GW (Cond.fieldLink RX6 25 "DripEarsModel" "readHouse" "[I") := ⟨lwt_3 (List.mem_of_getElem? (i := 118) (by decide +kernel)), Or.inl rfl⟩
theorem gw_81 : GW (Cond.fieldLink RX6 22 "DripEarsModel" "now" "[I") := ⟨lwt_3 (List.mem_of_getElem? (i := 117) (by decide +kernel)), Or.inl rfl⟩
theorem gw_82 : GW (Cond.fieldLink RX6 19 "DripEarsModel" "rain" "[I") := ⟨lwt_3 (List.mem_of_getElem? (i := 116) (by decide +kernel)), Or.inl rfl⟩
theorem gw_83 : GW (Cond.fieldLink RX6 16 "DripEarsModel" "saying" "[I") := ⟨lwt_3 (List.mem_of_getElem? (i := 115) (by decide +kernel)), Or.inl rfl⟩
theorem gw_84 : GW (Cond.fieldLink RX6 13 "DripEarsModel" "wall" "[I") := ⟨lwt_3 (List.mem_of_getElem? (i := 114) (by decide +kernel)), Or.inl rfl⟩
theorem gw_85 : GW (Cond.fieldLink RX6 7 "DripEarsModel" "kind" "[I") := ⟨lwt_3 (List.mem_of_getElem? (i := 113) (by decide +kernel)), Or.inl rfl⟩
theorem gw_86 : GW (Cond.methodLink RX6 1 objectInit) := ⟨lwt_3 (List.mem_of_getElem? (i := 109) (by decide +kernel)), Or.inl rfl⟩
theorem gw_87 : GW (Cond.code yX5_write cX5_write 2 (some .int)) := ⟨lwt_1 (List.mem_of_getElem? (i := 215) rfl), Or.inl rfl⟩
theorem gw_88 : GW (Cond.fieldLink RX5 73 "DripEars" "letters" "I") := ⟨lwt_1 (List.mem_of_getElem? (i := 167) (by decide +kernel)), Or.inl rfl⟩
theorem gw_89 : GW (Cond.methodLink RL 13 yX5_write) := ⟨lwt_1 (List.mem_of_getElem? (i := 212) (by decide +kernel)), Or.inl rfl⟩
theorem gw_90 : GW (Cond.instanceMethod yX5_write) := ⟨lwt_1 (List.mem_of_getElem? (i := 213) (by decide +kernel)), Or.inl rfl⟩
theorem gw_91 : GW (Cond.selects RX5 yX5_write yX5_write) := ⟨lwt_1 (List.mem_of_getElem? (i := 214) (by decide +kernel)), Or.inl rfl⟩
theorem gw_92 : GW (Cond.initialized RX5) := ⟨lwt_1 (List.mem_of_getElem? (i := 1) (by decide +kernel)), Or.inl rfl⟩
theorem gw_93 : GW (Cond.code yX6_write cX6_write 2 (some .int)) := ⟨lwt_3 (List.mem_of_getElem? (i := 198) rfl), Or.inl rfl⟩
theorem gw_94 : GW (Cond.code yX6_in cX6_in 6 (some .boolean)) := ⟨lwt_3 (List.mem_of_getElem? (i := 202) rfl), Or.inl rfl⟩
theorem gw_95 : GW (Cond.initialized RX6) := ⟨lwt_1 (List.mem_of_getElem? (i := 7) (by decide +kernel)), Or.inl rfl⟩
theorem gw_96 : GW (Cond.static yX6_in) := ⟨lwt_3 (List.mem_of_getElem? (i := 201) (by decide +kernel)), Or.inl rfl⟩
theorem gw_97 : GW (Cond.methodLink RX6 58 yX6_in) := ⟨lwt_3 (List.mem_of_getElem? (i := 200) (by decide +kernel)), Or.inl rfl⟩
theorem gw_98 : GW (Cond.fieldLink RX6 62 "DripEarsModel" "length" "I") := ⟨lwt_3 (List.mem_of_getElem? (i := 125) (by decide +kernel)), Or.inl rfl⟩
theorem gw_99 : GW (Cond.constantLong RX6 56 (255)) := ⟨lwt_3 (List.mem_of_getElem? (i := 199) (by decide +kernel)), Or.inl rfl⟩
theorem gw_100 : GW (Cond.methodLink RL 17 yX6_write) := ⟨lwt_3 (List.mem_of_getElem? (i := 195) (by decide +kernel)), Or.inl rfl⟩
theorem gw_101 : GW (Cond.instanceMethod yX6_write) := ⟨lwt_3 (List.mem_of_getElem? (i := 196) (by decide +kernel)), Or.inl rfl⟩
theorem gw_102 : GW (Cond.selects RX6 yX6_write yX6_write) := ⟨lwt_3 (List.mem_of_getElem? (i := 197) (by decide +kernel)), Or.inl rfl⟩
theorem gw_103 : GW (Cond.code yX5_wipe cX5_wipe 2 (some .int)) := ⟨lwt_1 (List.mem_of_getElem? (i := 219) rfl), Or.inl rfl⟩
theorem gw_104 : GW (Cond.methodLink RL 18 yX5_wipe) := ⟨lwt_1 (List.mem_of_getElem? (i := 216) (by decide +kernel)), Or.inl rfl⟩
theorem gw_105 : GW (Cond.instanceMethod yX5_wipe) := ⟨lwt_1 (List.mem_of_getElem? (i := 217) (by decide +kernel)), Or.inl rfl⟩
theorem gw_106 : GW (Cond.selects RX5 yX5_wipe yX5_wipe) := ⟨lwt_1 (List.mem_of_getElem? (i := 218) (by decide +kernel)), Or.inl rfl⟩
theorem gw_107 : GW (Cond.code yX6_wipe cX6_wipe 2 (some .int)) := ⟨lwt_3 (List.mem_of_getElem? (i := 206) rfl), Or.inl rfl⟩
theorem gw_108 : GW (Cond.methodLink RL 22 yX6_wipe) := ⟨lwt_3 (List.mem_of_getElem? (i := 203) (by decide +kernel)), Or.inl rfl⟩
theorem gw_109 : GW (Cond.instanceMethod yX6_wipe) := ⟨lwt_3 (List.mem_of_getElem? (i := 204) (by decide +kernel)), Or.inl rfl⟩
theorem gw_110 : GW (Cond.selects RX6 yX6_wipe yX6_wipe) := ⟨lwt_3 (List.mem_of_getElem? (i := 205) (by decide +kernel)), Or.inl rfl⟩
theorem gw_111 : GW (Cond.code yX5_fault cX5_fault 1 (some .int)) := ⟨lwt_1 (List.mem_of_getElem? (i := 223) rfl), Or.inl rfl⟩
theorem gw_112 : GW (Cond.fieldLink RX3 44 "DripEars$Reader" "figuresRead" "I") := ⟨lwt_1 (List.mem_of_getElem? (i := 86) (by decide +kernel)), Or.inl rfl⟩
theorem gw_113 : GW (Cond.code yX3_accepts cX3_accepts 3 (some .boolean)) := ⟨lwt_1 (List.mem_of_getElem? (i := 235) rfl), Or.inl rfl⟩
theorem gw_114 : GW (Cond.selects RX3 yX3_accepts yX3_accepts) := ⟨lwt_0 (List.mem_of_getElem? (i := 0) (by decide +kernel)), Or.inl rfl⟩
theorem gw_115 : GW (Cond.instanceMethod yX3_accepts) := ⟨lwt_1 (List.mem_of_getElem? (i := 234) (by decide +kernel)), Or.inl rfl⟩
theorem gw_116 : GW (Cond.methodLink RX3 33 yX3_accepts) := ⟨lwt_1 (List.mem_of_getElem? (i := 232) (by decide +kernel)), Or.inl rfl⟩
theorem gw_117 : GW (Cond.fieldLink RX2 37 "DripEars$Lane" "rains" "I") := ⟨lwt_1 (List.mem_of_getElem? (i := 34) (by decide +kernel)), Or.inl rfl⟩
theorem gw_118 : GW (Cond.fieldLink RX2 34 "DripEars$Lane" "sayings" "I") := ⟨lwt_1 (List.mem_of_getElem? (i := 31) (by decide +kernel)), Or.inl rfl⟩
theorem gw_119 : GW (Cond.fieldLink RX2 30 "DripEars$Lane" "houses" "I") := ⟨lwt_1 (List.mem_of_getElem? (i := 27) (by decide +kernel)), Or.inl rfl⟩
theorem gw_120 : GW (Cond.code yX2_clear cX2_clear 1 none) := ⟨lwt_1 (List.mem_of_getElem? (i := 231) rfl), Or.inl rfl⟩
theorem gw_121 : GW (Cond.selects RX2 yX2_clear yX2_clear) := ⟨lwt_1 (List.mem_of_getElem? (i := 230) (by decide +kernel)), Or.inl rfl⟩
theorem gw_122 : GW (Cond.instanceMethod yX2_clear) := ⟨lwt_1 (List.mem_of_getElem? (i := 229) (by decide +kernel)), Or.inl rfl⟩
theorem gw_123 : GW (Cond.methodLink RX3 22 yX2_clear) := ⟨lwt_1 (List.mem_of_getElem? (i := 228) (by decide +kernel)), Or.inl rfl⟩
theorem gw_124 : GW (Cond.fieldLink RX3 29 "DripEars$Reader" "part" "I") := ⟨lwt_1 (List.mem_of_getElem? (i := 85) (by decide +kernel)), Or.inl rfl⟩
theorem gw_125 : GW (Cond.fieldLink RX3 25 "DripEars$Reader" "begun" "Z") := ⟨lwt_1 (List.mem_of_getElem? (i := 84) (by decide +kernel)), Or.inl rfl⟩
theorem gw_126 : GW (Cond.code yX3_firstFault cX3_firstFault 4 (some .int)) := ⟨lwt_1 (List.mem_of_getElem? (i := 227) rfl), Or.inl rfl⟩
theorem gw_127 : GW (Cond.selects RX3 yX3_firstFault yX3_firstFault) := ⟨lwt_1 (List.mem_of_getElem? (i := 226) (by decide +kernel)), Or.inl rfl⟩
theorem gw_128 : GW (Cond.instanceMethod yX3_firstFault) := ⟨lwt_1 (List.mem_of_getElem? (i := 225) (by decide +kernel)), Or.inl rfl⟩
theorem gw_129 : GW (Cond.methodLink RX5 77 yX3_firstFault) := ⟨lwt_1 (List.mem_of_getElem? (i := 224) (by decide +kernel)), Or.inl rfl⟩
theorem gw_130 : GW (Cond.instanceMethod yX2_addSaying) := ⟨lwt_2 (List.mem_of_getElem? (i := 13) (by decide +kernel)), Or.inl rfl⟩
theorem gw_131 : GW (Cond.methodLink RX3 63 yX2_addSaying) := ⟨lwt_2 (List.mem_of_getElem? (i := 12) (by decide +kernel)), Or.inl rfl⟩
theorem gw_132 : GW (Cond.code yX2_addHouse cX2_addHouse 3 none) := ⟨lwt_2 (List.mem_of_getElem? (i := 11) rfl), Or.inl rfl⟩
theorem gw_133 : GW (Cond.selects RX2 yX2_addHouse yX2_addHouse) := ⟨lwt_2 (List.mem_of_getElem? (i := 10) (by decide +kernel)), Or.inl rfl⟩
theorem gw_134 : GW (Cond.instanceMethod yX2_addHouse) := ⟨lwt_2 (List.mem_of_getElem? (i := 9) (by decide +kernel)), Or.inl rfl⟩
theorem gw_135 : GW (Cond.methodLink RX3 59 yX2_addHouse) := ⟨lwt_2 (List.mem_of_getElem? (i := 8) (by decide +kernel)), Or.inl rfl⟩
theorem gw_136 : GW (Cond.code yX3_closePartIfWhole cX3_closePartIfWhole 1 none) := ⟨lwt_2 (List.mem_of_getElem? (i := 7) rfl), Or.inl rfl⟩
theorem gw_137 : GW (Cond.selects RX3 yX3_closePartIfWhole yX3_closePartIfWhole) := ⟨lwt_0 (List.mem_of_getElem? (i := 3) (by decide +kernel)), Or.inl rfl⟩
theorem gw_138 : GW (Cond.instanceMethod yX3_closePartIfWhole) := ⟨lwt_2 (List.mem_of_getElem? (i := 6) (by decide +kernel)), Or.inl rfl⟩
theorem gw_139 : GW (Cond.methodLink RX3 47 yX3_closePartIfWhole) := ⟨lwt_2 (List.mem_of_getElem? (i := 4) (by decide +kernel)), Or.inl rfl⟩
theorem gw_140 : GW (Cond.code yX3_figureLimit cX3_figureLimit 1 (some .int)) := ⟨lwt_2 (List.mem_of_getElem? (i := 3) rfl), Or.inl rfl⟩
theorem gw_141 : GW (Cond.selects RX3 yX3_figureLimit yX3_figureLimit) := ⟨lwt_0 (List.mem_of_getElem? (i := 2) (by decide +kernel)), Or.inl rfl⟩
theorem gw_142 : GW (Cond.instanceMethod yX3_figureLimit) := ⟨lwt_2 (List.mem_of_getElem? (i := 2) (by decide +kernel)), Or.inl rfl⟩
theorem gw_143 : GW (Cond.methodLink RX3 40 yX3_figureLimit) := ⟨lwt_2 (List.mem_of_getElem? (i := 0) (by decide +kernel)), Or.inl rfl⟩
theorem gw_144 : GW (Cond.fieldLink RX3 56 "DripEars$Lane" "rains" "I") := ⟨lwt_1 (List.mem_of_getElem? (i := 35) (by decide +kernel)), Or.inl rfl⟩
theorem gw_145 : GW (Cond.fieldLink RX3 53 "DripEars$Lane" "sayings" "I") := ⟨lwt_1 (List.mem_of_getElem? (i := 32) (by decide +kernel)), Or.inl rfl⟩
theorem gw_146 : GW (Cond.fieldLink RX3 50 "DripEars$Lane" "houses" "I") := ⟨lwt_1 (List.mem_of_getElem? (i := 28) (by decide +kernel)), Or.inl rfl⟩
theorem gw_147 : GW (Cond.code yX3_opensPart cX3_opensPart 3 (some .boolean)) := ⟨lwt_1 (List.mem_of_getElem? (i := 239) rfl), Or.inl rfl⟩
theorem gw_148 : GW (Cond.selects RX3 yX3_opensPart yX3_opensPart) := ⟨lwt_0 (List.mem_of_getElem? (i := 1) (by decide +kernel)), Or.inl rfl⟩
theorem gw_149 : GW (Cond.instanceMethod yX3_opensPart) := ⟨lwt_1 (List.mem_of_getElem? (i := 238) (by decide +kernel)), Or.inl rfl⟩
theorem gw_150 : GW (Cond.methodLink RX3 37 yX3_opensPart) := ⟨lwt_1 (List.mem_of_getElem? (i := 236) (by decide +kernel)), Or.inl rfl⟩
theorem gw_151 : GW (Cond.code yX2_addRain cX2_addRain 2 none) := ⟨lwt_2 (List.mem_of_getElem? (i := 19) rfl), Or.inl rfl⟩
theorem gw_152 : GW (Cond.selects RX2 yX2_addRain yX2_addRain) := ⟨lwt_2 (List.mem_of_getElem? (i := 18) (by decide +kernel)), Or.inl rfl⟩
theorem gw_153 : GW (Cond.instanceMethod yX2_addRain) := ⟨lwt_2 (List.mem_of_getElem? (i := 17) (by decide +kernel)), Or.inl rfl⟩
theorem gw_154 : GW (Cond.methodLink RX3 67 yX2_addRain) := ⟨lwt_2 (List.mem_of_getElem? (i := 16) (by decide +kernel)), Or.inl rfl⟩
theorem gw_155 : GW (Cond.code yX2_addSaying cX2_addSaying 4 none) := ⟨lwt_2 (List.mem_of_getElem? (i := 15) rfl), Or.inl rfl⟩
theorem gw_156 : GW (Cond.selects RX2 yX2_addSaying yX2_addSaying) := ⟨lwt_2 (List.mem_of_getElem? (i := 14) (by decide +kernel)), Or.inl rfl⟩
theorem gw_157 : GW (Cond.methodLink RL 23 yX5_fault) := ⟨lwt_1 (List.mem_of_getElem? (i := 220) (by decide +kernel)), Or.inl rfl⟩
theorem gw_158 : GW (Cond.instanceMethod yX5_fault) := ⟨lwt_1 (List.mem_of_getElem? (i := 221) (by decide +kernel)), Or.inl rfl⟩
theorem gw_159 : GW (Cond.selects RX5 yX5_fault yX5_fault) := ⟨lwt_1 (List.mem_of_getElem? (i := 222) (by decide +kernel)), Or.inl rfl⟩
theorem gw_160 : GW (Cond.code yX6_fault cX6_fault 1 (some .int)) := ⟨lwt_3 (List.mem_of_getElem? (i := 210) rfl), Or.inl rfl⟩
theorem gw_161 : GW (Cond.code yX6_figureUpTo cX6_figureUpTo 3 (some .int)) := ⟨lwt_3 (List.mem_of_getElem? (i := 222) rfl), Or.inl rfl⟩
theorem gw_162 : GW (Cond.selects RX6 yX6_figureUpTo yX6_figureUpTo) := ⟨lwt_0 (List.mem_of_getElem? (i := 17) (by decide +kernel)), Or.inl rfl⟩
theorem gw_163 : GW (Cond.instanceMethod yX6_figureUpTo) := ⟨lwt_3 (List.mem_of_getElem? (i := 221) (by decide +kernel)), Or.inl rfl⟩
theorem gw_164 : GW (Cond.methodLink RX6 85 yX6_figureUpTo) := ⟨lwt_3 (List.mem_of_getElem? (i := 219) (by decide +kernel)), Or.inl rfl⟩
theorem gw_165 : GW (Cond.code yX6_readPart cX6_readPart 2 none) := ⟨lwt_3 (List.mem_of_getElem? (i := 218) rfl), Or.inl rfl⟩
theorem gw_166 : GW (Cond.selects RX6 yX6_readPart yX6_readPart) := ⟨lwt_0 (List.mem_of_getElem? (i := 16) (by decide +kernel)), Or.inl rfl⟩
theorem gw_167 : GW (Cond.instanceMethod yX6_readPart) := ⟨lwt_3 (List.mem_of_getElem? (i := 217) (by decide +kernel)), Or.inl rfl⟩
theorem gw_168 : GW (Cond.methodLink RX6 81 yX6_readPart) := ⟨lwt_3 (List.mem_of_getElem? (i := 215) (by decide +kernel)), Or.inl rfl⟩
theorem gw_169 : GW (Cond.fieldLink RX6 78 "DripEarsModel" "readRains" "I") := ⟨lwt_3 (List.mem_of_getElem? (i := 123) (by decide +kernel)), Or.inl rfl⟩
theorem gw_170 : GW (Cond.fieldLink RX6 75 "DripEarsModel" "readSayings" "I") := ⟨lwt_3 (List.mem_of_getElem? (i := 122) (by decide +kernel)), Or.inl rfl⟩
theorem gw_171 : GW (Cond.fieldLink RX6 72 "DripEarsModel" "readHouses" "I") := ⟨lwt_3 (List.mem_of_getElem? (i := 121) (by decide +kernel)), Or.inl rfl⟩
theorem gw_172 : GW (Cond.fieldLink RX6 66 "DripEarsModel" "faultAt" "I") := ⟨lwt_3 (List.mem_of_getElem? (i := 127) (by decide +kernel)), Or.inl rfl⟩
theorem gw_173 : GW (Cond.fieldLink RX6 69 "DripEarsModel" "at" "I") := ⟨lwt_3 (List.mem_of_getElem? (i := 126) (by decide +kernel)), Or.inl rfl⟩
theorem gw_174 : GW (Cond.code yX6_readText cX6_readText 1 (some .int)) := ⟨lwt_3 (List.mem_of_getElem? (i := 214) rfl), Or.inl rfl⟩
theorem gw_175 : GW (Cond.selects RX6 yX6_readText yX6_readText) := ⟨lwt_0 (List.mem_of_getElem? (i := 15) (by decide +kernel)), Or.inl rfl⟩
theorem gw_176 : GW (Cond.instanceMethod yX6_readText) := ⟨lwt_3 (List.mem_of_getElem? (i := 213) (by decide +kernel)), Or.inl rfl⟩
theorem gw_177 : GW (Cond.methodLink RX6 89 yX6_readText) := ⟨lwt_3 (List.mem_of_getElem? (i := 211) (by decide +kernel)), Or.inl rfl⟩
theorem gw_178 : GW (Cond.methodLink RL 26 yX6_fault) := ⟨lwt_3 (List.mem_of_getElem? (i := 207) (by decide +kernel)), Or.inl rfl⟩
theorem gw_179 : GW (Cond.instanceMethod yX6_fault) := ⟨lwt_3 (List.mem_of_getElem? (i := 208) (by decide +kernel)), Or.inl rfl⟩
theorem gw_180 : GW (Cond.selects RX6 yX6_fault yX6_fault) := ⟨lwt_3 (List.mem_of_getElem? (i := 209) (by decide +kernel)), Or.inl rfl⟩
theorem gw_181 : GW (Cond.code yX5_lane cX5_lane 2 (some .int)) := ⟨lwt_2 (List.mem_of_getElem? (i := 23) rfl), Or.inl rfl⟩
theorem gw_182 : GW (Cond.fieldLink RX5 99 "DripEars$Lane" "rains" "I") := ⟨lwt_1 (List.mem_of_getElem? (i := 36) (by decide +kernel)), Or.inl rfl⟩
theorem gw_183 : GW (Cond.fieldLink RX5 96 "DripEars$Lane" "sayings" "I") := ⟨lwt_1 (List.mem_of_getElem? (i := 33) (by decide +kernel)), Or.inl rfl⟩
theorem gw_184 : GW (Cond.fieldLink RX5 93 "DripEars$Lane" "houses" "I") := ⟨lwt_1 (List.mem_of_getElem? (i := 29) (by decide +kernel)), Or.inl rfl⟩
theorem gw_185 : GW (Cond.fieldLink RX5 81 "DripEars$Reader" "draft" "LDripEars$Lane;") := ⟨lwt_1 (List.mem_of_getElem? (i := 82) (by decide +kernel)), Or.inl rfl⟩
theorem gw_186 : GW (Cond.native arraycopyName) := ⟨lwt_2 (List.mem_of_getElem? (i := 30) (by decide +kernel)), Or.inl rfl⟩
theorem gw_187 : GW (Cond.methodLink RX2 40 arraycopyName) := ⟨lwt_2 (List.mem_of_getElem? (i := 28) (by decide +kernel)), Or.inl rfl⟩
theorem gw_188 : GW (Cond.code yX2_take cX2_take 2 none) := ⟨lwt_2 (List.mem_of_getElem? (i := 27) rfl), Or.inl rfl⟩
theorem gw_189 : GW (Cond.selects RX2 yX2_take yX2_take) := ⟨lwt_2 (List.mem_of_getElem? (i := 26) (by decide +kernel)), Or.inl rfl⟩
theorem gw_190 : GW (Cond.instanceMethod yX2_take) := ⟨lwt_2 (List.mem_of_getElem? (i := 25) (by decide +kernel)), Or.inl rfl⟩
theorem gw_191 : GW (Cond.methodLink RX5 84 yX2_take) := ⟨lwt_2 (List.mem_of_getElem? (i := 24) (by decide +kernel)), Or.inl rfl⟩
theorem gw_192 : GW (Cond.fieldLink RX0 24 "DripEars$Acts" "size" "I") := ⟨lwt_1 (List.mem_of_getElem? (i := 137) (by decide +kernel)), Or.inl rfl⟩
theorem gw_193 : GW (Cond.fieldLink RX0 20 "DripEars$Acts" "oldest" "I") := ⟨lwt_1 (List.mem_of_getElem? (i := 136) (by decide +kernel)), Or.inl rfl⟩
theorem gw_194 : GW (Cond.code yX0_forget cX0_forget 1 none) := ⟨lwt_2 (List.mem_of_getElem? (i := 38) rfl), Or.inl rfl⟩
theorem gw_195 : GW (Cond.selects RX0 yX0_forget yX0_forget) := ⟨lwt_2 (List.mem_of_getElem? (i := 37) (by decide +kernel)), Or.inl rfl⟩
theorem gw_196 : GW (Cond.instanceMethod yX0_forget) := ⟨lwt_2 (List.mem_of_getElem? (i := 36) (by decide +kernel)), Or.inl rfl⟩
theorem gw_197 : GW (Cond.methodLink RX5 90 yX0_forget) := ⟨lwt_2 (List.mem_of_getElem? (i := 35) (by decide +kernel)), Or.inl rfl⟩
theorem gw_198 : GW (Cond.fieldLink RX4 29 "DripEars$Scene" "hour" "I") := ⟨lwt_1 (List.mem_of_getElem? (i := 112) (by decide +kernel)), Or.inl rfl⟩
theorem gw_199 : GW (Cond.fieldLink RX4 25 "DripEars$Scene" "dry" "I") := ⟨lwt_1 (List.mem_of_getElem? (i := 110) (by decide +kernel)), Or.inl rfl⟩
theorem gw_200 : GW (Cond.code yX4_begin cX4_begin 2 none) := ⟨lwt_2 (List.mem_of_getElem? (i := 34) rfl), Or.inl rfl⟩
theorem gw_201 : GW (Cond.selects RX4 yX4_begin yX4_begin) := ⟨lwt_2 (List.mem_of_getElem? (i := 33) (by decide +kernel)), Or.inl rfl⟩
theorem gw_202 : GW (Cond.instanceMethod yX4_begin) := ⟨lwt_2 (List.mem_of_getElem? (i := 32) (by decide +kernel)), Or.inl rfl⟩
theorem gw_203 : GW (Cond.methodLink RX5 87 yX4_begin) := ⟨lwt_2 (List.mem_of_getElem? (i := 31) (by decide +kernel)), Or.inl rfl⟩
theorem gw_204 : GW (Cond.initialized "java/lang/System") := ⟨lwt_1 (List.mem_of_getElem? (i := 8) (by decide +kernel)), Or.inl rfl⟩
theorem gw_205 : GW (Cond.static arraycopyName) := ⟨lwt_2 (List.mem_of_getElem? (i := 29) (by decide +kernel)), Or.inl rfl⟩
theorem gw_206 : GW (Cond.methodLink RL 27 yX5_lane) := ⟨lwt_2 (List.mem_of_getElem? (i := 20) (by decide +kernel)), Or.inl rfl⟩
theorem gw_207 : GW (Cond.instanceMethod yX5_lane) := ⟨lwt_2 (List.mem_of_getElem? (i := 21) (by decide +kernel)), Or.inl rfl⟩
theorem gw_208 : GW (Cond.selects RX5 yX5_lane yX5_lane) := ⟨lwt_2 (List.mem_of_getElem? (i := 22) (by decide +kernel)), Or.inl rfl⟩
theorem gw_209 : GW (Cond.code yX6_lane cX6_lane 2 (some .int)) := ⟨lwt_3 (List.mem_of_getElem? (i := 226) rfl), Or.inl rfl⟩
theorem gw_210 : GW (Cond.fieldLink RX6 102 "DripEarsModel" "acts" "I") := ⟨lwt_3 (List.mem_of_getElem? (i := 128) (by decide +kernel)), Or.inl rfl⟩
theorem gw_211 : GW (Cond.fieldLink RX6 99 "DripEarsModel" "rains" "I") := ⟨lwt_3 (List.mem_of_getElem? (i := 112) (by decide +kernel)), Or.inl rfl⟩
theorem gw_212 : GW (Cond.fieldLink RX6 96 "DripEarsModel" "sayings" "I") := ⟨lwt_3 (List.mem_of_getElem? (i := 111) (by decide +kernel)), Or.inl rfl⟩
theorem gw_213 : GW (Cond.fieldLink RX6 93 "DripEarsModel" "houses" "I") := ⟨lwt_3 (List.mem_of_getElem? (i := 110) (by decide +kernel)), Or.inl rfl⟩
theorem gw_214 : GW (Cond.methodLink RL 30 yX6_lane) := ⟨lwt_3 (List.mem_of_getElem? (i := 223) (by decide +kernel)), Or.inl rfl⟩
theorem gw_215 : GW (Cond.instanceMethod yX6_lane) := ⟨lwt_3 (List.mem_of_getElem? (i := 224) (by decide +kernel)), Or.inl rfl⟩
theorem gw_216 : GW (Cond.selects RX6 yX6_lane yX6_lane) := ⟨lwt_3 (List.mem_of_getElem? (i := 225) (by decide +kernel)), Or.inl rfl⟩
theorem gw_217 : GW (Cond.code yX5_house cX5_house 3 (some .int)) := ⟨lwt_2 (List.mem_of_getElem? (i := 42) rfl), Or.inl rfl⟩
theorem gw_218 : GW (Cond.code yX4_housesThatHear cX4_housesThatHear 1 (some .int)) := ⟨lwt_2 (List.mem_of_getElem? (i := 54) rfl), Or.inl rfl⟩
theorem gw_219 : GW (Cond.selects RX4 yX4_housesThatHear yX4_housesThatHear) := ⟨lwt_2 (List.mem_of_getElem? (i := 53) (by decide +kernel)), Or.inl rfl⟩
theorem gw_220 : GW (Cond.instanceMethod yX4_housesThatHear) := ⟨lwt_2 (List.mem_of_getElem? (i := 52) (by decide +kernel)), Or.inl rfl⟩
theorem gw_221 : GW (Cond.methodLink RX5 122 yX4_housesThatHear) := ⟨lwt_2 (List.mem_of_getElem? (i := 51) (by decide +kernel)), Or.inl rfl⟩
theorem gw_222 : GW (Cond.fieldLink RX4 38 "DripEars$Lane" "kind" "[I") := ⟨lwt_1 (List.mem_of_getElem? (i := 41) (by decide +kernel)), Or.inl rfl⟩
theorem gw_223 : GW (Cond.code yX4_kindAt cX4_kindAt 2 (some .int)) := ⟨lwt_2 (List.mem_of_getElem? (i := 50) rfl), Or.inl rfl⟩
theorem gw_224 : GW (Cond.selects RX4 yX4_kindAt yX4_kindAt) := ⟨lwt_2 (List.mem_of_getElem? (i := 49) (by decide +kernel)), Or.inl rfl⟩
theorem gw_225 : GW (Cond.instanceMethod yX4_kindAt) := ⟨lwt_2 (List.mem_of_getElem? (i := 48) (by decide +kernel)), Or.inl rfl⟩
theorem gw_226 : GW (Cond.methodLink RX5 112 yX4_kindAt) := ⟨lwt_2 (List.mem_of_getElem? (i := 47) (by decide +kernel)), Or.inl rfl⟩
theorem gw_227 : GW (Cond.code yX2_hasHouse cX2_hasHouse 2 (some .boolean)) := ⟨lwt_2 (List.mem_of_getElem? (i := 46) rfl), Or.inl rfl⟩
theorem gw_228 : GW (Cond.selects RX2 yX2_hasHouse yX2_hasHouse) := ⟨lwt_2 (List.mem_of_getElem? (i := 45) (by decide +kernel)), Or.inl rfl⟩
theorem gw_229 : GW (Cond.instanceMethod yX2_hasHouse) := ⟨lwt_2 (List.mem_of_getElem? (i := 44) (by decide +kernel)), Or.inl rfl⟩
theorem gw_230 : GW (Cond.methodLink RX5 102 yX2_hasHouse) := ⟨lwt_2 (List.mem_of_getElem? (i := 43) (by decide +kernel)), Or.inl rfl⟩
theorem gw_231 : GW (Cond.fieldLink RX5 119 "DripEars$Scene" "hearer" "[I") := ⟨lwt_1 (List.mem_of_getElem? (i := 105) (by decide +kernel)), Or.inl rfl⟩
theorem gw_232 : GW (Cond.fieldLink RX5 116 "DripEars$Scene" "knows" "[I") := ⟨lwt_1 (List.mem_of_getElem? (i := 107) (by decide +kernel)), Or.inl rfl⟩
theorem gw_233 : GW (Cond.fieldLink RX5 109 "DripEars$Scene" "voice" "[I") := ⟨lwt_1 (List.mem_of_getElem? (i := 109) (by decide +kernel)), Or.inl rfl⟩
theorem gw_234 : GW (Cond.fieldLink RX5 106 "DripEars$Lane" "wall" "[I") := ⟨lwt_1 (List.mem_of_getElem? (i := 38) (by decide +kernel)), Or.inl rfl⟩
theorem gw_235 : GW (Cond.code Lib.Math.abs.name Lib.Math.abs.code 1 (some .int)) := ⟨lwt_2 (List.mem_of_getElem? (i := 80) rfl), Or.inl rfl⟩
theorem gw_236 : GW (Cond.initialized "java/lang/Math") := ⟨lwt_1 (List.mem_of_getElem? (i := 9) (by decide +kernel)), Or.inl rfl⟩
theorem gw_237 : GW (Cond.static Lib.Math.abs.name) := ⟨lwt_2 (List.mem_of_getElem? (i := 79) (by decide +kernel)), Or.inl rfl⟩
theorem gw_238 : GW (Cond.methodLink RX4 78 Lib.Math.abs.name) := ⟨lwt_2 (List.mem_of_getElem? (i := 78) (by decide +kernel)), Or.inl rfl⟩
theorem gw_239 : GW (Cond.fieldLink RX4 43 "DripEars$Lane" "houses" "I") := ⟨lwt_1 (List.mem_of_getElem? (i := 30) (by decide +kernel)), Or.inl rfl⟩
theorem gw_240 : GW (Cond.fieldLink RX4 75 "DripEars$Lane" "wall" "[I") := ⟨lwt_1 (List.mem_of_getElem? (i := 39) (by decide +kernel)), Or.inl rfl⟩
theorem gw_241 : GW (Cond.fieldLink RX4 72 "DripEars$Lane" "loud" "[I") := ⟨lwt_1 (List.mem_of_getElem? (i := 50) (by decide +kernel)), Or.inl rfl⟩
theorem gw_242 : GW (Cond.fieldLink RX4 69 "DripEars$Lane" "place" "[I") := ⟨lwt_1 (List.mem_of_getElem? (i := 44) (by decide +kernel)), Or.inl rfl⟩
theorem gw_243 : GW (Cond.code yX4_housesThatHearBy cX4_housesThatHearBy 10 (some .int)) := ⟨lwt_2 (List.mem_of_getElem? (i := 65) rfl), Or.inl rfl⟩
theorem gw_244 : GW (Cond.selects RX4 yX4_housesThatHearBy yX4_housesThatHearBy) := ⟨lwt_0 (List.mem_of_getElem? (i := 4) (by decide +kernel)), Or.inl rfl⟩
theorem gw_245 : GW (Cond.instanceMethod yX4_housesThatHearBy) := ⟨lwt_2 (List.mem_of_getElem? (i := 64) (by decide +kernel)), Or.inl rfl⟩
theorem gw_246 : GW (Cond.methodLink RX4 55 yX4_housesThatHearBy) := ⟨lwt_2 (List.mem_of_getElem? (i := 62) (by decide +kernel)), Or.inl rfl⟩
theorem gw_247 : GW (Cond.code yJ9_floorMod_7cf53 cJ9_floorMod_7cf53 3 (some .int)) := ⟨lwt_2 (List.mem_of_getElem? (i := 61) rfl), Or.inl rfl⟩
theorem gw_248 : GW (Cond.initialized RJ9) := ⟨lwt_1 (List.mem_of_getElem? (i := 9) (by decide +kernel)), Or.inl rfl⟩
theorem gw_249 : GW (Cond.static yJ9_floorMod_7cf53) := ⟨lwt_2 (List.mem_of_getElem? (i := 60) (by decide +kernel)), Or.inl rfl⟩
theorem gw_250 : GW (Cond.methodLink RX2 46 yJ9_floorMod_7cf53) := ⟨lwt_2 (List.mem_of_getElem? (i := 59) (by decide +kernel)), Or.inl rfl⟩
theorem gw_251 : GW (Cond.code yX2_rainAt cX2_rainAt 2 (some .int)) := ⟨lwt_2 (List.mem_of_getElem? (i := 58) rfl), Or.inl rfl⟩
theorem gw_252 : GW (Cond.selects RX2 yX2_rainAt yX2_rainAt) := ⟨lwt_2 (List.mem_of_getElem? (i := 57) (by decide +kernel)), Or.inl rfl⟩
theorem gw_253 : GW (Cond.instanceMethod yX2_rainAt) := ⟨lwt_2 (List.mem_of_getElem? (i := 56) (by decide +kernel)), Or.inl rfl⟩
theorem gw_254 : GW (Cond.methodLink RX4 52 yX2_rainAt) := ⟨lwt_2 (List.mem_of_getElem? (i := 55) (by decide +kernel)), Or.inl rfl⟩
theorem gw_255 : GW (Cond.code yX2_hasSaying cX2_hasSaying 2 (some .boolean)) := ⟨lwt_2 (List.mem_of_getElem? (i := 77) rfl), Or.inl rfl⟩
theorem gw_256 : GW (Cond.selects RX2 yX2_hasSaying yX2_hasSaying) := ⟨lwt_2 (List.mem_of_getElem? (i := 76) (by decide +kernel)), Or.inl rfl⟩
theorem gw_257 : GW (Cond.instanceMethod yX2_hasSaying) := ⟨lwt_2 (List.mem_of_getElem? (i := 75) (by decide +kernel)), Or.inl rfl⟩
theorem gw_258 : GW (Cond.methodLink RX4 65 yX2_hasSaying) := ⟨lwt_2 (List.mem_of_getElem? (i := 74) (by decide +kernel)), Or.inl rfl⟩
theorem gw_259 : GW (Cond.code yX4_areStrayed cX4_areStrayed 1 (some .boolean)) := ⟨lwt_2 (List.mem_of_getElem? (i := 73) rfl), Or.inl rfl⟩
theorem gw_260 : GW (Cond.selects RX4 yX4_areStrayed yX4_areStrayed) := ⟨lwt_2 (List.mem_of_getElem? (i := 72) (by decide +kernel)), Or.inl rfl⟩
theorem gw_261 : GW (Cond.instanceMethod yX4_areStrayed) := ⟨lwt_2 (List.mem_of_getElem? (i := 71) (by decide +kernel)), Or.inl rfl⟩
theorem gw_262 : GW (Cond.methodLink RX4 61 yX4_areStrayed) := ⟨lwt_2 (List.mem_of_getElem? (i := 70) (by decide +kernel)), Or.inl rfl⟩
theorem gw_263 : GW (Cond.code yX2_sayingAt cX2_sayingAt 2 (some .int)) := ⟨lwt_2 (List.mem_of_getElem? (i := 69) rfl), Or.inl rfl⟩
theorem gw_264 : GW (Cond.selects RX2 yX2_sayingAt yX2_sayingAt) := ⟨lwt_2 (List.mem_of_getElem? (i := 68) (by decide +kernel)), Or.inl rfl⟩
theorem gw_265 : GW (Cond.instanceMethod yX2_sayingAt) := ⟨lwt_2 (List.mem_of_getElem? (i := 67) (by decide +kernel)), Or.inl rfl⟩
theorem gw_266 : GW (Cond.methodLink RX4 58 yX2_sayingAt) := ⟨lwt_2 (List.mem_of_getElem? (i := 66) (by decide +kernel)), Or.inl rfl⟩
theorem gw_267 : GW (Cond.methodLink RL 31 yX5_house) := ⟨lwt_2 (List.mem_of_getElem? (i := 39) (by decide +kernel)), Or.inl rfl⟩
theorem gw_268 : GW (Cond.instanceMethod yX5_house) := ⟨lwt_2 (List.mem_of_getElem? (i := 40) (by decide +kernel)), Or.inl rfl⟩
theorem gw_269 : GW (Cond.selects RX5 yX5_house yX5_house) := ⟨lwt_2 (List.mem_of_getElem? (i := 41) (by decide +kernel)), Or.inl rfl⟩
theorem gw_270 : GW (Cond.code yX6_house cX6_house 3 (some .int)) := ⟨lwt_3 (List.mem_of_getElem? (i := 230) rfl), Or.inl rfl⟩
theorem gw_271 : GW (Cond.selects RX6 yX6_rainOn yX6_rainOn) := ⟨lwt_0 (List.mem_of_getElem? (i := 21) (by decide +kernel)), Or.inl rfl⟩
theorem gw_272 : GW (Cond.instanceMethod yX6_rainOn) := ⟨lwt_4 (List.mem_of_getElem? (i := 5) (by decide +kernel)), Or.inl rfl⟩
theorem gw_273 : GW (Cond.methodLink RX6 138 yX6_rainOn) := ⟨lwt_4 (List.mem_of_getElem? (i := 3) (by decide +kernel)), Or.inl rfl⟩
theorem gw_274 : GW (Cond.code yX6_sayingOn cX6_sayingOn 2 (some .int)) := ⟨lwt_4 (List.mem_of_getElem? (i := 2) rfl), Or.inl rfl⟩
theorem gw_275 : GW (Cond.selects RX6 yX6_sayingOn yX6_sayingOn) := ⟨lwt_0 (List.mem_of_getElem? (i := 20) (by decide +kernel)), Or.inl rfl⟩
theorem gw_276 : GW (Cond.instanceMethod yX6_sayingOn) := ⟨lwt_4 (List.mem_of_getElem? (i := 1) (by decide +kernel)), Or.inl rfl⟩
theorem gw_277 : GW (Cond.methodLink RX6 114 yX6_sayingOn) := ⟨lwt_3 (List.mem_of_getElem? (i := 239) (by decide +kernel)), Or.inl rfl⟩
theorem gw_278 : GW (Cond.code yX6_knowsAt cX6_knowsAt 4 (some .int)) := ⟨lwt_3 (List.mem_of_getElem? (i := 238) rfl), Or.inl rfl⟩
theorem gw_279 : GW (Cond.selects RX6 yX6_knowsAt yX6_knowsAt) := ⟨lwt_0 (List.mem_of_getElem? (i := 19) (by decide +kernel)), Or.inl rfl⟩
theorem gw_280 : GW (Cond.instanceMethod yX6_knowsAt) := ⟨lwt_3 (List.mem_of_getElem? (i := 237) (by decide +kernel)), Or.inl rfl⟩
theorem gw_281 : GW (Cond.methodLink RX6 134 yX6_knowsAt) := ⟨lwt_3 (List.mem_of_getElem? (i := 235) (by decide +kernel)), Or.inl rfl⟩
theorem gw_282 : GW (Cond.code yX6_isHouse cX6_isHouse 2 (some .boolean)) := ⟨lwt_3 (List.mem_of_getElem? (i := 234) rfl), Or.inl rfl⟩
theorem gw_283 : GW (Cond.selects RX6 yX6_isHouse yX6_isHouse) := ⟨lwt_0 (List.mem_of_getElem? (i := 18) (by decide +kernel)), Or.inl rfl⟩
theorem gw_284 : GW (Cond.instanceMethod yX6_isHouse) := ⟨lwt_3 (List.mem_of_getElem? (i := 233) (by decide +kernel)), Or.inl rfl⟩
theorem gw_285 : GW (Cond.methodLink RX6 131 yX6_isHouse) := ⟨lwt_3 (List.mem_of_getElem? (i := 231) (by decide +kernel)), Or.inl rfl⟩
theorem gw_286 : GW (Cond.code yX6_earOf cX6_earOf 1 (some .int)) := ⟨lwt_4 (List.mem_of_getElem? (i := 17) rfl), Or.inl rfl⟩
theorem gw_287 : GW (Cond.static yX6_earOf) := ⟨lwt_4 (List.mem_of_getElem? (i := 16) (by decide +kernel)), Or.inl rfl⟩
theorem gw_288 : GW (Cond.methodLink RX6 111 yX6_earOf) := ⟨lwt_4 (List.mem_of_getElem? (i := 15) (by decide +kernel)), Or.inl rfl⟩
theorem gw_289 : GW (Cond.code yX6_isStrayed cX6_isStrayed 2 (some .boolean)) := ⟨lwt_4 (List.mem_of_getElem? (i := 14) rfl), Or.inl rfl⟩
theorem gw_290 : GW (Cond.selects RX6 yX6_isStrayed yX6_isStrayed) := ⟨lwt_0 (List.mem_of_getElem? (i := 23) (by decide +kernel)), Or.inl rfl⟩
theorem gw_291 : GW (Cond.instanceMethod yX6_isStrayed) := ⟨lwt_4 (List.mem_of_getElem? (i := 13) (by decide +kernel)), Or.inl rfl⟩
theorem gw_292 : GW (Cond.methodLink RX6 107 yX6_isStrayed) := ⟨lwt_4 (List.mem_of_getElem? (i := 11) (by decide +kernel)), Or.inl rfl⟩
theorem gw_293 : GW (Cond.code yX6_hears cX6_hears 9 (some .boolean)) := ⟨lwt_4 (List.mem_of_getElem? (i := 10) rfl), Or.inl rfl⟩
theorem gw_294 : GW (Cond.selects RX6 yX6_hears yX6_hears) := ⟨lwt_0 (List.mem_of_getElem? (i := 22) (by decide +kernel)), Or.inl rfl⟩
theorem gw_295 : GW (Cond.instanceMethod yX6_hears) := ⟨lwt_4 (List.mem_of_getElem? (i := 9) (by decide +kernel)), Or.inl rfl⟩
theorem gw_296 : GW (Cond.methodLink RX6 117 yX6_hears) := ⟨lwt_4 (List.mem_of_getElem? (i := 7) (by decide +kernel)), Or.inl rfl⟩
theorem gw_297 : GW (Cond.code yX6_rainOn cX6_rainOn 2 (some .int)) := ⟨lwt_4 (List.mem_of_getElem? (i := 6) rfl), Or.inl rfl⟩
theorem gw_298 : GW (Cond.methodLink RL 35 yX6_house) := ⟨lwt_3 (List.mem_of_getElem? (i := 227) (by decide +kernel)), Or.inl rfl⟩
theorem gw_299 : GW (Cond.instanceMethod yX6_house) := ⟨lwt_3 (List.mem_of_getElem? (i := 228) (by decide +kernel)), Or.inl rfl⟩
theorem gw_300 : GW (Cond.selects RX6 yX6_house yX6_house) := ⟨lwt_3 (List.mem_of_getElem? (i := 229) (by decide +kernel)), Or.inl rfl⟩
theorem gw_301 : GW (Cond.code yX5_saying cX5_saying 3 (some .int)) := ⟨lwt_2 (List.mem_of_getElem? (i := 86) rfl), Or.inl rfl⟩
theorem gw_302 : GW (Cond.methodLink RX5 126 yX2_hasSaying) := ⟨lwt_2 (List.mem_of_getElem? (i := 87) (by decide +kernel)), Or.inl rfl⟩
theorem gw_303 : GW (Cond.fieldLink RX5 135 "DripEars$Lane" "loud" "[I") := ⟨lwt_1 (List.mem_of_getElem? (i := 49) (by decide +kernel)), Or.inl rfl⟩
theorem gw_304 : GW (Cond.fieldLink RX5 132 "DripEars$Lane" "thing" "[I") := ⟨lwt_1 (List.mem_of_getElem? (i := 46) (by decide +kernel)), Or.inl rfl⟩
theorem gw_305 : GW (Cond.fieldLink RX5 129 "DripEars$Lane" "place" "[I") := ⟨lwt_1 (List.mem_of_getElem? (i := 43) (by decide +kernel)), Or.inl rfl⟩
theorem gw_306 : GW (Cond.methodLink RL 36 yX5_saying) := ⟨lwt_2 (List.mem_of_getElem? (i := 83) (by decide +kernel)), Or.inl rfl⟩
theorem gw_307 : GW (Cond.instanceMethod yX5_saying) := ⟨lwt_2 (List.mem_of_getElem? (i := 84) (by decide +kernel)), Or.inl rfl⟩
theorem gw_308 : GW (Cond.selects RX5 yX5_saying yX5_saying) := ⟨lwt_2 (List.mem_of_getElem? (i := 85) (by decide +kernel)), Or.inl rfl⟩
theorem gw_309 : GW (Cond.code yX6_saying cX6_saying 3 (some .int)) := ⟨lwt_4 (List.mem_of_getElem? (i := 21) rfl), Or.inl rfl⟩
theorem gw_310 : GW (Cond.constantLong RX6 141 (2)) := ⟨lwt_4 (List.mem_of_getElem? (i := 22) (by decide +kernel)), Or.inl rfl⟩
theorem gw_311 : GW (Cond.methodLink RL 39 yX6_saying) := ⟨lwt_4 (List.mem_of_getElem? (i := 18) (by decide +kernel)), Or.inl rfl⟩
theorem gw_312 : GW (Cond.instanceMethod yX6_saying) := ⟨lwt_4 (List.mem_of_getElem? (i := 19) (by decide +kernel)), Or.inl rfl⟩
theorem gw_313 : GW (Cond.selects RX6 yX6_saying yX6_saying) := ⟨lwt_4 (List.mem_of_getElem? (i := 20) (by decide +kernel)), Or.inl rfl⟩
theorem gw_314 : GW (Cond.code yX5_hour cX5_hour 1 (some .int)) := ⟨lwt_2 (List.mem_of_getElem? (i := 91) rfl), Or.inl rfl⟩
theorem gw_315 : GW (Cond.methodLink RX4 32 arraycopyName) := ⟨lwt_2 (List.mem_of_getElem? (i := 100) (by decide +kernel)), Or.inl rfl⟩
theorem gw_316 : GW (Cond.code yX4_take cX4_take 2 none) := ⟨lwt_2 (List.mem_of_getElem? (i := 99) rfl), Or.inl rfl⟩
theorem gw_317 : GW (Cond.selects RX4 yX4_take yX4_take) := ⟨lwt_2 (List.mem_of_getElem? (i := 98) (by decide +kernel)), Or.inl rfl⟩
theorem gw_318 : GW (Cond.instanceMethod yX4_take) := ⟨lwt_2 (List.mem_of_getElem? (i := 97) (by decide +kernel)), Or.inl rfl⟩
theorem gw_319 : GW (Cond.methodLink RX0 27 yX4_take) := ⟨lwt_2 (List.mem_of_getElem? (i := 96) (by decide +kernel)), Or.inl rfl⟩
theorem gw_320 : GW (Cond.code yX0_note cX0_note 2 none) := ⟨lwt_2 (List.mem_of_getElem? (i := 95) rfl), Or.inl rfl⟩
theorem gw_321 : GW (Cond.selects RX0 yX0_note yX0_note) := ⟨lwt_2 (List.mem_of_getElem? (i := 94) (by decide +kernel)), Or.inl rfl⟩
theorem gw_322 : GW (Cond.instanceMethod yX0_note) := ⟨lwt_2 (List.mem_of_getElem? (i := 93) (by decide +kernel)), Or.inl rfl⟩
theorem gw_323 : GW (Cond.methodLink RX5 138 yX0_note) := ⟨lwt_2 (List.mem_of_getElem? (i := 92) (by decide +kernel)), Or.inl rfl⟩
theorem gw_324 : GW (Cond.static Lib.Math.min.name) := ⟨lwt_2 (List.mem_of_getElem? (i := 114) (by decide +kernel)), Or.inl rfl⟩
theorem gw_325 : GW (Cond.methodLink RX4 96 Lib.Math.min.name) := ⟨lwt_2 (List.mem_of_getElem? (i := 113) (by decide +kernel)), Or.inl rfl⟩
theorem gw_326 : GW (Cond.fieldLink RX4 89 "DripEars$Lane" "thing" "[I") := ⟨lwt_1 (List.mem_of_getElem? (i := 47) (by decide +kernel)), Or.inl rfl⟩
theorem gw_327 : GW (Cond.code yX4_passHourBy cX4_passHourBy 5 (some .int)) := ⟨lwt_2 (List.mem_of_getElem? (i := 108) rfl), Or.inl rfl⟩
theorem gw_328 : GW (Cond.selects RX4 yX4_passHourBy yX4_passHourBy) := ⟨lwt_2 (List.mem_of_getElem? (i := 107) (by decide +kernel)), Or.inl rfl⟩
theorem gw_329 : GW (Cond.instanceMethod yX4_passHourBy) := ⟨lwt_2 (List.mem_of_getElem? (i := 106) (by decide +kernel)), Or.inl rfl⟩
theorem gw_330 : GW (Cond.methodLink RX4 86 yX4_passHourBy) := ⟨lwt_2 (List.mem_of_getElem? (i := 105) (by decide +kernel)), Or.inl rfl⟩
theorem gw_331 : GW (Cond.code yX4_passHour cX4_passHour 1 (some .int)) := ⟨lwt_2 (List.mem_of_getElem? (i := 104) rfl), Or.inl rfl⟩
theorem gw_332 : GW (Cond.selects RX4 yX4_passHour yX4_passHour) := ⟨lwt_2 (List.mem_of_getElem? (i := 103) (by decide +kernel)), Or.inl rfl⟩
theorem gw_333 : GW (Cond.instanceMethod yX4_passHour) := ⟨lwt_2 (List.mem_of_getElem? (i := 102) (by decide +kernel)), Or.inl rfl⟩
theorem gw_334 : GW (Cond.methodLink RX5 142 yX4_passHour) := ⟨lwt_2 (List.mem_of_getElem? (i := 101) (by decide +kernel)), Or.inl rfl⟩
theorem gw_335 : GW (Cond.code Lib.Math.min.name Lib.Math.min.code 2 (some .int)) := ⟨lwt_2 (List.mem_of_getElem? (i := 115) rfl), Or.inl rfl⟩
theorem gw_336 : GW (Cond.constant RJ6 267 (252645135)) := ⟨lwt_2 (List.mem_of_getElem? (i := 129) (by decide +kernel)), Or.inl rfl⟩
theorem gw_337 : GW (Cond.constant RJ6 266 (858993459)) := ⟨lwt_2 (List.mem_of_getElem? (i := 128) (by decide +kernel)), Or.inl rfl⟩
theorem gw_338 : GW (Cond.constant RJ6 265 (1431655765)) := ⟨lwt_2 (List.mem_of_getElem? (i := 127) (by decide +kernel)), Or.inl rfl⟩
theorem gw_339 : GW (Cond.code yJ6_bitCount_0f7a4 cJ6_bitCount_0f7a4 1 (some .int)) := ⟨lwt_2 (List.mem_of_getElem? (i := 126) rfl), Or.inl rfl⟩
theorem gw_340 : GW (Cond.initialized RJ6) := ⟨lwt_1 (List.mem_of_getElem? (i := 10) (by decide +kernel)), Or.inl rfl⟩
theorem gw_341 : GW (Cond.static yJ6_bitCount_0f7a4) := ⟨lwt_2 (List.mem_of_getElem? (i := 125) (by decide +kernel)), Or.inl rfl⟩
theorem gw_342 : GW (Cond.methodLink RX4 46 yJ6_bitCount_0f7a4) := ⟨lwt_2 (List.mem_of_getElem? (i := 124) (by decide +kernel)), Or.inl rfl⟩
theorem gw_343 : GW (Cond.code yX4_knownBy cX4_knownBy 4 (some .int)) := ⟨lwt_2 (List.mem_of_getElem? (i := 123) rfl), Or.inl rfl⟩
theorem gw_344 : GW (Cond.selects RX4 yX4_knownBy yX4_knownBy) := ⟨lwt_2 (List.mem_of_getElem? (i := 122) (by decide +kernel)), Or.inl rfl⟩
theorem gw_345 : GW (Cond.instanceMethod yX4_knownBy) := ⟨lwt_2 (List.mem_of_getElem? (i := 121) (by decide +kernel)), Or.inl rfl⟩
theorem gw_346 : GW (Cond.methodLink RX4 103 yX4_knownBy) := ⟨lwt_2 (List.mem_of_getElem? (i := 120) (by decide +kernel)), Or.inl rfl⟩
theorem gw_347 : GW (Cond.code yX2_allHouses cX2_allHouses 1 (some .int)) := ⟨lwt_2 (List.mem_of_getElem? (i := 119) rfl), Or.inl rfl⟩
theorem gw_348 : GW (Cond.selects RX2 yX2_allHouses yX2_allHouses) := ⟨lwt_2 (List.mem_of_getElem? (i := 118) (by decide +kernel)), Or.inl rfl⟩
theorem gw_349 : GW (Cond.instanceMethod yX2_allHouses) := ⟨lwt_2 (List.mem_of_getElem? (i := 117) (by decide +kernel)), Or.inl rfl⟩
theorem gw_350 : GW (Cond.methodLink RX4 99 yX2_allHouses) := ⟨lwt_2 (List.mem_of_getElem? (i := 116) (by decide +kernel)), Or.inl rfl⟩
theorem gw_351 : GW (Cond.code yX4_tellAt cX4_tellAt 5 (some .int)) := ⟨lwt_2 (List.mem_of_getElem? (i := 112) rfl), Or.inl rfl⟩
theorem gw_352 : GW (Cond.selects RX4 yX4_tellAt yX4_tellAt) := ⟨lwt_0 (List.mem_of_getElem? (i := 5) (by decide +kernel)), Or.inl rfl⟩
theorem gw_353 : GW (Cond.instanceMethod yX4_tellAt) := ⟨lwt_2 (List.mem_of_getElem? (i := 111) (by decide +kernel)), Or.inl rfl⟩
theorem gw_354 : GW (Cond.methodLink RX4 92 yX4_tellAt) := ⟨lwt_2 (List.mem_of_getElem? (i := 109) (by decide +kernel)), Or.inl rfl⟩
theorem gw_355 : GW (Cond.methodLink RL 40 yX5_hour) := ⟨lwt_2 (List.mem_of_getElem? (i := 88) (by decide +kernel)), Or.inl rfl⟩
theorem gw_356 : GW (Cond.instanceMethod yX5_hour) := ⟨lwt_2 (List.mem_of_getElem? (i := 89) (by decide +kernel)), Or.inl rfl⟩
theorem gw_357 : GW (Cond.selects RX5 yX5_hour yX5_hour) := ⟨lwt_2 (List.mem_of_getElem? (i := 90) (by decide +kernel)), Or.inl rfl⟩
theorem gw_358 : GW (Cond.code yX6_hour cX6_hour 1 (some .int)) := ⟨lwt_4 (List.mem_of_getElem? (i := 26) rfl), Or.inl rfl⟩
theorem gw_359 : GW (Cond.code yX6_hourBy cX6_hourBy 8 (some .int)) := ⟨lwt_4 (List.mem_of_getElem? (i := 34) rfl), Or.inl rfl⟩
theorem gw_360 : GW (Cond.selects RX6 yX6_hourBy yX6_hourBy) := ⟨lwt_0 (List.mem_of_getElem? (i := 25) (by decide +kernel)), Or.inl rfl⟩
theorem gw_361 : GW (Cond.instanceMethod yX6_hourBy) := ⟨lwt_4 (List.mem_of_getElem? (i := 33) (by decide +kernel)), Or.inl rfl⟩
theorem gw_362 : GW (Cond.methodLink RX6 149 yX6_hourBy) := ⟨lwt_4 (List.mem_of_getElem? (i := 31) (by decide +kernel)), Or.inl rfl⟩
theorem gw_363 : GW (Cond.fieldLink RX6 143 "DripEarsModel" "next" "I") := ⟨lwt_3 (List.mem_of_getElem? (i := 129) (by decide +kernel)), Or.inl rfl⟩
theorem gw_364 : GW (Cond.code yX6_keepAct cX6_keepAct 2 none) := ⟨lwt_4 (List.mem_of_getElem? (i := 30) rfl), Or.inl rfl⟩
theorem gw_365 : GW (Cond.selects RX6 yX6_keepAct yX6_keepAct) := ⟨lwt_0 (List.mem_of_getElem? (i := 24) (by decide +kernel)), Or.inl rfl⟩
theorem gw_366 : GW (Cond.instanceMethod yX6_keepAct) := ⟨lwt_4 (List.mem_of_getElem? (i := 29) (by decide +kernel)), Or.inl rfl⟩
theorem gw_367 : GW (Cond.methodLink RX6 146 yX6_keepAct) := ⟨lwt_4 (List.mem_of_getElem? (i := 27) (by decide +kernel)), Or.inl rfl⟩
theorem gw_368 : GW (Cond.static yX6_ones) := ⟨lwt_4 (List.mem_of_getElem? (i := 43) (by decide +kernel)), Or.inl rfl⟩
theorem gw_369 : GW (Cond.methodLink RX6 128 yX6_ones) := ⟨lwt_4 (List.mem_of_getElem? (i := 42) (by decide +kernel)), Or.inl rfl⟩
theorem gw_370 : GW (Cond.code yX6_knownOn cX6_knownOn 4 (some .int)) := ⟨lwt_4 (List.mem_of_getElem? (i := 41) rfl), Or.inl rfl⟩
theorem gw_371 : GW (Cond.selects RX6 yX6_knownOn yX6_knownOn) := ⟨lwt_0 (List.mem_of_getElem? (i := 26) (by decide +kernel)), Or.inl rfl⟩
theorem gw_372 : GW (Cond.instanceMethod yX6_knownOn) := ⟨lwt_4 (List.mem_of_getElem? (i := 40) (by decide +kernel)), Or.inl rfl⟩
theorem gw_373 : GW (Cond.methodLink RX6 125 yX6_knownOn) := ⟨lwt_4 (List.mem_of_getElem? (i := 38) (by decide +kernel)), Or.inl rfl⟩
theorem gw_374 : GW (Cond.code yX6_has cX6_has 2 (some .boolean)) := ⟨lwt_4 (List.mem_of_getElem? (i := 37) rfl), Or.inl rfl⟩
theorem gw_375 : GW (Cond.static yX6_has) := ⟨lwt_4 (List.mem_of_getElem? (i := 36) (by decide +kernel)), Or.inl rfl⟩
theorem gw_376 : GW (Cond.methodLink RX6 121 yX6_has) := ⟨lwt_4 (List.mem_of_getElem? (i := 35) (by decide +kernel)), Or.inl rfl⟩
theorem gw_377 : GW (Cond.code yX6_ones cX6_ones 3 (some .int)) := ⟨lwt_4 (List.mem_of_getElem? (i := 44) rfl), Or.inl rfl⟩
theorem gw_378 : GW (Cond.methodLink RL 43 yX6_hour) := ⟨lwt_4 (List.mem_of_getElem? (i := 23) (by decide +kernel)), Or.inl rfl⟩
theorem gw_379 : GW (Cond.instanceMethod yX6_hour) := ⟨lwt_4 (List.mem_of_getElem? (i := 24) (by decide +kernel)), Or.inl rfl⟩
theorem gw_380 : GW (Cond.selects RX6 yX6_hour yX6_hour) := ⟨lwt_4 (List.mem_of_getElem? (i := 25) (by decide +kernel)), Or.inl rfl⟩
theorem gw_381 : GW (Cond.code yX5_lower cX5_lower 2 (some .int)) := ⟨lwt_2 (List.mem_of_getElem? (i := 133) rfl), Or.inl rfl⟩
theorem gw_382 : GW (Cond.methodLink RX4 106 yX2_hasHouse) := ⟨lwt_2 (List.mem_of_getElem? (i := 138) (by decide +kernel)), Or.inl rfl⟩
theorem gw_383 : GW (Cond.code yX4_canBeLowered cX4_canBeLowered 2 (some .boolean)) := ⟨lwt_2 (List.mem_of_getElem? (i := 137) rfl), Or.inl rfl⟩
theorem gw_384 : GW (Cond.selects RX4 yX4_canBeLowered yX4_canBeLowered) := ⟨lwt_2 (List.mem_of_getElem? (i := 136) (by decide +kernel)), Or.inl rfl⟩
theorem gw_385 : GW (Cond.instanceMethod yX4_canBeLowered) := ⟨lwt_2 (List.mem_of_getElem? (i := 135) (by decide +kernel)), Or.inl rfl⟩
theorem gw_386 : GW (Cond.methodLink RX5 145 yX4_canBeLowered) := ⟨lwt_2 (List.mem_of_getElem? (i := 134) (by decide +kernel)), Or.inl rfl⟩
theorem gw_387 : GW (Cond.methodLink RX4 109 yX4_canBeLowered) := ⟨lwt_2 (List.mem_of_getElem? (i := 143) (by decide +kernel)), Or.inl rfl⟩
theorem gw_388 : GW (Cond.code yX4_tryLowered cX4_tryLowered 2 (some .boolean)) := ⟨lwt_2 (List.mem_of_getElem? (i := 142) rfl), Or.inl rfl⟩
theorem gw_389 : GW (Cond.selects RX4 yX4_tryLowered yX4_tryLowered) := ⟨lwt_2 (List.mem_of_getElem? (i := 141) (by decide +kernel)), Or.inl rfl⟩
theorem gw_390 : GW (Cond.instanceMethod yX4_tryLowered) := ⟨lwt_2 (List.mem_of_getElem? (i := 140) (by decide +kernel)), Or.inl rfl⟩
theorem gw_391 : GW (Cond.methodLink RX5 148 yX4_tryLowered) := ⟨lwt_2 (List.mem_of_getElem? (i := 139) (by decide +kernel)), Or.inl rfl⟩
theorem gw_392 : GW (Cond.methodLink RL 44 yX5_lower) := ⟨lwt_2 (List.mem_of_getElem? (i := 130) (by decide +kernel)), Or.inl rfl⟩
theorem gw_393 : GW (Cond.instanceMethod yX5_lower) := ⟨lwt_2 (List.mem_of_getElem? (i := 131) (by decide +kernel)), Or.inl rfl⟩
theorem gw_394 : GW (Cond.selects RX5 yX5_lower yX5_lower) := ⟨lwt_2 (List.mem_of_getElem? (i := 132) (by decide +kernel)), Or.inl rfl⟩
theorem gw_395 : GW (Cond.code yX6_lower cX6_lower 2 (some .int)) := ⟨lwt_4 (List.mem_of_getElem? (i := 48) rfl), Or.inl rfl⟩
theorem gw_396 : GW (Cond.methodLink RL 47 yX6_lower) := ⟨lwt_4 (List.mem_of_getElem? (i := 45) (by decide +kernel)), Or.inl rfl⟩
theorem gw_397 : GW (Cond.instanceMethod yX6_lower) := ⟨lwt_4 (List.mem_of_getElem? (i := 46) (by decide +kernel)), Or.inl rfl⟩
theorem gw_398 : GW (Cond.selects RX6 yX6_lower yX6_lower) := ⟨lwt_4 (List.mem_of_getElem? (i := 47) (by decide +kernel)), Or.inl rfl⟩
theorem gw_399 : GW (Cond.code yX5_raise cX5_raise 2 (some .int)) := ⟨lwt_2 (List.mem_of_getElem? (i := 147) rfl), Or.inl rfl⟩
theorem gw_400 : GW (Cond.code yX4_canBeRaised cX4_canBeRaised 2 (some .boolean)) := ⟨lwt_2 (List.mem_of_getElem? (i := 151) rfl), Or.inl rfl⟩
theorem gw_401 : GW (Cond.selects RX4 yX4_canBeRaised yX4_canBeRaised) := ⟨lwt_2 (List.mem_of_getElem? (i := 150) (by decide +kernel)), Or.inl rfl⟩
theorem gw_402 : GW (Cond.instanceMethod yX4_canBeRaised) := ⟨lwt_2 (List.mem_of_getElem? (i := 149) (by decide +kernel)), Or.inl rfl⟩
theorem gw_403 : GW (Cond.methodLink RX5 151 yX4_canBeRaised) := ⟨lwt_2 (List.mem_of_getElem? (i := 148) (by decide +kernel)), Or.inl rfl⟩
theorem gw_404 : GW (Cond.methodLink RX4 112 yX4_canBeRaised) := ⟨lwt_2 (List.mem_of_getElem? (i := 156) (by decide +kernel)), Or.inl rfl⟩
theorem gw_405 : GW (Cond.code yX4_tryRaised cX4_tryRaised 2 (some .boolean)) := ⟨lwt_2 (List.mem_of_getElem? (i := 155) rfl), Or.inl rfl⟩
theorem gw_406 : GW (Cond.selects RX4 yX4_tryRaised yX4_tryRaised) := ⟨lwt_2 (List.mem_of_getElem? (i := 154) (by decide +kernel)), Or.inl rfl⟩
theorem gw_407 : GW (Cond.instanceMethod yX4_tryRaised) := ⟨lwt_2 (List.mem_of_getElem? (i := 153) (by decide +kernel)), Or.inl rfl⟩
theorem gw_408 : GW (Cond.methodLink RX5 154 yX4_tryRaised) := ⟨lwt_2 (List.mem_of_getElem? (i := 152) (by decide +kernel)), Or.inl rfl⟩
theorem gw_409 : GW (Cond.methodLink RL 48 yX5_raise) := ⟨lwt_2 (List.mem_of_getElem? (i := 144) (by decide +kernel)), Or.inl rfl⟩
theorem gw_410 : GW (Cond.instanceMethod yX5_raise) := ⟨lwt_2 (List.mem_of_getElem? (i := 145) (by decide +kernel)), Or.inl rfl⟩
theorem gw_411 : GW (Cond.selects RX5 yX5_raise yX5_raise) := ⟨lwt_2 (List.mem_of_getElem? (i := 146) (by decide +kernel)), Or.inl rfl⟩
theorem gw_412 : GW (Cond.code yX6_raise cX6_raise 2 (some .int)) := ⟨lwt_4 (List.mem_of_getElem? (i := 52) rfl), Or.inl rfl⟩
theorem gw_413 : GW (Cond.methodLink RL 51 yX6_raise) := ⟨lwt_4 (List.mem_of_getElem? (i := 49) (by decide +kernel)), Or.inl rfl⟩
theorem gw_414 : GW (Cond.instanceMethod yX6_raise) := ⟨lwt_4 (List.mem_of_getElem? (i := 50) (by decide +kernel)), Or.inl rfl⟩
theorem gw_415 : GW (Cond.selects RX6 yX6_raise yX6_raise) := ⟨lwt_4 (List.mem_of_getElem? (i := 51) (by decide +kernel)), Or.inl rfl⟩
theorem gw_416 : GW (Cond.code yX5_change cX5_change 3 (some .int)) := ⟨lwt_2 (List.mem_of_getElem? (i := 160) rfl), Or.inl rfl⟩
theorem gw_417 : GW (Cond.code yX4_tryChanged cX4_tryChanged 5 (some .boolean)) := ⟨lwt_2 (List.mem_of_getElem? (i := 164) rfl), Or.inl rfl⟩
theorem gw_418 : GW (Cond.selects RX4 yX4_tryChanged yX4_tryChanged) := ⟨lwt_2 (List.mem_of_getElem? (i := 163) (by decide +kernel)), Or.inl rfl⟩
theorem gw_419 : GW (Cond.instanceMethod yX4_tryChanged) := ⟨lwt_2 (List.mem_of_getElem? (i := 162) (by decide +kernel)), Or.inl rfl⟩
theorem gw_420 : GW (Cond.methodLink RX5 157 yX4_tryChanged) := ⟨lwt_2 (List.mem_of_getElem? (i := 161) (by decide +kernel)), Or.inl rfl⟩
theorem gw_421 : GW (Cond.methodLink RL 52 yX5_change) := ⟨lwt_2 (List.mem_of_getElem? (i := 157) (by decide +kernel)), Or.inl rfl⟩
theorem gw_422 : GW (Cond.instanceMethod yX5_change) := ⟨lwt_2 (List.mem_of_getElem? (i := 158) (by decide +kernel)), Or.inl rfl⟩
theorem gw_423 : GW (Cond.selects RX5 yX5_change yX5_change) := ⟨lwt_2 (List.mem_of_getElem? (i := 159) (by decide +kernel)), Or.inl rfl⟩
theorem gw_424 : GW (Cond.code yX6_change cX6_change 3 (some .int)) := ⟨lwt_4 (List.mem_of_getElem? (i := 56) rfl), Or.inl rfl⟩
theorem gw_425 : GW (Cond.code yX6_changeOn cX6_changeOn 6 none) := ⟨lwt_4 (List.mem_of_getElem? (i := 60) rfl), Or.inl rfl⟩
theorem gw_426 : GW (Cond.selects RX6 yX6_changeOn yX6_changeOn) := ⟨lwt_0 (List.mem_of_getElem? (i := 27) (by decide +kernel)), Or.inl rfl⟩
theorem gw_427 : GW (Cond.instanceMethod yX6_changeOn) := ⟨lwt_4 (List.mem_of_getElem? (i := 59) (by decide +kernel)), Or.inl rfl⟩
theorem gw_428 : GW (Cond.methodLink RX6 152 yX6_changeOn) := ⟨lwt_4 (List.mem_of_getElem? (i := 57) (by decide +kernel)), Or.inl rfl⟩
theorem gw_429 : GW (Cond.methodLink RL 55 yX6_change) := ⟨lwt_4 (List.mem_of_getElem? (i := 53) (by decide +kernel)), Or.inl rfl⟩
theorem gw_430 : GW (Cond.instanceMethod yX6_change) := ⟨lwt_4 (List.mem_of_getElem? (i := 54) (by decide +kernel)), Or.inl rfl⟩
theorem gw_431 : GW (Cond.selects RX6 yX6_change yX6_change) := ⟨lwt_4 (List.mem_of_getElem? (i := 55) (by decide +kernel)), Or.inl rfl⟩
theorem gw_432 : GW (Cond.code yX5_plate cX5_plate 2 (some .int)) := ⟨lwt_2 (List.mem_of_getElem? (i := 168) rfl), Or.inl rfl⟩
theorem gw_433 : GW (Cond.code yX2_hasNext cX2_hasNext 2 (some .boolean)) := ⟨lwt_2 (List.mem_of_getElem? (i := 172) rfl), Or.inl rfl⟩
theorem gw_434 : GW (Cond.selects RX2 yX2_hasNext yX2_hasNext) := ⟨lwt_2 (List.mem_of_getElem? (i := 171) (by decide +kernel)), Or.inl rfl⟩
theorem gw_435 : GW (Cond.instanceMethod yX2_hasNext) := ⟨lwt_2 (List.mem_of_getElem? (i := 170) (by decide +kernel)), Or.inl rfl⟩
theorem gw_436 : GW (Cond.methodLink RX5 161 yX2_hasNext) := ⟨lwt_2 (List.mem_of_getElem? (i := 169) (by decide +kernel)), Or.inl rfl⟩
theorem gw_437 : GW (Cond.methodLink RX4 115 yX2_hasNext) := ⟨lwt_2 (List.mem_of_getElem? (i := 177) (by decide +kernel)), Or.inl rfl⟩
theorem gw_438 : GW (Cond.code yX4_tryPlate cX4_tryPlate 2 (some .boolean)) := ⟨lwt_2 (List.mem_of_getElem? (i := 176) rfl), Or.inl rfl⟩
theorem gw_439 : GW (Cond.selects RX4 yX4_tryPlate yX4_tryPlate) := ⟨lwt_2 (List.mem_of_getElem? (i := 175) (by decide +kernel)), Or.inl rfl⟩
theorem gw_440 : GW (Cond.instanceMethod yX4_tryPlate) := ⟨lwt_2 (List.mem_of_getElem? (i := 174) (by decide +kernel)), Or.inl rfl⟩
theorem gw_441 : GW (Cond.methodLink RX5 164 yX4_tryPlate) := ⟨lwt_2 (List.mem_of_getElem? (i := 173) (by decide +kernel)), Or.inl rfl⟩
theorem gw_442 : GW (Cond.methodLink RL 56 yX5_plate) := ⟨lwt_2 (List.mem_of_getElem? (i := 165) (by decide +kernel)), Or.inl rfl⟩
theorem gw_443 : GW (Cond.instanceMethod yX5_plate) := ⟨lwt_2 (List.mem_of_getElem? (i := 166) (by decide +kernel)), Or.inl rfl⟩
theorem gw_444 : GW (Cond.selects RX5 yX5_plate yX5_plate) := ⟨lwt_2 (List.mem_of_getElem? (i := 167) (by decide +kernel)), Or.inl rfl⟩
theorem gw_445 : GW (Cond.code yX6_plate cX6_plate 2 (some .int)) := ⟨lwt_4 (List.mem_of_getElem? (i := 64) rfl), Or.inl rfl⟩
theorem gw_446 : GW (Cond.code yX6_plateOn cX6_plateOn 4 none) := ⟨lwt_4 (List.mem_of_getElem? (i := 68) rfl), Or.inl rfl⟩
theorem gw_447 : GW (Cond.selects RX6 yX6_plateOn yX6_plateOn) := ⟨lwt_0 (List.mem_of_getElem? (i := 28) (by decide +kernel)), Or.inl rfl⟩
theorem gw_448 : GW (Cond.instanceMethod yX6_plateOn) := ⟨lwt_4 (List.mem_of_getElem? (i := 67) (by decide +kernel)), Or.inl rfl⟩
theorem gw_449 : GW (Cond.methodLink RX6 156 yX6_plateOn) := ⟨lwt_4 (List.mem_of_getElem? (i := 65) (by decide +kernel)), Or.inl rfl⟩
theorem gw_450 : GW (Cond.methodLink RL 59 yX6_plate) := ⟨lwt_4 (List.mem_of_getElem? (i := 61) (by decide +kernel)), Or.inl rfl⟩
theorem gw_451 : GW (Cond.instanceMethod yX6_plate) := ⟨lwt_4 (List.mem_of_getElem? (i := 62) (by decide +kernel)), Or.inl rfl⟩
theorem gw_452 : GW (Cond.selects RX6 yX6_plate yX6_plate) := ⟨lwt_4 (List.mem_of_getElem? (i := 63) (by decide +kernel)), Or.inl rfl⟩
theorem gw_453 : GW (Cond.code yX5_undo cX5_undo 1 (some .int)) := ⟨lwt_2 (List.mem_of_getElem? (i := 181) rfl), Or.inl rfl⟩
theorem gw_454 : GW (Cond.code yX0_takeBack cX0_takeBack 2 none) := ⟨lwt_2 (List.mem_of_getElem? (i := 185) rfl), Or.inl rfl⟩
theorem gw_455 : GW (Cond.selects RX0 yX0_takeBack yX0_takeBack) := ⟨lwt_2 (List.mem_of_getElem? (i := 184) (by decide +kernel)), Or.inl rfl⟩
theorem gw_456 : GW (Cond.instanceMethod yX0_takeBack) := ⟨lwt_2 (List.mem_of_getElem? (i := 183) (by decide +kernel)), Or.inl rfl⟩
theorem gw_457 : GW (Cond.methodLink RX5 170 yX0_takeBack) := ⟨lwt_2 (List.mem_of_getElem? (i := 182) (by decide +kernel)), Or.inl rfl⟩
theorem gw_458 : GW (Cond.fieldLink RX5 167 "DripEars$Acts" "size" "I") := ⟨lwt_1 (List.mem_of_getElem? (i := 138) (by decide +kernel)), Or.inl rfl⟩
theorem gw_459 : GW (Cond.methodLink RL 60 yX5_undo) := ⟨lwt_2 (List.mem_of_getElem? (i := 178) (by decide +kernel)), Or.inl rfl⟩
theorem gw_460 : GW (Cond.instanceMethod yX5_undo) := ⟨lwt_2 (List.mem_of_getElem? (i := 179) (by decide +kernel)), Or.inl rfl⟩
theorem gw_461 : GW (Cond.selects RX5 yX5_undo yX5_undo) := ⟨lwt_2 (List.mem_of_getElem? (i := 180) (by decide +kernel)), Or.inl rfl⟩
theorem gw_462 : GW (Cond.code yX6_undo cX6_undo 2 (some .int)) := ⟨lwt_4 (List.mem_of_getElem? (i := 72) rfl), Or.inl rfl⟩
theorem gw_463 : GW (Cond.methodLink RL 63 yX6_undo) := ⟨lwt_4 (List.mem_of_getElem? (i := 69) (by decide +kernel)), Or.inl rfl⟩
theorem gw_464 : GW (Cond.instanceMethod yX6_undo) := ⟨lwt_4 (List.mem_of_getElem? (i := 70) (by decide +kernel)), Or.inl rfl⟩
theorem gw_465 : GW (Cond.selects RX6 yX6_undo yX6_undo) := ⟨lwt_4 (List.mem_of_getElem? (i := 71) (by decide +kernel)), Or.inl rfl⟩
theorem gw_466 : GW (Cond.code yX5_later cX5_later 3 (some .int)) := ⟨lwt_2 (List.mem_of_getElem? (i := 189) rfl), Or.inl rfl⟩
theorem gw_467 : GW (Cond.methodLink RX5 173 yX4_take) := ⟨lwt_2 (List.mem_of_getElem? (i := 190) (by decide +kernel)), Or.inl rfl⟩
theorem gw_468 : GW (Cond.code yX4_passHours cX4_passHours 3 none) := ⟨lwt_2 (List.mem_of_getElem? (i := 194) rfl), Or.inl rfl⟩
theorem gw_469 : GW (Cond.selects RX4 yX4_passHours yX4_passHours) := ⟨lwt_2 (List.mem_of_getElem? (i := 193) (by decide +kernel)), Or.inl rfl⟩
theorem gw_470 : GW (Cond.instanceMethod yX4_passHours) := ⟨lwt_2 (List.mem_of_getElem? (i := 192) (by decide +kernel)), Or.inl rfl⟩
theorem gw_471 : GW (Cond.methodLink RX5 175 yX4_passHours) := ⟨lwt_2 (List.mem_of_getElem? (i := 191) (by decide +kernel)), Or.inl rfl⟩
theorem gw_472 : GW (Cond.methodLink RL 64 yX5_later) := ⟨lwt_2 (List.mem_of_getElem? (i := 186) (by decide +kernel)), Or.inl rfl⟩
theorem gw_473 : GW (Cond.instanceMethod yX5_later) := ⟨lwt_2 (List.mem_of_getElem? (i := 187) (by decide +kernel)), Or.inl rfl⟩
theorem gw_474 : GW (Cond.selects RX5 yX5_later yX5_later) := ⟨lwt_2 (List.mem_of_getElem? (i := 188) (by decide +kernel)), Or.inl rfl⟩
theorem gw_475 : GW (Cond.code yX6_later cX6_later 3 (some .int)) := ⟨lwt_4 (List.mem_of_getElem? (i := 76) rfl), Or.inl rfl⟩
theorem gw_476 : GW (Cond.code yX6_goOn cX6_goOn 3 none) := ⟨lwt_4 (List.mem_of_getElem? (i := 85) rfl), Or.inl rfl⟩
theorem gw_477 : GW (Cond.selects RX6 yX6_goOn yX6_goOn) := ⟨lwt_0 (List.mem_of_getElem? (i := 30) (by decide +kernel)), Or.inl rfl⟩
theorem gw_478 : GW (Cond.instanceMethod yX6_goOn) := ⟨lwt_4 (List.mem_of_getElem? (i := 84) (by decide +kernel)), Or.inl rfl⟩
theorem gw_479 : GW (Cond.methodLink RX6 165 yX6_goOn) := ⟨lwt_4 (List.mem_of_getElem? (i := 82) (by decide +kernel)), Or.inl rfl⟩
theorem gw_480 : GW (Cond.code yX6_layTrial cX6_layTrial 2 none) := ⟨lwt_4 (List.mem_of_getElem? (i := 81) rfl), Or.inl rfl⟩
theorem gw_481 : GW (Cond.selects RX6 yX6_layTrial yX6_layTrial) := ⟨lwt_0 (List.mem_of_getElem? (i := 29) (by decide +kernel)), Or.inl rfl⟩
theorem gw_482 : GW (Cond.instanceMethod yX6_layTrial) := ⟨lwt_4 (List.mem_of_getElem? (i := 80) (by decide +kernel)), Or.inl rfl⟩
theorem gw_483 : GW (Cond.methodLink RX6 162 yX6_layTrial) := ⟨lwt_4 (List.mem_of_getElem? (i := 78) (by decide +kernel)), Or.inl rfl⟩
theorem gw_484 : GW (Cond.constantLong RX6 160 (30)) := ⟨lwt_4 (List.mem_of_getElem? (i := 77) (by decide +kernel)), Or.inl rfl⟩
theorem gw_485 : GW (Cond.methodLink RL 67 yX6_later) := ⟨lwt_4 (List.mem_of_getElem? (i := 73) (by decide +kernel)), Or.inl rfl⟩
theorem gw_486 : GW (Cond.instanceMethod yX6_later) := ⟨lwt_4 (List.mem_of_getElem? (i := 74) (by decide +kernel)), Or.inl rfl⟩
theorem gw_487 : GW (Cond.selects RX6 yX6_later yX6_later) := ⟨lwt_4 (List.mem_of_getElem? (i := 75) (by decide +kernel)), Or.inl rfl⟩
theorem gw_488 : GW (Cond.code yX5_first cX5_first 4 (some .int)) := ⟨lwt_2 (List.mem_of_getElem? (i := 198) rfl), Or.inl rfl⟩
theorem gw_489 : GW (Cond.code yX5_isThing cX5_isThing 1 (some .boolean)) := ⟨lwt_2 (List.mem_of_getElem? (i := 201) rfl), Or.inl rfl⟩
theorem gw_490 : GW (Cond.static yX5_isThing) := ⟨lwt_2 (List.mem_of_getElem? (i := 200) (by decide +kernel)), Or.inl rfl⟩
theorem gw_491 : GW (Cond.methodLink RX5 179 yX5_isThing) := ⟨lwt_2 (List.mem_of_getElem? (i := 199) (by decide +kernel)), Or.inl rfl⟩
theorem gw_492 : GW (Cond.code yX4_knowsThing cX4_knowsThing 3 (some .boolean)) := ⟨lwt_2 (List.mem_of_getElem? (i := 205) rfl), Or.inl rfl⟩
theorem gw_493 : GW (Cond.selects RX4 yX4_knowsThing yX4_knowsThing) := ⟨lwt_2 (List.mem_of_getElem? (i := 204) (by decide +kernel)), Or.inl rfl⟩
theorem gw_494 : GW (Cond.instanceMethod yX4_knowsThing) := ⟨lwt_2 (List.mem_of_getElem? (i := 203) (by decide +kernel)), Or.inl rfl⟩
theorem gw_495 : GW (Cond.methodLink RX5 182 yX4_knowsThing) := ⟨lwt_2 (List.mem_of_getElem? (i := 202) (by decide +kernel)), Or.inl rfl⟩
theorem gw_496 : GW (Cond.methodLink RL 68 yX5_first) := ⟨lwt_2 (List.mem_of_getElem? (i := 195) (by decide +kernel)), Or.inl rfl⟩
theorem gw_497 : GW (Cond.instanceMethod yX5_first) := ⟨lwt_2 (List.mem_of_getElem? (i := 196) (by decide +kernel)), Or.inl rfl⟩
theorem gw_498 : GW (Cond.selects RX5 yX5_first yX5_first) := ⟨lwt_2 (List.mem_of_getElem? (i := 197) (by decide +kernel)), Or.inl rfl⟩
theorem gw_499 : GW (Cond.code yX6_first cX6_first 4 (some .int)) := ⟨lwt_4 (List.mem_of_getElem? (i := 89) rfl), Or.inl rfl⟩
theorem gw_500 : GW (Cond.constantLong RX6 105 (5)) := ⟨lwt_4 (List.mem_of_getElem? (i := 93) (by decide +kernel)), Or.inl rfl⟩
theorem gw_501 : GW (Cond.code yX6_isThing cX6_isThing 1 (some .boolean)) := ⟨lwt_4 (List.mem_of_getElem? (i := 92) rfl), Or.inl rfl⟩
theorem gw_502 : GW (Cond.static yX6_isThing) := ⟨lwt_4 (List.mem_of_getElem? (i := 91) (by decide +kernel)), Or.inl rfl⟩
theorem gw_503 : GW (Cond.methodLink RX6 168 yX6_isThing) := ⟨lwt_4 (List.mem_of_getElem? (i := 90) (by decide +kernel)), Or.inl rfl⟩
theorem gw_504 : GW (Cond.methodLink RL 71 yX6_first) := ⟨lwt_4 (List.mem_of_getElem? (i := 86) (by decide +kernel)), Or.inl rfl⟩
theorem gw_505 : GW (Cond.instanceMethod yX6_first) := ⟨lwt_4 (List.mem_of_getElem? (i := 87) (by decide +kernel)), Or.inl rfl⟩
theorem gw_506 : GW (Cond.selects RX6 yX6_first yX6_first) := ⟨lwt_4 (List.mem_of_getElem? (i := 88) (by decide +kernel)), Or.inl rfl⟩
theorem gw_507 : GW (Cond.code yX5_keeps cX5_keeps 5 (some .int)) := ⟨lwt_2 (List.mem_of_getElem? (i := 209) rfl), Or.inl rfl⟩
theorem gw_508 : GW (Cond.methodLink RX5 282 Lib.Math.min.name) := ⟨lwt_2 (List.mem_of_getElem? (i := 217) (by decide +kernel)), Or.inl rfl⟩
theorem gw_509 : GW (Cond.code yX5_fillFewestLowerings cX5_fillFewestLowerings 8 (some .boolean)) := ⟨lwt_2 (List.mem_of_getElem? (i := 216) rfl), Or.inl rfl⟩
theorem gw_510 : GW (Cond.selects RX5 yX5_fillFewestLowerings yX5_fillFewestLowerings) := ⟨lwt_0 (List.mem_of_getElem? (i := 6) (by decide +kernel)), Or.inl rfl⟩
theorem gw_511 : GW (Cond.instanceMethod yX5_fillFewestLowerings) := ⟨lwt_2 (List.mem_of_getElem? (i := 215) (by decide +kernel)), Or.inl rfl⟩
theorem gw_512 : GW (Cond.methodLink RX5 188 yX5_fillFewestLowerings) := ⟨lwt_2 (List.mem_of_getElem? (i := 213) (by decide +kernel)), Or.inl rfl⟩
theorem gw_513 : GW (Cond.code yX5_isZeroOrOne cX5_isZeroOrOne 1 (some .boolean)) := ⟨lwt_2 (List.mem_of_getElem? (i := 212) rfl), Or.inl rfl⟩
theorem gw_514 : GW (Cond.static yX5_isZeroOrOne) := ⟨lwt_2 (List.mem_of_getElem? (i := 211) (by decide +kernel)), Or.inl rfl⟩
theorem gw_515 : GW (Cond.methodLink RX5 185 yX5_isZeroOrOne) := ⟨lwt_2 (List.mem_of_getElem? (i := 210) (by decide +kernel)), Or.inl rfl⟩
theorem gw_516 : GW (Cond.code yX5_isKeptFrom cX5_isKeptFrom 5 (some .boolean)) := ⟨lwt_2 (List.mem_of_getElem? (i := 221) rfl), Or.inl rfl⟩
theorem gw_517 : GW (Cond.selects RX5 yX5_isKeptFrom yX5_isKeptFrom) := ⟨lwt_0 (List.mem_of_getElem? (i := 7) (by decide +kernel)), Or.inl rfl⟩
theorem gw_518 : GW (Cond.instanceMethod yX5_isKeptFrom) := ⟨lwt_2 (List.mem_of_getElem? (i := 220) (by decide +kernel)), Or.inl rfl⟩
theorem gw_519 : GW (Cond.methodLink RX5 287 yX5_isKeptFrom) := ⟨lwt_2 (List.mem_of_getElem? (i := 218) (by decide +kernel)), Or.inl rfl⟩
theorem gw_520 : GW (Cond.instanceMethod yX5_figuresOfLowerings) := ⟨lwt_2 (List.mem_of_getElem? (i := 228) (by decide +kernel)), Or.inl rfl⟩
theorem gw_521 : GW (Cond.methodLink RX5 195 yX5_figuresOfLowerings) := ⟨lwt_2 (List.mem_of_getElem? (i := 226) (by decide +kernel)), Or.inl rfl⟩
theorem gw_522 : GW (Cond.code yX5_sumOfLowerings cX5_sumOfLowerings 3 (some .int)) := ⟨lwt_2 (List.mem_of_getElem? (i := 225) rfl), Or.inl rfl⟩
theorem gw_523 : GW (Cond.selects RX5 yX5_sumOfLowerings yX5_sumOfLowerings) := ⟨lwt_0 (List.mem_of_getElem? (i := 8) (by decide +kernel)), Or.inl rfl⟩
theorem gw_524 : GW (Cond.instanceMethod yX5_sumOfLowerings) := ⟨lwt_2 (List.mem_of_getElem? (i := 224) (by decide +kernel)), Or.inl rfl⟩
theorem gw_525 : GW (Cond.methodLink RX5 192 yX5_sumOfLowerings) := ⟨lwt_2 (List.mem_of_getElem? (i := 222) (by decide +kernel)), Or.inl rfl⟩
theorem gw_526 : GW (Cond.code yX5_figuresOfLowerings cX5_figuresOfLowerings 3 (some .int)) := ⟨lwt_2 (List.mem_of_getElem? (i := 229) rfl), Or.inl rfl⟩
theorem gw_527 : GW (Cond.selects RX5 yX5_figuresOfLowerings yX5_figuresOfLowerings) := ⟨lwt_0 (List.mem_of_getElem? (i := 9) (by decide +kernel)), Or.inl rfl⟩
theorem gw_528 : GW (Cond.methodLink RL 72 yX5_keeps) := ⟨lwt_2 (List.mem_of_getElem? (i := 206) (by decide +kernel)), Or.inl rfl⟩
theorem gw_529 : GW (Cond.instanceMethod yX5_keeps) := ⟨lwt_2 (List.mem_of_getElem? (i := 207) (by decide +kernel)), Or.inl rfl⟩
theorem gw_530 : GW (Cond.selects RX5 yX5_keeps yX5_keeps) := ⟨lwt_2 (List.mem_of_getElem? (i := 208) (by decide +kernel)), Or.inl rfl⟩
theorem gw_531 : GW (Cond.code yX6_keeps cX6_keeps 10 (some .int)) := ⟨lwt_4 (List.mem_of_getElem? (i := 97) rfl), Or.inl rfl⟩
theorem gw_532 : GW (Cond.code yX6_loweredBy cX6_loweredBy 8 (some .int)) := ⟨lwt_4 (List.mem_of_getElem? (i := 102) rfl), Or.inl rfl⟩
theorem gw_533 : GW (Cond.selects RX6 yX6_loweredBy yX6_loweredBy) := ⟨lwt_0 (List.mem_of_getElem? (i := 31) (by decide +kernel)), Or.inl rfl⟩
theorem gw_534 : GW (Cond.instanceMethod yX6_loweredBy) := ⟨lwt_4 (List.mem_of_getElem? (i := 101) (by decide +kernel)), Or.inl rfl⟩
theorem gw_535 : GW (Cond.methodLink RX6 173 yX6_loweredBy) := ⟨lwt_4 (List.mem_of_getElem? (i := 99) (by decide +kernel)), Or.inl rfl⟩
theorem gw_536 : GW (Cond.constantLong RX6 171 (12)) := ⟨lwt_4 (List.mem_of_getElem? (i := 98) (by decide +kernel)), Or.inl rfl⟩
theorem gw_537 : GW (Cond.instanceMethod yX6_figuresOf) := ⟨lwt_4 (List.mem_of_getElem? (i := 105) (by decide +kernel)), Or.inl rfl⟩
theorem gw_538 : GW (Cond.methodLink RX6 177 yX6_figuresOf) := ⟨lwt_4 (List.mem_of_getElem? (i := 103) (by decide +kernel)), Or.inl rfl⟩
theorem gw_539 : GW (Cond.code yX6_figuresOf cX6_figuresOf 6 (some .int)) := ⟨lwt_4 (List.mem_of_getElem? (i := 106) rfl), Or.inl rfl⟩
theorem gw_540 : GW (Cond.selects RX6 yX6_figuresOf yX6_figuresOf) := ⟨lwt_0 (List.mem_of_getElem? (i := 32) (by decide +kernel)), Or.inl rfl⟩
theorem gw_541 : GW (Cond.methodLink RL 76 yX6_keeps) := ⟨lwt_4 (List.mem_of_getElem? (i := 94) (by decide +kernel)), Or.inl rfl⟩
theorem gw_542 : GW (Cond.instanceMethod yX6_keeps) := ⟨lwt_4 (List.mem_of_getElem? (i := 95) (by decide +kernel)), Or.inl rfl⟩
theorem gw_543 : GW (Cond.selects RX6 yX6_keeps yX6_keeps) := ⟨lwt_4 (List.mem_of_getElem? (i := 96) (by decide +kernel)), Or.inl rfl⟩
theorem gw_544 : GW (Cond.code yX5_tells cX5_tells 6 (some .int)) := ⟨lwt_2 (List.mem_of_getElem? (i := 233) rfl), Or.inl rfl⟩
theorem gw_545 : GW (Cond.methodLink RX5 206 yX4_knownBy) := ⟨lwt_2 (List.mem_of_getElem? (i := 236) (by decide +kernel)), Or.inl rfl⟩
theorem gw_546 : GW (Cond.methodLink RX5 201 yJ6_bitCount_0f7a4) := ⟨lwt_2 (List.mem_of_getElem? (i := 235) (by decide +kernel)), Or.inl rfl⟩
theorem gw_547 : GW (Cond.methodLink RX5 198 yX2_allHouses) := ⟨lwt_2 (List.mem_of_getElem? (i := 234) (by decide +kernel)), Or.inl rfl⟩
theorem gw_548 : GW (Cond.methodLink RL 77 yX5_tells) := ⟨lwt_2 (List.mem_of_getElem? (i := 230) (by decide +kernel)), Or.inl rfl⟩
theorem gw_549 : GW (Cond.instanceMethod yX5_tells) := ⟨lwt_2 (List.mem_of_getElem? (i := 231) (by decide +kernel)), Or.inl rfl⟩
theorem gw_550 : GW (Cond.selects RX5 yX5_tells yX5_tells) := ⟨lwt_2 (List.mem_of_getElem? (i := 232) (by decide +kernel)), Or.inl rfl⟩
theorem gw_551 : GW (Cond.code yX6_tells cX6_tells 6 (some .int)) := ⟨lwt_4 (List.mem_of_getElem? (i := 110) rfl), Or.inl rfl⟩
theorem gw_552 : GW (Cond.code yX6_knownBy cX6_knownBy 4 (some .int)) := ⟨lwt_4 (List.mem_of_getElem? (i := 115) rfl), Or.inl rfl⟩
theorem gw_553 : GW (Cond.selects RX6 yX6_knownBy yX6_knownBy) := ⟨lwt_0 (List.mem_of_getElem? (i := 33) (by decide +kernel)), Or.inl rfl⟩
theorem gw_554 : GW (Cond.instanceMethod yX6_knownBy) := ⟨lwt_4 (List.mem_of_getElem? (i := 114) (by decide +kernel)), Or.inl rfl⟩
theorem gw_555 : GW (Cond.methodLink RX6 182 yX6_knownBy) := ⟨lwt_4 (List.mem_of_getElem? (i := 112) (by decide +kernel)), Or.inl rfl⟩
theorem gw_556 : GW (Cond.constantLong RX6 180 (63)) := ⟨lwt_4 (List.mem_of_getElem? (i := 111) (by decide +kernel)), Or.inl rfl⟩
theorem gw_557 : GW (Cond.methodLink RL 80 yX6_tells) := ⟨lwt_4 (List.mem_of_getElem? (i := 107) (by decide +kernel)), Or.inl rfl⟩
theorem gw_558 : GW (Cond.instanceMethod yX6_tells) := ⟨lwt_4 (List.mem_of_getElem? (i := 108) (by decide +kernel)), Or.inl rfl⟩
theorem gw_559 : GW (Cond.selects RX6 yX6_tells yX6_tells) := ⟨lwt_4 (List.mem_of_getElem? (i := 109) (by decide +kernel)), Or.inl rfl⟩
theorem gw_560 : GW (Cond.code yX5_judge cX5_judge 6 (some .int)) := ⟨lwt_3 (List.mem_of_getElem? (i := 0) rfl), Or.inl rfl⟩
theorem gw_561 : GW (Cond.methodLink RX5 213 yX5_comesAbout) := ⟨lwt_3 (List.mem_of_getElem? (i := 6) (by decide +kernel)), Or.inl rfl⟩
theorem gw_562 : GW (Cond.constantLong RX5 290 (10)) := ⟨lwt_3 (List.mem_of_getElem? (i := 5) (by decide +kernel)), Or.inl rfl⟩
theorem gw_563 : GW (Cond.code yX5_fillDoings cX5_fillDoings 7 (some .boolean)) := ⟨lwt_3 (List.mem_of_getElem? (i := 4) rfl), Or.inl rfl⟩
theorem gw_564 : GW (Cond.selects RX5 yX5_fillDoings yX5_fillDoings) := ⟨lwt_0 (List.mem_of_getElem? (i := 10) (by decide +kernel)), Or.inl rfl⟩
theorem gw_565 : GW (Cond.instanceMethod yX5_fillDoings) := ⟨lwt_3 (List.mem_of_getElem? (i := 3) (by decide +kernel)), Or.inl rfl⟩
theorem gw_566 : GW (Cond.methodLink RX5 209 yX5_fillDoings) := ⟨lwt_3 (List.mem_of_getElem? (i := 1) (by decide +kernel)), Or.inl rfl⟩
theorem gw_567 : GW (Cond.fieldLink RX5 271 "DripEars$Scene" "dry" "I") := ⟨lwt_1 (List.mem_of_getElem? (i := 111) (by decide +kernel)), Or.inl rfl⟩
theorem gw_568 : GW (Cond.code yX5_comesAbout cX5_comesAbout 4 (some .boolean)) := ⟨lwt_3 (List.mem_of_getElem? (i := 9) rfl), Or.inl rfl⟩
theorem gw_569 : GW (Cond.selects RX5 yX5_comesAbout yX5_comesAbout) := ⟨lwt_0 (List.mem_of_getElem? (i := 11) (by decide +kernel)), Or.inl rfl⟩
theorem gw_570 : GW (Cond.instanceMethod yX5_comesAbout) := ⟨lwt_3 (List.mem_of_getElem? (i := 8) (by decide +kernel)), Or.inl rfl⟩
theorem gw_571 : GW (Cond.methodLink RL 83 yX5_judge) := ⟨lwt_2 (List.mem_of_getElem? (i := 237) (by decide +kernel)), Or.inl rfl⟩
theorem gw_572 : GW (Cond.instanceMethod yX5_judge) := ⟨lwt_2 (List.mem_of_getElem? (i := 238) (by decide +kernel)), Or.inl rfl⟩
theorem gw_573 : GW (Cond.selects RX5 yX5_judge yX5_judge) := ⟨lwt_2 (List.mem_of_getElem? (i := 239) (by decide +kernel)), Or.inl rfl⟩
theorem gw_574 : GW (Cond.code yX6_judge cX6_judge 6 (some .int)) := ⟨lwt_4 (List.mem_of_getElem? (i := 119) rfl), Or.inl rfl⟩
theorem gw_575 : GW (Cond.code yX6_tryThing cX6_tryThing 8 (some .boolean)) := ⟨lwt_4 (List.mem_of_getElem? (i := 128) rfl), Or.inl rfl⟩
theorem gw_576 : GW (Cond.selects RX6 yX6_tryThing yX6_tryThing) := ⟨lwt_0 (List.mem_of_getElem? (i := 34) (by decide +kernel)), Or.inl rfl⟩
theorem gw_577 : GW (Cond.instanceMethod yX6_tryThing) := ⟨lwt_4 (List.mem_of_getElem? (i := 127) (by decide +kernel)), Or.inl rfl⟩
theorem gw_578 : GW (Cond.methodLink RX6 193 yX6_tryThing) := ⟨lwt_4 (List.mem_of_getElem? (i := 125) (by decide +kernel)), Or.inl rfl⟩
theorem gw_579 : GW (Cond.code yX6_thousandTo cX6_thousandTo 4 (some .long)) := ⟨lwt_4 (List.mem_of_getElem? (i := 123) rfl), Or.inl rfl⟩
theorem gw_580 : GW (Cond.static yX6_thousandTo) := ⟨lwt_4 (List.mem_of_getElem? (i := 122) (by decide +kernel)), Or.inl rfl⟩
theorem gw_581 : GW (Cond.methodLink RX6 189 yX6_thousandTo) := ⟨lwt_4 (List.mem_of_getElem? (i := 121) (by decide +kernel)), Or.inl rfl⟩
theorem gw_582 : GW (Cond.constantLong RX6 185 (1000)) := ⟨lwt_4 (List.mem_of_getElem? (i := 124) (by decide +kernel)), Or.inl rfl⟩
theorem gw_583 : GW (Cond.constantLong RX6 187 (4)) := ⟨lwt_4 (List.mem_of_getElem? (i := 120) (by decide +kernel)), Or.inl rfl⟩
theorem gw_584 : GW (Cond.methodLink RL 87 yX6_judge) := ⟨lwt_4 (List.mem_of_getElem? (i := 116) (by decide +kernel)), Or.inl rfl⟩
theorem gw_585 : GW (Cond.instanceMethod yX6_judge) := ⟨lwt_4 (List.mem_of_getElem? (i := 117) (by decide +kernel)), Or.inl rfl⟩
theorem gw_586 : GW (Cond.selects RX6 yX6_judge yX6_judge) := ⟨lwt_4 (List.mem_of_getElem? (i := 118) (by decide +kernel)), Or.inl rfl⟩
theorem gw_587 : GW (Cond.code yX5_hear cX5_hear 4 (some .int)) := ⟨lwt_3 (List.mem_of_getElem? (i := 13) rfl), Or.inl rfl⟩
theorem gw_588 : GW (Cond.fieldLink RX1 22 "DripEars$Heard" "size" "I") := ⟨lwt_1 (List.mem_of_getElem? (i := 155) (by decide +kernel)), Or.inl rfl⟩
theorem gw_589 : GW (Cond.code yX1_add cX1_add 4 none) := ⟨lwt_3 (List.mem_of_getElem? (i := 20) rfl), Or.inl rfl⟩
theorem gw_590 : GW (Cond.selects RX1 yX1_add yX1_add) := ⟨lwt_3 (List.mem_of_getElem? (i := 19) (by decide +kernel)), Or.inl rfl⟩
theorem gw_591 : GW (Cond.instanceMethod yX1_add) := ⟨lwt_3 (List.mem_of_getElem? (i := 18) (by decide +kernel)), Or.inl rfl⟩
theorem gw_592 : GW (Cond.methodLink RX5 220 yX1_add) := ⟨lwt_3 (List.mem_of_getElem? (i := 17) (by decide +kernel)), Or.inl rfl⟩
theorem gw_593 : GW (Cond.code yX5_isFigure cX5_isFigure 1 (some .boolean)) := ⟨lwt_3 (List.mem_of_getElem? (i := 16) rfl), Or.inl rfl⟩
theorem gw_594 : GW (Cond.static yX5_isFigure) := ⟨lwt_3 (List.mem_of_getElem? (i := 15) (by decide +kernel)), Or.inl rfl⟩
theorem gw_595 : GW (Cond.methodLink RX5 216 yX5_isFigure) := ⟨lwt_3 (List.mem_of_getElem? (i := 14) (by decide +kernel)), Or.inl rfl⟩
theorem gw_596 : GW (Cond.fieldLink RX5 219 "DripEars$Heard" "size" "I") := ⟨lwt_1 (List.mem_of_getElem? (i := 156) (by decide +kernel)), Or.inl rfl⟩
theorem gw_597 : GW (Cond.methodLink RL 88 yX5_hear) := ⟨lwt_3 (List.mem_of_getElem? (i := 10) (by decide +kernel)), Or.inl rfl⟩
theorem gw_598 : GW (Cond.instanceMethod yX5_hear) := ⟨lwt_3 (List.mem_of_getElem? (i := 11) (by decide +kernel)), Or.inl rfl⟩
theorem gw_599 : GW (Cond.selects RX5 yX5_hear yX5_hear) := ⟨lwt_3 (List.mem_of_getElem? (i := 12) (by decide +kernel)), Or.inl rfl⟩
theorem gw_600 : GW (Cond.code yX6_hear cX6_hear 4 (some .int)) := ⟨lwt_4 (List.mem_of_getElem? (i := 132) rfl), Or.inl rfl⟩
theorem gw_601 : GW (Cond.fieldLink RX6 199 "DripEarsModel" "heard" "I") := ⟨lwt_3 (List.mem_of_getElem? (i := 131) (by decide +kernel)), Or.inl rfl⟩
theorem gw_602 : GW (Cond.constantLong RX6 197 (9)) := ⟨lwt_4 (List.mem_of_getElem? (i := 133) (by decide +kernel)), Or.inl rfl⟩
theorem gw_603 : GW (Cond.methodLink RL 92 yX6_hear) := ⟨lwt_4 (List.mem_of_getElem? (i := 129) (by decide +kernel)), Or.inl rfl⟩
theorem gw_604 : GW (Cond.instanceMethod yX6_hear) := ⟨lwt_4 (List.mem_of_getElem? (i := 130) (by decide +kernel)), Or.inl rfl⟩
theorem gw_605 : GW (Cond.selects RX6 yX6_hear yX6_hear) := ⟨lwt_4 (List.mem_of_getElem? (i := 131) (by decide +kernel)), Or.inl rfl⟩
theorem gw_606 : GW (Cond.code yX5_unhear cX5_unhear 2 (some .int)) := ⟨lwt_3 (List.mem_of_getElem? (i := 24) rfl), Or.inl rfl⟩
theorem gw_607 : GW (Cond.methodLink RL 93 yX5_unhear) := ⟨lwt_3 (List.mem_of_getElem? (i := 21) (by decide +kernel)), Or.inl rfl⟩
theorem gw_608 : GW (Cond.instanceMethod yX5_unhear) := ⟨lwt_3 (List.mem_of_getElem? (i := 22) (by decide +kernel)), Or.inl rfl⟩
theorem gw_609 : GW (Cond.selects RX5 yX5_unhear yX5_unhear) := ⟨lwt_3 (List.mem_of_getElem? (i := 23) (by decide +kernel)), Or.inl rfl⟩
theorem gw_610 : GW (Cond.code yX6_unhear cX6_unhear 2 (some .int)) := ⟨lwt_4 (List.mem_of_getElem? (i := 137) rfl), Or.inl rfl⟩
theorem gw_611 : GW (Cond.methodLink RL 96 yX6_unhear) := ⟨lwt_4 (List.mem_of_getElem? (i := 134) (by decide +kernel)), Or.inl rfl⟩
theorem gw_612 : GW (Cond.instanceMethod yX6_unhear) := ⟨lwt_4 (List.mem_of_getElem? (i := 135) (by decide +kernel)), Or.inl rfl⟩
theorem gw_613 : GW (Cond.selects RX6 yX6_unhear yX6_unhear) := ⟨lwt_4 (List.mem_of_getElem? (i := 136) (by decide +kernel)), Or.inl rfl⟩
theorem gw_614 : GW (Cond.code yX5_ears cX5_ears 6 (some .int)) := ⟨lwt_3 (List.mem_of_getElem? (i := 28) rfl), Or.inl rfl⟩
theorem gw_615 : GW (Cond.code yX1_fits cX1_fits 5 (some .boolean)) := ⟨lwt_3 (List.mem_of_getElem? (i := 32) rfl), Or.inl rfl⟩
theorem gw_616 : GW (Cond.selects RX1 yX1_fits yX1_fits) := ⟨lwt_3 (List.mem_of_getElem? (i := 31) (by decide +kernel)), Or.inl rfl⟩
theorem gw_617 : GW (Cond.instanceMethod yX1_fits) := ⟨lwt_3 (List.mem_of_getElem? (i := 30) (by decide +kernel)), Or.inl rfl⟩
theorem gw_618 : GW (Cond.methodLink RX5 224 yX1_fits) := ⟨lwt_3 (List.mem_of_getElem? (i := 29) (by decide +kernel)), Or.inl rfl⟩
theorem gw_619 : GW (Cond.methodLink RL 97 yX5_ears) := ⟨lwt_3 (List.mem_of_getElem? (i := 25) (by decide +kernel)), Or.inl rfl⟩
theorem gw_620 : GW (Cond.instanceMethod yX5_ears) := ⟨lwt_3 (List.mem_of_getElem? (i := 26) (by decide +kernel)), Or.inl rfl⟩
theorem gw_621 : GW (Cond.selects RX5 yX5_ears yX5_ears) := ⟨lwt_3 (List.mem_of_getElem? (i := 27) (by decide +kernel)), Or.inl rfl⟩
theorem gw_622 : GW (Cond.code yX6_ears cX6_ears 8 (some .int)) := ⟨lwt_4 (List.mem_of_getElem? (i := 141) rfl), Or.inl rfl⟩
theorem gw_623 : GW (Cond.methodLink RL 100 yX6_ears) := ⟨lwt_4 (List.mem_of_getElem? (i := 138) (by decide +kernel)), Or.inl rfl⟩
theorem gw_624 : GW (Cond.instanceMethod yX6_ears) := ⟨lwt_4 (List.mem_of_getElem? (i := 139) (by decide +kernel)), Or.inl rfl⟩
theorem gw_625 : GW (Cond.selects RX6 yX6_ears yX6_ears) := ⟨lwt_4 (List.mem_of_getElem? (i := 140) (by decide +kernel)), Or.inl rfl⟩
theorem gw_626 : GW (Cond.code yX5_share cX5_share 6 (some .int)) := ⟨lwt_3 (List.mem_of_getElem? (i := 37) rfl), Or.inl rfl⟩
theorem gw_627 : GW (Cond.code yX5_fraction cX5_fraction 4 (some .int)) := ⟨lwt_3 (List.mem_of_getElem? (i := 44) rfl), Or.inl rfl⟩
theorem gw_628 : GW (Cond.static yX5_fraction) := ⟨lwt_3 (List.mem_of_getElem? (i := 43) (by decide +kernel)), Or.inl rfl⟩
theorem gw_629 : GW (Cond.methodLink RX5 230 yX5_fraction) := ⟨lwt_3 (List.mem_of_getElem? (i := 42) (by decide +kernel)), Or.inl rfl⟩
theorem gw_630 : GW (Cond.code yX4_knowersOf cX4_knowersOf 4 (some .int)) := ⟨lwt_3 (List.mem_of_getElem? (i := 41) rfl), Or.inl rfl⟩
theorem gw_631 : GW (Cond.selects RX4 yX4_knowersOf yX4_knowersOf) := ⟨lwt_3 (List.mem_of_getElem? (i := 40) (by decide +kernel)), Or.inl rfl⟩
theorem gw_632 : GW (Cond.instanceMethod yX4_knowersOf) := ⟨lwt_3 (List.mem_of_getElem? (i := 39) (by decide +kernel)), Or.inl rfl⟩
theorem gw_633 : GW (Cond.methodLink RX5 227 yX4_knowersOf) := ⟨lwt_3 (List.mem_of_getElem? (i := 38) (by decide +kernel)), Or.inl rfl⟩
theorem gw_634 : GW (Cond.code yX5_greatestDivisor cX5_greatestDivisor 6 (some .int)) := ⟨lwt_3 (List.mem_of_getElem? (i := 47) rfl), Or.inl rfl⟩
theorem gw_635 : GW (Cond.static yX5_greatestDivisor) := ⟨lwt_3 (List.mem_of_getElem? (i := 46) (by decide +kernel)), Or.inl rfl⟩
theorem gw_636 : GW (Cond.methodLink RX5 278 yX5_greatestDivisor) := ⟨lwt_3 (List.mem_of_getElem? (i := 45) (by decide +kernel)), Or.inl rfl⟩
theorem gw_637 : GW (Cond.methodLink RL 101 yX5_share) := ⟨lwt_3 (List.mem_of_getElem? (i := 34) (by decide +kernel)), Or.inl rfl⟩
theorem gw_638 : GW (Cond.instanceMethod yX5_share) := ⟨lwt_3 (List.mem_of_getElem? (i := 35) (by decide +kernel)), Or.inl rfl⟩
theorem gw_639 : GW (Cond.selects RX5 yX5_share yX5_share) := ⟨lwt_3 (List.mem_of_getElem? (i := 36) (by decide +kernel)), Or.inl rfl⟩
theorem gw_640 : GW (Cond.code yX6_share cX6_share 6 (some .int)) := ⟨lwt_4 (List.mem_of_getElem? (i := 145) rfl), Or.inl rfl⟩
theorem gw_641 : GW (Cond.code yX6_factorial cX6_factorial 3 (some .int)) := ⟨lwt_4 (List.mem_of_getElem? (i := 148) rfl), Or.inl rfl⟩
theorem gw_642 : GW (Cond.static yX6_factorial) := ⟨lwt_4 (List.mem_of_getElem? (i := 147) (by decide +kernel)), Or.inl rfl⟩
theorem gw_643 : GW (Cond.methodLink RX6 202 yX6_factorial) := ⟨lwt_4 (List.mem_of_getElem? (i := 146) (by decide +kernel)), Or.inl rfl⟩
theorem gw_644 : GW (Cond.code yX6_common cX6_common 5 (some .int)) := ⟨lwt_4 (List.mem_of_getElem? (i := 151) rfl), Or.inl rfl⟩
theorem gw_645 : GW (Cond.static yX6_common) := ⟨lwt_4 (List.mem_of_getElem? (i := 150) (by decide +kernel)), Or.inl rfl⟩
theorem gw_646 : GW (Cond.methodLink RX6 205 yX6_common) := ⟨lwt_4 (List.mem_of_getElem? (i := 149) (by decide +kernel)), Or.inl rfl⟩
theorem gw_647 : GW (Cond.methodLink RL 105 yX6_share) := ⟨lwt_4 (List.mem_of_getElem? (i := 142) (by decide +kernel)), Or.inl rfl⟩
theorem gw_648 : GW (Cond.instanceMethod yX6_share) := ⟨lwt_4 (List.mem_of_getElem? (i := 143) (by decide +kernel)), Or.inl rfl⟩
theorem gw_649 : GW (Cond.selects RX6 yX6_share yX6_share) := ⟨lwt_4 (List.mem_of_getElem? (i := 144) (by decide +kernel)), Or.inl rfl⟩
theorem gw_650 : GW (Cond.code yX5_rests cX5_rests 7 (some .int)) := ⟨lwt_3 (List.mem_of_getElem? (i := 51) rfl), Or.inl rfl⟩
theorem gw_651 : GW (Cond.code yX5_fillChoices cX5_fillChoices 6 none) := ⟨lwt_3 (List.mem_of_getElem? (i := 55) rfl), Or.inl rfl⟩
theorem gw_652 : GW (Cond.selects RX5 yX5_fillChoices yX5_fillChoices) := ⟨lwt_0 (List.mem_of_getElem? (i := 12) (by decide +kernel)), Or.inl rfl⟩
theorem gw_653 : GW (Cond.instanceMethod yX5_fillChoices) := ⟨lwt_3 (List.mem_of_getElem? (i := 54) (by decide +kernel)), Or.inl rfl⟩
theorem gw_654 : GW (Cond.methodLink RX5 234 yX5_fillChoices) := ⟨lwt_3 (List.mem_of_getElem? (i := 52) (by decide +kernel)), Or.inl rfl⟩
theorem gw_655 : GW (Cond.methodLink RL 106 yX5_rests) := ⟨lwt_3 (List.mem_of_getElem? (i := 48) (by decide +kernel)), Or.inl rfl⟩
theorem gw_656 : GW (Cond.instanceMethod yX5_rests) := ⟨lwt_3 (List.mem_of_getElem? (i := 49) (by decide +kernel)), Or.inl rfl⟩
theorem gw_657 : GW (Cond.selects RX5 yX5_rests yX5_rests) := ⟨lwt_3 (List.mem_of_getElem? (i := 50) (by decide +kernel)), Or.inl rfl⟩
theorem gw_658 : GW (Cond.code yX6_rests cX6_rests 7 (some .int)) := ⟨lwt_4 (List.mem_of_getElem? (i := 155) rfl), Or.inl rfl⟩
theorem gw_659 : GW (Cond.code yX6_gain cX6_gain 5 (some .int)) := ⟨lwt_4 (List.mem_of_getElem? (i := 163) rfl), Or.inl rfl⟩
theorem gw_660 : GW (Cond.selects RX6 yX6_gain yX6_gain) := ⟨lwt_0 (List.mem_of_getElem? (i := 36) (by decide +kernel)), Or.inl rfl⟩
theorem gw_661 : GW (Cond.instanceMethod yX6_gain) := ⟨lwt_4 (List.mem_of_getElem? (i := 162) (by decide +kernel)), Or.inl rfl⟩
theorem gw_662 : GW (Cond.methodLink RX6 208 yX6_gain) := ⟨lwt_4 (List.mem_of_getElem? (i := 160) (by decide +kernel)), Or.inl rfl⟩
theorem gw_663 : GW (Cond.code yX6_isRest cX6_isRest 5 (some .boolean)) := ⟨lwt_4 (List.mem_of_getElem? (i := 159) rfl), Or.inl rfl⟩
theorem gw_664 : GW (Cond.selects RX6 yX6_isRest yX6_isRest) := ⟨lwt_0 (List.mem_of_getElem? (i := 35) (by decide +kernel)), Or.inl rfl⟩
theorem gw_665 : GW (Cond.instanceMethod yX6_isRest) := ⟨lwt_4 (List.mem_of_getElem? (i := 158) (by decide +kernel)), Or.inl rfl⟩
theorem gw_666 : GW (Cond.methodLink RX6 211 yX6_isRest) := ⟨lwt_4 (List.mem_of_getElem? (i := 156) (by decide +kernel)), Or.inl rfl⟩
theorem gw_667 : GW (Cond.methodLink RL 109 yX6_rests) := ⟨lwt_4 (List.mem_of_getElem? (i := 152) (by decide +kernel)), Or.inl rfl⟩
theorem gw_668 : GW (Cond.instanceMethod yX6_rests) := ⟨lwt_4 (List.mem_of_getElem? (i := 153) (by decide +kernel)), Or.inl rfl⟩
theorem gw_669 : GW (Cond.selects RX6 yX6_rests yX6_rests) := ⟨lwt_4 (List.mem_of_getElem? (i := 154) (by decide +kernel)), Or.inl rfl⟩
theorem gw_670 : GW (Cond.code yX5_dries cX5_dries 9 (some .int)) := ⟨lwt_3 (List.mem_of_getElem? (i := 59) rfl), Or.inl rfl⟩
theorem gw_671 : GW (Cond.fieldLink RX5 265 "DripEars$Scene" "hour" "I") := ⟨lwt_1 (List.mem_of_getElem? (i := 113) (by decide +kernel)), Or.inl rfl⟩
theorem gw_672 : GW (Cond.code yX5_knowsBehind cX5_knowsBehind 7 (some .boolean)) := ⟨lwt_3 (List.mem_of_getElem? (i := 66) rfl), Or.inl rfl⟩
theorem gw_673 : GW (Cond.selects RX5 yX5_knowsBehind yX5_knowsBehind) := ⟨lwt_0 (List.mem_of_getElem? (i := 13) (by decide +kernel)), Or.inl rfl⟩
theorem gw_674 : GW (Cond.instanceMethod yX5_knowsBehind) := ⟨lwt_3 (List.mem_of_getElem? (i := 65) (by decide +kernel)), Or.inl rfl⟩
theorem gw_675 : GW (Cond.methodLink RX5 242 yX5_knowsBehind) := ⟨lwt_3 (List.mem_of_getElem? (i := 63) (by decide +kernel)), Or.inl rfl⟩
theorem gw_676 : GW (Cond.code yX5_weightOf cX5_weightOf 5 (some .int)) := ⟨lwt_3 (List.mem_of_getElem? (i := 62) rfl), Or.inl rfl⟩
theorem gw_677 : GW (Cond.static yX5_weightOf) := ⟨lwt_3 (List.mem_of_getElem? (i := 61) (by decide +kernel)), Or.inl rfl⟩
theorem gw_678 : GW (Cond.methodLink RX5 238 yX5_weightOf) := ⟨lwt_3 (List.mem_of_getElem? (i := 60) (by decide +kernel)), Or.inl rfl⟩
theorem gw_679 : GW (Cond.methodLink RX5 292 yX4_passHourBy) := ⟨lwt_3 (List.mem_of_getElem? (i := 68) (by decide +kernel)), Or.inl rfl⟩
theorem gw_680 : GW (Cond.methodLink RX5 268 yX2_rainAt) := ⟨lwt_3 (List.mem_of_getElem? (i := 67) (by decide +kernel)), Or.inl rfl⟩
theorem gw_681 : GW (Cond.code yX5_tenToThe cX5_tenToThe 3 (some .int)) := ⟨lwt_3 (List.mem_of_getElem? (i := 71) rfl), Or.inl rfl⟩
theorem gw_682 : GW (Cond.static yX5_tenToThe) := ⟨lwt_3 (List.mem_of_getElem? (i := 70) (by decide +kernel)), Or.inl rfl⟩
theorem gw_683 : GW (Cond.methodLink RX5 246 yX5_tenToThe) := ⟨lwt_3 (List.mem_of_getElem? (i := 69) (by decide +kernel)), Or.inl rfl⟩
theorem gw_684 : GW (Cond.methodLink RL 110 yX5_dries) := ⟨lwt_3 (List.mem_of_getElem? (i := 56) (by decide +kernel)), Or.inl rfl⟩
theorem gw_685 : GW (Cond.instanceMethod yX5_dries) := ⟨lwt_3 (List.mem_of_getElem? (i := 57) (by decide +kernel)), Or.inl rfl⟩
theorem gw_686 : GW (Cond.selects RX5 yX5_dries yX5_dries) := ⟨lwt_3 (List.mem_of_getElem? (i := 58) (by decide +kernel)), Or.inl rfl⟩
theorem gw_687 : GW (Cond.code yX6_dries cX6_dries 11 (some .int)) := ⟨lwt_4 (List.mem_of_getElem? (i := 167) rfl), Or.inl rfl⟩
theorem gw_688 : GW (Cond.constantLong RX6 216 (10)) := ⟨lwt_4 (List.mem_of_getElem? (i := 169) (by decide +kernel)), Or.inl rfl⟩
theorem gw_689 : GW (Cond.constantLong RX6 214 (6)) := ⟨lwt_4 (List.mem_of_getElem? (i := 168) (by decide +kernel)), Or.inl rfl⟩
theorem gw_690 : GW (Cond.methodLink RL 114 yX6_dries) := ⟨lwt_4 (List.mem_of_getElem? (i := 164) (by decide +kernel)), Or.inl rfl⟩
theorem gw_691 : GW (Cond.instanceMethod yX6_dries) := ⟨lwt_4 (List.mem_of_getElem? (i := 165) (by decide +kernel)), Or.inl rfl⟩
theorem gw_692 : GW (Cond.selects RX6 yX6_dries yX6_dries) := ⟨lwt_4 (List.mem_of_getElem? (i := 166) (by decide +kernel)), Or.inl rfl⟩
theorem gw_693 : GW (Cond.code yX5_seed cX5_seed 5 (some .long)) := ⟨lwt_3 (List.mem_of_getElem? (i := 75) rfl), Or.inl rfl⟩
theorem gw_694 : GW (Cond.fieldLink RX5 249 "DripEars" "seedNow" "J") := ⟨lwt_1 (List.mem_of_getElem? (i := 176) (by decide +kernel)), Or.inl rfl⟩
theorem gw_695 : GW (Cond.methodLink RL 115 yX5_seed) := ⟨lwt_3 (List.mem_of_getElem? (i := 72) (by decide +kernel)), Or.inl rfl⟩
theorem gw_696 : GW (Cond.instanceMethod yX5_seed) := ⟨lwt_3 (List.mem_of_getElem? (i := 73) (by decide +kernel)), Or.inl rfl⟩
theorem gw_697 : GW (Cond.selects RX5 yX5_seed yX5_seed) := ⟨lwt_3 (List.mem_of_getElem? (i := 74) (by decide +kernel)), Or.inl rfl⟩
theorem gw_698 : GW (Cond.code yX6_seed cX6_seed 5 (some .long)) := ⟨lwt_4 (List.mem_of_getElem? (i := 173) rfl), Or.inl rfl⟩
theorem gw_699 : GW (Cond.fieldLink RX6 218 "DripEarsModel" "seed" "J") := ⟨lwt_3 (List.mem_of_getElem? (i := 135) (by decide +kernel)), Or.inl rfl⟩
theorem gw_700 : GW (Cond.methodLink RL 119 yX6_seed) := ⟨lwt_4 (List.mem_of_getElem? (i := 170) (by decide +kernel)), Or.inl rfl⟩
theorem gw_701 : GW (Cond.instanceMethod yX6_seed) := ⟨lwt_4 (List.mem_of_getElem? (i := 171) (by decide +kernel)), Or.inl rfl⟩
theorem gw_702 : GW (Cond.selects RX6 yX6_seed yX6_seed) := ⟨lwt_4 (List.mem_of_getElem? (i := 172) (by decide +kernel)), Or.inl rfl⟩
theorem gw_703 : GW (Cond.code yX5_years cX5_years 4 (some .int)) := ⟨lwt_3 (List.mem_of_getElem? (i := 79) rfl), Or.inl rfl⟩
theorem gw_704 : GW (Cond.selects RX5 yX5_doByLot yX5_doByLot) := ⟨lwt_0 (List.mem_of_getElem? (i := 14) (by decide +kernel)), Or.inl rfl⟩
theorem gw_705 : GW (Cond.instanceMethod yX5_doByLot) := ⟨lwt_3 (List.mem_of_getElem? (i := 85) (by decide +kernel)), Or.inl rfl⟩
theorem gw_706 : GW (Cond.methodLink RX5 259 yX5_doByLot) := ⟨lwt_3 (List.mem_of_getElem? (i := 83) (by decide +kernel)), Or.inl rfl⟩
theorem gw_707 : GW (Cond.constantLong RX5 257 (31)) := ⟨lwt_3 (List.mem_of_getElem? (i := 82) (by decide +kernel)), Or.inl rfl⟩
theorem gw_708 : GW (Cond.constantLong RX5 255 (1442695040888963407)) := ⟨lwt_3 (List.mem_of_getElem? (i := 81) (by decide +kernel)), Or.inl rfl⟩
theorem gw_709 : GW (Cond.constantLong RX5 253 (6364136223846793005)) := ⟨lwt_3 (List.mem_of_getElem? (i := 80) (by decide +kernel)), Or.inl rfl⟩
theorem gw_710 : GW (Cond.code yX5_doByLot cX5_doByLot 2 none) := ⟨lwt_3 (List.mem_of_getElem? (i := 86) rfl), Or.inl rfl⟩
theorem gw_711 : GW (Cond.code yX4_allKnown cX4_allKnown 3 (some .int)) := ⟨lwt_3 (List.mem_of_getElem? (i := 90) rfl), Or.inl rfl⟩
theorem gw_712 : GW (Cond.selects RX4 yX4_allKnown yX4_allKnown) := ⟨lwt_3 (List.mem_of_getElem? (i := 89) (by decide +kernel)), Or.inl rfl⟩
theorem gw_713 : GW (Cond.instanceMethod yX4_allKnown) := ⟨lwt_3 (List.mem_of_getElem? (i := 88) (by decide +kernel)), Or.inl rfl⟩
theorem gw_714 : GW (Cond.methodLink RX5 262 yX4_allKnown) := ⟨lwt_3 (List.mem_of_getElem? (i := 87) (by decide +kernel)), Or.inl rfl⟩
theorem gw_715 : GW (Cond.methodLink RL 120 yX5_years) := ⟨lwt_3 (List.mem_of_getElem? (i := 76) (by decide +kernel)), Or.inl rfl⟩
theorem gw_716 : GW (Cond.instanceMethod yX5_years) := ⟨lwt_3 (List.mem_of_getElem? (i := 77) (by decide +kernel)), Or.inl rfl⟩
theorem gw_717 : GW (Cond.selects RX5 yX5_years yX5_years) := ⟨lwt_3 (List.mem_of_getElem? (i := 78) (by decide +kernel)), Or.inl rfl⟩
theorem gw_718 : GW (Cond.code yX6_years cX6_years 5 (some .int)) := ⟨lwt_4 (List.mem_of_getElem? (i := 177) rfl), Or.inl rfl⟩
theorem gw_719 : GW (Cond.constantLong RX6 226 (32)) := ⟨lwt_4 (List.mem_of_getElem? (i := 180) (by decide +kernel)), Or.inl rfl⟩
theorem gw_720 : GW (Cond.constantLong RX6 224 (1442695040888963407)) := ⟨lwt_4 (List.mem_of_getElem? (i := 179) (by decide +kernel)), Or.inl rfl⟩
theorem gw_721 : GW (Cond.constantLong RX6 222 (6364136223846793005)) := ⟨lwt_4 (List.mem_of_getElem? (i := 178) (by decide +kernel)), Or.inl rfl⟩
theorem gw_722 : GW (Cond.code yX6_knownTogether cX6_knownTogether 3 (some .int)) := ⟨lwt_4 (List.mem_of_getElem? (i := 184) rfl), Or.inl rfl⟩
theorem gw_723 : GW (Cond.selects RX6 yX6_knownTogether yX6_knownTogether) := ⟨lwt_0 (List.mem_of_getElem? (i := 37) (by decide +kernel)), Or.inl rfl⟩
theorem gw_724 : GW (Cond.instanceMethod yX6_knownTogether) := ⟨lwt_4 (List.mem_of_getElem? (i := 183) (by decide +kernel)), Or.inl rfl⟩
theorem gw_725 : GW (Cond.methodLink RX6 228 yX6_knownTogether) := ⟨lwt_4 (List.mem_of_getElem? (i := 181) (by decide +kernel)), Or.inl rfl⟩
theorem gw_726 : GW (Cond.methodLink RL 123 yX6_years) := ⟨lwt_4 (List.mem_of_getElem? (i := 174) (by decide +kernel)), Or.inl rfl⟩
theorem gw_727 : GW (Cond.instanceMethod yX6_years) := ⟨lwt_4 (List.mem_of_getElem? (i := 175) (by decide +kernel)), Or.inl rfl⟩
theorem gw_728 : GW (Cond.selects RX6 yX6_years yX6_years) := ⟨lwt_4 (List.mem_of_getElem? (i := 176) (by decide +kernel)), Or.inl rfl⟩
theorem gw_729 : GW (Cond.code yX5_keep cX5_keep 2 (some .int)) := ⟨lwt_3 (List.mem_of_getElem? (i := 94) rfl), Or.inl rfl⟩
theorem gw_730 : GW (Cond.methodLink RL 124 yX5_keep) := ⟨lwt_3 (List.mem_of_getElem? (i := 91) (by decide +kernel)), Or.inl rfl⟩
theorem gw_731 : GW (Cond.instanceMethod yX5_keep) := ⟨lwt_3 (List.mem_of_getElem? (i := 92) (by decide +kernel)), Or.inl rfl⟩
theorem gw_732 : GW (Cond.selects RX5 yX5_keep yX5_keep) := ⟨lwt_3 (List.mem_of_getElem? (i := 93) (by decide +kernel)), Or.inl rfl⟩
theorem gw_733 : GW (Cond.code yX6_keep cX6_keep 3 (some .int)) := ⟨lwt_4 (List.mem_of_getElem? (i := 188) rfl), Or.inl rfl⟩
theorem gw_734 : GW (Cond.methodLink RL 127 yX6_keep) := ⟨lwt_4 (List.mem_of_getElem? (i := 185) (by decide +kernel)), Or.inl rfl⟩
theorem gw_735 : GW (Cond.instanceMethod yX6_keep) := ⟨lwt_4 (List.mem_of_getElem? (i := 186) (by decide +kernel)), Or.inl rfl⟩
theorem gw_736 : GW (Cond.selects RX6 yX6_keep yX6_keep) := ⟨lwt_4 (List.mem_of_getElem? (i := 187) (by decide +kernel)), Or.inl rfl⟩
theorem gw_737 : GW (Cond.code yX5_again cX5_again 2 (some .int)) := ⟨lwt_3 (List.mem_of_getElem? (i := 98) rfl), Or.inl rfl⟩
theorem gw_738 : GW (Cond.methodLink RL 128 yX5_again) := ⟨lwt_3 (List.mem_of_getElem? (i := 95) (by decide +kernel)), Or.inl rfl⟩
theorem gw_739 : GW (Cond.instanceMethod yX5_again) := ⟨lwt_3 (List.mem_of_getElem? (i := 96) (by decide +kernel)), Or.inl rfl⟩
theorem gw_740 : GW (Cond.selects RX5 yX5_again yX5_again) := ⟨lwt_3 (List.mem_of_getElem? (i := 97) (by decide +kernel)), Or.inl rfl⟩
theorem gw_741 : GW (Cond.code yX6_again cX6_again 3 (some .int)) := ⟨lwt_4 (List.mem_of_getElem? (i := 192) rfl), Or.inl rfl⟩
theorem gw_742 : GW (Cond.methodLink RL 131 yX6_again) := ⟨lwt_4 (List.mem_of_getElem? (i := 189) (by decide +kernel)), Or.inl rfl⟩
theorem gw_743 : GW (Cond.instanceMethod yX6_again) := ⟨lwt_4 (List.mem_of_getElem? (i := 190) (by decide +kernel)), Or.inl rfl⟩
theorem gw_744 : GW (Cond.selects RX6 yX6_again yX6_again) := ⟨lwt_4 (List.mem_of_getElem? (i := 191) (by decide +kernel)), Or.inl rfl⟩
theorem gw_745 : GW (Cond.code yX5_count cX5_count 2 (some .int)) := ⟨lwt_3 (List.mem_of_getElem? (i := 102) rfl), Or.inl rfl⟩
theorem gw_746 : GW (Cond.methodLink RX5 274 yX4_areStrayed) := ⟨lwt_3 (List.mem_of_getElem? (i := 103) (by decide +kernel)), Or.inl rfl⟩
theorem gw_747 : GW (Cond.methodLink RL 132 yX5_count) := ⟨lwt_3 (List.mem_of_getElem? (i := 99) (by decide +kernel)), Or.inl rfl⟩
theorem gw_748 : GW (Cond.instanceMethod yX5_count) := ⟨lwt_3 (List.mem_of_getElem? (i := 100) (by decide +kernel)), Or.inl rfl⟩
theorem gw_749 : GW (Cond.selects RX5 yX5_count yX5_count) := ⟨lwt_3 (List.mem_of_getElem? (i := 101) (by decide +kernel)), Or.inl rfl⟩
theorem gw_750 : GW (Cond.code yX6_count cX6_count 2 (some .int)) := ⟨lwt_4 (List.mem_of_getElem? (i := 196) rfl), Or.inl rfl⟩
theorem gw_751 : GW (Cond.selects RX6 yX6_hearingHouses yX6_hearingHouses) := ⟨lwt_0 (List.mem_of_getElem? (i := 38) (by decide +kernel)), Or.inl rfl⟩
theorem gw_752 : GW (Cond.instanceMethod yX6_hearingHouses) := ⟨lwt_4 (List.mem_of_getElem? (i := 199) (by decide +kernel)), Or.inl rfl⟩
theorem gw_753 : GW (Cond.methodLink RX6 231 yX6_hearingHouses) := ⟨lwt_4 (List.mem_of_getElem? (i := 197) (by decide +kernel)), Or.inl rfl⟩
theorem gw_754 : GW (Cond.code yX6_hearingHouses cX6_hearingHouses 3 (some .int)) := ⟨lwt_4 (List.mem_of_getElem? (i := 200) rfl), Or.inl rfl⟩
theorem gw_755 : GW (Cond.methodLink RL 135 yX6_count) := ⟨lwt_4 (List.mem_of_getElem? (i := 193) (by decide +kernel)), Or.inl rfl⟩
theorem gw_756 : GW (Cond.instanceMethod yX6_count) := ⟨lwt_4 (List.mem_of_getElem? (i := 194) (by decide +kernel)), Or.inl rfl⟩
theorem gw_757 : GW (Cond.selects RX6 yX6_count yX6_count) := ⟨lwt_4 (List.mem_of_getElem? (i := 195) (by decide +kernel)), Or.inl rfl⟩
