/-! words of the tables, by their places; what classes lay; what throws need -/
theorem mw4 : Cond.initialized RX4 ∈ lw_tbl := (List.mem_append_right (k2_sels lw_privs) (List.mem_of_getElem? (i := 4) (by decide +kernel)) : _ ∈ k2_sels lw_privs ++ tables_1)
theorem mw6 : Cond.initialized RX6 ∈ lw_tbl := (List.mem_append_right (k2_sels lw_privs) (List.mem_of_getElem? (i := 6) (by decide +kernel)) : _ ∈ k2_sels lw_privs ++ tables_1)
theorem mw34 : Cond.instanceMethod objectInit ∈ lw_tbl := (List.mem_append_right (k2_sels lw_privs) (List.mem_of_getElem? (i := 34) (by decide +kernel)) : _ ∈ k2_sels lw_privs ++ tables_1)
theorem mw35 : Cond.code objectInit ⟨#[0xb1]⟩ 1 none ∈ lw_tbl := (List.mem_append_right (k2_sels lw_privs) (List.mem_of_getElem? (i := 35) (by decide +kernel)) : _ ∈ k2_sels lw_privs ++ tables_1)
theorem mw51 : Cond.instantiable RX4 3 ∈ lw_tbl := (List.mem_append_right (k2_sels lw_privs) (List.mem_of_getElem? (i := 51) (by decide +kernel)) : _ ∈ k2_sels lw_privs ++ tables_1)
theorem mw53 : Cond.instanceMethod yX4_init ∈ lw_tbl := (List.mem_append_right (k2_sels lw_privs) (List.mem_of_getElem? (i := 53) (by decide +kernel)) : _ ∈ k2_sels lw_privs ++ tables_1)
theorem mw54 : Cond.code yX4_init cX4_init 1 none ∈ lw_tbl := (List.mem_append_right (k2_sels lw_privs) (List.mem_of_getElem? (i := 54) (by decide +kernel)) : _ ∈ k2_sels lw_privs ++ tables_1)
theorem mw55 : Cond.methodLink RX4 3 objectInit ∈ lw_tbl := (List.mem_append_right (k2_sels lw_privs) (List.mem_of_getElem? (i := 55) (by decide +kernel)) : _ ∈ k2_sels lw_privs ++ tables_1)
theorem mw56 : Cond.fieldLink RX4 9 "BranchQuarry$Point" "tops" "[J" ∈ lw_tbl := (List.mem_append_right (k2_sels lw_privs) (List.mem_of_getElem? (i := 56) (by decide +kernel)) : _ ∈ k2_sels lw_privs ++ tables_1)
theorem mw61 : Cond.fieldLink RX4 15 "BranchQuarry$Point" "bottom" "J" ∈ lw_tbl := (List.mem_append_right (k2_sels lw_privs) (List.mem_of_getElem? (i := 61) (by decide +kernel)) : _ ∈ k2_sels lw_privs ++ tables_1)
theorem mw75 : Cond.arrayClass .int ∈ lw_tbl := (List.mem_append_right (k2_sels lw_privs) (List.mem_of_getElem? (i := 75) (by decide +kernel)) : _ ∈ k2_sels lw_privs ++ tables_1)
theorem mw77 : Cond.arrayClass .long ∈ lw_tbl := (List.mem_append_right (k2_sels lw_privs) (List.mem_of_getElem? (i := 77) (by decide +kernel)) : _ ∈ k2_sels lw_privs ++ tables_1)
theorem mw83 : Cond.methodLink RX0 3 objectInit ∈ lw_tbl := (List.mem_append_right (k2_sels lw_privs) (List.mem_of_getElem? (i := 83) (by decide +kernel)) : _ ∈ k2_sels lw_privs ++ tables_1)
theorem mw84 : Cond.classLink RX0 9 RX4 ∈ lw_tbl := (List.mem_append_right (k2_sels lw_privs) (List.mem_of_getElem? (i := 84) (by decide +kernel)) : _ ∈ k2_sels lw_privs ++ tables_1)
theorem mw86 : Cond.classLink RX0 18 "[[I" ∈ lw_tbl := (List.mem_append_right (k2_sels lw_privs) (List.mem_of_getElem? (i := 86) (by decide +kernel)) : _ ∈ k2_sels lw_privs ++ tables_1)
theorem mw88 : Cond.classLink RX0 27 "[[J" ∈ lw_tbl := (List.mem_append_right (k2_sels lw_privs) (List.mem_of_getElem? (i := 88) (by decide +kernel)) : _ ∈ k2_sels lw_privs ++ tables_1)
theorem mw90 : Cond.fieldLink RX0 12 "BranchQuarry$Corner" "found" "LBranchQuarry$Point;" ∈ lw_tbl := (List.mem_append_right (k2_sels lw_privs) (List.mem_of_getElem? (i := 90) (by decide +kernel)) : _ ∈ k2_sels lw_privs ++ tables_1)
theorem mw92 : Cond.fieldLink RX0 20 "BranchQuarry$Corner" "factors" "[[I" ∈ lw_tbl := (List.mem_append_right (k2_sels lw_privs) (List.mem_of_getElem? (i := 92) (by decide +kernel)) : _ ∈ k2_sels lw_privs ++ tables_1)
theorem mw93 : Cond.fieldLink RX0 23 "BranchQuarry$Corner" "limits" "[I" ∈ lw_tbl := (List.mem_append_right (k2_sels lw_privs) (List.mem_of_getElem? (i := 93) (by decide +kernel)) : _ ∈ k2_sels lw_privs ++ tables_1)
theorem mw94 : Cond.fieldLink RX0 29 "BranchQuarry$Corner" "moves" "[[J" ∈ lw_tbl := (List.mem_append_right (k2_sels lw_privs) (List.mem_of_getElem? (i := 94) (by decide +kernel)) : _ ∈ k2_sels lw_privs ++ tables_1)
theorem mw95 : Cond.fieldLink RX0 32 "BranchQuarry$Corner" "costMoves" "[J" ∈ lw_tbl := (List.mem_append_right (k2_sels lw_privs) (List.mem_of_getElem? (i := 95) (by decide +kernel)) : _ ∈ k2_sels lw_privs ++ tables_1)
theorem mw96 : Cond.fieldLink RX0 36 "BranchQuarry$Corner" "rates" "[J" ∈ lw_tbl := (List.mem_append_right (k2_sels lw_privs) (List.mem_of_getElem? (i := 96) (by decide +kernel)) : _ ∈ k2_sels lw_privs ++ tables_1)
theorem mw97 : Cond.fieldLink RX0 39 "BranchQuarry$Corner" "costs" "[I" ∈ lw_tbl := (List.mem_append_right (k2_sels lw_privs) (List.mem_of_getElem? (i := 97) (by decide +kernel)) : _ ∈ k2_sels lw_privs ++ tables_1)
theorem mw119 : Cond.instantiable RX6 3 ∈ lw_tbl := (List.mem_append_right (k2_sels lw_privs) (List.mem_of_getElem? (i := 119) (by decide +kernel)) : _ ∈ k2_sels lw_privs ++ tables_1)
theorem mw121 : Cond.instanceMethod yX6_init ∈ lw_tbl := (List.mem_append_right (k2_sels lw_privs) (List.mem_of_getElem? (i := 121) (by decide +kernel)) : _ ∈ k2_sels lw_privs ++ tables_1)
theorem mw122 : Cond.code yX6_init cX6_init 1 none ∈ lw_tbl := (List.mem_append_right (k2_sels lw_privs) (List.mem_of_getElem? (i := 122) (by decide +kernel)) : _ ∈ k2_sels lw_privs ++ tables_1)
theorem mw123 : Cond.methodLink RX6 3 objectInit ∈ lw_tbl := (List.mem_append_right (k2_sels lw_privs) (List.mem_of_getElem? (i := 123) (by decide +kernel)) : _ ∈ k2_sels lw_privs ++ tables_1)
theorem mw124 : Cond.fieldLink RX6 9 "BranchQuarry$Row" "factors" "[I" ∈ lw_tbl := (List.mem_append_right (k2_sels lw_privs) (List.mem_of_getElem? (i := 124) (by decide +kernel)) : _ ∈ k2_sels lw_privs ++ tables_1)
theorem mw137 : Cond.fieldLink RX6 15 "BranchQuarry$Row" "sense" "C" ∈ lw_tbl := (List.mem_append_right (k2_sels lw_privs) (List.mem_of_getElem? (i := 137) (by decide +kernel)) : _ ∈ k2_sels lw_privs ++ tables_1)
theorem mw214 : Cond.methodLink RX1 3 objectInit ∈ lw_tbl := (List.mem_append_right (k2_sels lw_privs) (List.mem_of_getElem? (i := 214) (by decide +kernel)) : _ ∈ k2_sels lw_privs ++ tables_1)
theorem mw215 : Cond.fieldLink RX1 9 "BranchQuarry$Cover" "factors" "[I" ∈ lw_tbl := (List.mem_append_right (k2_sels lw_privs) (List.mem_of_getElem? (i := 215) (by decide +kernel)) : _ ∈ k2_sels lw_privs ++ tables_1)
theorem mw219 : Cond.fieldLink RX1 15 "BranchQuarry$Cover" "weights" "[I" ∈ lw_tbl := (List.mem_append_right (k2_sels lw_privs) (List.mem_of_getElem? (i := 219) (by decide +kernel)) : _ ∈ k2_sels lw_privs ++ tables_1)
theorem mw239 : Cond.methodLink RX3 3 objectInit ∈ lw_tbl := (List.mem_append_right (k2_sels lw_privs) (List.mem_of_getElem? (i := 239) (by decide +kernel)) : _ ∈ k2_sels lw_privs ++ tables_1)
theorem mw240 : Cond.classLink RX3 18 RX4 ∈ lw_tbl := (List.mem_append_right (k2_sels lw_privs) (List.mem_of_getElem? (i := 240) (by decide +kernel)) : _ ∈ k2_sels lw_privs ++ tables_1)
theorem mw242 : Cond.fieldLink RX3 9 "BranchQuarry$Node" "lowest" "[I" ∈ lw_tbl := (List.mem_append_right (k2_sels lw_privs) (List.mem_of_getElem? (i := 242) (by decide +kernel)) : _ ∈ k2_sels lw_privs ++ tables_1)
theorem mw245 : Cond.fieldLink RX3 15 "BranchQuarry$Node" "highest" "[I" ∈ lw_tbl := (List.mem_append_right (k2_sels lw_privs) (List.mem_of_getElem? (i := 245) (by decide +kernel)) : _ ∈ k2_sels lw_privs ++ tables_1)
theorem mw248 : Cond.fieldLink RX3 21 "BranchQuarry$Node" "found" "LBranchQuarry$Point;" ∈ lw_tbl := (List.mem_append_right (k2_sels lw_privs) (List.mem_of_getElem? (i := 248) (by decide +kernel)) : _ ∈ k2_sels lw_privs ++ tables_1)
theorem mw251 : Cond.fieldLink RX3 29 "BranchQuarry$Node" "number" "I" ∈ lw_tbl := (List.mem_append_right (k2_sels lw_privs) (List.mem_of_getElem? (i := 251) (by decide +kernel)) : _ ∈ k2_sels lw_privs ++ tables_1)
theorem mw260 : Cond.fieldLink RX3 25 "BranchQuarry$Node" "state" "C" ∈ lw_tbl := (List.mem_append_right (k2_sels lw_privs) (List.mem_of_getElem? (i := 260) (by decide +kernel)) : _ ∈ k2_sels lw_privs ++ tables_1)
theorem mw286 : Cond.methodLink RX2 3 objectInit ∈ lw_tbl := (List.mem_append_right (k2_sels lw_privs) (List.mem_of_getElem? (i := 286) (by decide +kernel)) : _ ∈ k2_sels lw_privs ++ tables_1)
theorem mw287 : Cond.classLink RX2 9 RX6 ∈ lw_tbl := (List.mem_append_right (k2_sels lw_privs) (List.mem_of_getElem? (i := 287) (by decide +kernel)) : _ ∈ k2_sels lw_privs ++ tables_1)
theorem mw289 : Cond.fieldLink RX2 12 "BranchQuarry$Cut" "row" "LBranchQuarry$Row;" ∈ lw_tbl := (List.mem_append_right (k2_sels lw_privs) (List.mem_of_getElem? (i := 289) (by decide +kernel)) : _ ∈ k2_sels lw_privs ++ tables_1)
theorem iw_0 : ∀ w ∈ u_ws RX0 TX0 9, w ∈ z_good := by
  intro w hw
  obtain ⟨k, hk, rfl⟩ := List.mem_map.mp hw
  have hk := List.mem_range.mp hk
  match k, hk with
  | 0, _ => exact z_mem (w := Cond.laysFinal RX0 "BranchQuarry$Corner" "found" "LBranchQuarry$Point;") (List.mem_append_right (k2_sels lw_privs) (List.mem_of_getElem? (i := 100) (by decide +kernel)) : _ ∈ k2_sels lw_privs ++ tables_1) rfl
  | 1, _ => exact z_mem (w := Cond.laysFinal RX0 "BranchQuarry$Corner" "factors" "[[I") (List.mem_append_right (k2_sels lw_privs) (List.mem_of_getElem? (i := 102) (by decide +kernel)) : _ ∈ k2_sels lw_privs ++ tables_1) rfl
  | 2, _ => exact z_mem (w := Cond.laysFinal RX0 "BranchQuarry$Corner" "limits" "[I") (List.mem_append_right (k2_sels lw_privs) (List.mem_of_getElem? (i := 104) (by decide +kernel)) : _ ∈ k2_sels lw_privs ++ tables_1) rfl
  | 3, _ => exact z_mem (w := Cond.laysFinal RX0 "BranchQuarry$Corner" "moves" "[[J") (List.mem_append_right (k2_sels lw_privs) (List.mem_of_getElem? (i := 106) (by decide +kernel)) : _ ∈ k2_sels lw_privs ++ tables_1) rfl
  | 4, _ => exact z_mem (w := Cond.laysFinal RX0 "BranchQuarry$Corner" "costMoves" "[J") (List.mem_append_right (k2_sels lw_privs) (List.mem_of_getElem? (i := 108) (by decide +kernel)) : _ ∈ k2_sels lw_privs ++ tables_1) rfl
  | 5, _ => exact z_mem (w := Cond.laysFinal RX0 "BranchQuarry$Corner" "rates" "[J") (List.mem_append_right (k2_sels lw_privs) (List.mem_of_getElem? (i := 110) (by decide +kernel)) : _ ∈ k2_sels lw_privs ++ tables_1) rfl
  | 6, _ => exact z_mem (w := Cond.laysFinal RX0 "BranchQuarry$Corner" "costs" "[I") (List.mem_append_right (k2_sels lw_privs) (List.mem_of_getElem? (i := 112) (by decide +kernel)) : _ ∈ k2_sels lw_privs ++ tables_1) rfl
  | 7, _ => exact z_mem (w := Cond.lays RX0 "BranchQuarry$Corner" "limitCount" "I") (List.mem_append_right (k2_sels lw_privs) (List.mem_of_getElem? (i := 114) (by decide +kernel)) : _ ∈ k2_sels lw_privs ++ tables_1) rfl
  | 8, _ => exact z_mem (w := Cond.lays RX0 "BranchQuarry$Corner" "columnCount" "I") (List.mem_append_right (k2_sels lw_privs) (List.mem_of_getElem? (i := 116) (by decide +kernel)) : _ ∈ k2_sels lw_privs ++ tables_1) rfl
  | k + 9, h => exact absurd h (by omega)
theorem zd_0 : ∀ j, j < 9 → defaultValue (tyX0 j) = vp_V [.null, .null, .null, .null, .null, .null, .null, .int 0, .int 0] j := by
  intro j hj
  match j, hj with
  | 0, _ => rfl
  | 1, _ => rfl
  | 2, _ => rfl
  | 3, _ => rfl
  | 4, _ => rfl
  | 5, _ => rfl
  | 6, _ => rfl
  | 7, _ => rfl
  | 8, _ => rfl
  | k + 9, h => exact absurd h (by omega)
theorem iw_1 : ∀ w ∈ u_ws RX1 TX1 5, w ∈ z_good := by
  intro w hw
  obtain ⟨k, hk, rfl⟩ := List.mem_map.mp hw
  have hk := List.mem_range.mp hk
  match k, hk with
  | 0, _ => exact z_mem (w := Cond.laysFinal RX1 "BranchQuarry$Cover" "factors" "[I") (List.mem_append_right (k2_sels lw_privs) (List.mem_of_getElem? (i := 222) (by decide +kernel)) : _ ∈ k2_sels lw_privs ++ tables_1) rfl
  | 1, _ => exact z_mem (w := Cond.lays RX1 "BranchQuarry$Cover" "limit" "I") (List.mem_append_right (k2_sels lw_privs) (List.mem_of_getElem? (i := 224) (by decide +kernel)) : _ ∈ k2_sels lw_privs ++ tables_1) rfl
  | 2, _ => exact z_mem (w := Cond.laysFinal RX1 "BranchQuarry$Cover" "weights" "[I") (List.mem_append_right (k2_sels lw_privs) (List.mem_of_getElem? (i := 226) (by decide +kernel)) : _ ∈ k2_sels lw_privs ++ tables_1) rfl
  | 3, _ => exact z_mem (w := Cond.lays RX1 "BranchQuarry$Cover" "room" "I") (List.mem_append_right (k2_sels lw_privs) (List.mem_of_getElem? (i := 228) (by decide +kernel)) : _ ∈ k2_sels lw_privs ++ tables_1) rfl
  | 4, _ => exact z_mem (w := Cond.lays RX1 "BranchQuarry$Cover" "cover" "I") (List.mem_append_right (k2_sels lw_privs) (List.mem_of_getElem? (i := 230) (by decide +kernel)) : _ ∈ k2_sels lw_privs ++ tables_1) rfl
  | k + 5, h => exact absurd h (by omega)
theorem zd_1 : ∀ j, j < 5 → defaultValue (tyX1 j) = vp_V [.null, .int 0, .null, .int 0, .int 0] j := by
  intro j hj
  match j, hj with
  | 0, _ => rfl
  | 1, _ => rfl
  | 2, _ => rfl
  | 3, _ => rfl
  | 4, _ => rfl
  | k + 5, h => exact absurd h (by omega)
theorem iw_2 : ∀ w ∈ u_ws RX2 TX2 6, w ∈ z_good := by
  intro w hw
  obtain ⟨k, hk, rfl⟩ := List.mem_map.mp hw
  have hk := List.mem_range.mp hk
  match k, hk with
  | 0, _ => exact z_mem (w := Cond.laysFinal RX2 "BranchQuarry$Cut" "row" "LBranchQuarry$Row;") (List.mem_append_right (k2_sels lw_privs) (List.mem_of_getElem? (i := 300) (by decide +kernel)) : _ ∈ k2_sels lw_privs ++ tables_1) rfl
  | 1, _ => exact z_mem (w := Cond.lays RX2 "BranchQuarry$Cut" "kind" "C") (List.mem_append_right (k2_sels lw_privs) (List.mem_of_getElem? (i := 302) (by decide +kernel)) : _ ∈ k2_sels lw_privs ++ tables_1) rfl
  | 2, _ => exact z_mem (w := Cond.lays RX2 "BranchQuarry$Cut" "age" "I") (List.mem_append_right (k2_sels lw_privs) (List.mem_of_getElem? (i := 304) (by decide +kernel)) : _ ∈ k2_sels lw_privs ++ tables_1) rfl
  | 3, _ => exact z_mem (w := Cond.lays RX2 "BranchQuarry$Cut" "home" "LBranchQuarry$Node;") (List.mem_append_right (k2_sels lw_privs) (List.mem_of_getElem? (i := 306) (by decide +kernel)) : _ ∈ k2_sels lw_privs ++ tables_1) rfl
  | 4, _ => exact z_mem (w := Cond.lays RX2 "BranchQuarry$Cut" "column" "I") (List.mem_append_right (k2_sels lw_privs) (List.mem_of_getElem? (i := 308) (by decide +kernel)) : _ ∈ k2_sels lw_privs ++ tables_1) rfl
  | 5, _ => exact z_mem (w := Cond.lays RX2 "BranchQuarry$Cut" "other" "I") (List.mem_append_right (k2_sels lw_privs) (List.mem_of_getElem? (i := 310) (by decide +kernel)) : _ ∈ k2_sels lw_privs ++ tables_1) rfl
  | k + 6, h => exact absurd h (by omega)
theorem zd_2 : ∀ j, j < 6 → defaultValue (tyX2 j) = vp_V [.null, .int 0, .int 0, .null, .int 0, .int 0] j := by
  intro j hj
  match j, hj with
  | 0, _ => rfl
  | 1, _ => rfl
  | 2, _ => rfl
  | 3, _ => rfl
  | 4, _ => rfl
  | 5, _ => rfl
  | k + 6, h => exact absurd h (by omega)
theorem iw_3 : ∀ w ∈ u_ws RX3 TX3 9, w ∈ z_good := by
  intro w hw
  obtain ⟨k, hk, rfl⟩ := List.mem_map.mp hw
  have hk := List.mem_range.mp hk
  match k, hk with
  | 0, _ => exact z_mem (w := Cond.laysFinal RX3 "BranchQuarry$Node" "lowest" "[I") (List.mem_append_right (k2_sels lw_privs) (List.mem_of_getElem? (i := 263) (by decide +kernel)) : _ ∈ k2_sels lw_privs ++ tables_1) rfl
  | 1, _ => exact z_mem (w := Cond.laysFinal RX3 "BranchQuarry$Node" "highest" "[I") (List.mem_append_right (k2_sels lw_privs) (List.mem_of_getElem? (i := 265) (by decide +kernel)) : _ ∈ k2_sels lw_privs ++ tables_1) rfl
  | 2, _ => exact z_mem (w := Cond.laysFinal RX3 "BranchQuarry$Node" "found" "LBranchQuarry$Point;") (List.mem_append_right (k2_sels lw_privs) (List.mem_of_getElem? (i := 267) (by decide +kernel)) : _ ∈ k2_sels lw_privs ++ tables_1) rfl
  | 3, _ => exact z_mem (w := Cond.laysFinal RX3 "BranchQuarry$Node" "number" "I") (List.mem_append_right (k2_sels lw_privs) (List.mem_of_getElem? (i := 269) (by decide +kernel)) : _ ∈ k2_sels lw_privs ++ tables_1) rfl
  | 4, _ => exact z_mem (w := Cond.lays RX3 "BranchQuarry$Node" "above" "LBranchQuarry$Node;") (List.mem_append_right (k2_sels lw_privs) (List.mem_of_getElem? (i := 271) (by decide +kernel)) : _ ∈ k2_sels lw_privs ++ tables_1) rfl
  | 5, _ => exact z_mem (w := Cond.lays RX3 "BranchQuarry$Node" "depth" "I") (List.mem_append_right (k2_sels lw_privs) (List.mem_of_getElem? (i := 273) (by decide +kernel)) : _ ∈ k2_sels lw_privs ++ tables_1) rfl
  | 6, _ => exact z_mem (w := Cond.lays RX3 "BranchQuarry$Node" "column" "I") (List.mem_append_right (k2_sels lw_privs) (List.mem_of_getElem? (i := 275) (by decide +kernel)) : _ ∈ k2_sels lw_privs ++ tables_1) rfl
  | 7, _ => exact z_mem (w := Cond.lays RX3 "BranchQuarry$Node" "isUp" "Z") (List.mem_append_right (k2_sels lw_privs) (List.mem_of_getElem? (i := 277) (by decide +kernel)) : _ ∈ k2_sels lw_privs ++ tables_1) rfl
  | 8, _ => exact z_mem (w := Cond.lays RX3 "BranchQuarry$Node" "state" "C") (List.mem_append_right (k2_sels lw_privs) (List.mem_of_getElem? (i := 279) (by decide +kernel)) : _ ∈ k2_sels lw_privs ++ tables_1) rfl
  | k + 9, h => exact absurd h (by omega)
theorem zd_3 : ∀ j, j < 9 → defaultValue (tyX3 j) = vp_V [.null, .null, .null, .int 0, .null, .int 0, .int 0, .int 0, .int 0] j := by
  intro j hj
  match j, hj with
  | 0, _ => rfl
  | 1, _ => rfl
  | 2, _ => rfl
  | 3, _ => rfl
  | 4, _ => rfl
  | 5, _ => rfl
  | 6, _ => rfl
  | 7, _ => rfl
  | 8, _ => rfl
  | k + 9, h => exact absurd h (by omega)
theorem iw_4 : ∀ w ∈ u_ws RX4 TX4 3, w ∈ z_good := by
  intro w hw
  obtain ⟨k, hk, rfl⟩ := List.mem_map.mp hw
  have hk := List.mem_range.mp hk
  match k, hk with
  | 0, _ => exact z_mem (w := Cond.laysFinal RX4 "BranchQuarry$Point" "tops" "[J") (List.mem_append_right (k2_sels lw_privs) (List.mem_of_getElem? (i := 68) (by decide +kernel)) : _ ∈ k2_sels lw_privs ++ tables_1) rfl
  | 1, _ => exact z_mem (w := Cond.lays RX4 "BranchQuarry$Point" "bottom" "J") (List.mem_append_right (k2_sels lw_privs) (List.mem_of_getElem? (i := 70) (by decide +kernel)) : _ ∈ k2_sels lw_privs ++ tables_1) rfl
  | 2, _ => exact z_mem (w := Cond.lays RX4 "BranchQuarry$Point" "costTop" "J") (List.mem_append_right (k2_sels lw_privs) (List.mem_of_getElem? (i := 72) (by decide +kernel)) : _ ∈ k2_sels lw_privs ++ tables_1) rfl
  | k + 3, h => exact absurd h (by omega)
theorem zd_4 : ∀ j, j < 3 → defaultValue (tyX4 j) = vp_V [.null, .long 0, .long 0] j := by
  intro j hj
  match j, hj with
  | 0, _ => rfl
  | 1, _ => rfl
  | 2, _ => rfl
  | k + 3, h => exact absurd h (by omega)
theorem iw_6 : ∀ w ∈ u_ws RX6 TX6 3, w ∈ z_good := by
  intro w hw
  obtain ⟨k, hk, rfl⟩ := List.mem_map.mp hw
  have hk := List.mem_range.mp hk
  match k, hk with
  | 0, _ => exact z_mem (w := Cond.laysFinal RX6 "BranchQuarry$Row" "factors" "[I") (List.mem_append_right (k2_sels lw_privs) (List.mem_of_getElem? (i := 141) (by decide +kernel)) : _ ∈ k2_sels lw_privs ++ tables_1) rfl
  | 1, _ => exact z_mem (w := Cond.lays RX6 "BranchQuarry$Row" "limit" "I") (List.mem_append_right (k2_sels lw_privs) (List.mem_of_getElem? (i := 143) (by decide +kernel)) : _ ∈ k2_sels lw_privs ++ tables_1) rfl
  | 2, _ => exact z_mem (w := Cond.lays RX6 "BranchQuarry$Row" "sense" "C") (List.mem_append_right (k2_sels lw_privs) (List.mem_of_getElem? (i := 145) (by decide +kernel)) : _ ∈ k2_sels lw_privs ++ tables_1) rfl
  | k + 3, h => exact absurd h (by omega)
theorem zd_6 : ∀ j, j < 3 → defaultValue (tyX6 j) = vp_V [.null, .int 0, .int 0] j := by
  intro j hj
  match j, hj with
  | 0, _ => rfl
  | 1, _ => rfl
  | 2, _ => rfl
  | k + 3, h => exact absurd h (by omega)
