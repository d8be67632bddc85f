/-! words of the tables, by their places; what classes lay; what throws need -/
theorem mw2 : Cond.initialized RX7 ∈ lw_tbl := (List.mem_append_right (k2_sels lw_privs) (List.mem_of_getElem? (i := 2) (by decide +kernel)) : _ ∈ k2_sels lw_privs ++ tables_1)
theorem mw3 : Cond.initialized RX5 ∈ lw_tbl := (List.mem_append_right (k2_sels lw_privs) (List.mem_of_getElem? (i := 3) (by decide +kernel)) : _ ∈ k2_sels lw_privs ++ tables_1)
theorem mw4 : Cond.initialized RX4 ∈ lw_tbl := (List.mem_append_right (k2_sels lw_privs) (List.mem_of_getElem? (i := 4) (by decide +kernel)) : _ ∈ k2_sels lw_privs ++ tables_1)
theorem mw5 : Cond.initialized RX0 ∈ lw_tbl := (List.mem_append_right (k2_sels lw_privs) (List.mem_of_getElem? (i := 5) (by decide +kernel)) : _ ∈ k2_sels lw_privs ++ tables_1)
theorem mw6 : Cond.initialized RX6 ∈ lw_tbl := (List.mem_append_right (k2_sels lw_privs) (List.mem_of_getElem? (i := 6) (by decide +kernel)) : _ ∈ k2_sels lw_privs ++ tables_1)
theorem mw7 : Cond.initialized RX1 ∈ lw_tbl := (List.mem_append_right (k2_sels lw_privs) (List.mem_of_getElem? (i := 7) (by decide +kernel)) : _ ∈ k2_sels lw_privs ++ tables_1)
theorem mw8 : Cond.initialized RX3 ∈ lw_tbl := (List.mem_append_right (k2_sels lw_privs) (List.mem_of_getElem? (i := 8) (by decide +kernel)) : _ ∈ k2_sels lw_privs ++ tables_1)
theorem mw9 : Cond.initialized RX2 ∈ lw_tbl := (List.mem_append_right (k2_sels lw_privs) (List.mem_of_getElem? (i := 9) (by decide +kernel)) : _ ∈ k2_sels lw_privs ++ tables_1)
theorem mw33 : Cond.methodLink RX8 3 objectInit ∈ lw_tbl := (List.mem_append_right (k2_sels lw_privs) (List.mem_of_getElem? (i := 33) (by decide +kernel)) : _ ∈ k2_sels lw_privs ++ tables_1)
theorem mw34 : Cond.instanceMethod objectInit ∈ lw_tbl := (List.mem_append_right (k2_sels lw_privs) (List.mem_of_getElem? (i := 34) (by decide +kernel)) : _ ∈ k2_sels lw_privs ++ tables_1)
theorem mw35 : Cond.code objectInit ⟨#[0xb1]⟩ 1 none ∈ lw_tbl := (List.mem_append_right (k2_sels lw_privs) (List.mem_of_getElem? (i := 35) (by decide +kernel)) : _ ∈ k2_sels lw_privs ++ tables_1)
theorem mw36 : Cond.classLink RX8 9 RX7 ∈ lw_tbl := (List.mem_append_right (k2_sels lw_privs) (List.mem_of_getElem? (i := 36) (by decide +kernel)) : _ ∈ k2_sels lw_privs ++ tables_1)
theorem mw37 : Cond.instantiable RX7 12 ∈ lw_tbl := (List.mem_append_right (k2_sels lw_privs) (List.mem_of_getElem? (i := 37) (by decide +kernel)) : _ ∈ k2_sels lw_privs ++ tables_1)
theorem mw38 : Cond.methodLink RX8 11 yX7_init ∈ lw_tbl := (List.mem_append_right (k2_sels lw_privs) (List.mem_of_getElem? (i := 38) (by decide +kernel)) : _ ∈ k2_sels lw_privs ++ tables_1)
theorem mw39 : Cond.instanceMethod yX7_init ∈ lw_tbl := (List.mem_append_right (k2_sels lw_privs) (List.mem_of_getElem? (i := 39) (by decide +kernel)) : _ ∈ k2_sels lw_privs ++ tables_1)
theorem mw40 : Cond.code yX7_init cX7_init 2 none ∈ lw_tbl := (List.mem_append_right (k2_sels lw_privs) (List.mem_of_getElem? (i := 40) (by decide +kernel)) : _ ∈ k2_sels lw_privs ++ tables_1)
theorem mw41 : Cond.methodLink RX7 3 objectInit ∈ lw_tbl := (List.mem_append_right (k2_sels lw_privs) (List.mem_of_getElem? (i := 41) (by decide +kernel)) : _ ∈ k2_sels lw_privs ++ tables_1)
theorem mw42 : Cond.classLink RX7 9 RX5 ∈ lw_tbl := (List.mem_append_right (k2_sels lw_privs) (List.mem_of_getElem? (i := 42) (by decide +kernel)) : _ ∈ k2_sels lw_privs ++ tables_1)
theorem mw43 : Cond.instantiable RX5 13 ∈ lw_tbl := (List.mem_append_right (k2_sels lw_privs) (List.mem_of_getElem? (i := 43) (by decide +kernel)) : _ ∈ k2_sels lw_privs ++ tables_1)
theorem mw44 : Cond.methodLink RX7 11 yX5_init ∈ lw_tbl := (List.mem_append_right (k2_sels lw_privs) (List.mem_of_getElem? (i := 44) (by decide +kernel)) : _ ∈ k2_sels lw_privs ++ tables_1)
theorem mw45 : Cond.instanceMethod yX5_init ∈ lw_tbl := (List.mem_append_right (k2_sels lw_privs) (List.mem_of_getElem? (i := 45) (by decide +kernel)) : _ ∈ k2_sels lw_privs ++ tables_1)
theorem mw46 : Cond.code yX5_init cX5_init 2 none ∈ lw_tbl := (List.mem_append_right (k2_sels lw_privs) (List.mem_of_getElem? (i := 46) (by decide +kernel)) : _ ∈ k2_sels lw_privs ++ tables_1)
theorem mw47 : Cond.methodLink RX5 3 objectInit ∈ lw_tbl := (List.mem_append_right (k2_sels lw_privs) (List.mem_of_getElem? (i := 47) (by decide +kernel)) : _ ∈ k2_sels lw_privs ++ tables_1)
theorem mw48 : Cond.classLink RX5 37 RX6 ∈ lw_tbl := (List.mem_append_right (k2_sels lw_privs) (List.mem_of_getElem? (i := 48) (by decide +kernel)) : _ ∈ k2_sels lw_privs ++ tables_1)
theorem mw50 : Cond.classLink RX5 43 RX4 ∈ lw_tbl := (List.mem_append_right (k2_sels lw_privs) (List.mem_of_getElem? (i := 50) (by decide +kernel)) : _ ∈ k2_sels lw_privs ++ tables_1)
theorem mw51 : Cond.instantiable RX4 3 ∈ lw_tbl := (List.mem_append_right (k2_sels lw_privs) (List.mem_of_getElem? (i := 51) (by decide +kernel)) : _ ∈ k2_sels lw_privs ++ tables_1)
theorem mw53 : Cond.instanceMethod yX4_init ∈ lw_tbl := (List.mem_append_right (k2_sels lw_privs) (List.mem_of_getElem? (i := 53) (by decide +kernel)) : _ ∈ k2_sels lw_privs ++ tables_1)
theorem mw54 : Cond.code yX4_init cX4_init 1 none ∈ lw_tbl := (List.mem_append_right (k2_sels lw_privs) (List.mem_of_getElem? (i := 54) (by decide +kernel)) : _ ∈ k2_sels lw_privs ++ tables_1)
theorem mw55 : Cond.methodLink RX4 3 objectInit ∈ lw_tbl := (List.mem_append_right (k2_sels lw_privs) (List.mem_of_getElem? (i := 55) (by decide +kernel)) : _ ∈ k2_sels lw_privs ++ tables_1)
theorem mw56 : Cond.fieldLink RX4 9 "BranchQuarry$Point" "tops" "[J" ∈ lw_tbl := (List.mem_append_right (k2_sels lw_privs) (List.mem_of_getElem? (i := 56) (by decide +kernel)) : _ ∈ k2_sels lw_privs ++ tables_1)
theorem mw61 : Cond.fieldLink RX4 15 "BranchQuarry$Point" "bottom" "J" ∈ lw_tbl := (List.mem_append_right (k2_sels lw_privs) (List.mem_of_getElem? (i := 61) (by decide +kernel)) : _ ∈ k2_sels lw_privs ++ tables_1)
theorem mw75 : Cond.arrayClass .int ∈ lw_tbl := (List.mem_append_right (k2_sels lw_privs) (List.mem_of_getElem? (i := 75) (by decide +kernel)) : _ ∈ k2_sels lw_privs ++ tables_1)
theorem mw76 : Cond.arrayClass .boolean ∈ lw_tbl := (List.mem_append_right (k2_sels lw_privs) (List.mem_of_getElem? (i := 76) (by decide +kernel)) : _ ∈ k2_sels lw_privs ++ tables_1)
theorem mw77 : Cond.arrayClass .long ∈ lw_tbl := (List.mem_append_right (k2_sels lw_privs) (List.mem_of_getElem? (i := 77) (by decide +kernel)) : _ ∈ k2_sels lw_privs ++ tables_1)
theorem mw78 : Cond.classLink RX5 50 RX0 ∈ lw_tbl := (List.mem_append_right (k2_sels lw_privs) (List.mem_of_getElem? (i := 78) (by decide +kernel)) : _ ∈ k2_sels lw_privs ++ tables_1)
theorem mw79 : Cond.instantiable RX0 9 ∈ lw_tbl := (List.mem_append_right (k2_sels lw_privs) (List.mem_of_getElem? (i := 79) (by decide +kernel)) : _ ∈ k2_sels lw_privs ++ tables_1)
theorem mw81 : Cond.instanceMethod yX0_init ∈ lw_tbl := (List.mem_append_right (k2_sels lw_privs) (List.mem_of_getElem? (i := 81) (by decide +kernel)) : _ ∈ k2_sels lw_privs ++ tables_1)
theorem mw82 : Cond.code yX0_init cX0_init 1 none ∈ lw_tbl := (List.mem_append_right (k2_sels lw_privs) (List.mem_of_getElem? (i := 82) (by decide +kernel)) : _ ∈ k2_sels lw_privs ++ tables_1)
theorem mw83 : Cond.methodLink RX0 3 objectInit ∈ lw_tbl := (List.mem_append_right (k2_sels lw_privs) (List.mem_of_getElem? (i := 83) (by decide +kernel)) : _ ∈ k2_sels lw_privs ++ tables_1)
theorem mw84 : Cond.classLink RX0 9 RX4 ∈ lw_tbl := (List.mem_append_right (k2_sels lw_privs) (List.mem_of_getElem? (i := 84) (by decide +kernel)) : _ ∈ k2_sels lw_privs ++ tables_1)
theorem mw86 : Cond.classLink RX0 18 "[[I" ∈ lw_tbl := (List.mem_append_right (k2_sels lw_privs) (List.mem_of_getElem? (i := 86) (by decide +kernel)) : _ ∈ k2_sels lw_privs ++ tables_1)
theorem mw88 : Cond.classLink RX0 27 "[[J" ∈ lw_tbl := (List.mem_append_right (k2_sels lw_privs) (List.mem_of_getElem? (i := 88) (by decide +kernel)) : _ ∈ k2_sels lw_privs ++ tables_1)
theorem mw90 : Cond.fieldLink RX0 12 "BranchQuarry$Corner" "found" "LBranchQuarry$Point;" ∈ lw_tbl := (List.mem_append_right (k2_sels lw_privs) (List.mem_of_getElem? (i := 90) (by decide +kernel)) : _ ∈ k2_sels lw_privs ++ tables_1)
theorem mw92 : Cond.fieldLink RX0 20 "BranchQuarry$Corner" "factors" "[[I" ∈ lw_tbl := (List.mem_append_right (k2_sels lw_privs) (List.mem_of_getElem? (i := 92) (by decide +kernel)) : _ ∈ k2_sels lw_privs ++ tables_1)
theorem mw93 : Cond.fieldLink RX0 23 "BranchQuarry$Corner" "limits" "[I" ∈ lw_tbl := (List.mem_append_right (k2_sels lw_privs) (List.mem_of_getElem? (i := 93) (by decide +kernel)) : _ ∈ k2_sels lw_privs ++ tables_1)
theorem mw94 : Cond.fieldLink RX0 29 "BranchQuarry$Corner" "moves" "[[J" ∈ lw_tbl := (List.mem_append_right (k2_sels lw_privs) (List.mem_of_getElem? (i := 94) (by decide +kernel)) : _ ∈ k2_sels lw_privs ++ tables_1)
theorem mw95 : Cond.fieldLink RX0 32 "BranchQuarry$Corner" "costMoves" "[J" ∈ lw_tbl := (List.mem_append_right (k2_sels lw_privs) (List.mem_of_getElem? (i := 95) (by decide +kernel)) : _ ∈ k2_sels lw_privs ++ tables_1)
theorem mw96 : Cond.fieldLink RX0 36 "BranchQuarry$Corner" "rates" "[J" ∈ lw_tbl := (List.mem_append_right (k2_sels lw_privs) (List.mem_of_getElem? (i := 96) (by decide +kernel)) : _ ∈ k2_sels lw_privs ++ tables_1)
theorem mw97 : Cond.fieldLink RX0 39 "BranchQuarry$Corner" "costs" "[I" ∈ lw_tbl := (List.mem_append_right (k2_sels lw_privs) (List.mem_of_getElem? (i := 97) (by decide +kernel)) : _ ∈ k2_sels lw_privs ++ tables_1)
theorem mw119 : Cond.instantiable RX6 3 ∈ lw_tbl := (List.mem_append_right (k2_sels lw_privs) (List.mem_of_getElem? (i := 119) (by decide +kernel)) : _ ∈ k2_sels lw_privs ++ tables_1)
theorem mw121 : Cond.instanceMethod yX6_init ∈ lw_tbl := (List.mem_append_right (k2_sels lw_privs) (List.mem_of_getElem? (i := 121) (by decide +kernel)) : _ ∈ k2_sels lw_privs ++ tables_1)
theorem mw122 : Cond.code yX6_init cX6_init 1 none ∈ lw_tbl := (List.mem_append_right (k2_sels lw_privs) (List.mem_of_getElem? (i := 122) (by decide +kernel)) : _ ∈ k2_sels lw_privs ++ tables_1)
theorem mw123 : Cond.methodLink RX6 3 objectInit ∈ lw_tbl := (List.mem_append_right (k2_sels lw_privs) (List.mem_of_getElem? (i := 123) (by decide +kernel)) : _ ∈ k2_sels lw_privs ++ tables_1)
theorem mw124 : Cond.fieldLink RX6 9 "BranchQuarry$Row" "factors" "[I" ∈ lw_tbl := (List.mem_append_right (k2_sels lw_privs) (List.mem_of_getElem? (i := 124) (by decide +kernel)) : _ ∈ k2_sels lw_privs ++ tables_1)
theorem mw137 : Cond.fieldLink RX6 15 "BranchQuarry$Row" "sense" "C" ∈ lw_tbl := (List.mem_append_right (k2_sels lw_privs) (List.mem_of_getElem? (i := 137) (by decide +kernel)) : _ ∈ k2_sels lw_privs ++ tables_1)
theorem mw148 : Cond.fieldLink RX5 9 "BranchQuarry$Program" "costs" "[I" ∈ lw_tbl := (List.mem_append_right (k2_sels lw_privs) (List.mem_of_getElem? (i := 148) (by decide +kernel)) : _ ∈ k2_sels lw_privs ++ tables_1)
theorem mw150 : Cond.fieldLink RX5 15 "BranchQuarry$Program" "lowest" "[I" ∈ lw_tbl := (List.mem_append_right (k2_sels lw_privs) (List.mem_of_getElem? (i := 150) (by decide +kernel)) : _ ∈ k2_sels lw_privs ++ tables_1)
theorem mw151 : Cond.fieldLink RX5 18 "BranchQuarry$Program" "highest" "[I" ∈ lw_tbl := (List.mem_append_right (k2_sels lw_privs) (List.mem_of_getElem? (i := 151) (by decide +kernel)) : _ ∈ k2_sels lw_privs ++ tables_1)
theorem mw152 : Cond.fieldLink RX5 21 "BranchQuarry$Program" "isWhole" "[Z" ∈ lw_tbl := (List.mem_append_right (k2_sels lw_privs) (List.mem_of_getElem? (i := 152) (by decide +kernel)) : _ ∈ k2_sels lw_privs ++ tables_1)
theorem mw154 : Cond.fieldLink RX5 25 "BranchQuarry$Program" "tightLower" "[I" ∈ lw_tbl := (List.mem_append_right (k2_sels lw_privs) (List.mem_of_getElem? (i := 154) (by decide +kernel)) : _ ∈ k2_sels lw_privs ++ tables_1)
theorem mw157 : Cond.fieldLink RX5 28 "BranchQuarry$Program" "tightUpper" "[I" ∈ lw_tbl := (List.mem_append_right (k2_sels lw_privs) (List.mem_of_getElem? (i := 157) (by decide +kernel)) : _ ∈ k2_sels lw_privs ++ tables_1)
theorem mw160 : Cond.fieldLink RX5 31 "BranchQuarry$Program" "nextLower" "[I" ∈ lw_tbl := (List.mem_append_right (k2_sels lw_privs) (List.mem_of_getElem? (i := 160) (by decide +kernel)) : _ ∈ k2_sels lw_privs ++ tables_1)
theorem mw161 : Cond.fieldLink RX5 34 "BranchQuarry$Program" "nextUpper" "[I" ∈ lw_tbl := (List.mem_append_right (k2_sels lw_privs) (List.mem_of_getElem? (i := 161) (by decide +kernel)) : _ ∈ k2_sels lw_privs ++ tables_1)
theorem mw162 : Cond.fieldLink RX5 39 "BranchQuarry$Program" "rows" "[LBranchQuarry$Row;" ∈ lw_tbl := (List.mem_append_right (k2_sels lw_privs) (List.mem_of_getElem? (i := 162) (by decide +kernel)) : _ ∈ k2_sels lw_privs ++ tables_1)
theorem mw165 : Cond.fieldLink RX5 46 "BranchQuarry$Program" "trial" "LBranchQuarry$Point;" ∈ lw_tbl := (List.mem_append_right (k2_sels lw_privs) (List.mem_of_getElem? (i := 165) (by decide +kernel)) : _ ∈ k2_sels lw_privs ++ tables_1)
theorem mw168 : Cond.fieldLink RX5 53 "BranchQuarry$Program" "corner" "LBranchQuarry$Corner;" ∈ lw_tbl := (List.mem_append_right (k2_sels lw_privs) (List.mem_of_getElem? (i := 168) (by decide +kernel)) : _ ∈ k2_sels lw_privs ++ tables_1)
theorem mw203 : Cond.classLink RX7 18 RX3 ∈ lw_tbl := (List.mem_append_right (k2_sels lw_privs) (List.mem_of_getElem? (i := 203) (by decide +kernel)) : _ ∈ k2_sels lw_privs ++ tables_1)
theorem mw205 : Cond.classLink RX7 24 RX2 ∈ lw_tbl := (List.mem_append_right (k2_sels lw_privs) (List.mem_of_getElem? (i := 205) (by decide +kernel)) : _ ∈ k2_sels lw_privs ++ tables_1)
theorem mw207 : Cond.classLink RX7 30 RX4 ∈ lw_tbl := (List.mem_append_right (k2_sels lw_privs) (List.mem_of_getElem? (i := 207) (by decide +kernel)) : _ ∈ k2_sels lw_privs ++ tables_1)
theorem mw209 : Cond.classLink RX7 37 RX1 ∈ lw_tbl := (List.mem_append_right (k2_sels lw_privs) (List.mem_of_getElem? (i := 209) (by decide +kernel)) : _ ∈ k2_sels lw_privs ++ tables_1)
theorem mw210 : Cond.instantiable RX1 5 ∈ lw_tbl := (List.mem_append_right (k2_sels lw_privs) (List.mem_of_getElem? (i := 210) (by decide +kernel)) : _ ∈ k2_sels lw_privs ++ tables_1)
theorem mw212 : Cond.instanceMethod yX1_init ∈ lw_tbl := (List.mem_append_right (k2_sels lw_privs) (List.mem_of_getElem? (i := 212) (by decide +kernel)) : _ ∈ k2_sels lw_privs ++ tables_1)
theorem mw213 : Cond.code yX1_init cX1_init 1 none ∈ lw_tbl := (List.mem_append_right (k2_sels lw_privs) (List.mem_of_getElem? (i := 213) (by decide +kernel)) : _ ∈ k2_sels lw_privs ++ tables_1)
theorem mw214 : Cond.methodLink RX1 3 objectInit ∈ lw_tbl := (List.mem_append_right (k2_sels lw_privs) (List.mem_of_getElem? (i := 214) (by decide +kernel)) : _ ∈ k2_sels lw_privs ++ tables_1)
theorem mw215 : Cond.fieldLink RX1 9 "BranchQuarry$Cover" "factors" "[I" ∈ lw_tbl := (List.mem_append_right (k2_sels lw_privs) (List.mem_of_getElem? (i := 215) (by decide +kernel)) : _ ∈ k2_sels lw_privs ++ tables_1)
theorem mw219 : Cond.fieldLink RX1 15 "BranchQuarry$Cover" "weights" "[I" ∈ lw_tbl := (List.mem_append_right (k2_sels lw_privs) (List.mem_of_getElem? (i := 219) (by decide +kernel)) : _ ∈ k2_sels lw_privs ++ tables_1)
theorem mw233 : Cond.classLink RX7 44 "[[J" ∈ lw_tbl := (List.mem_append_right (k2_sels lw_privs) (List.mem_of_getElem? (i := 233) (by decide +kernel)) : _ ∈ k2_sels lw_privs ++ tables_1)
theorem mw234 : Cond.classLink RX7 49 "[[I" ∈ lw_tbl := (List.mem_append_right (k2_sels lw_privs) (List.mem_of_getElem? (i := 234) (by decide +kernel)) : _ ∈ k2_sels lw_privs ++ tables_1)
theorem mw235 : Cond.instantiable RX3 9 ∈ lw_tbl := (List.mem_append_right (k2_sels lw_privs) (List.mem_of_getElem? (i := 235) (by decide +kernel)) : _ ∈ k2_sels lw_privs ++ tables_1)
theorem mw236 : Cond.methodLink RX7 54 yX3_init ∈ lw_tbl := (List.mem_append_right (k2_sels lw_privs) (List.mem_of_getElem? (i := 236) (by decide +kernel)) : _ ∈ k2_sels lw_privs ++ tables_1)
theorem mw237 : Cond.instanceMethod yX3_init ∈ lw_tbl := (List.mem_append_right (k2_sels lw_privs) (List.mem_of_getElem? (i := 237) (by decide +kernel)) : _ ∈ k2_sels lw_privs ++ tables_1)
theorem mw238 : Cond.code yX3_init cX3_init 2 none ∈ lw_tbl := (List.mem_append_right (k2_sels lw_privs) (List.mem_of_getElem? (i := 238) (by decide +kernel)) : _ ∈ k2_sels lw_privs ++ tables_1)
theorem mw239 : Cond.methodLink RX3 3 objectInit ∈ lw_tbl := (List.mem_append_right (k2_sels lw_privs) (List.mem_of_getElem? (i := 239) (by decide +kernel)) : _ ∈ k2_sels lw_privs ++ tables_1)
theorem mw240 : Cond.classLink RX3 18 RX4 ∈ lw_tbl := (List.mem_append_right (k2_sels lw_privs) (List.mem_of_getElem? (i := 240) (by decide +kernel)) : _ ∈ k2_sels lw_privs ++ tables_1)
theorem mw242 : Cond.fieldLink RX3 9 "BranchQuarry$Node" "lowest" "[I" ∈ lw_tbl := (List.mem_append_right (k2_sels lw_privs) (List.mem_of_getElem? (i := 242) (by decide +kernel)) : _ ∈ k2_sels lw_privs ++ tables_1)
theorem mw245 : Cond.fieldLink RX3 15 "BranchQuarry$Node" "highest" "[I" ∈ lw_tbl := (List.mem_append_right (k2_sels lw_privs) (List.mem_of_getElem? (i := 245) (by decide +kernel)) : _ ∈ k2_sels lw_privs ++ tables_1)
theorem mw248 : Cond.fieldLink RX3 21 "BranchQuarry$Node" "found" "LBranchQuarry$Point;" ∈ lw_tbl := (List.mem_append_right (k2_sels lw_privs) (List.mem_of_getElem? (i := 248) (by decide +kernel)) : _ ∈ k2_sels lw_privs ++ tables_1)
theorem mw251 : Cond.fieldLink RX3 29 "BranchQuarry$Node" "number" "I" ∈ lw_tbl := (List.mem_append_right (k2_sels lw_privs) (List.mem_of_getElem? (i := 251) (by decide +kernel)) : _ ∈ k2_sels lw_privs ++ tables_1)
theorem mw260 : Cond.fieldLink RX3 25 "BranchQuarry$Node" "state" "C" ∈ lw_tbl := (List.mem_append_right (k2_sels lw_privs) (List.mem_of_getElem? (i := 260) (by decide +kernel)) : _ ∈ k2_sels lw_privs ++ tables_1)
theorem mw282 : Cond.instantiable RX2 6 ∈ lw_tbl := (List.mem_append_right (k2_sels lw_privs) (List.mem_of_getElem? (i := 282) (by decide +kernel)) : _ ∈ k2_sels lw_privs ++ tables_1)
theorem mw284 : Cond.instanceMethod yX2_init ∈ lw_tbl := (List.mem_append_right (k2_sels lw_privs) (List.mem_of_getElem? (i := 284) (by decide +kernel)) : _ ∈ k2_sels lw_privs ++ tables_1)
theorem mw285 : Cond.code yX2_init cX2_init 1 none ∈ lw_tbl := (List.mem_append_right (k2_sels lw_privs) (List.mem_of_getElem? (i := 285) (by decide +kernel)) : _ ∈ k2_sels lw_privs ++ tables_1)
theorem mw286 : Cond.methodLink RX2 3 objectInit ∈ lw_tbl := (List.mem_append_right (k2_sels lw_privs) (List.mem_of_getElem? (i := 286) (by decide +kernel)) : _ ∈ k2_sels lw_privs ++ tables_1)
theorem mw287 : Cond.classLink RX2 9 RX6 ∈ lw_tbl := (List.mem_append_right (k2_sels lw_privs) (List.mem_of_getElem? (i := 287) (by decide +kernel)) : _ ∈ k2_sels lw_privs ++ tables_1)
theorem mw289 : Cond.fieldLink RX2 12 "BranchQuarry$Cut" "row" "LBranchQuarry$Row;" ∈ lw_tbl := (List.mem_append_right (k2_sels lw_privs) (List.mem_of_getElem? (i := 289) (by decide +kernel)) : _ ∈ k2_sels lw_privs ++ tables_1)
theorem mw313 : Cond.fieldLink RX7 12 "BranchQuarry$Tree" "program" "LBranchQuarry$Program;" ∈ lw_tbl := (List.mem_append_right (k2_sels lw_privs) (List.mem_of_getElem? (i := 313) (by decide +kernel)) : _ ∈ k2_sels lw_privs ++ tables_1)
theorem mw314 : Cond.fieldLink RX8 16 "BranchQuarry$Tree" "program" "LBranchQuarry$Program;" ∈ lw_tbl := (List.mem_append_right (k2_sels lw_privs) (List.mem_of_getElem? (i := 314) (by decide +kernel)) : _ ∈ k2_sels lw_privs ++ tables_1)
theorem mw315 : Cond.fieldLink RX7 20 "BranchQuarry$Tree" "nodes" "[LBranchQuarry$Node;" ∈ lw_tbl := (List.mem_append_right (k2_sels lw_privs) (List.mem_of_getElem? (i := 315) (by decide +kernel)) : _ ∈ k2_sels lw_privs ++ tables_1)
theorem mw317 : Cond.fieldLink RX7 26 "BranchQuarry$Tree" "cuts" "[LBranchQuarry$Cut;" ∈ lw_tbl := (List.mem_append_right (k2_sels lw_privs) (List.mem_of_getElem? (i := 317) (by decide +kernel)) : _ ∈ k2_sels lw_privs ++ tables_1)
theorem mw319 : Cond.fieldLink RX7 33 "BranchQuarry$Tree" "best" "LBranchQuarry$Point;" ∈ lw_tbl := (List.mem_append_right (k2_sels lw_privs) (List.mem_of_getElem? (i := 319) (by decide +kernel)) : _ ∈ k2_sels lw_privs ++ tables_1)
theorem mw321 : Cond.fieldLink RX7 40 "BranchQuarry$Tree" "cover" "LBranchQuarry$Cover;" ∈ lw_tbl := (List.mem_append_right (k2_sels lw_privs) (List.mem_of_getElem? (i := 321) (by decide +kernel)) : _ ∈ k2_sels lw_privs ++ tables_1)
theorem mw322 : Cond.fieldLink RX7 46 "BranchQuarry$Tree" "gainSums" "[[J" ∈ lw_tbl := (List.mem_append_right (k2_sels lw_privs) (List.mem_of_getElem? (i := 322) (by decide +kernel)) : _ ∈ k2_sels lw_privs ++ tables_1)
theorem mw323 : Cond.fieldLink RX7 51 "BranchQuarry$Tree" "gainCounts" "[[I" ∈ lw_tbl := (List.mem_append_right (k2_sels lw_privs) (List.mem_of_getElem? (i := 323) (by decide +kernel)) : _ ∈ k2_sels lw_privs ++ tables_1)
theorem mw357 : Cond.fieldLink RX8 12 "BranchQuarry" "tree" "LBranchQuarry$Tree;" ∈ lw_tbl := (List.mem_append_right (k2_sels lw_privs) (List.mem_of_getElem? (i := 357) (by decide +kernel)) : _ ∈ k2_sels lw_privs ++ tables_1)
theorem mw358 : Cond.fieldLink RX8 20 "BranchQuarry" "program" "LBranchQuarry$Program;" ∈ lw_tbl := (List.mem_append_right (k2_sels lw_privs) (List.mem_of_getElem? (i := 358) (by decide +kernel)) : _ ∈ k2_sels lw_privs ++ tables_1)
theorem iw_0 : ∀ w ∈ u_ws RX0 TX0 9, w ∈ z_good := by
  intro w hw
  obtain ⟨k, hk, rfl⟩ := List.mem_map.mp hw
  have hk := List.mem_range.mp hk
  match k, hk with
  | 0, _ => exact z_mem (w := Cond.laysFinal RX0 "BranchQuarry$Corner" "found" "LBranchQuarry$Point;") (List.mem_append_right (k2_sels lw_privs) (List.mem_of_getElem? (i := 100) (by decide +kernel)) : _ ∈ k2_sels lw_privs ++ tables_1) rfl
  | 1, _ => exact z_mem (w := Cond.laysFinal RX0 "BranchQuarry$Corner" "factors" "[[I") (List.mem_append_right (k2_sels lw_privs) (List.mem_of_getElem? (i := 102) (by decide +kernel)) : _ ∈ k2_sels lw_privs ++ tables_1) rfl
  | 2, _ => exact z_mem (w := Cond.laysFinal RX0 "BranchQuarry$Corner" "limits" "[I") (List.mem_append_right (k2_sels lw_privs) (List.mem_of_getElem? (i := 104) (by decide +kernel)) : _ ∈ k2_sels lw_privs ++ tables_1) rfl
  | 3, _ => exact z_mem (w := Cond.laysFinal RX0 "BranchQuarry$Corner" "moves" "[[J") (List.mem_append_right (k2_sels lw_privs) (List.mem_of_getElem? (i := 106) (by decide +kernel)) : _ ∈ k2_sels lw_privs ++ tables_1) rfl
  | 4, _ => exact z_mem (w := Cond.laysFinal RX0 "BranchQuarry$Corner" "costMoves" "[J") (List.mem_append_right (k2_sels lw_privs) (List.mem_of_getElem? (i := 108) (by decide +kernel)) : _ ∈ k2_sels lw_privs ++ tables_1) rfl
  | 5, _ => exact z_mem (w := Cond.laysFinal RX0 "BranchQuarry$Corner" "rates" "[J") (List.mem_append_right (k2_sels lw_privs) (List.mem_of_getElem? (i := 110) (by decide +kernel)) : _ ∈ k2_sels lw_privs ++ tables_1) rfl
  | 6, _ => exact z_mem (w := Cond.laysFinal RX0 "BranchQuarry$Corner" "costs" "[I") (List.mem_append_right (k2_sels lw_privs) (List.mem_of_getElem? (i := 112) (by decide +kernel)) : _ ∈ k2_sels lw_privs ++ tables_1) rfl
  | 7, _ => exact z_mem (w := Cond.lays RX0 "BranchQuarry$Corner" "limitCount" "I") (List.mem_append_right (k2_sels lw_privs) (List.mem_of_getElem? (i := 114) (by decide +kernel)) : _ ∈ k2_sels lw_privs ++ tables_1) rfl
  | 8, _ => exact z_mem (w := Cond.lays RX0 "BranchQuarry$Corner" "columnCount" "I") (List.mem_append_right (k2_sels lw_privs) (List.mem_of_getElem? (i := 116) (by decide +kernel)) : _ ∈ k2_sels lw_privs ++ tables_1) rfl
  | k + 9, h => exact absurd h (by omega)
theorem zd_0 : ∀ j, j < 9 → defaultValue (tyX0 j) = vp_V [.null, .null, .null, .null, .null, .null, .null, .int 0, .int 0] j := by
  intro j hj
  match j, hj with
  | 0, _ => rfl
  | 1, _ => rfl
  | 2, _ => rfl
  | 3, _ => rfl
  | 4, _ => rfl
  | 5, _ => rfl
  | 6, _ => rfl
  | 7, _ => rfl
  | 8, _ => rfl
  | k + 9, h => exact absurd h (by omega)
theorem iw_1 : ∀ w ∈ u_ws RX1 TX1 5, w ∈ z_good := by
  intro w hw
  obtain ⟨k, hk, rfl⟩ := List.mem_map.mp hw
  have hk := List.mem_range.mp hk
  match k, hk with
  | 0, _ => exact z_mem (w := Cond.laysFinal RX1 "BranchQuarry$Cover" "factors" "[I") (List.mem_append_right (k2_sels lw_privs) (List.mem_of_getElem? (i := 222) (by decide +kernel)) : _ ∈ k2_sels lw_privs ++ tables_1) rfl
  | 1, _ => exact z_mem (w := Cond.lays RX1 "BranchQuarry$Cover" "limit" "I") (List.mem_append_right (k2_sels lw_privs) (List.mem_of_getElem? (i := 224) (by decide +kernel)) : _ ∈ k2_sels lw_privs ++ tables_1) rfl
  | 2, _ => exact z_mem (w := Cond.laysFinal RX1 "BranchQuarry$Cover" "weights" "[I") (List.mem_append_right (k2_sels lw_privs) (List.mem_of_getElem? (i := 226) (by decide +kernel)) : _ ∈ k2_sels lw_privs ++ tables_1) rfl
  | 3, _ => exact z_mem (w := Cond.lays RX1 "BranchQuarry$Cover" "room" "I") (List.mem_append_right (k2_sels lw_privs) (List.mem_of_getElem? (i := 228) (by decide +kernel)) : _ ∈ k2_sels lw_privs ++ tables_1) rfl
  | 4, _ => exact z_mem (w := Cond.lays RX1 "BranchQuarry$Cover" "cover" "I") (List.mem_append_right (k2_sels lw_privs) (List.mem_of_getElem? (i := 230) (by decide +kernel)) : _ ∈ k2_sels lw_privs ++ tables_1) rfl
  | k + 5, h => exact absurd h (by omega)
theorem zd_1 : ∀ j, j < 5 → defaultValue (tyX1 j) = vp_V [.null, .int 0, .null, .int 0, .int 0] j := by
  intro j hj
  match j, hj with
  | 0, _ => rfl
  | 1, _ => rfl
  | 2, _ => rfl
  | 3, _ => rfl
  | 4, _ => rfl
  | k + 5, h => exact absurd h (by omega)
theorem iw_2 : ∀ w ∈ u_ws RX2 TX2 6, w ∈ z_good := by
  intro w hw
  obtain ⟨k, hk, rfl⟩ := List.mem_map.mp hw
  have hk := List.mem_range.mp hk
  match k, hk with
  | 0, _ => exact z_mem (w := Cond.laysFinal RX2 "BranchQuarry$Cut" "row" "LBranchQuarry$Row;") (List.mem_append_right (k2_sels lw_privs) (List.mem_of_getElem? (i := 300) (by decide +kernel)) : _ ∈ k2_sels lw_privs ++ tables_1) rfl
  | 1, _ => exact z_mem (w := Cond.lays RX2 "BranchQuarry$Cut" "kind" "C") (List.mem_append_right (k2_sels lw_privs) (List.mem_of_getElem? (i := 302) (by decide +kernel)) : _ ∈ k2_sels lw_privs ++ tables_1) rfl
  | 2, _ => exact z_mem (w := Cond.lays RX2 "BranchQuarry$Cut" "age" "I") (List.mem_append_right (k2_sels lw_privs) (List.mem_of_getElem? (i := 304) (by decide +kernel)) : _ ∈ k2_sels lw_privs ++ tables_1) rfl
  | 3, _ => exact z_mem (w := Cond.lays RX2 "BranchQuarry$Cut" "home" "LBranchQuarry$Node;") (List.mem_append_right (k2_sels lw_privs) (List.mem_of_getElem? (i := 306) (by decide +kernel)) : _ ∈ k2_sels lw_privs ++ tables_1) rfl
  | 4, _ => exact z_mem (w := Cond.lays RX2 "BranchQuarry$Cut" "column" "I") (List.mem_append_right (k2_sels lw_privs) (List.mem_of_getElem? (i := 308) (by decide +kernel)) : _ ∈ k2_sels lw_privs ++ tables_1) rfl
  | 5, _ => exact z_mem (w := Cond.lays RX2 "BranchQuarry$Cut" "other" "I") (List.mem_append_right (k2_sels lw_privs) (List.mem_of_getElem? (i := 310) (by decide +kernel)) : _ ∈ k2_sels lw_privs ++ tables_1) rfl
  | k + 6, h => exact absurd h (by omega)
theorem zd_2 : ∀ j, j < 6 → defaultValue (tyX2 j) = vp_V [.null, .int 0, .int 0, .null, .int 0, .int 0] j := by
  intro j hj
  match j, hj with
  | 0, _ => rfl
  | 1, _ => rfl
  | 2, _ => rfl
  | 3, _ => rfl
  | 4, _ => rfl
  | 5, _ => rfl
  | k + 6, h => exact absurd h (by omega)
theorem iw_3 : ∀ w ∈ u_ws RX3 TX3 9, w ∈ z_good := by
  intro w hw
  obtain ⟨k, hk, rfl⟩ := List.mem_map.mp hw
  have hk := List.mem_range.mp hk
  match k, hk with
  | 0, _ => exact z_mem (w := Cond.laysFinal RX3 "BranchQuarry$Node" "lowest" "[I") (List.mem_append_right (k2_sels lw_privs) (List.mem_of_getElem? (i := 263) (by decide +kernel)) : _ ∈ k2_sels lw_privs ++ tables_1) rfl
  | 1, _ => exact z_mem (w := Cond.laysFinal RX3 "BranchQuarry$Node" "highest" "[I") (List.mem_append_right (k2_sels lw_privs) (List.mem_of_getElem? (i := 265) (by decide +kernel)) : _ ∈ k2_sels lw_privs ++ tables_1) rfl
  | 2, _ => exact z_mem (w := Cond.laysFinal RX3 "BranchQuarry$Node" "found" "LBranchQuarry$Point;") (List.mem_append_right (k2_sels lw_privs) (List.mem_of_getElem? (i := 267) (by decide +kernel)) : _ ∈ k2_sels lw_privs ++ tables_1) rfl
  | 3, _ => exact z_mem (w := Cond.laysFinal RX3 "BranchQuarry$Node" "number" "I") (List.mem_append_right (k2_sels lw_privs) (List.mem_of_getElem? (i := 269) (by decide +kernel)) : _ ∈ k2_sels lw_privs ++ tables_1) rfl
  | 4, _ => exact z_mem (w := Cond.lays RX3 "BranchQuarry$Node" "above" "LBranchQuarry$Node;") (List.mem_append_right (k2_sels lw_privs) (List.mem_of_getElem? (i := 271) (by decide +kernel)) : _ ∈ k2_sels lw_privs ++ tables_1) rfl
  | 5, _ => exact z_mem (w := Cond.lays RX3 "BranchQuarry$Node" "depth" "I") (List.mem_append_right (k2_sels lw_privs) (List.mem_of_getElem? (i := 273) (by decide +kernel)) : _ ∈ k2_sels lw_privs ++ tables_1) rfl
  | 6, _ => exact z_mem (w := Cond.lays RX3 "BranchQuarry$Node" "column" "I") (List.mem_append_right (k2_sels lw_privs) (List.mem_of_getElem? (i := 275) (by decide +kernel)) : _ ∈ k2_sels lw_privs ++ tables_1) rfl
  | 7, _ => exact z_mem (w := Cond.lays RX3 "BranchQuarry$Node" "isUp" "Z") (List.mem_append_right (k2_sels lw_privs) (List.mem_of_getElem? (i := 277) (by decide +kernel)) : _ ∈ k2_sels lw_privs ++ tables_1) rfl
  | 8, _ => exact z_mem (w := Cond.lays RX3 "BranchQuarry$Node" "state" "C") (List.mem_append_right (k2_sels lw_privs) (List.mem_of_getElem? (i := 279) (by decide +kernel)) : _ ∈ k2_sels lw_privs ++ tables_1) rfl
  | k + 9, h => exact absurd h (by omega)
theorem zd_3 : ∀ j, j < 9 → defaultValue (tyX3 j) = vp_V [.null, .null, .null, .int 0, .null, .int 0, .int 0, .int 0, .int 0] j := by
  intro j hj
  match j, hj with
  | 0, _ => rfl
  | 1, _ => rfl
  | 2, _ => rfl
  | 3, _ => rfl
  | 4, _ => rfl
  | 5, _ => rfl
  | 6, _ => rfl
  | 7, _ => rfl
  | 8, _ => rfl
  | k + 9, h => exact absurd h (by omega)
theorem iw_4 : ∀ w ∈ u_ws RX4 TX4 3, w ∈ z_good := by
  intro w hw
  obtain ⟨k, hk, rfl⟩ := List.mem_map.mp hw
  have hk := List.mem_range.mp hk
  match k, hk with
  | 0, _ => exact z_mem (w := Cond.laysFinal RX4 "BranchQuarry$Point" "tops" "[J") (List.mem_append_right (k2_sels lw_privs) (List.mem_of_getElem? (i := 68) (by decide +kernel)) : _ ∈ k2_sels lw_privs ++ tables_1) rfl
  | 1, _ => exact z_mem (w := Cond.lays RX4 "BranchQuarry$Point" "bottom" "J") (List.mem_append_right (k2_sels lw_privs) (List.mem_of_getElem? (i := 70) (by decide +kernel)) : _ ∈ k2_sels lw_privs ++ tables_1) rfl
  | 2, _ => exact z_mem (w := Cond.lays RX4 "BranchQuarry$Point" "costTop" "J") (List.mem_append_right (k2_sels lw_privs) (List.mem_of_getElem? (i := 72) (by decide +kernel)) : _ ∈ k2_sels lw_privs ++ tables_1) rfl
  | k + 3, h => exact absurd h (by omega)
theorem zd_4 : ∀ j, j < 3 → defaultValue (tyX4 j) = vp_V [.null, .long 0, .long 0] j := by
  intro j hj
  match j, hj with
  | 0, _ => rfl
  | 1, _ => rfl
  | 2, _ => rfl
  | k + 3, h => exact absurd h (by omega)
theorem iw_5 : ∀ w ∈ u_ws RX5 TX5 13, w ∈ z_good := by
  intro w hw
  obtain ⟨k, hk, rfl⟩ := List.mem_map.mp hw
  have hk := List.mem_range.mp hk
  match k, hk with
  | 0, _ => exact z_mem (w := Cond.laysFinal RX5 "BranchQuarry$Program" "costs" "[I") (List.mem_append_right (k2_sels lw_privs) (List.mem_of_getElem? (i := 176) (by decide +kernel)) : _ ∈ k2_sels lw_privs ++ tables_1) rfl
  | 1, _ => exact z_mem (w := Cond.laysFinal RX5 "BranchQuarry$Program" "lowest" "[I") (List.mem_append_right (k2_sels lw_privs) (List.mem_of_getElem? (i := 178) (by decide +kernel)) : _ ∈ k2_sels lw_privs ++ tables_1) rfl
  | 2, _ => exact z_mem (w := Cond.laysFinal RX5 "BranchQuarry$Program" "highest" "[I") (List.mem_append_right (k2_sels lw_privs) (List.mem_of_getElem? (i := 180) (by decide +kernel)) : _ ∈ k2_sels lw_privs ++ tables_1) rfl
  | 3, _ => exact z_mem (w := Cond.laysFinal RX5 "BranchQuarry$Program" "isWhole" "[Z") (List.mem_append_right (k2_sels lw_privs) (List.mem_of_getElem? (i := 182) (by decide +kernel)) : _ ∈ k2_sels lw_privs ++ tables_1) rfl
  | 4, _ => exact z_mem (w := Cond.laysFinal RX5 "BranchQuarry$Program" "tightLower" "[I") (List.mem_append_right (k2_sels lw_privs) (List.mem_of_getElem? (i := 184) (by decide +kernel)) : _ ∈ k2_sels lw_privs ++ tables_1) rfl
  | 5, _ => exact z_mem (w := Cond.laysFinal RX5 "BranchQuarry$Program" "tightUpper" "[I") (List.mem_append_right (k2_sels lw_privs) (List.mem_of_getElem? (i := 186) (by decide +kernel)) : _ ∈ k2_sels lw_privs ++ tables_1) rfl
  | 6, _ => exact z_mem (w := Cond.laysFinal RX5 "BranchQuarry$Program" "nextLower" "[I") (List.mem_append_right (k2_sels lw_privs) (List.mem_of_getElem? (i := 188) (by decide +kernel)) : _ ∈ k2_sels lw_privs ++ tables_1) rfl
  | 7, _ => exact z_mem (w := Cond.laysFinal RX5 "BranchQuarry$Program" "nextUpper" "[I") (List.mem_append_right (k2_sels lw_privs) (List.mem_of_getElem? (i := 190) (by decide +kernel)) : _ ∈ k2_sels lw_privs ++ tables_1) rfl
  | 8, _ => exact z_mem (w := Cond.laysFinal RX5 "BranchQuarry$Program" "rows" "[LBranchQuarry$Row;") (List.mem_append_right (k2_sels lw_privs) (List.mem_of_getElem? (i := 192) (by decide +kernel)) : _ ∈ k2_sels lw_privs ++ tables_1) rfl
  | 9, _ => exact z_mem (w := Cond.laysFinal RX5 "BranchQuarry$Program" "trial" "LBranchQuarry$Point;") (List.mem_append_right (k2_sels lw_privs) (List.mem_of_getElem? (i := 194) (by decide +kernel)) : _ ∈ k2_sels lw_privs ++ tables_1) rfl
  | 10, _ => exact z_mem (w := Cond.laysFinal RX5 "BranchQuarry$Program" "corner" "LBranchQuarry$Corner;") (List.mem_append_right (k2_sels lw_privs) (List.mem_of_getElem? (i := 196) (by decide +kernel)) : _ ∈ k2_sels lw_privs ++ tables_1) rfl
  | 11, _ => exact z_mem (w := Cond.lays RX5 "BranchQuarry$Program" "columnCount" "I") (List.mem_append_right (k2_sels lw_privs) (List.mem_of_getElem? (i := 198) (by decide +kernel)) : _ ∈ k2_sels lw_privs ++ tables_1) rfl
  | 12, _ => exact z_mem (w := Cond.lays RX5 "BranchQuarry$Program" "rowCount" "I") (List.mem_append_right (k2_sels lw_privs) (List.mem_of_getElem? (i := 200) (by decide +kernel)) : _ ∈ k2_sels lw_privs ++ tables_1) rfl
  | k + 13, h => exact absurd h (by omega)
theorem zd_5 : ∀ j, j < 13 → defaultValue (tyX5 j) = vp_V [.null, .null, .null, .null, .null, .null, .null, .null, .null, .null, .null, .int 0, .int 0] j := by
  intro j hj
  match j, hj with
  | 0, _ => rfl
  | 1, _ => rfl
  | 2, _ => rfl
  | 3, _ => rfl
  | 4, _ => rfl
  | 5, _ => rfl
  | 6, _ => rfl
  | 7, _ => rfl
  | 8, _ => rfl
  | 9, _ => rfl
  | 10, _ => rfl
  | 11, _ => rfl
  | 12, _ => rfl
  | k + 13, h => exact absurd h (by omega)
theorem iw_6 : ∀ w ∈ u_ws RX6 TX6 3, w ∈ z_good := by
  intro w hw
  obtain ⟨k, hk, rfl⟩ := List.mem_map.mp hw
  have hk := List.mem_range.mp hk
  match k, hk with
  | 0, _ => exact z_mem (w := Cond.laysFinal RX6 "BranchQuarry$Row" "factors" "[I") (List.mem_append_right (k2_sels lw_privs) (List.mem_of_getElem? (i := 141) (by decide +kernel)) : _ ∈ k2_sels lw_privs ++ tables_1) rfl
  | 1, _ => exact z_mem (w := Cond.lays RX6 "BranchQuarry$Row" "limit" "I") (List.mem_append_right (k2_sels lw_privs) (List.mem_of_getElem? (i := 143) (by decide +kernel)) : _ ∈ k2_sels lw_privs ++ tables_1) rfl
  | 2, _ => exact z_mem (w := Cond.lays RX6 "BranchQuarry$Row" "sense" "C") (List.mem_append_right (k2_sels lw_privs) (List.mem_of_getElem? (i := 145) (by decide +kernel)) : _ ∈ k2_sels lw_privs ++ tables_1) rfl
  | k + 3, h => exact absurd h (by omega)
theorem zd_6 : ∀ j, j < 3 → defaultValue (tyX6 j) = vp_V [.null, .int 0, .int 0] j := by
  intro j hj
  match j, hj with
  | 0, _ => rfl
  | 1, _ => rfl
  | 2, _ => rfl
  | k + 3, h => exact absurd h (by omega)
theorem iw_7 : ∀ w ∈ u_ws RX7 TX7 12, w ∈ z_good := by
  intro w hw
  obtain ⟨k, hk, rfl⟩ := List.mem_map.mp hw
  have hk := List.mem_range.mp hk
  match k, hk with
  | 0, _ => exact z_mem (w := Cond.laysFinal RX7 "BranchQuarry$Tree" "program" "LBranchQuarry$Program;") (List.mem_append_right (k2_sels lw_privs) (List.mem_of_getElem? (i := 332) (by decide +kernel)) : _ ∈ k2_sels lw_privs ++ tables_1) rfl
  | 1, _ => exact z_mem (w := Cond.laysFinal RX7 "BranchQuarry$Tree" "nodes" "[LBranchQuarry$Node;") (List.mem_append_right (k2_sels lw_privs) (List.mem_of_getElem? (i := 334) (by decide +kernel)) : _ ∈ k2_sels lw_privs ++ tables_1) rfl
  | 2, _ => exact z_mem (w := Cond.laysFinal RX7 "BranchQuarry$Tree" "cuts" "[LBranchQuarry$Cut;") (List.mem_append_right (k2_sels lw_privs) (List.mem_of_getElem? (i := 336) (by decide +kernel)) : _ ∈ k2_sels lw_privs ++ tables_1) rfl
  | 3, _ => exact z_mem (w := Cond.laysFinal RX7 "BranchQuarry$Tree" "best" "LBranchQuarry$Point;") (List.mem_append_right (k2_sels lw_privs) (List.mem_of_getElem? (i := 338) (by decide +kernel)) : _ ∈ k2_sels lw_privs ++ tables_1) rfl
  | 4, _ => exact z_mem (w := Cond.laysFinal RX7 "BranchQuarry$Tree" "cover" "LBranchQuarry$Cover;") (List.mem_append_right (k2_sels lw_privs) (List.mem_of_getElem? (i := 340) (by decide +kernel)) : _ ∈ k2_sels lw_privs ++ tables_1) rfl
  | 5, _ => exact z_mem (w := Cond.laysFinal RX7 "BranchQuarry$Tree" "gainSums" "[[J") (List.mem_append_right (k2_sels lw_privs) (List.mem_of_getElem? (i := 342) (by decide +kernel)) : _ ∈ k2_sels lw_privs ++ tables_1) rfl
  | 6, _ => exact z_mem (w := Cond.laysFinal RX7 "BranchQuarry$Tree" "gainCounts" "[[I") (List.mem_append_right (k2_sels lw_privs) (List.mem_of_getElem? (i := 344) (by decide +kernel)) : _ ∈ k2_sels lw_privs ++ tables_1) rfl
  | 7, _ => exact z_mem (w := Cond.lays RX7 "BranchQuarry$Tree" "nodeCount" "I") (List.mem_append_right (k2_sels lw_privs) (List.mem_of_getElem? (i := 346) (by decide +kernel)) : _ ∈ k2_sels lw_privs ++ tables_1) rfl
  | 8, _ => exact z_mem (w := Cond.lays RX7 "BranchQuarry$Tree" "cutCount" "I") (List.mem_append_right (k2_sels lw_privs) (List.mem_of_getElem? (i := 348) (by decide +kernel)) : _ ∈ k2_sels lw_privs ++ tables_1) rfl
  | 9, _ => exact z_mem (w := Cond.lays RX7 "BranchQuarry$Tree" "hasBest" "Z") (List.mem_append_right (k2_sels lw_privs) (List.mem_of_getElem? (i := 350) (by decide +kernel)) : _ ∈ k2_sels lw_privs ++ tables_1) rfl
  | 10, _ => exact z_mem (w := Cond.lays RX7 "BranchQuarry$Tree" "order" "C") (List.mem_append_right (k2_sels lw_privs) (List.mem_of_getElem? (i := 352) (by decide +kernel)) : _ ∈ k2_sels lw_privs ++ tables_1) rfl
  | 11, _ => exact z_mem (w := Cond.lays RX7 "BranchQuarry$Tree" "rule" "C") (List.mem_append_right (k2_sels lw_privs) (List.mem_of_getElem? (i := 354) (by decide +kernel)) : _ ∈ k2_sels lw_privs ++ tables_1) rfl
  | k + 12, h => exact absurd h (by omega)
theorem zd_7 : ∀ j, j < 12 → defaultValue (tyX7 j) = vp_V [.null, .null, .null, .null, .null, .null, .null, .int 0, .int 0, .int 0, .int 0, .int 0] j := by
  intro j hj
  match j, hj with
  | 0, _ => rfl
  | 1, _ => rfl
  | 2, _ => rfl
  | 3, _ => rfl
  | 4, _ => rfl
  | 5, _ => rfl
  | 6, _ => rfl
  | 7, _ => rfl
  | 8, _ => rfl
  | 9, _ => rfl
  | 10, _ => rfl
  | 11, _ => rfl
  | k + 12, h => exact absurd h (by omega)
theorem iw_8 : ∀ w ∈ u_ws RX8 TX8 2, w ∈ z_good := by
  intro w hw
  obtain ⟨k, hk, rfl⟩ := List.mem_map.mp hw
  have hk := List.mem_range.mp hk
  match k, hk with
  | 0, _ => exact z_mem (w := Cond.laysFinal RX8 "BranchQuarry" "tree" "LBranchQuarry$Tree;") (List.mem_append_right (k2_sels lw_privs) (List.mem_of_getElem? (i := 359) (by decide +kernel)) : _ ∈ k2_sels lw_privs ++ tables_1) rfl
  | 1, _ => exact z_mem (w := Cond.laysFinal RX8 "BranchQuarry" "program" "LBranchQuarry$Program;") (List.mem_append_right (k2_sels lw_privs) (List.mem_of_getElem? (i := 361) (by decide +kernel)) : _ ∈ k2_sels lw_privs ++ tables_1) rfl
  | k + 2, h => exact absurd h (by omega)
theorem zd_8 : ∀ j, j < 2 → defaultValue (tyX8 j) = vp_V [.null, .null] j := by
  intro j hj
  match j, hj with
  | 0, _ => rfl
  | 1, _ => rfl
  | k + 2, h => exact absurd h (by omega)
