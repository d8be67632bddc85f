/-! words of the tables, by their places; what classes lay; what throws need -/
theorem mw1253 : Cond.methodLink RX9 1 objectInit ∈ lw_tbl := (List.mem_append_right (k2_sels lw_privs) (List.mem_of_getElem? (i := 1253) (by decide +kernel)) : _ ∈ k2_sels lw_privs ++ tables_1)
theorem mw1254 : Cond.classLink RX9 32 "[[I" ∈ lw_tbl := (List.mem_append_right (k2_sels lw_privs) (List.mem_of_getElem? (i := 1254) (by decide +kernel)) : _ ∈ k2_sels lw_privs ++ tables_1)
theorem mw1255 : Cond.classLink RX9 56 "[[J" ∈ lw_tbl := (List.mem_append_right (k2_sels lw_privs) (List.mem_of_getElem? (i := 1255) (by decide +kernel)) : _ ∈ k2_sels lw_privs ++ tables_1)
theorem mw1256 : Cond.classLink RX9 95 "[[[J" ∈ lw_tbl := (List.mem_append_right (k2_sels lw_privs) (List.mem_of_getElem? (i := 1256) (by decide +kernel)) : _ ∈ k2_sels lw_privs ++ tables_1)
theorem mw1258 : Cond.classLink RX9 112 "[[Z" ∈ lw_tbl := (List.mem_append_right (k2_sels lw_privs) (List.mem_of_getElem? (i := 1258) (by decide +kernel)) : _ ∈ k2_sels lw_privs ++ tables_1)
theorem mw1261 : Cond.fieldLink RX9 9 "BranchQuarryModel" "costs" "[I" ∈ lw_tbl := (List.mem_append_right (k2_sels lw_privs) (List.mem_of_getElem? (i := 1261) (by decide +kernel)) : _ ∈ k2_sels lw_privs ++ tables_1)
theorem mw1262 : Cond.fieldLink RX9 13 "BranchQuarryModel" "toldLower" "[I" ∈ lw_tbl := (List.mem_append_right (k2_sels lw_privs) (List.mem_of_getElem? (i := 1262) (by decide +kernel)) : _ ∈ k2_sels lw_privs ++ tables_1)
theorem mw1263 : Cond.fieldLink RX9 16 "BranchQuarryModel" "toldUpper" "[I" ∈ lw_tbl := (List.mem_append_right (k2_sels lw_privs) (List.mem_of_getElem? (i := 1263) (by decide +kernel)) : _ ∈ k2_sels lw_privs ++ tables_1)
theorem mw1264 : Cond.fieldLink RX9 19 "BranchQuarryModel" "lower" "[I" ∈ lw_tbl := (List.mem_append_right (k2_sels lw_privs) (List.mem_of_getElem? (i := 1264) (by decide +kernel)) : _ ∈ k2_sels lw_privs ++ tables_1)
theorem mw1265 : Cond.fieldLink RX9 22 "BranchQuarryModel" "upper" "[I" ∈ lw_tbl := (List.mem_append_right (k2_sels lw_privs) (List.mem_of_getElem? (i := 1265) (by decide +kernel)) : _ ∈ k2_sels lw_privs ++ tables_1)
theorem mw1266 : Cond.fieldLink RX9 25 "BranchQuarryModel" "sides" "[I" ∈ lw_tbl := (List.mem_append_right (k2_sels lw_privs) (List.mem_of_getElem? (i := 1266) (by decide +kernel)) : _ ∈ k2_sels lw_privs ++ tables_1)
theorem mw1267 : Cond.fieldLink RX9 28 "BranchQuarryModel" "isWhole" "[Z" ∈ lw_tbl := (List.mem_append_right (k2_sels lw_privs) (List.mem_of_getElem? (i := 1267) (by decide +kernel)) : _ ∈ k2_sels lw_privs ++ tables_1)
theorem mw1268 : Cond.fieldLink RX9 34 "BranchQuarryModel" "rows" "[[I" ∈ lw_tbl := (List.mem_append_right (k2_sels lw_privs) (List.mem_of_getElem? (i := 1268) (by decide +kernel)) : _ ∈ k2_sels lw_privs ++ tables_1)
theorem mw1269 : Cond.fieldLink RX9 37 "BranchQuarryModel" "senses" "[C" ∈ lw_tbl := (List.mem_append_right (k2_sels lw_privs) (List.mem_of_getElem? (i := 1269) (by decide +kernel)) : _ ∈ k2_sels lw_privs ++ tables_1)
theorem mw1272 : Cond.fieldLink RX9 41 "BranchQuarryModel" "nodeLower" "[[I" ∈ lw_tbl := (List.mem_append_right (k2_sels lw_privs) (List.mem_of_getElem? (i := 1272) (by decide +kernel)) : _ ∈ k2_sels lw_privs ++ tables_1)
theorem mw1273 : Cond.fieldLink RX9 44 "BranchQuarryModel" "nodeUpper" "[[I" ∈ lw_tbl := (List.mem_append_right (k2_sels lw_privs) (List.mem_of_getElem? (i := 1273) (by decide +kernel)) : _ ∈ k2_sels lw_privs ++ tables_1)
theorem mw1274 : Cond.fieldLink RX9 47 "BranchQuarryModel" "parents" "[I" ∈ lw_tbl := (List.mem_append_right (k2_sels lw_privs) (List.mem_of_getElem? (i := 1274) (by decide +kernel)) : _ ∈ k2_sels lw_privs ++ tables_1)
theorem mw1275 : Cond.fieldLink RX9 50 "BranchQuarryModel" "branched" "[I" ∈ lw_tbl := (List.mem_append_right (k2_sels lw_privs) (List.mem_of_getElem? (i := 1275) (by decide +kernel)) : _ ∈ k2_sels lw_privs ++ tables_1)
theorem mw1276 : Cond.fieldLink RX9 53 "BranchQuarryModel" "states" "[C" ∈ lw_tbl := (List.mem_append_right (k2_sels lw_privs) (List.mem_of_getElem? (i := 1276) (by decide +kernel)) : _ ∈ k2_sels lw_privs ++ tables_1)
theorem mw1277 : Cond.fieldLink RX9 58 "BranchQuarryModel" "points" "[[J" ∈ lw_tbl := (List.mem_append_right (k2_sels lw_privs) (List.mem_of_getElem? (i := 1277) (by decide +kernel)) : _ ∈ k2_sels lw_privs ++ tables_1)
theorem mw1278 : Cond.fieldLink RX9 61 "BranchQuarryModel" "bottoms" "[J" ∈ lw_tbl := (List.mem_append_right (k2_sels lw_privs) (List.mem_of_getElem? (i := 1278) (by decide +kernel)) : _ ∈ k2_sels lw_privs ++ tables_1)
theorem mw1279 : Cond.fieldLink RX9 65 "BranchQuarryModel" "cuts" "[[I" ∈ lw_tbl := (List.mem_append_right (k2_sels lw_privs) (List.mem_of_getElem? (i := 1279) (by decide +kernel)) : _ ∈ k2_sels lw_privs ++ tables_1)
theorem mw1280 : Cond.fieldLink RX9 68 "BranchQuarryModel" "cutSides" "[I" ∈ lw_tbl := (List.mem_append_right (k2_sels lw_privs) (List.mem_of_getElem? (i := 1280) (by decide +kernel)) : _ ∈ k2_sels lw_privs ++ tables_1)
theorem mw1281 : Cond.fieldLink RX9 71 "BranchQuarryModel" "ages" "[I" ∈ lw_tbl := (List.mem_append_right (k2_sels lw_privs) (List.mem_of_getElem? (i := 1281) (by decide +kernel)) : _ ∈ k2_sels lw_privs ++ tables_1)
theorem mw1282 : Cond.fieldLink RX9 74 "BranchQuarryModel" "trueAt" "[I" ∈ lw_tbl := (List.mem_append_right (k2_sels lw_privs) (List.mem_of_getElem? (i := 1282) (by decide +kernel)) : _ ∈ k2_sels lw_privs ++ tables_1)
theorem mw1283 : Cond.fieldLink RX9 77 "BranchQuarryModel" "downSums" "[I" ∈ lw_tbl := (List.mem_append_right (k2_sels lw_privs) (List.mem_of_getElem? (i := 1283) (by decide +kernel)) : _ ∈ k2_sels lw_privs ++ tables_1)
theorem mw1284 : Cond.fieldLink RX9 80 "BranchQuarryModel" "downMany" "[I" ∈ lw_tbl := (List.mem_append_right (k2_sels lw_privs) (List.mem_of_getElem? (i := 1284) (by decide +kernel)) : _ ∈ k2_sels lw_privs ++ tables_1)
theorem mw1285 : Cond.fieldLink RX9 83 "BranchQuarryModel" "upSums" "[I" ∈ lw_tbl := (List.mem_append_right (k2_sels lw_privs) (List.mem_of_getElem? (i := 1285) (by decide +kernel)) : _ ∈ k2_sels lw_privs ++ tables_1)
theorem mw1286 : Cond.fieldLink RX9 86 "BranchQuarryModel" "upMany" "[I" ∈ lw_tbl := (List.mem_append_right (k2_sels lw_privs) (List.mem_of_getElem? (i := 1286) (by decide +kernel)) : _ ∈ k2_sels lw_privs ++ tables_1)
theorem mw1287 : Cond.fieldLink RX9 89 "BranchQuarryModel" "kinds" "[C" ∈ lw_tbl := (List.mem_append_right (k2_sels lw_privs) (List.mem_of_getElem? (i := 1287) (by decide +kernel)) : _ ∈ k2_sels lw_privs ++ tables_1)
theorem mw1288 : Cond.fieldLink RX9 92 "BranchQuarryModel" "best" "[J" ∈ lw_tbl := (List.mem_append_right (k2_sels lw_privs) (List.mem_of_getElem? (i := 1288) (by decide +kernel)) : _ ∈ k2_sels lw_privs ++ tables_1)
theorem mw1295 : Cond.fieldLink RX9 97 "BranchQuarryModel" "given" "[[[J" ∈ lw_tbl := (List.mem_append_right (k2_sels lw_privs) (List.mem_of_getElem? (i := 1295) (by decide +kernel)) : _ ∈ k2_sels lw_privs ++ tables_1)
theorem mw1296 : Cond.fieldLink RX9 100 "BranchQuarryModel" "wishes" "[[[J" ∈ lw_tbl := (List.mem_append_right (k2_sels lw_privs) (List.mem_of_getElem? (i := 1296) (by decide +kernel)) : _ ∈ k2_sels lw_privs ++ tables_1)
theorem mw1297 : Cond.fieldLink RX9 103 "BranchQuarryModel" "givenMany" "[I" ∈ lw_tbl := (List.mem_append_right (k2_sels lw_privs) (List.mem_of_getElem? (i := 1297) (by decide +kernel)) : _ ∈ k2_sels lw_privs ++ tables_1)
theorem mw1298 : Cond.fieldLink RX9 106 "BranchQuarryModel" "boxLower" "[I" ∈ lw_tbl := (List.mem_append_right (k2_sels lw_privs) (List.mem_of_getElem? (i := 1298) (by decide +kernel)) : _ ∈ k2_sels lw_privs ++ tables_1)
theorem mw1299 : Cond.fieldLink RX9 109 "BranchQuarryModel" "boxUpper" "[I" ∈ lw_tbl := (List.mem_append_right (k2_sels lw_privs) (List.mem_of_getElem? (i := 1299) (by decide +kernel)) : _ ∈ k2_sels lw_privs ++ tables_1)
theorem mw1300 : Cond.fieldLink RX9 114 "BranchQuarryModel" "isOut" "[[Z" ∈ lw_tbl := (List.mem_append_right (k2_sels lw_privs) (List.mem_of_getElem? (i := 1300) (by decide +kernel)) : _ ∈ k2_sels lw_privs ++ tables_1)
theorem mw1301 : Cond.fieldLink RX9 117 "BranchQuarryModel" "point" "[J" ∈ lw_tbl := (List.mem_append_right (k2_sels lw_privs) (List.mem_of_getElem? (i := 1301) (by decide +kernel)) : _ ∈ k2_sels lw_privs ++ tables_1)
theorem mw1390 : Cond.arrayClass .char ∈ lw_tbl := (List.mem_append_right (k2_sels lw_privs) (List.mem_of_getElem? (i := 1390) (by decide +kernel)) : _ ∈ k2_sels lw_privs ++ tables_1)
theorem iw_9 : ∀ w ∈ u_ws RX9 TX9 43, w ∈ z_good := by
  intro w hw
  obtain ⟨k, hk, rfl⟩ := List.mem_map.mp hw
  have hk := List.mem_range.mp hk
  match k, hk with
  | 0, _ => exact z_mem (w := Cond.lays RX9 "BranchQuarryModel" "thrown" "I") (List.mem_append_right (k2_sels lw_privs) (List.mem_of_getElem? (i := 1303) (by decide +kernel)) : _ ∈ k2_sels lw_privs ++ tables_1) rfl
  | 1, _ => exact z_mem (w := Cond.laysFinal RX9 "BranchQuarryModel" "costs" "[I") (List.mem_append_right (k2_sels lw_privs) (List.mem_of_getElem? (i := 1305) (by decide +kernel)) : _ ∈ k2_sels lw_privs ++ tables_1) rfl
  | 2, _ => exact z_mem (w := Cond.laysFinal RX9 "BranchQuarryModel" "toldLower" "[I") (List.mem_append_right (k2_sels lw_privs) (List.mem_of_getElem? (i := 1307) (by decide +kernel)) : _ ∈ k2_sels lw_privs ++ tables_1) rfl
  | 3, _ => exact z_mem (w := Cond.laysFinal RX9 "BranchQuarryModel" "toldUpper" "[I") (List.mem_append_right (k2_sels lw_privs) (List.mem_of_getElem? (i := 1309) (by decide +kernel)) : _ ∈ k2_sels lw_privs ++ tables_1) rfl
  | 4, _ => exact z_mem (w := Cond.laysFinal RX9 "BranchQuarryModel" "lower" "[I") (List.mem_append_right (k2_sels lw_privs) (List.mem_of_getElem? (i := 1311) (by decide +kernel)) : _ ∈ k2_sels lw_privs ++ tables_1) rfl
  | 5, _ => exact z_mem (w := Cond.laysFinal RX9 "BranchQuarryModel" "upper" "[I") (List.mem_append_right (k2_sels lw_privs) (List.mem_of_getElem? (i := 1313) (by decide +kernel)) : _ ∈ k2_sels lw_privs ++ tables_1) rfl
  | 6, _ => exact z_mem (w := Cond.laysFinal RX9 "BranchQuarryModel" "sides" "[I") (List.mem_append_right (k2_sels lw_privs) (List.mem_of_getElem? (i := 1315) (by decide +kernel)) : _ ∈ k2_sels lw_privs ++ tables_1) rfl
  | 7, _ => exact z_mem (w := Cond.laysFinal RX9 "BranchQuarryModel" "isWhole" "[Z") (List.mem_append_right (k2_sels lw_privs) (List.mem_of_getElem? (i := 1317) (by decide +kernel)) : _ ∈ k2_sels lw_privs ++ tables_1) rfl
  | 8, _ => exact z_mem (w := Cond.laysFinal RX9 "BranchQuarryModel" "rows" "[[I") (List.mem_append_right (k2_sels lw_privs) (List.mem_of_getElem? (i := 1319) (by decide +kernel)) : _ ∈ k2_sels lw_privs ++ tables_1) rfl
  | 9, _ => exact z_mem (w := Cond.laysFinal RX9 "BranchQuarryModel" "senses" "[C") (List.mem_append_right (k2_sels lw_privs) (List.mem_of_getElem? (i := 1321) (by decide +kernel)) : _ ∈ k2_sels lw_privs ++ tables_1) rfl
  | 10, _ => exact z_mem (w := Cond.lays RX9 "BranchQuarryModel" "columns" "I") (List.mem_append_right (k2_sels lw_privs) (List.mem_of_getElem? (i := 1323) (by decide +kernel)) : _ ∈ k2_sels lw_privs ++ tables_1) rfl
  | 11, _ => exact z_mem (w := Cond.lays RX9 "BranchQuarryModel" "rowMany" "I") (List.mem_append_right (k2_sels lw_privs) (List.mem_of_getElem? (i := 1325) (by decide +kernel)) : _ ∈ k2_sels lw_privs ++ tables_1) rfl
  | 12, _ => exact z_mem (w := Cond.laysFinal RX9 "BranchQuarryModel" "nodeLower" "[[I") (List.mem_append_right (k2_sels lw_privs) (List.mem_of_getElem? (i := 1327) (by decide +kernel)) : _ ∈ k2_sels lw_privs ++ tables_1) rfl
  | 13, _ => exact z_mem (w := Cond.laysFinal RX9 "BranchQuarryModel" "nodeUpper" "[[I") (List.mem_append_right (k2_sels lw_privs) (List.mem_of_getElem? (i := 1329) (by decide +kernel)) : _ ∈ k2_sels lw_privs ++ tables_1) rfl
  | 14, _ => exact z_mem (w := Cond.laysFinal RX9 "BranchQuarryModel" "parents" "[I") (List.mem_append_right (k2_sels lw_privs) (List.mem_of_getElem? (i := 1331) (by decide +kernel)) : _ ∈ k2_sels lw_privs ++ tables_1) rfl
  | 15, _ => exact z_mem (w := Cond.laysFinal RX9 "BranchQuarryModel" "branched" "[I") (List.mem_append_right (k2_sels lw_privs) (List.mem_of_getElem? (i := 1333) (by decide +kernel)) : _ ∈ k2_sels lw_privs ++ tables_1) rfl
  | 16, _ => exact z_mem (w := Cond.laysFinal RX9 "BranchQuarryModel" "states" "[C") (List.mem_append_right (k2_sels lw_privs) (List.mem_of_getElem? (i := 1335) (by decide +kernel)) : _ ∈ k2_sels lw_privs ++ tables_1) rfl
  | 17, _ => exact z_mem (w := Cond.laysFinal RX9 "BranchQuarryModel" "points" "[[J") (List.mem_append_right (k2_sels lw_privs) (List.mem_of_getElem? (i := 1337) (by decide +kernel)) : _ ∈ k2_sels lw_privs ++ tables_1) rfl
  | 18, _ => exact z_mem (w := Cond.laysFinal RX9 "BranchQuarryModel" "bottoms" "[J") (List.mem_append_right (k2_sels lw_privs) (List.mem_of_getElem? (i := 1339) (by decide +kernel)) : _ ∈ k2_sels lw_privs ++ tables_1) rfl
  | 19, _ => exact z_mem (w := Cond.laysFinal RX9 "BranchQuarryModel" "cuts" "[[I") (List.mem_append_right (k2_sels lw_privs) (List.mem_of_getElem? (i := 1341) (by decide +kernel)) : _ ∈ k2_sels lw_privs ++ tables_1) rfl
  | 20, _ => exact z_mem (w := Cond.laysFinal RX9 "BranchQuarryModel" "cutSides" "[I") (List.mem_append_right (k2_sels lw_privs) (List.mem_of_getElem? (i := 1343) (by decide +kernel)) : _ ∈ k2_sels lw_privs ++ tables_1) rfl
  | 21, _ => exact z_mem (w := Cond.laysFinal RX9 "BranchQuarryModel" "ages" "[I") (List.mem_append_right (k2_sels lw_privs) (List.mem_of_getElem? (i := 1345) (by decide +kernel)) : _ ∈ k2_sels lw_privs ++ tables_1) rfl
  | 22, _ => exact z_mem (w := Cond.laysFinal RX9 "BranchQuarryModel" "trueAt" "[I") (List.mem_append_right (k2_sels lw_privs) (List.mem_of_getElem? (i := 1347) (by decide +kernel)) : _ ∈ k2_sels lw_privs ++ tables_1) rfl
  | 23, _ => exact z_mem (w := Cond.laysFinal RX9 "BranchQuarryModel" "downSums" "[I") (List.mem_append_right (k2_sels lw_privs) (List.mem_of_getElem? (i := 1349) (by decide +kernel)) : _ ∈ k2_sels lw_privs ++ tables_1) rfl
  | 24, _ => exact z_mem (w := Cond.laysFinal RX9 "BranchQuarryModel" "downMany" "[I") (List.mem_append_right (k2_sels lw_privs) (List.mem_of_getElem? (i := 1351) (by decide +kernel)) : _ ∈ k2_sels lw_privs ++ tables_1) rfl
  | 25, _ => exact z_mem (w := Cond.laysFinal RX9 "BranchQuarryModel" "upSums" "[I") (List.mem_append_right (k2_sels lw_privs) (List.mem_of_getElem? (i := 1353) (by decide +kernel)) : _ ∈ k2_sels lw_privs ++ tables_1) rfl
  | 26, _ => exact z_mem (w := Cond.laysFinal RX9 "BranchQuarryModel" "upMany" "[I") (List.mem_append_right (k2_sels lw_privs) (List.mem_of_getElem? (i := 1355) (by decide +kernel)) : _ ∈ k2_sels lw_privs ++ tables_1) rfl
  | 27, _ => exact z_mem (w := Cond.laysFinal RX9 "BranchQuarryModel" "kinds" "[C") (List.mem_append_right (k2_sels lw_privs) (List.mem_of_getElem? (i := 1357) (by decide +kernel)) : _ ∈ k2_sels lw_privs ++ tables_1) rfl
  | 28, _ => exact z_mem (w := Cond.laysFinal RX9 "BranchQuarryModel" "best" "[J") (List.mem_append_right (k2_sels lw_privs) (List.mem_of_getElem? (i := 1359) (by decide +kernel)) : _ ∈ k2_sels lw_privs ++ tables_1) rfl
  | 29, _ => exact z_mem (w := Cond.lays RX9 "BranchQuarryModel" "bestBottom" "J") (List.mem_append_right (k2_sels lw_privs) (List.mem_of_getElem? (i := 1361) (by decide +kernel)) : _ ∈ k2_sels lw_privs ++ tables_1) rfl
  | 30, _ => exact z_mem (w := Cond.lays RX9 "BranchQuarryModel" "nodes" "I") (List.mem_append_right (k2_sels lw_privs) (List.mem_of_getElem? (i := 1363) (by decide +kernel)) : _ ∈ k2_sels lw_privs ++ tables_1) rfl
  | 31, _ => exact z_mem (w := Cond.lays RX9 "BranchQuarryModel" "cutMany" "I") (List.mem_append_right (k2_sels lw_privs) (List.mem_of_getElem? (i := 1365) (by decide +kernel)) : _ ∈ k2_sels lw_privs ++ tables_1) rfl
  | 32, _ => exact z_mem (w := Cond.lays RX9 "BranchQuarryModel" "order" "C") (List.mem_append_right (k2_sels lw_privs) (List.mem_of_getElem? (i := 1367) (by decide +kernel)) : _ ∈ k2_sels lw_privs ++ tables_1) rfl
  | 33, _ => exact z_mem (w := Cond.lays RX9 "BranchQuarryModel" "rule" "C") (List.mem_append_right (k2_sels lw_privs) (List.mem_of_getElem? (i := 1369) (by decide +kernel)) : _ ∈ k2_sels lw_privs ++ tables_1) rfl
  | 34, _ => exact z_mem (w := Cond.lays RX9 "BranchQuarryModel" "hasBest" "Z") (List.mem_append_right (k2_sels lw_privs) (List.mem_of_getElem? (i := 1371) (by decide +kernel)) : _ ∈ k2_sels lw_privs ++ tables_1) rfl
  | 35, _ => exact z_mem (w := Cond.laysFinal RX9 "BranchQuarryModel" "given" "[[[J") (List.mem_append_right (k2_sels lw_privs) (List.mem_of_getElem? (i := 1373) (by decide +kernel)) : _ ∈ k2_sels lw_privs ++ tables_1) rfl
  | 36, _ => exact z_mem (w := Cond.laysFinal RX9 "BranchQuarryModel" "wishes" "[[[J") (List.mem_append_right (k2_sels lw_privs) (List.mem_of_getElem? (i := 1375) (by decide +kernel)) : _ ∈ k2_sels lw_privs ++ tables_1) rfl
  | 37, _ => exact z_mem (w := Cond.laysFinal RX9 "BranchQuarryModel" "givenMany" "[I") (List.mem_append_right (k2_sels lw_privs) (List.mem_of_getElem? (i := 1377) (by decide +kernel)) : _ ∈ k2_sels lw_privs ++ tables_1) rfl
  | 38, _ => exact z_mem (w := Cond.laysFinal RX9 "BranchQuarryModel" "boxLower" "[I") (List.mem_append_right (k2_sels lw_privs) (List.mem_of_getElem? (i := 1379) (by decide +kernel)) : _ ∈ k2_sels lw_privs ++ tables_1) rfl
  | 39, _ => exact z_mem (w := Cond.laysFinal RX9 "BranchQuarryModel" "boxUpper" "[I") (List.mem_append_right (k2_sels lw_privs) (List.mem_of_getElem? (i := 1381) (by decide +kernel)) : _ ∈ k2_sels lw_privs ++ tables_1) rfl
  | 40, _ => exact z_mem (w := Cond.laysFinal RX9 "BranchQuarryModel" "isOut" "[[Z") (List.mem_append_right (k2_sels lw_privs) (List.mem_of_getElem? (i := 1383) (by decide +kernel)) : _ ∈ k2_sels lw_privs ++ tables_1) rfl
  | 41, _ => exact z_mem (w := Cond.laysFinal RX9 "BranchQuarryModel" "point" "[J") (List.mem_append_right (k2_sels lw_privs) (List.mem_of_getElem? (i := 1385) (by decide +kernel)) : _ ∈ k2_sels lw_privs ++ tables_1) rfl
  | 42, _ => exact z_mem (w := Cond.lays RX9 "BranchQuarryModel" "bottom" "J") (List.mem_append_right (k2_sels lw_privs) (List.mem_of_getElem? (i := 1387) (by decide +kernel)) : _ ∈ k2_sels lw_privs ++ tables_1) rfl
  | k + 43, h => exact absurd h (by omega)
theorem zd_9 : ∀ j, j < 43 → defaultValue (tyX9 j) = vp_V [.int 0, .null, .null, .null, .null, .null, .null, .null, .null, .null, .int 0, .int 0, .null, .null, .null, .null, .null, .null, .null, .null, .null, .null, .null, .null, .null, .null, .null, .null, .null, .long 0, .int 0, .int 0, .int 0, .int 0, .int 0, .null, .null, .null, .null, .null, .null, .null, .long 0] j := by
  intro j hj
  match j, hj with
  | 0, _ => rfl
  | 1, _ => rfl
  | 2, _ => rfl
  | 3, _ => rfl
  | 4, _ => rfl
  | 5, _ => rfl
  | 6, _ => rfl
  | 7, _ => rfl
  | 8, _ => rfl
  | 9, _ => rfl
  | 10, _ => rfl
  | 11, _ => rfl
  | 12, _ => rfl
  | 13, _ => rfl
  | 14, _ => rfl
  | 15, _ => rfl
  | 16, _ => rfl
  | 17, _ => rfl
  | 18, _ => rfl
  | 19, _ => rfl
  | 20, _ => rfl
  | 21, _ => rfl
  | 22, _ => rfl
  | 23, _ => rfl
  | 24, _ => rfl
  | 25, _ => rfl
  | 26, _ => rfl
  | 27, _ => rfl
  | 28, _ => rfl
  | 29, _ => rfl
  | 30, _ => rfl
  | 31, _ => rfl
  | 32, _ => rfl
  | 33, _ => rfl
  | 34, _ => rfl
  | 35, _ => rfl
  | 36, _ => rfl
  | 37, _ => rfl
  | 38, _ => rfl
  | 39, _ => rfl
  | 40, _ => rfl
  | 41, _ => rfl
  | 42, _ => rfl
  | k + 43, h => exact absurd h (by omega)
