/-! the law's cases -/
set_option maxHeartbeats 4000000 in
set_option maxRecDepth 100000 in
theorem z_case_0 (l : Launch) (hst : l.stackTraces = false) (dC : Nat → ClassId) (dI : Nat → Nat → Nat) (xq1 : Nat) (xq2 : Nat) (xq3 : Nat) (xq4 : Nat) (xq5 : Nat) (xq6 : Nat) (xq7 : Nat) (xq8 : Nat) (xq9 : Nat) (xq10 : Nat) (xq11 : Nat) (xq12 : Nat) (xq13 : Nat) (xq14 : Nat) (xq15 : Nat) (xq16 : Nat) (xq17 : Nat) (xq18 : Nat) (xq19 : Nat) (xc20 : ClassId) (xf21 : Nat → Int32) (xc22 : ClassId) (xc23 : ClassId) (xc24 : ClassId) (xc25 : ClassId) (xc26 : ClassId) (h0 : Nat) (mxq1 : Nat) (mxq2 : Nat) (mxq3 : Nat) (mxq4 : Nat) (mxq5 : Nat) (mxq6 : Nat) (mxq7 : Nat) (mxq8 : Nat) (mxq9 : Nat) (mxq10 : Nat) (mxq11 : Nat) (mxq12 : Nat) (mxq13 : Nat) (mxq14 : Nat) (mxq15 : Nat) (mxq16 : Nat) (mxq17 : Nat) (mxq18 : Nat) (mxq19 : Nat) (mxq20 : Nat) (mxq21 : Nat) (mxq22 : Nat) (mxq23 : Nat) (mxq24 : Nat) (mxq25 : Nat) (mxq26 : Nat) (mxq27 : Nat) (mxq28 : Nat) (mxq29 : Nat) (mxq30 : Nat) (mxq31 : Nat) (mxq32 : Nat) (mxq33 : Nat) (mxc34 : ClassId) (mxf35 : Nat → Int32) (mxc36 : ClassId) (mxc37 : ClassId) (mxc38 : ClassId) (mxc39 : ClassId) (mxc41 : ClassId) (mh0 : Nat) (o : Nat) (co : ClassId) (fo : Nat → Int64) (od : Nat) {p : Program} {e : Env} {s : State} {m : MethodId} {below : List Frame} {meth : Method} {c : Code} {b : Nat} {xs : Nat → Int32} {A : Nat → Prop} {Q : State → Prop} (hx : p.tables.exec = Jvm.exec) (hb : c.code = cL_law) (hml : c.maxLocals = 9) (hown : s.vm.findClass RL = some m.cls) (hts : ∀ w ∈ lw_tbl, w.before #[Value.ref b] s = true) (hX : va_X b 7 xs s s.heap) (hbl : b < s.heap.size) (hbA : ¬ A b) (K : z_LK p l e s m below meth c b A Q) {H : Heap} {locs : List Loc} {ls : Array Slot} (I : z_I A dC dI [(h0, .inr (8, [.ref xq1, .ref xq2])), (xq1, .inr (7, [.ref xq2, .ref xq3, .ref xq4, .ref xq5, .ref xq6, .ref xq7, .ref xq8, .int 0, .int 0, .int 0, .int 0, .int 0])), (xq2, .inr (5, [.ref xq9, .ref xq10, .ref xq11, .ref xq12, .ref xq13, .ref xq14, .ref xq15, .ref xq16, .ref xq17, .ref xq18, .ref xq19, .int 0, .int 0])), (xq9, .inl (xc20, 4, .inl xf21)), (xq10, .inl (xc22, 4, .inl xf21)), (xq11, .inl (xc23, 4, .inl xf21)), (xq12, .inl (xc24, 4, .inl xf21)), (xq13, .inl (xc25, 4, .inl xf21)), (xq14, .inl (xc26, 4, .inl xf21)), (mh0, .inr (9, [.int 0, .ref mxq1, .ref mxq2, .ref mxq3, .ref mxq4, .ref mxq5, .ref mxq6, .ref mxq7, .ref mxq8, .ref mxq9, .int 0, .int 0, .ref mxq10, .ref mxq11, .ref mxq12, .ref mxq13, .ref mxq14, .ref mxq15, .ref mxq16, .ref mxq17, .ref mxq18, .ref mxq19, .ref mxq20, .ref mxq21, .ref mxq22, .ref mxq23, .ref mxq24, .ref mxq25, .ref mxq26, .long 0, .int 0, .int 0, .int 0, .int 0, .int 0, .ref mxq27, .ref mxq28, .ref mxq29, .ref mxq30, .ref mxq31, .ref mxq32, .ref mxq33, .long 0])), (mxq1, .inl (mxc34, 4, .inl mxf35)), (mxq2, .inl (mxc36, 4, .inl mxf35)), (mxq3, .inl (mxc37, 4, .inl mxf35)), (mxq4, .inl (mxc38, 4, .inl mxf35)), (mxq5, .inl (mxc39, 4, .inl mxf35)), (mxq7, .inl (mxc41, 4, .inl mxf35)), (o, .inl (co, 1, .inr (.inl fo)))] [(xc20, .int), (xc22, .int), (xc23, .int), (xc24, .boolean), (xc25, .int), (xc26, .int), (mxc34, .int), (mxc36, .int), (mxc37, .int), (mxc38, .int), (mxc39, .int), (mxc41, .boolean), (co, .long)] s H locs) (hl : lv_has ls 9 [(0, .ref b), (1, .ref h0), (2, .ref mh0), (3, .ref o), (4, .ref od), (5, .int 0)]) : W p l e room_1 s m #[Value.ref b] below meth c H locs 1000 8000 Q (F0 m 196 ls []) := by
  have hg : z_G #[Value.ref b] s := fun w hw _ => hts w hw
  refine lv_aload_n hx hb dL_law_196 rfl (lv_at hl 1 rfl) ?_
  refine lv_aload_n hx hb dL_law_197 rfl (lv_at hl 0 rfl) ?_
  refine lv_iload hx hb dL_law_198 (lv_at hl 5 rfl) ?_
  refine lv_iconst (v := 1) hx hb dL_law_200 (by decide) ?_
  refine lv_iadd hx hb dL_law_201 ?_
  refine lv_topi (fun w1 ew1 => ?_)
  obtain rfl : w1 = 1 := ew1.trans (by decide)
  refine va_sld hx hb hX hbl hbA I.2.2.2.1 (by unfold vp_in; decide) dL_law_202 ?_
  refine lv_aload_n hx hb dL_law_203 rfl (lv_at hl 0 rfl) ?_
  refine lv_iload hx hb dL_law_204 (lv_at hl 5 rfl) ?_
  refine lv_iconst (v := 2) hx hb dL_law_206 (by decide) ?_
  refine lv_iadd hx hb dL_law_207 ?_
  refine lv_topi (fun w2 ew2 => ?_)
  obtain rfl : w2 = 2 := ew2.trans (by decide)
  refine va_sld hx hb hX hbl hbA I.2.2.2.1 (by unfold vp_in; decide) dL_law_208 ?_
  refine lv_aload_n hx hb dL_law_209 rfl (lv_at hl 0 rfl) ?_
  refine lv_iload hx hb dL_law_210 (lv_at hl 5 rfl) ?_
  refine lv_iconst (v := 3) hx hb dL_law_212 (by decide) ?_
  refine lv_iadd hx hb dL_law_213 ?_
  refine lv_topi (fun w3 ew3 => ?_)
  obtain rfl : w3 = 3 := ew3.trans (by decide)
  refine va_sld hx hb hX hbl hbA I.2.2.2.1 (by unfold vp_in; decide) dL_law_214 ?_
  refine lv_aload_n hx hb dL_law_215 rfl (lv_at hl 0 rfl) ?_
  refine lv_iload hx hb dL_law_216 (lv_at hl 5 rfl) ?_
  refine lv_iconst (v := 4) hx hb dL_law_218 (by decide) ?_
  refine lv_iadd hx hb dL_law_219 ?_
  refine lv_topi (fun w4 ew4 => ?_)
  obtain rfl : w4 = 4 := ew4.trans (by decide)
  refine va_sld hx hb hX hbl hbA I.2.2.2.1 (by unfold vp_in; decide) dL_law_220 ?_
  refine z_merge (M := 229) (ls := ls) (P := fun _ => True) (rest := [.int (xs (Int32.toNatClampNeg 3)), .int (xs (Int32.toNatClampNeg 2)), .int (xs (Int32.toNatClampNeg 1)), .ref h0]) (fun v6 hv6 => ?_) (fun J5 => ?_)
  · skip
    refine lv_aload_n hx hb dL_law_229 rfl (lv_at hl 3 rfl) ?_
    refine z_xcalli (wr := [(mh0, .inr (9, [.int 0, .ref mxq1, .ref mxq2, .ref mxq3, .ref mxq4, .ref mxq5, .ref mxq6, .ref mxq7, .ref mxq8, .ref mxq9, .int 0, .int 0, .ref mxq10, .ref mxq11, .ref mxq12, .ref mxq13, .ref mxq14, .ref mxq15, .ref mxq16, .ref mxq17, .ref mxq18, .ref mxq19, .ref mxq20, .ref mxq21, .ref mxq22, .ref mxq23, .ref mxq24, .ref mxq25, .ref mxq26, .long 0, .int 0, .int 0, .int 0, .int 0, .int 0, .ref mxq27, .ref mxq28, .ref mxq29, .ref mxq30, .ref mxq31, .ref mxq32, .ref mxq33, .long 0])), (mxq1, .inl (mxc34, 4, .inl mxf35)), (mxq2, .inl (mxc36, 4, .inl mxf35)), (mxq3, .inl (mxc37, 4, .inl mxf35)), (mxq4, .inl (mxc38, 4, .inl mxf35)), (mxq5, .inl (mxc39, 4, .inl mxf35)), (mxq7, .inl (mxc41, 4, .inl mxf35))]) (vx_runSX (As := [.ref h0, .int (xs (Int32.toNatClampNeg 1)), .int (xs (Int32.toNatClampNeg 2)), .int (xs (Int32.toNatClampNeg 3)), .int v6, .ref o]) (rest := []) ⟨hx, hb, hml, hown, hts⟩ (z_L_addColumn l hst dC dI xq1 xq2 xq3 xq4 xq5 xq6 xq7 xq8 xq9 xq10 xq11 xq12 xq13 xq14 xq15 xq16 xq17 xq18 xq19 xc20 xf21 xc22 xc23 xc24 xc25 xc26 h0 o co fo (xs (Int32.toNatClampNeg 1)) (xs (Int32.toNatClampNeg 2)) (xs (Int32.toNatClampNeg 3)) v6  H.size) (vx_cwSW 6 hts (z_gSh z_T.l mw380 mw381 mw0 mw382) rfl rfl rfl (by decide +kernel) ⟨Nat.le_of_ble_eq_true rfl, Nat.le_of_ble_eq_true rfl⟩) (z_pre I [0, 1, 2, 3, 4, 5, 6, 7, 8, 16] [0, 1, 2, 3, 4, 5, 12] rfl rfl rfl rfl) rfl rfl hl.1 rfl (lv_room (Nat.le_of_ble_eq_true rfl)) dL_law_230 ⟨Nat.le_of_ble_eq_true rfl, Nat.le_of_ble_eq_true rfl⟩) I [0, 1, 2, 3, 4, 5, 6, 7, 8, 16] [9, 10, 11, 12, 13, 14, 15] rfl rfl (by decide) (by decide) (fun E7 ce7 q7 H locs hE7 I hcell hcv hcl => ?_) (fun r7 u7 H locs hw7 I => ?_)
    · skip
      have I : z_I A dC dI [(mh0, .inr (9, [.int 0, .ref mxq1, .ref mxq2, .ref mxq3, .ref mxq4, .ref mxq5, .ref mxq6, .ref mxq7, .ref mxq8, .ref mxq9, .int 0, .int 0, .ref mxq10, .ref mxq11, .ref mxq12, .ref mxq13, .ref mxq14, .ref mxq15, .ref mxq16, .ref mxq17, .ref mxq18, .ref mxq19, .ref mxq20, .ref mxq21, .ref mxq22, .ref mxq23, .ref mxq24, .ref mxq25, .ref mxq26, .long 0, .int 0, .int 0, .int 0, .int 0, .int 0, .ref mxq27, .ref mxq28, .ref mxq29, .ref mxq30, .ref mxq31, .ref mxq32, .ref mxq33, .long 0])), (mxq1, .inl (mxc34, 4, .inl mxf35)), (mxq2, .inl (mxc36, 4, .inl mxf35)), (mxq3, .inl (mxc37, 4, .inl mxf35)), (mxq4, .inl (mxc38, 4, .inl mxf35)), (mxq5, .inl (mxc39, 4, .inl mxf35)), (mxq7, .inl (mxc41, 4, .inl mxf35))] [(xc20, .int), (xc22, .int), (xc23, .int), (xc24, .boolean), (xc25, .int), (xc26, .int), (mxc34, .int), (mxc36, .int), (mxc37, .int), (mxc38, .int), (mxc39, .int), (mxc41, .boolean), (co, .long)] s H _ := I
      exact False.elim hE7
    · skip
      obtain ⟨xf8, hu7, hp7⟩ := hw7
      subst hu7
      have I : z_I A dC dI [(mh0, .inr (9, [.int 0, .ref mxq1, .ref mxq2, .ref mxq3, .ref mxq4, .ref mxq5, .ref mxq6, .ref mxq7, .ref mxq8, .ref mxq9, .int 0, .int 0, .ref mxq10, .ref mxq11, .ref mxq12, .ref mxq13, .ref mxq14, .ref mxq15, .ref mxq16, .ref mxq17, .ref mxq18, .ref mxq19, .ref mxq20, .ref mxq21, .ref mxq22, .ref mxq23, .ref mxq24, .ref mxq25, .ref mxq26, .long 0, .int 0, .int 0, .int 0, .int 0, .int 0, .ref mxq27, .ref mxq28, .ref mxq29, .ref mxq30, .ref mxq31, .ref mxq32, .ref mxq33, .long 0])), (mxq1, .inl (mxc34, 4, .inl mxf35)), (mxq2, .inl (mxc36, 4, .inl mxf35)), (mxq3, .inl (mxc37, 4, .inl mxf35)), (mxq4, .inl (mxc38, 4, .inl mxf35)), (mxq5, .inl (mxc39, 4, .inl mxf35)), (mxq7, .inl (mxc41, 4, .inl mxf35)), (o, .inl (co, 1, .inr (.inl xf8)))] [(xc20, .int), (xc22, .int), (xc23, .int), (xc24, .boolean), (xc25, .int), (xc26, .int), (mxc34, .int), (mxc36, .int), (mxc37, .int), (mxc38, .int), (mxc39, .int), (mxc41, .boolean), (co, .long)] s H _ := I
      refine W.widen (k := 1001) (n := 8006) (Nat.le_of_ble_eq_true rfl) (Nat.le_of_ble_eq_true rfl) ?_
      refine lv_istore (lv' := [(6, .int r7), (0, .ref b), (1, .ref h0), (2, .ref mh0), (3, .ref o), (4, .ref od), (5, .int 0)]) hx hb dL_law_233 hl (by decide) rfl (fun ls hl => ?_)
      refine lv_aload_n hx hb dL_law_235 rfl (lv_at hl 3 rfl) ?_
      refine lv_aload_n hx hb dL_law_236 rfl (lv_at hl 1 rfl) ?_
      refine lv_iload hx hb dL_law_237 (lv_at hl 6 rfl) ?_
      refine lv_iconst (v := 1) hx hb dL_law_239 (by decide) ?_
      refine lv_iadd hx hb dL_law_240 ?_
      refine lv_topi (fun w9 ew9 => ?_)
      obtain rfl : w9 = 1 := ew9.trans (by decide)
      refine va_sld hx hb hX hbl hbA I.2.2.2.1 (by unfold vp_in; decide) dL_law_241 ?_
      refine lv_aload_n hx hb dL_law_242 rfl (lv_at hl 1 rfl) ?_
      refine lv_iload hx hb dL_law_243 (lv_at hl 6 rfl) ?_
      refine lv_iconst (v := 2) hx hb dL_law_245 (by decide) ?_
      refine lv_iadd hx hb dL_law_246 ?_
      refine lv_topi (fun w10 ew10 => ?_)
      obtain rfl : w10 = 2 := ew10.trans (by decide)
      refine va_sld hx hb hX hbl hbA I.2.2.2.1 (by unfold vp_in; decide) dL_law_247 ?_
      refine lv_aload_n hx hb dL_law_248 rfl (lv_at hl 1 rfl) ?_
      refine lv_iload hx hb dL_law_249 (lv_at hl 6 rfl) ?_
      refine lv_iconst (v := 3) hx hb dL_law_251 (by decide) ?_
      refine lv_iadd hx hb dL_law_252 ?_
      refine lv_topi (fun w11 ew11 => ?_)
      obtain rfl : w11 = 3 := ew11.trans (by decide)
      refine va_sld hx hb hX hbl hbA I.2.2.2.1 (by unfold vp_in; decide) dL_law_253 ?_
      refine lv_aload_n hx hb dL_law_254 rfl (lv_at hl 1 rfl) ?_
      refine lv_iload hx hb dL_law_255 (lv_at hl 6 rfl) ?_
      refine lv_iconst (v := 4) hx hb dL_law_257 (by decide) ?_
      refine lv_iadd hx hb dL_law_258 ?_
      refine lv_topi (fun w12 ew12 => ?_)
      obtain rfl : w12 = 4 := ew12.trans (by decide)
      refine va_sld hx hb hX hbl hbA I.2.2.2.1 (by unfold vp_in; decide) dL_law_259 ?_
      refine z_merge (M := 268) (ls := ls) (P := fun _ => True) (rest := [.int (xs (Int32.toNatClampNeg 3)), .int (xs (Int32.toNatClampNeg 2)), .int (xs (Int32.toNatClampNeg 1)), .ref mh0]) (fun v14 hv14 => ?_) (fun J13 => ?_)
      · skip
        refine z_calli (wr := [(o, .inl (co, 1, .inr (.inl xf8)))]) (va_runV (As := [.int (xs (Int32.toNatClampNeg 1)), .int (xs (Int32.toNatClampNeg 2)), .int (xs (Int32.toNatClampNeg 3)), .int v14]) (rest := []) ⟨hx, hb, hml, hown, hts⟩ (z_M_addColumn l dC dI mxq1 mxq2 mxq3 mxq4 mxq5 mxq6 mxq7 mxq8 mxq9 mxq10 mxq11 mxq12 mxq13 mxq14 mxq15 mxq16 mxq17 mxq18 mxq19 mxq20 mxq21 mxq22 mxq23 mxq24 mxq25 mxq26 mxq27 mxq28 mxq29 mxq30 mxq31 mxq32 mxq33 mxc34 mxf35 mxc36 mxc37 mxc38 mxc39 mxc41 mh0 (xs (Int32.toNatClampNeg 1)) (xs (Int32.toNatClampNeg 2)) (xs (Int32.toNatClampNeg 3)) v14  H.size) (cwV 4 hts (z_gV z_T.l mw1395 mw1396 mw1397 mw10 mw1398) rfl rfl rfl (by decide +kernel) ⟨Nat.le_of_ble_eq_true rfl, Nat.le_of_ble_eq_true rfl⟩) (z_preV I [0, 1, 2, 3, 4, 5, 6] [6, 7, 8, 9, 10, 11] rfl rfl rfl rfl (ci := 9) (q0 := 0) rfl rfl) rfl rfl hl.1 rfl (lv_room (Nat.le_of_ble_eq_true rfl)) dL_law_268 ⟨Nat.le_of_ble_eq_true rfl, Nat.le_of_ble_eq_true rfl⟩) I [0, 1, 2, 3, 4, 5, 6] [7] rfl rfl (by decide) (by decide) (fun r15 u15 H locs hw15 I => ?_)
        obtain ⟨y16, y17, hu15, hp15⟩ := hw15
        subst hu15
        have I : z_I A dC dI [(o, .inl (co, 1, .inr (.inl xf8))), (mh0, .inr (9, [.int y16, .ref mxq1, .ref mxq2, .ref mxq3, .ref mxq4, .ref mxq5, .ref mxq6, .ref mxq7, .ref mxq8, .ref mxq9, .int y17, .int 0, .ref mxq10, .ref mxq11, .ref mxq12, .ref mxq13, .ref mxq14, .ref mxq15, .ref mxq16, .ref mxq17, .ref mxq18, .ref mxq19, .ref mxq20, .ref mxq21, .ref mxq22, .ref mxq23, .ref mxq24, .ref mxq25, .ref mxq26, .long 0, .int 0, .int 0, .int 0, .int 0, .int 0, .ref mxq27, .ref mxq28, .ref mxq29, .ref mxq30, .ref mxq31, .ref mxq32, .ref mxq33, .long 0]))] [(xc20, .int), (xc22, .int), (xc23, .int), (xc24, .boolean), (xc25, .int), (xc26, .int), (mxc34, .int), (mxc36, .int), (mxc37, .int), (mxc38, .int), (mxc39, .int), (mxc41, .boolean), (co, .long)] s H _ := I
        obtain rfl : r15 = 0 := hp15.1
        refine lv_istore (lv' := [(7, .int 0), (6, .int r7), (0, .ref b), (1, .ref h0), (2, .ref mh0), (3, .ref o), (4, .ref od), (5, .int 0)]) hx hb dL_law_271 hl (by decide) rfl (fun ls hl => ?_)
        refine lv_aload_n hx hb dL_law_273 rfl (lv_at hl 4 rfl) ?_
        refine z_calli (wr := [(o, .inl (co, 1, .inr (.inl xf8)))]) (va_runV (As := []) (rest := []) ⟨hx, hb, hml, hown, hts⟩ (z_M_thrown l dC dI y16 mxq1 mxq2 mxq3 mxq4 mxq5 mxq6 mxq7 mxq8 mxq9 y17 0 mxq10 mxq11 mxq12 mxq13 mxq14 mxq15 mxq16 mxq17 mxq18 mxq19 mxq20 mxq21 mxq22 mxq23 mxq24 mxq25 mxq26 0 0 0 0 0 0 mxq27 mxq28 mxq29 mxq30 mxq31 mxq32 mxq33 0 mh0  H.size) (cwV 0 hts (z_gV z_T.l mw1391 mw1392 mw1393 mw10 mw1394) rfl rfl rfl (by decide +kernel) ⟨Nat.le_of_ble_eq_true rfl, Nat.le_of_ble_eq_true rfl⟩) (z_preV I [1] [] rfl rfl rfl rfl (ci := 9) (q0 := 1) rfl rfl) rfl rfl hl.1 rfl (lv_room (Nat.le_of_ble_eq_true rfl)) dL_law_274 ⟨Nat.le_of_ble_eq_true rfl, Nat.le_of_ble_eq_true rfl⟩) I [1] [0] rfl rfl (by decide) (by decide) (fun r18 u18 H locs hw18 I => ?_)
        obtain ⟨hu18, hp18⟩ := hw18
        subst hu18
        have I : z_I A dC dI [(o, .inl (co, 1, .inr (.inl xf8))), (mh0, .inr (9, [.int y16, .ref mxq1, .ref mxq2, .ref mxq3, .ref mxq4, .ref mxq5, .ref mxq6, .ref mxq7, .ref mxq8, .ref mxq9, .int y17, .int 0, .ref mxq10, .ref mxq11, .ref mxq12, .ref mxq13, .ref mxq14, .ref mxq15, .ref mxq16, .ref mxq17, .ref mxq18, .ref mxq19, .ref mxq20, .ref mxq21, .ref mxq22, .ref mxq23, .ref mxq24, .ref mxq25, .ref mxq26, .long 0, .int 0, .int 0, .int 0, .int 0, .int 0, .ref mxq27, .ref mxq28, .ref mxq29, .ref mxq30, .ref mxq31, .ref mxq32, .ref mxq33, .long 0]))] [(xc20, .int), (xc22, .int), (xc23, .int), (xc24, .boolean), (xc25, .int), (xc26, .int), (mxc34, .int), (mxc36, .int), (mxc37, .int), (mxc38, .int), (mxc39, .int), (mxc41, .boolean), (co, .long)] s H _ := I
        obtain rfl : y16 = r18 := hp18.symm
        refine lv_iload hx hb dL_law_277 (lv_at hl 1 rfl) ?_
        refine lv_icmp_eq (tgt := 284) hx hb dL_law_279 (by decide) (fun _ => ?_) (fun c9 => absurd (hp15.2.trans hp7.1.symm) c9)
        refine lv_iload hx hb dL_law_284 (lv_at hl 1 rfl) ?_
        refine lv_if_ne (tgt := 301) hx hb dL_law_286 (by decide) (fun c19 => ?_) (fun c19 => ?_)
        · skip
          refine lv_goto (tgt := 2238) hx hb dL_law_301 (by decide) ?_
          refine W.widen (k := 2000) (n := 9000) (Nat.le_of_ble_eq_true rfl) (Nat.le_of_ble_eq_true rfl) ?_
          exact K _ _ _ I.2.2.2.1 (lv_sub hl [2, 7] rfl)
        · skip
          refine lv_aload_n hx hb dL_law_289 rfl (lv_at hl 5 rfl) ?_
          refine lv_iconst (v := 0) hx hb dL_law_290 (by decide) ?_
          refine z_lald (v := 0) hx hb I 0 12 rfl rfl (by unfold vp_in; decide) dL_law_291 (hp7.2 c19) ?_
          refine lv_iload hx hb dL_law_292 (lv_at hl 0 rfl) ?_
          refine lv_i2l (v := 0) hx hb dL_law_294 (by decide) ?_
          refine W.lcmp hx hb dL_law_295 ?_
          refine lv_topi (fun w20 ew20 => ?_)
          obtain rfl : w20 = 0 := ew20.trans (by decide)
          refine lv_if_eq (tgt := 301) hx hb dL_law_296 (by decide) (fun _ => ?_) (fun c9 => absurd c9 (by decide))
          refine lv_goto (tgt := 2238) hx hb dL_law_301 (by decide) ?_
          refine W.widen (k := 2000) (n := 9000) (Nat.le_of_ble_eq_true rfl) (Nat.le_of_ble_eq_true rfl) ?_
          exact K _ _ _ I.2.2.2.1 (lv_sub hl [2, 7] rfl)
      · skip
        refine lv_if_eq (tgt := 267) hx hb dL_law_260 (by decide) (fun c21 => ?_) (fun c21 => ?_)
        · skip
          refine lv_iconst (v := 0) hx hb dL_law_267 (by decide) ?_
          exact J13 0 trivial
        · skip
          refine lv_iconst (v := 1) hx hb dL_law_263 (by decide) ?_
          refine lv_goto (tgt := 268) hx hb dL_law_264 (by decide) ?_
          exact J13 1 trivial
  · skip
    refine lv_if_eq (tgt := 228) hx hb dL_law_221 (by decide) (fun c22 => ?_) (fun c22 => ?_)
    · skip
      refine lv_iconst (v := 0) hx hb dL_law_228 (by decide) ?_
      exact J5 0 trivial
    · skip
      refine lv_iconst (v := 1) hx hb dL_law_224 (by decide) ?_
      refine lv_goto (tgt := 229) hx hb dL_law_225 (by decide) ?_
      exact J5 1 trivial
set_option maxHeartbeats 4000000 in
set_option maxRecDepth 100000 in
theorem z_case_1 (l : Launch) (hst : l.stackTraces = false) (dC : Nat → ClassId) (dI : Nat → Nat → Nat) (xq1 : Nat) (xq2 : Nat) (xq3 : Nat) (xq4 : Nat) (xq5 : Nat) (xq6 : Nat) (xq7 : Nat) (xq8 : Nat) (xq9 : Nat) (xq10 : Nat) (xq11 : Nat) (xq12 : Nat) (xq13 : Nat) (xq14 : Nat) (xq15 : Nat) (xq16 : Nat) (xq17 : Nat) (xq18 : Nat) (xq19 : Nat) (xc29 : ClassId) (xf30 : Nat → Option Nat) (xq31 : Nat) (xq45 : Nat) (xc46 : ClassId) (xf47 : Nat → Int32) (h0 : Nat) (mxq1 : Nat) (mxq2 : Nat) (mxq3 : Nat) (mxq4 : Nat) (mxq5 : Nat) (mxq6 : Nat) (mxq7 : Nat) (mxq8 : Nat) (mxq9 : Nat) (mxq10 : Nat) (mxq11 : Nat) (mxq12 : Nat) (mxq13 : Nat) (mxq14 : Nat) (mxq15 : Nat) (mxq16 : Nat) (mxq17 : Nat) (mxq18 : Nat) (mxq19 : Nat) (mxq20 : Nat) (mxq21 : Nat) (mxq22 : Nat) (mxq23 : Nat) (mxq24 : Nat) (mxq25 : Nat) (mxq26 : Nat) (mxq27 : Nat) (mxq28 : Nat) (mxq29 : Nat) (mxq30 : Nat) (mxq31 : Nat) (mxq32 : Nat) (mxq33 : Nat) (mxf35 : Nat → Int32) (mxc40 : ClassId) (mxc42 : ClassId) (mxf43 : Nat → Option Nat) (mxq44 : Nat) (mxc45 : ClassId) (mxc46 : ClassId) (mh0 : Nat) (o : Nat) (co : ClassId) (fo : Nat → Int64) (od : Nat) {p : Program} {e : Env} {s : State} {m : MethodId} {below : List Frame} {meth : Method} {c : Code} {b : Nat} {xs : Nat → Int32} {A : Nat → Prop} {Q : State → Prop} (hx : p.tables.exec = Jvm.exec) (hb : c.code = cL_law) (hml : c.maxLocals = 9) (hown : s.vm.findClass RL = some m.cls) (hts : ∀ w ∈ lw_tbl, w.before #[Value.ref b] s = true) (hX : va_X b 7 xs s s.heap) (hbl : b < s.heap.size) (hbA : ¬ A b) (K : z_LK p l e s m below meth c b A Q) {H : Heap} {locs : List Loc} {ls : Array Slot} (I : z_I A dC dI [(h0, .inr (8, [.ref xq1, .ref xq2])), (xq1, .inr (7, [.ref xq2, .ref xq3, .ref xq4, .ref xq5, .ref xq6, .ref xq7, .ref xq8, .int 0, .int 0, .int 0, .int 0, .int 0])), (xq2, .inr (5, [.ref xq9, .ref xq10, .ref xq11, .ref xq12, .ref xq13, .ref xq14, .ref xq15, .ref xq16, .ref xq17, .ref xq18, .ref xq19, .int 0, .int 0])), (xq17, .inl (xc29, 8, .inr (.inr (.inr (.inr (va_up xf30 0 (some xq31))))))), (xq31, .inr (6, [.ref xq45, .int 0, .int 108])), (xq45, .inl (xc46, 4, .inl xf47)), (mh0, .inr (9, [.int 0, .ref mxq1, .ref mxq2, .ref mxq3, .ref mxq4, .ref mxq5, .ref mxq6, .ref mxq7, .ref mxq8, .ref mxq9, .int 0, .int 0, .ref mxq10, .ref mxq11, .ref mxq12, .ref mxq13, .ref mxq14, .ref mxq15, .ref mxq16, .ref mxq17, .ref mxq18, .ref mxq19, .ref mxq20, .ref mxq21, .ref mxq22, .ref mxq23, .ref mxq24, .ref mxq25, .ref mxq26, .long 0, .int 0, .int 0, .int 0, .int 0, .int 0, .ref mxq27, .ref mxq28, .ref mxq29, .ref mxq30, .ref mxq31, .ref mxq32, .ref mxq33, .long 0])), (mxq6, .inl (mxc40, 8, .inl mxf35)), (mxq8, .inl (mxc42, 8, .inr (.inr (.inr (.inr (va_up mxf43 0 (some mxq44))))))), (mxq44, .inl (mxc45, 4, .inl mxf35)), (mxq9, .inl (mxc46, 8, .inl mxf35)), (o, .inl (co, 1, .inr (.inl fo)))] [(xc29, .object RX6), (xc46, .int), (mxc40, .int), (mxc42, .array .int), (mxc45, .int), (mxc46, .char), (co, .long)] s H locs) (hl : lv_has ls 9 [(0, .ref b), (1, .ref h0), (2, .ref mh0), (3, .ref o), (4, .ref od), (5, .int 0)]) : W p l e room_1 s m #[Value.ref b] below meth c H locs 1000 8000 Q (F0 m 304 ls []) := by
  have hg : z_G #[Value.ref b] s := fun w hw _ => hts w hw
  refine lv_aload_n hx hb dL_law_304 rfl (lv_at hl 1 rfl) ?_
  refine lv_aload_n hx hb dL_law_305 rfl (lv_at hl 0 rfl) ?_
  refine lv_iload hx hb dL_law_306 (lv_at hl 5 rfl) ?_
  refine lv_iconst (v := 1) hx hb dL_law_308 (by decide) ?_
  refine lv_iadd hx hb dL_law_309 ?_
  refine lv_topi (fun w1 ew1 => ?_)
  obtain rfl : w1 = 1 := ew1.trans (by decide)
  refine va_sld hx hb hX hbl hbA I.2.2.2.1 (by unfold vp_in; decide) dL_law_310 ?_
  refine lv_i2c (v := ((xs (Int32.toNatClampNeg 1)).toUInt32 % 65536).toInt32) hx hb dL_law_311 rfl ?_
  refine lv_aload_n hx hb dL_law_312 rfl (lv_at hl 0 rfl) ?_
  refine lv_iload hx hb dL_law_313 (lv_at hl 5 rfl) ?_
  refine lv_iconst (v := 2) hx hb dL_law_315 (by decide) ?_
  refine lv_iadd hx hb dL_law_316 ?_
  refine lv_topi (fun w2 ew2 => ?_)
  obtain rfl : w2 = 2 := ew2.trans (by decide)
  refine va_sld hx hb hX hbl hbA I.2.2.2.1 (by unfold vp_in; decide) dL_law_317 ?_
  refine lv_aload_n hx hb dL_law_318 rfl (lv_at hl 0 rfl) ?_
  refine lv_iload hx hb dL_law_319 (lv_at hl 5 rfl) ?_
  refine lv_iconst (v := 3) hx hb dL_law_321 (by decide) ?_
  refine lv_iadd hx hb dL_law_322 ?_
  refine lv_topi (fun w3 ew3 => ?_)
  obtain rfl : w3 = 3 := ew3.trans (by decide)
  refine va_sld hx hb hX hbl hbA I.2.2.2.1 (by unfold vp_in; decide) dL_law_323 ?_
  refine lv_aload_n hx hb dL_law_324 rfl (lv_at hl 0 rfl) ?_
  refine lv_iload hx hb dL_law_325 (lv_at hl 5 rfl) ?_
  refine lv_iconst (v := 4) hx hb dL_law_327 (by decide) ?_
  refine lv_iadd hx hb dL_law_328 ?_
  refine lv_topi (fun w4 ew4 => ?_)
  obtain rfl : w4 = 4 := ew4.trans (by decide)
  refine va_sld hx hb hX hbl hbA I.2.2.2.1 (by unfold vp_in; decide) dL_law_329 ?_
  refine lv_aload_n hx hb dL_law_330 rfl (lv_at hl 0 rfl) ?_
  refine lv_iload hx hb dL_law_331 (lv_at hl 5 rfl) ?_
  refine lv_iconst (v := 5) hx hb dL_law_333 (by decide) ?_
  refine lv_iadd hx hb dL_law_334 ?_
  refine lv_topi (fun w5 ew5 => ?_)
  obtain rfl : w5 = 5 := ew5.trans (by decide)
  refine va_sld hx hb hX hbl hbA I.2.2.2.1 (by unfold vp_in; decide) dL_law_335 ?_
  refine lv_aload_n hx hb dL_law_336 rfl (lv_at hl 0 rfl) ?_
  refine lv_iload hx hb dL_law_337 (lv_at hl 5 rfl) ?_
  refine lv_bipush (v := 6) hx hb dL_law_339 (by decide) ?_
  refine lv_iadd hx hb dL_law_341 ?_
  refine lv_topi (fun w6 ew6 => ?_)
  obtain rfl : w6 = 6 := ew6.trans (by decide)
  refine va_sld hx hb hX hbl hbA I.2.2.2.1 (by unfold vp_in; decide) dL_law_342 ?_
  refine lv_aload_n hx hb dL_law_343 rfl (lv_at hl 3 rfl) ?_
  refine z_xcalli (wr := [(mh0, .inr (9, [.int 0, .ref mxq1, .ref mxq2, .ref mxq3, .ref mxq4, .ref mxq5, .ref mxq6, .ref mxq7, .ref mxq8, .ref mxq9, .int 0, .int 0, .ref mxq10, .ref mxq11, .ref mxq12, .ref mxq13, .ref mxq14, .ref mxq15, .ref mxq16, .ref mxq17, .ref mxq18, .ref mxq19, .ref mxq20, .ref mxq21, .ref mxq22, .ref mxq23, .ref mxq24, .ref mxq25, .ref mxq26, .long 0, .int 0, .int 0, .int 0, .int 0, .int 0, .ref mxq27, .ref mxq28, .ref mxq29, .ref mxq30, .ref mxq31, .ref mxq32, .ref mxq33, .long 0])), (mxq6, .inl (mxc40, 8, .inl mxf35)), (mxq8, .inl (mxc42, 8, .inr (.inr (.inr (.inr (va_up mxf43 0 (some mxq44))))))), (mxq44, .inl (mxc45, 4, .inl mxf35)), (mxq9, .inl (mxc46, 8, .inl mxf35))]) (vx_runSX (As := [.ref h0, .int (((xs (Int32.toNatClampNeg 1)).toUInt32 % 65536).toInt32), .int (xs (Int32.toNatClampNeg 2)), .int (xs (Int32.toNatClampNeg 3)), .int (xs (Int32.toNatClampNeg 4)), .int (xs (Int32.toNatClampNeg 5)), .int (xs (Int32.toNatClampNeg 6)), .ref o]) (rest := []) ⟨hx, hb, hml, hown, hts⟩ (z_L_addRow l hst dC dI xq1 xq2 xq3 xq4 xq5 xq6 xq7 xq8 xq9 xq10 xq11 xq12 xq13 xq14 xq15 xq16 xq17 xq18 xq19 xc29 xf30 xq31 xq45 xc46 xf47 h0 o co fo (((xs (Int32.toNatClampNeg 1)).toUInt32 % 65536).toInt32) (xs (Int32.toNatClampNeg 2)) (xs (Int32.toNatClampNeg 3)) (xs (Int32.toNatClampNeg 4)) (xs (Int32.toNatClampNeg 5)) (xs (Int32.toNatClampNeg 6)) (z_nc _) H.size) (vx_cwSW 8 hts (z_gSh z_T.l mw488 mw489 mw0 mw490) rfl rfl rfl (by decide +kernel) ⟨Nat.le_of_ble_eq_true rfl, Nat.le_of_ble_eq_true rfl⟩) (z_pre I [0, 1, 2, 3, 4, 5, 11] [0, 1, 6] rfl rfl rfl rfl) rfl rfl hl.1 rfl (lv_room (Nat.le_of_ble_eq_true rfl)) dL_law_344 ⟨Nat.le_of_ble_eq_true rfl, Nat.le_of_ble_eq_true rfl⟩) I [0, 1, 2, 3, 4, 5, 11] [6, 7, 8, 9, 10] rfl rfl (by decide) (by decide) (fun E7 ce7 q7 H locs hE7 I hcell hcv hcl => ?_) (fun r7 u7 H locs hw7 I => ?_)
  · skip
    have I : z_I A dC dI [(mh0, .inr (9, [.int 0, .ref mxq1, .ref mxq2, .ref mxq3, .ref mxq4, .ref mxq5, .ref mxq6, .ref mxq7, .ref mxq8, .ref mxq9, .int 0, .int 0, .ref mxq10, .ref mxq11, .ref mxq12, .ref mxq13, .ref mxq14, .ref mxq15, .ref mxq16, .ref mxq17, .ref mxq18, .ref mxq19, .ref mxq20, .ref mxq21, .ref mxq22, .ref mxq23, .ref mxq24, .ref mxq25, .ref mxq26, .long 0, .int 0, .int 0, .int 0, .int 0, .int 0, .ref mxq27, .ref mxq28, .ref mxq29, .ref mxq30, .ref mxq31, .ref mxq32, .ref mxq33, .long 0])), (mxq6, .inl (mxc40, 8, .inl mxf35)), (mxq8, .inl (mxc42, 8, .inr (.inr (.inr (.inr (va_up mxf43 0 (some mxq44))))))), (mxq44, .inl (mxc45, 4, .inl mxf35)), (mxq9, .inl (mxc46, 8, .inl mxf35))] [(xc29, .object RX6), (xc46, .int), (mxc40, .int), (mxc42, .array .int), (mxc45, .int), (mxc46, .char), (co, .long)] s H _ := I
    exact False.elim hE7
  · skip
    obtain ⟨xf8, hu7, hp7⟩ := hw7
    subst hu7
    have I : z_I A dC dI [(mh0, .inr (9, [.int 0, .ref mxq1, .ref mxq2, .ref mxq3, .ref mxq4, .ref mxq5, .ref mxq6, .ref mxq7, .ref mxq8, .ref mxq9, .int 0, .int 0, .ref mxq10, .ref mxq11, .ref mxq12, .ref mxq13, .ref mxq14, .ref mxq15, .ref mxq16, .ref mxq17, .ref mxq18, .ref mxq19, .ref mxq20, .ref mxq21, .ref mxq22, .ref mxq23, .ref mxq24, .ref mxq25, .ref mxq26, .long 0, .int 0, .int 0, .int 0, .int 0, .int 0, .ref mxq27, .ref mxq28, .ref mxq29, .ref mxq30, .ref mxq31, .ref mxq32, .ref mxq33, .long 0])), (mxq6, .inl (mxc40, 8, .inl mxf35)), (mxq8, .inl (mxc42, 8, .inr (.inr (.inr (.inr (va_up mxf43 0 (some mxq44))))))), (mxq44, .inl (mxc45, 4, .inl mxf35)), (mxq9, .inl (mxc46, 8, .inl mxf35)), (o, .inl (co, 1, .inr (.inl xf8)))] [(xc29, .object RX6), (xc46, .int), (mxc40, .int), (mxc42, .array .int), (mxc45, .int), (mxc46, .char), (co, .long)] s H _ := I
    refine W.widen (k := 1001) (n := 8006) (Nat.le_of_ble_eq_true rfl) (Nat.le_of_ble_eq_true rfl) ?_
    refine lv_istore (lv' := [(6, .int r7), (0, .ref b), (1, .ref h0), (2, .ref mh0), (3, .ref o), (4, .ref od), (5, .int 0)]) hx hb dL_law_347 hl (by decide) rfl (fun ls hl => ?_)
    refine lv_aload_n hx hb dL_law_349 rfl (lv_at hl 3 rfl) ?_
    refine lv_aload_n hx hb dL_law_350 rfl (lv_at hl 1 rfl) ?_
    refine lv_iload hx hb dL_law_351 (lv_at hl 6 rfl) ?_
    refine lv_iconst (v := 1) hx hb dL_law_353 (by decide) ?_
    refine lv_iadd hx hb dL_law_354 ?_
    refine lv_topi (fun w9 ew9 => ?_)
    obtain rfl : w9 = 1 := ew9.trans (by decide)
    refine va_sld hx hb hX hbl hbA I.2.2.2.1 (by unfold vp_in; decide) dL_law_355 ?_
    refine lv_i2c (v := ((xs (Int32.toNatClampNeg 1)).toUInt32 % 65536).toInt32) hx hb dL_law_356 rfl ?_
    refine lv_aload_n hx hb dL_law_357 rfl (lv_at hl 1 rfl) ?_
    refine lv_iload hx hb dL_law_358 (lv_at hl 6 rfl) ?_
    refine lv_iconst (v := 2) hx hb dL_law_360 (by decide) ?_
    refine lv_iadd hx hb dL_law_361 ?_
    refine lv_topi (fun w10 ew10 => ?_)
    obtain rfl : w10 = 2 := ew10.trans (by decide)
    refine va_sld hx hb hX hbl hbA I.2.2.2.1 (by unfold vp_in; decide) dL_law_362 ?_
    refine lv_aload_n hx hb dL_law_363 rfl (lv_at hl 1 rfl) ?_
    refine lv_iload hx hb dL_law_364 (lv_at hl 6 rfl) ?_
    refine lv_iconst (v := 3) hx hb dL_law_366 (by decide) ?_
    refine lv_iadd hx hb dL_law_367 ?_
    refine lv_topi (fun w11 ew11 => ?_)
    obtain rfl : w11 = 3 := ew11.trans (by decide)
    refine va_sld hx hb hX hbl hbA I.2.2.2.1 (by unfold vp_in; decide) dL_law_368 ?_
    refine lv_aload_n hx hb dL_law_369 rfl (lv_at hl 1 rfl) ?_
    refine lv_iload hx hb dL_law_370 (lv_at hl 6 rfl) ?_
    refine lv_iconst (v := 4) hx hb dL_law_372 (by decide) ?_
    refine lv_iadd hx hb dL_law_373 ?_
    refine lv_topi (fun w12 ew12 => ?_)
    obtain rfl : w12 = 4 := ew12.trans (by decide)
    refine va_sld hx hb hX hbl hbA I.2.2.2.1 (by unfold vp_in; decide) dL_law_374 ?_
    refine lv_aload_n hx hb dL_law_375 rfl (lv_at hl 1 rfl) ?_
    refine lv_iload hx hb dL_law_376 (lv_at hl 6 rfl) ?_
    refine lv_iconst (v := 5) hx hb dL_law_378 (by decide) ?_
    refine lv_iadd hx hb dL_law_379 ?_
    refine lv_topi (fun w13 ew13 => ?_)
    obtain rfl : w13 = 5 := ew13.trans (by decide)
    refine va_sld hx hb hX hbl hbA I.2.2.2.1 (by unfold vp_in; decide) dL_law_380 ?_
    refine lv_aload_n hx hb dL_law_381 rfl (lv_at hl 1 rfl) ?_
    refine lv_iload hx hb dL_law_382 (lv_at hl 6 rfl) ?_
    refine lv_bipush (v := 6) hx hb dL_law_384 (by decide) ?_
    refine lv_iadd hx hb dL_law_386 ?_
    refine lv_topi (fun w14 ew14 => ?_)
    obtain rfl : w14 = 6 := ew14.trans (by decide)
    refine va_sld hx hb hX hbl hbA I.2.2.2.1 (by unfold vp_in; decide) dL_law_387 ?_
    refine z_calli (wr := [(o, .inl (co, 1, .inr (.inl xf8)))]) (va_runV (As := [.int (((xs (Int32.toNatClampNeg 1)).toUInt32 % 65536).toInt32), .int (xs (Int32.toNatClampNeg 2)), .int (xs (Int32.toNatClampNeg 3)), .int (xs (Int32.toNatClampNeg 4)), .int (xs (Int32.toNatClampNeg 5)), .int (xs (Int32.toNatClampNeg 6))]) (rest := []) ⟨hx, hb, hml, hown, hts⟩ (z_M_addRow l dC dI mxq1 mxq2 mxq3 mxq4 mxq5 mxq6 mxq7 mxq8 mxq9 mxq10 mxq11 mxq12 mxq13 mxq14 mxq15 mxq16 mxq17 mxq18 mxq19 mxq20 mxq21 mxq22 mxq23 mxq24 mxq25 mxq26 mxq27 mxq28 mxq29 mxq30 mxq31 mxq32 mxq33 mxf35 mxc40 mxc42 mxf43 mxq44 mxc45 mxc46 mh0 (((xs (Int32.toNatClampNeg 1)).toUInt32 % 65536).toInt32) (xs (Int32.toNatClampNeg 2)) (xs (Int32.toNatClampNeg 3)) (xs (Int32.toNatClampNeg 4)) (xs (Int32.toNatClampNeg 5)) (xs (Int32.toNatClampNeg 6))  H.size) (cwV 6 hts (z_gV z_T.l mw1406 mw1407 mw1408 mw10 mw1409) rfl rfl rfl (by decide +kernel) ⟨Nat.le_of_ble_eq_true rfl, Nat.le_of_ble_eq_true rfl⟩) (z_preV I [0, 1, 2, 3, 4] [2, 3, 4, 5] rfl rfl rfl rfl (ci := 9) (q0 := 0) rfl rfl) rfl rfl hl.1 rfl (lv_room (Nat.le_of_ble_eq_true rfl)) dL_law_388 ⟨Nat.le_of_ble_eq_true rfl, Nat.le_of_ble_eq_true rfl⟩) I [0, 1, 2, 3, 4] [5] rfl rfl (by decide) (by decide) (fun r15 u15 H locs hw15 I => ?_)
    obtain ⟨y16, y17, hu15, hp15⟩ := hw15
    subst hu15
    have I : z_I A dC dI [(o, .inl (co, 1, .inr (.inl xf8))), (mh0, .inr (9, [.int y16, .ref mxq1, .ref mxq2, .ref mxq3, .ref mxq4, .ref mxq5, .ref mxq6, .ref mxq7, .ref mxq8, .ref mxq9, .int 0, .int y17, .ref mxq10, .ref mxq11, .ref mxq12, .ref mxq13, .ref mxq14, .ref mxq15, .ref mxq16, .ref mxq17, .ref mxq18, .ref mxq19, .ref mxq20, .ref mxq21, .ref mxq22, .ref mxq23, .ref mxq24, .ref mxq25, .ref mxq26, .long 0, .int 0, .int 0, .int 0, .int 0, .int 0, .ref mxq27, .ref mxq28, .ref mxq29, .ref mxq30, .ref mxq31, .ref mxq32, .ref mxq33, .long 0]))] [(xc29, .object RX6), (xc46, .int), (mxc40, .int), (mxc42, .array .int), (mxc45, .int), (mxc46, .char), (co, .long)] s H _ := I
    refine W.widen (k := 1002) (n := 8010) (Nat.le_of_ble_eq_true rfl) (Nat.le_of_ble_eq_true rfl) ?_
    obtain rfl : r15 = 0 := hp15.1
    refine lv_istore (lv' := [(7, .int 0), (6, .int r7), (0, .ref b), (1, .ref h0), (2, .ref mh0), (3, .ref o), (4, .ref od), (5, .int 0)]) hx hb dL_law_391 hl (by decide) rfl (fun ls hl => ?_)
    refine lv_aload_n hx hb dL_law_393 rfl (lv_at hl 4 rfl) ?_
    refine z_calli (wr := [(o, .inl (co, 1, .inr (.inl xf8)))]) (va_runV (As := []) (rest := []) ⟨hx, hb, hml, hown, hts⟩ (z_M_thrown l dC dI y16 mxq1 mxq2 mxq3 mxq4 mxq5 mxq6 mxq7 mxq8 mxq9 0 y17 mxq10 mxq11 mxq12 mxq13 mxq14 mxq15 mxq16 mxq17 mxq18 mxq19 mxq20 mxq21 mxq22 mxq23 mxq24 mxq25 mxq26 0 0 0 0 0 0 mxq27 mxq28 mxq29 mxq30 mxq31 mxq32 mxq33 0 mh0  H.size) (cwV 0 hts (z_gV z_T.l mw1391 mw1392 mw1393 mw10 mw1394) rfl rfl rfl (by decide +kernel) ⟨Nat.le_of_ble_eq_true rfl, Nat.le_of_ble_eq_true rfl⟩) (z_preV I [1] [] rfl rfl rfl rfl (ci := 9) (q0 := 1) rfl rfl) rfl rfl hl.1 rfl (lv_room (Nat.le_of_ble_eq_true rfl)) dL_law_394 ⟨Nat.le_of_ble_eq_true rfl, Nat.le_of_ble_eq_true rfl⟩) I [1] [0] rfl rfl (by decide) (by decide) (fun r18 u18 H locs hw18 I => ?_)
    obtain ⟨hu18, hp18⟩ := hw18
    subst hu18
    have I : z_I A dC dI [(o, .inl (co, 1, .inr (.inl xf8))), (mh0, .inr (9, [.int y16, .ref mxq1, .ref mxq2, .ref mxq3, .ref mxq4, .ref mxq5, .ref mxq6, .ref mxq7, .ref mxq8, .ref mxq9, .int 0, .int y17, .ref mxq10, .ref mxq11, .ref mxq12, .ref mxq13, .ref mxq14, .ref mxq15, .ref mxq16, .ref mxq17, .ref mxq18, .ref mxq19, .ref mxq20, .ref mxq21, .ref mxq22, .ref mxq23, .ref mxq24, .ref mxq25, .ref mxq26, .long 0, .int 0, .int 0, .int 0, .int 0, .int 0, .ref mxq27, .ref mxq28, .ref mxq29, .ref mxq30, .ref mxq31, .ref mxq32, .ref mxq33, .long 0]))] [(xc29, .object RX6), (xc46, .int), (mxc40, .int), (mxc42, .array .int), (mxc45, .int), (mxc46, .char), (co, .long)] s H _ := I
    obtain rfl : y16 = r18 := hp18.symm
    refine lv_iload hx hb dL_law_397 (lv_at hl 1 rfl) ?_
    refine lv_icmp_eq (tgt := 404) hx hb dL_law_399 (by decide) (fun _ => ?_) (fun c9 => absurd (hp15.2.trans hp7.1.symm) c9)
    refine lv_iload hx hb dL_law_404 (lv_at hl 1 rfl) ?_
    refine lv_if_ne (tgt := 421) hx hb dL_law_406 (by decide) (fun c19 => ?_) (fun c19 => ?_)
    · skip
      refine lv_goto (tgt := 2238) hx hb dL_law_421 (by decide) ?_
      refine W.widen (k := 2000) (n := 9000) (Nat.le_of_ble_eq_true rfl) (Nat.le_of_ble_eq_true rfl) ?_
      exact K _ _ _ I.2.2.2.1 (lv_sub hl [2, 7] rfl)
    · skip
      refine lv_aload_n hx hb dL_law_409 rfl (lv_at hl 5 rfl) ?_
      refine lv_iconst (v := 0) hx hb dL_law_410 (by decide) ?_
      refine z_lald (v := 0) hx hb I 0 6 rfl rfl (by unfold vp_in; decide) dL_law_411 (hp7.2 c19) ?_
      refine lv_iload hx hb dL_law_412 (lv_at hl 0 rfl) ?_
      refine lv_i2l (v := 0) hx hb dL_law_414 (by decide) ?_
      refine W.lcmp hx hb dL_law_415 ?_
      refine lv_topi (fun w20 ew20 => ?_)
      obtain rfl : w20 = 0 := ew20.trans (by decide)
      refine lv_if_eq (tgt := 421) hx hb dL_law_416 (by decide) (fun _ => ?_) (fun c9 => absurd c9 (by decide))
      refine lv_goto (tgt := 2238) hx hb dL_law_421 (by decide) ?_
      refine W.widen (k := 2000) (n := 9000) (Nat.le_of_ble_eq_true rfl) (Nat.le_of_ble_eq_true rfl) ?_
      exact K _ _ _ I.2.2.2.1 (lv_sub hl [2, 7] rfl)
set_option maxHeartbeats 4000000 in
set_option maxRecDepth 100000 in
theorem z_case_2 (l : Launch) (hst : l.stackTraces = false) (dC : Nat → ClassId) (dI : Nat → Nat → Nat) (xq1 : Nat) (xq2 : Nat) (xq3 : Nat) (xq4 : Nat) (xq5 : Nat) (xq6 : Nat) (xq7 : Nat) (xq8 : Nat) (xq9 : Nat) (xq10 : Nat) (xq11 : Nat) (xq12 : Nat) (xq13 : Nat) (xq14 : Nat) (xq15 : Nat) (xq16 : Nat) (xq17 : Nat) (xq18 : Nat) (xq19 : Nat) (xf21 : Nat → Int32) (xc25 : ClassId) (xc26 : ClassId) (xc27 : ClassId) (xc28 : ClassId) (h0 : Nat) (mxq1 : Nat) (mxq2 : Nat) (mxq3 : Nat) (mxq4 : Nat) (mxq5 : Nat) (mxq6 : Nat) (mxq7 : Nat) (mxq8 : Nat) (mxq9 : Nat) (mxq10 : Nat) (mxq11 : Nat) (mxq12 : Nat) (mxq13 : Nat) (mxq14 : Nat) (mxq15 : Nat) (mxq16 : Nat) (mxq17 : Nat) (mxq18 : Nat) (mxq19 : Nat) (mxq20 : Nat) (mxq21 : Nat) (mxq22 : Nat) (mxq23 : Nat) (mxq24 : Nat) (mxq25 : Nat) (mxq26 : Nat) (mxq27 : Nat) (mxq28 : Nat) (mxq29 : Nat) (mxq30 : Nat) (mxq31 : Nat) (mxq32 : Nat) (mxq33 : Nat) (mh0 : Nat) (o : Nat) (co : ClassId) (fo : Nat → Int64) (od : Nat) {p : Program} {e : Env} {s : State} {m : MethodId} {below : List Frame} {meth : Method} {c : Code} {b : Nat} {xs : Nat → Int32} {A : Nat → Prop} {Q : State → Prop} (hx : p.tables.exec = Jvm.exec) (hb : c.code = cL_law) (hml : c.maxLocals = 9) (hown : s.vm.findClass RL = some m.cls) (hts : ∀ w ∈ lw_tbl, w.before #[Value.ref b] s = true) (hX : va_X b 7 xs s s.heap) (hbl : b < s.heap.size) (hbA : ¬ A b) (K : z_LK p l e s m below meth c b A Q) {H : Heap} {locs : List Loc} {ls : Array Slot} (I : z_I A dC dI [(h0, .inr (8, [.ref xq1, .ref xq2])), (xq1, .inr (7, [.ref xq2, .ref xq3, .ref xq4, .ref xq5, .ref xq6, .ref xq7, .ref xq8, .int 0, .int 0, .int 0, .int 0, .int 0])), (xq2, .inr (5, [.ref xq9, .ref xq10, .ref xq11, .ref xq12, .ref xq13, .ref xq14, .ref xq15, .ref xq16, .ref xq17, .ref xq18, .ref xq19, .int 0, .int 0])), (xq13, .inl (xc25, 4, .inl xf21)), (xq14, .inl (xc26, 4, .inl xf21)), (xq15, .inl (xc27, 4, .inl xf21)), (xq16, .inl (xc28, 4, .inl xf21)), (mh0, .inr (9, [.int 0, .ref mxq1, .ref mxq2, .ref mxq3, .ref mxq4, .ref mxq5, .ref mxq6, .ref mxq7, .ref mxq8, .ref mxq9, .int 0, .int 0, .ref mxq10, .ref mxq11, .ref mxq12, .ref mxq13, .ref mxq14, .ref mxq15, .ref mxq16, .ref mxq17, .ref mxq18, .ref mxq19, .ref mxq20, .ref mxq21, .ref mxq22, .ref mxq23, .ref mxq24, .ref mxq25, .ref mxq26, .long 0, .int 0, .int 0, .int 0, .int 0, .int 0, .ref mxq27, .ref mxq28, .ref mxq29, .ref mxq30, .ref mxq31, .ref mxq32, .ref mxq33, .long 0])), (o, .inl (co, 1, .inr (.inl fo)))] [(xc25, .int), (xc26, .int), (xc27, .int), (xc28, .int), (co, .long)] s H locs) (hl : lv_has ls 9 [(0, .ref b), (1, .ref h0), (2, .ref mh0), (3, .ref o), (4, .ref od), (5, .int 0)]) : W p l e room_1 s m #[Value.ref b] below meth c H locs 1000 8000 Q (F0 m 424 ls []) := by
  have hg : z_G #[Value.ref b] s := fun w hw _ => hts w hw
  refine lv_aload_n hx hb dL_law_424 rfl (lv_at hl 1 rfl) ?_
  refine lv_aload_n hx hb dL_law_425 rfl (lv_at hl 3 rfl) ?_
  refine z_xcalli (wr := [(mh0, .inr (9, [.int 0, .ref mxq1, .ref mxq2, .ref mxq3, .ref mxq4, .ref mxq5, .ref mxq6, .ref mxq7, .ref mxq8, .ref mxq9, .int 0, .int 0, .ref mxq10, .ref mxq11, .ref mxq12, .ref mxq13, .ref mxq14, .ref mxq15, .ref mxq16, .ref mxq17, .ref mxq18, .ref mxq19, .ref mxq20, .ref mxq21, .ref mxq22, .ref mxq23, .ref mxq24, .ref mxq25, .ref mxq26, .long 0, .int 0, .int 0, .int 0, .int 0, .int 0, .ref mxq27, .ref mxq28, .ref mxq29, .ref mxq30, .ref mxq31, .ref mxq32, .ref mxq33, .long 0]))]) (vx_runSX (As := [.ref h0, .ref o]) (rest := []) ⟨hx, hb, hml, hown, hts⟩ (z_L_tighten l hst dC dI xq1 xq2 xq3 xq4 xq5 xq6 xq7 xq8 xq9 xq10 xq11 xq12 xq13 xq14 xq15 xq16 xq17 xq18 xq19 xf21 xc25 xc26 xc27 xc28 h0 o co fo  H.size) (vx_cwSW 2 hts (z_gSh z_T.l mw547 mw548 mw0 mw549) rfl rfl rfl (by decide +kernel) ⟨Nat.le_of_ble_eq_true rfl, Nat.le_of_ble_eq_true rfl⟩) (z_pre I [0, 1, 2, 3, 4, 5, 6, 8] [0, 1, 2, 3, 4] rfl rfl rfl rfl) rfl rfl hl.1 rfl (lv_room (Nat.le_of_ble_eq_true rfl)) dL_law_426 ⟨Nat.le_of_ble_eq_true rfl, Nat.le_of_ble_eq_true rfl⟩) I [0, 1, 2, 3, 4, 5, 6, 8] [7] rfl rfl (by decide) (by decide) (fun E1 ce1 q1 H locs hE1 I hcell hcv hcl => ?_) (fun r1 u1 H locs hw1 I => ?_)
  · skip
    have I : z_I A dC dI [(mh0, .inr (9, [.int 0, .ref mxq1, .ref mxq2, .ref mxq3, .ref mxq4, .ref mxq5, .ref mxq6, .ref mxq7, .ref mxq8, .ref mxq9, .int 0, .int 0, .ref mxq10, .ref mxq11, .ref mxq12, .ref mxq13, .ref mxq14, .ref mxq15, .ref mxq16, .ref mxq17, .ref mxq18, .ref mxq19, .ref mxq20, .ref mxq21, .ref mxq22, .ref mxq23, .ref mxq24, .ref mxq25, .ref mxq26, .long 0, .int 0, .int 0, .int 0, .int 0, .int 0, .ref mxq27, .ref mxq28, .ref mxq29, .ref mxq30, .ref mxq31, .ref mxq32, .ref mxq33, .long 0]))] [(xc25, .int), (xc26, .int), (xc27, .int), (xc28, .int), (co, .long)] s H _ := I
    exact False.elim hE1
  · skip
    obtain ⟨xf2, hu1, hp1⟩ := hw1
    subst hu1
    have I : z_I A dC dI [(mh0, .inr (9, [.int 0, .ref mxq1, .ref mxq2, .ref mxq3, .ref mxq4, .ref mxq5, .ref mxq6, .ref mxq7, .ref mxq8, .ref mxq9, .int 0, .int 0, .ref mxq10, .ref mxq11, .ref mxq12, .ref mxq13, .ref mxq14, .ref mxq15, .ref mxq16, .ref mxq17, .ref mxq18, .ref mxq19, .ref mxq20, .ref mxq21, .ref mxq22, .ref mxq23, .ref mxq24, .ref mxq25, .ref mxq26, .long 0, .int 0, .int 0, .int 0, .int 0, .int 0, .ref mxq27, .ref mxq28, .ref mxq29, .ref mxq30, .ref mxq31, .ref mxq32, .ref mxq33, .long 0])), (o, .inl (co, 1, .inr (.inl xf2)))] [(xc25, .int), (xc26, .int), (xc27, .int), (xc28, .int), (co, .long)] s H _ := I
    obtain rfl : r1 = 0 := hp1.1
    refine lv_istore (lv' := [(6, .int 0), (0, .ref b), (1, .ref h0), (2, .ref mh0), (3, .ref o), (4, .ref od), (5, .int 0)]) hx hb dL_law_429 hl (by decide) rfl (fun ls hl => ?_)
    refine lv_aload_n hx hb dL_law_431 rfl (lv_at hl 3 rfl) ?_
    refine z_calli (wr := [(o, .inl (co, 1, .inr (.inl xf2)))]) (va_runV (As := []) (rest := []) ⟨hx, hb, hml, hown, hts⟩ (z_M_tighten l dC dI mxq1 mxq2 mxq3 mxq4 mxq5 mxq6 mxq7 mxq8 mxq9 mxq10 mxq11 mxq12 mxq13 mxq14 mxq15 mxq16 mxq17 mxq18 mxq19 mxq20 mxq21 mxq22 mxq23 mxq24 mxq25 mxq26 mxq27 mxq28 mxq29 mxq30 mxq31 mxq32 mxq33 mh0  H.size) (cwV 0 hts (z_gV z_T.l mw1430 mw1431 mw1432 mw10 mw1433) rfl rfl rfl (by decide +kernel) ⟨Nat.le_of_ble_eq_true rfl, Nat.le_of_ble_eq_true rfl⟩) (z_preV I [0] [] rfl rfl rfl rfl (ci := 9) (q0 := 0) rfl rfl) rfl rfl hl.1 rfl (lv_room (Nat.le_of_ble_eq_true rfl)) dL_law_432 ⟨Nat.le_of_ble_eq_true rfl, Nat.le_of_ble_eq_true rfl⟩) I [0] [1] rfl rfl (by decide) (by decide) (fun r3 u3 H locs hw3 I => ?_)
    obtain ⟨hu3, hp3⟩ := hw3
    subst hu3
    have I : z_I A dC dI [(o, .inl (co, 1, .inr (.inl xf2))), (mh0, .inr (9, [.int 0, .ref mxq1, .ref mxq2, .ref mxq3, .ref mxq4, .ref mxq5, .ref mxq6, .ref mxq7, .ref mxq8, .ref mxq9, .int 0, .int 0, .ref mxq10, .ref mxq11, .ref mxq12, .ref mxq13, .ref mxq14, .ref mxq15, .ref mxq16, .ref mxq17, .ref mxq18, .ref mxq19, .ref mxq20, .ref mxq21, .ref mxq22, .ref mxq23, .ref mxq24, .ref mxq25, .ref mxq26, .long 0, .int 0, .int 0, .int 0, .int 0, .int 0, .ref mxq27, .ref mxq28, .ref mxq29, .ref mxq30, .ref mxq31, .ref mxq32, .ref mxq33, .long 0]))] [(xc25, .int), (xc26, .int), (xc27, .int), (xc28, .int), (co, .long)] s H _ := I
    refine W.widen (k := 1002) (n := 8008) (Nat.le_of_ble_eq_true rfl) (Nat.le_of_ble_eq_true rfl) ?_
    obtain rfl : r3 = 0 := hp3
    refine lv_istore (lv' := [(7, .int 0), (6, .int 0), (0, .ref b), (1, .ref h0), (2, .ref mh0), (3, .ref o), (4, .ref od), (5, .int 0)]) hx hb dL_law_435 hl (by decide) rfl (fun ls hl => ?_)
    refine lv_aload_n hx hb dL_law_437 rfl (lv_at hl 4 rfl) ?_
    refine z_calli (wr := [(o, .inl (co, 1, .inr (.inl xf2)))]) (va_runV (As := []) (rest := []) ⟨hx, hb, hml, hown, hts⟩ (z_M_thrown l dC dI 0 mxq1 mxq2 mxq3 mxq4 mxq5 mxq6 mxq7 mxq8 mxq9 0 0 mxq10 mxq11 mxq12 mxq13 mxq14 mxq15 mxq16 mxq17 mxq18 mxq19 mxq20 mxq21 mxq22 mxq23 mxq24 mxq25 mxq26 0 0 0 0 0 0 mxq27 mxq28 mxq29 mxq30 mxq31 mxq32 mxq33 0 mh0  H.size) (cwV 0 hts (z_gV z_T.l mw1391 mw1392 mw1393 mw10 mw1394) rfl rfl rfl (by decide +kernel) ⟨Nat.le_of_ble_eq_true rfl, Nat.le_of_ble_eq_true rfl⟩) (z_preV I [1] [] rfl rfl rfl rfl (ci := 9) (q0 := 1) rfl rfl) rfl rfl hl.1 rfl (lv_room (Nat.le_of_ble_eq_true rfl)) dL_law_438 ⟨Nat.le_of_ble_eq_true rfl, Nat.le_of_ble_eq_true rfl⟩) I [1] [0] rfl rfl (by decide) (by decide) (fun r4 u4 H locs hw4 I => ?_)
    obtain ⟨hu4, hp4⟩ := hw4
    subst hu4
    have I : z_I A dC dI [(o, .inl (co, 1, .inr (.inl xf2))), (mh0, .inr (9, [.int 0, .ref mxq1, .ref mxq2, .ref mxq3, .ref mxq4, .ref mxq5, .ref mxq6, .ref mxq7, .ref mxq8, .ref mxq9, .int 0, .int 0, .ref mxq10, .ref mxq11, .ref mxq12, .ref mxq13, .ref mxq14, .ref mxq15, .ref mxq16, .ref mxq17, .ref mxq18, .ref mxq19, .ref mxq20, .ref mxq21, .ref mxq22, .ref mxq23, .ref mxq24, .ref mxq25, .ref mxq26, .long 0, .int 0, .int 0, .int 0, .int 0, .int 0, .ref mxq27, .ref mxq28, .ref mxq29, .ref mxq30, .ref mxq31, .ref mxq32, .ref mxq33, .long 0]))] [(xc25, .int), (xc26, .int), (xc27, .int), (xc28, .int), (co, .long)] s H _ := I
    obtain rfl : 0 = r4 := hp4.symm
    refine lv_iload hx hb dL_law_441 (lv_at hl 1 rfl) ?_
    refine lv_icmp_eq (tgt := 448) hx hb dL_law_443 (by decide) (fun _ => ?_) (fun c9 => absurd c9 (by decide))
    refine lv_iload hx hb dL_law_448 (lv_at hl 1 rfl) ?_
    refine lv_if_ne (tgt := 465) hx hb dL_law_450 (by decide) (fun c9 => absurd c9 (by decide)) (fun _ => ?_)
    refine lv_aload_n hx hb dL_law_453 rfl (lv_at hl 5 rfl) ?_
    refine lv_iconst (v := 0) hx hb dL_law_454 (by decide) ?_
    refine z_lald (v := 0) hx hb I 0 4 rfl rfl (by unfold vp_in; decide) dL_law_455 (hp1.2 rfl) ?_
    refine lv_iload hx hb dL_law_456 (lv_at hl 0 rfl) ?_
    refine lv_i2l (v := 0) hx hb dL_law_458 (by decide) ?_
    refine W.lcmp hx hb dL_law_459 ?_
    refine lv_topi (fun w5 ew5 => ?_)
    obtain rfl : w5 = 0 := ew5.trans (by decide)
    refine lv_if_eq (tgt := 465) hx hb dL_law_460 (by decide) (fun _ => ?_) (fun c9 => absurd c9 (by decide))
    refine lv_goto (tgt := 2238) hx hb dL_law_465 (by decide) ?_
    refine W.widen (k := 2000) (n := 9000) (Nat.le_of_ble_eq_true rfl) (Nat.le_of_ble_eq_true rfl) ?_
    exact K _ _ _ I.2.2.2.1 (lv_sub hl [2, 7] rfl)
set_option maxHeartbeats 4000000 in
set_option maxRecDepth 100000 in
theorem z_case_3 (l : Launch) (hst : l.stackTraces = false) (dC : Nat → ClassId) (dI : Nat → Nat → Nat) (xq1 : Nat) (xq2 : Nat) (xq9 : Nat) (xq10 : Nat) (xq11 : Nat) (xq12 : Nat) (xq13 : Nat) (xq14 : Nat) (xq15 : Nat) (xq16 : Nat) (xq17 : Nat) (xq18 : Nat) (xq19 : Nat) (h0 : Nat) (mxq1 : Nat) (mxq2 : Nat) (mxq3 : Nat) (mxq4 : Nat) (mxq5 : Nat) (mxq6 : Nat) (mxq7 : Nat) (mxq8 : Nat) (mxq9 : Nat) (mxq10 : Nat) (mxq11 : Nat) (mxq12 : Nat) (mxq13 : Nat) (mxq14 : Nat) (mxq15 : Nat) (mxq16 : Nat) (mxq17 : Nat) (mxq18 : Nat) (mxq19 : Nat) (mxq20 : Nat) (mxq21 : Nat) (mxq22 : Nat) (mxq23 : Nat) (mxq24 : Nat) (mxq25 : Nat) (mxq26 : Nat) (mxq27 : Nat) (mxq28 : Nat) (mxq29 : Nat) (mxq30 : Nat) (mxq31 : Nat) (mxq32 : Nat) (mxq33 : Nat) (mh0 : Nat) (o : Nat) (co : ClassId) (fo : Nat → Int64) (od : Nat) {p : Program} {e : Env} {s : State} {m : MethodId} {below : List Frame} {meth : Method} {c : Code} {b : Nat} {xs : Nat → Int32} {A : Nat → Prop} {Q : State → Prop} (hx : p.tables.exec = Jvm.exec) (hb : c.code = cL_law) (hml : c.maxLocals = 9) (hown : s.vm.findClass RL = some m.cls) (hts : ∀ w ∈ lw_tbl, w.before #[Value.ref b] s = true) (hX : va_X b 7 xs s s.heap) (hbl : b < s.heap.size) (hbA : ¬ A b) (K : z_LK p l e s m below meth c b A Q) {H : Heap} {locs : List Loc} {ls : Array Slot} (I : z_I A dC dI [(h0, .inr (8, [.ref xq1, .ref xq2])), (xq2, .inr (5, [.ref xq9, .ref xq10, .ref xq11, .ref xq12, .ref xq13, .ref xq14, .ref xq15, .ref xq16, .ref xq17, .ref xq18, .ref xq19, .int 0, .int 0])), (mh0, .inr (9, [.int 0, .ref mxq1, .ref mxq2, .ref mxq3, .ref mxq4, .ref mxq5, .ref mxq6, .ref mxq7, .ref mxq8, .ref mxq9, .int 0, .int 0, .ref mxq10, .ref mxq11, .ref mxq12, .ref mxq13, .ref mxq14, .ref mxq15, .ref mxq16, .ref mxq17, .ref mxq18, .ref mxq19, .ref mxq20, .ref mxq21, .ref mxq22, .ref mxq23, .ref mxq24, .ref mxq25, .ref mxq26, .long 0, .int 0, .int 0, .int 0, .int 0, .int 0, .ref mxq27, .ref mxq28, .ref mxq29, .ref mxq30, .ref mxq31, .ref mxq32, .ref mxq33, .long 0])), (o, .inl (co, 1, .inr (.inl fo)))] [(co, .long)] s H locs) (hl : lv_has ls 9 [(0, .ref b), (1, .ref h0), (2, .ref mh0), (3, .ref o), (4, .ref od), (5, .int 0)]) : W p l e room_1 s m #[Value.ref b] below meth c H locs 1000 8000 Q (F0 m 468 ls []) := by
  have hg : z_G #[Value.ref b] s := fun w hw _ => hts w hw
  refine lv_aload_n hx hb dL_law_468 rfl (lv_at hl 1 rfl) ?_
  refine lv_aload_n hx hb dL_law_469 rfl (lv_at hl 0 rfl) ?_
  refine lv_iload hx hb dL_law_470 (lv_at hl 5 rfl) ?_
  refine lv_iconst (v := 1) hx hb dL_law_472 (by decide) ?_
  refine lv_iadd hx hb dL_law_473 ?_
  refine lv_topi (fun w1 ew1 => ?_)
  obtain rfl : w1 = 1 := ew1.trans (by decide)
  refine va_sld hx hb hX hbl hbA I.2.2.2.1 (by unfold vp_in; decide) dL_law_474 ?_
  refine lv_aload_n hx hb dL_law_475 rfl (lv_at hl 3 rfl) ?_
  refine z_xcalli (wr := [(mh0, .inr (9, [.int 0, .ref mxq1, .ref mxq2, .ref mxq3, .ref mxq4, .ref mxq5, .ref mxq6, .ref mxq7, .ref mxq8, .ref mxq9, .int 0, .int 0, .ref mxq10, .ref mxq11, .ref mxq12, .ref mxq13, .ref mxq14, .ref mxq15, .ref mxq16, .ref mxq17, .ref mxq18, .ref mxq19, .ref mxq20, .ref mxq21, .ref mxq22, .ref mxq23, .ref mxq24, .ref mxq25, .ref mxq26, .long 0, .int 0, .int 0, .int 0, .int 0, .int 0, .ref mxq27, .ref mxq28, .ref mxq29, .ref mxq30, .ref mxq31, .ref mxq32, .ref mxq33, .long 0]))]) (vx_runSX (As := [.ref h0, .int (xs (Int32.toNatClampNeg 1)), .ref o]) (rest := []) ⟨hx, hb, hml, hown, hts⟩ (z_L_lower l hst dC dI xq1 xq2 xq9 xq10 xq11 xq12 xq13 xq14 xq15 xq16 xq17 xq18 xq19 h0 o co fo (xs (Int32.toNatClampNeg 1))  H.size) (vx_cwSW 3 hts (z_gSh z_T.l mw607 mw608 mw0 mw609) rfl rfl rfl (by decide +kernel) ⟨Nat.le_of_ble_eq_true rfl, Nat.le_of_ble_eq_true rfl⟩) (z_pre I [0, 1, 3] [0] rfl rfl rfl rfl) rfl rfl hl.1 rfl (lv_room (Nat.le_of_ble_eq_true rfl)) dL_law_476 ⟨Nat.le_of_ble_eq_true rfl, Nat.le_of_ble_eq_true rfl⟩) I [0, 1, 3] [2] rfl rfl (by decide) (by decide) (fun E2 ce2 q2 H locs hE2 I hcell hcv hcl => ?_) (fun r2 u2 H locs hw2 I => ?_)
  · skip
    have I : z_I A dC dI [(mh0, .inr (9, [.int 0, .ref mxq1, .ref mxq2, .ref mxq3, .ref mxq4, .ref mxq5, .ref mxq6, .ref mxq7, .ref mxq8, .ref mxq9, .int 0, .int 0, .ref mxq10, .ref mxq11, .ref mxq12, .ref mxq13, .ref mxq14, .ref mxq15, .ref mxq16, .ref mxq17, .ref mxq18, .ref mxq19, .ref mxq20, .ref mxq21, .ref mxq22, .ref mxq23, .ref mxq24, .ref mxq25, .ref mxq26, .long 0, .int 0, .int 0, .int 0, .int 0, .int 0, .ref mxq27, .ref mxq28, .ref mxq29, .ref mxq30, .ref mxq31, .ref mxq32, .ref mxq33, .long 0]))] [(co, .long)] s H _ := I
    exact False.elim hE2
  · skip
    obtain ⟨xf3, hu2, hp2⟩ := hw2
    subst hu2
    have I : z_I A dC dI [(mh0, .inr (9, [.int 0, .ref mxq1, .ref mxq2, .ref mxq3, .ref mxq4, .ref mxq5, .ref mxq6, .ref mxq7, .ref mxq8, .ref mxq9, .int 0, .int 0, .ref mxq10, .ref mxq11, .ref mxq12, .ref mxq13, .ref mxq14, .ref mxq15, .ref mxq16, .ref mxq17, .ref mxq18, .ref mxq19, .ref mxq20, .ref mxq21, .ref mxq22, .ref mxq23, .ref mxq24, .ref mxq25, .ref mxq26, .long 0, .int 0, .int 0, .int 0, .int 0, .int 0, .ref mxq27, .ref mxq28, .ref mxq29, .ref mxq30, .ref mxq31, .ref mxq32, .ref mxq33, .long 0])), (o, .inl (co, 1, .inr (.inl xf3)))] [(co, .long)] s H _ := I
    refine W.widen (k := 1001) (n := 8006) (Nat.le_of_ble_eq_true rfl) (Nat.le_of_ble_eq_true rfl) ?_
    obtain rfl : r2 = 1 := hp2.1
    refine lv_istore (lv' := [(6, .int 1), (0, .ref b), (1, .ref h0), (2, .ref mh0), (3, .ref o), (4, .ref od), (5, .int 0)]) hx hb dL_law_479 hl (by decide) rfl (fun ls hl => ?_)
    refine lv_aload_n hx hb dL_law_481 rfl (lv_at hl 3 rfl) ?_
    refine lv_aload_n hx hb dL_law_482 rfl (lv_at hl 1 rfl) ?_
    refine lv_iload hx hb dL_law_483 (lv_at hl 6 rfl) ?_
    refine lv_iconst (v := 1) hx hb dL_law_485 (by decide) ?_
    refine lv_iadd hx hb dL_law_486 ?_
    refine lv_topi (fun w4 ew4 => ?_)
    obtain rfl : w4 = 1 := ew4.trans (by decide)
    refine va_sld hx hb hX hbl hbA I.2.2.2.1 (by unfold vp_in; decide) dL_law_487 ?_
    refine z_calli (wr := [(o, .inl (co, 1, .inr (.inl xf3)))]) (va_runV (As := [.int (xs (Int32.toNatClampNeg 1))]) (rest := []) ⟨hx, hb, hml, hown, hts⟩ (z_M_lower l dC dI mxq1 mxq2 mxq3 mxq4 mxq5 mxq6 mxq7 mxq8 mxq9 mxq10 mxq11 mxq12 mxq13 mxq14 mxq15 mxq16 mxq17 mxq18 mxq19 mxq20 mxq21 mxq22 mxq23 mxq24 mxq25 mxq26 mxq27 mxq28 mxq29 mxq30 mxq31 mxq32 mxq33 mh0 (xs (Int32.toNatClampNeg 1))  H.size) (cwV 1 hts (z_gV z_T.l mw1440 mw1441 mw1442 mw10 mw1443) rfl rfl rfl (by decide +kernel) ⟨Nat.le_of_ble_eq_true rfl, Nat.le_of_ble_eq_true rfl⟩) (z_preV I [0] [] rfl rfl rfl rfl (ci := 9) (q0 := 0) rfl rfl) rfl rfl hl.1 rfl (lv_room (Nat.le_of_ble_eq_true rfl)) dL_law_488 ⟨Nat.le_of_ble_eq_true rfl, Nat.le_of_ble_eq_true rfl⟩) I [0] [1] rfl rfl (by decide) (by decide) (fun r5 u5 H locs hw5 I => ?_)
    obtain ⟨hu5, hp5⟩ := hw5
    subst hu5
    have I : z_I A dC dI [(o, .inl (co, 1, .inr (.inl xf3))), (mh0, .inr (9, [.int 1, .ref mxq1, .ref mxq2, .ref mxq3, .ref mxq4, .ref mxq5, .ref mxq6, .ref mxq7, .ref mxq8, .ref mxq9, .int 0, .int 0, .ref mxq10, .ref mxq11, .ref mxq12, .ref mxq13, .ref mxq14, .ref mxq15, .ref mxq16, .ref mxq17, .ref mxq18, .ref mxq19, .ref mxq20, .ref mxq21, .ref mxq22, .ref mxq23, .ref mxq24, .ref mxq25, .ref mxq26, .long 0, .int 0, .int 0, .int 0, .int 0, .int 0, .ref mxq27, .ref mxq28, .ref mxq29, .ref mxq30, .ref mxq31, .ref mxq32, .ref mxq33, .long 0]))] [(co, .long)] s H _ := I
    obtain rfl : r5 = 0 := hp5
    refine lv_istore (lv' := [(7, .int 0), (6, .int 1), (0, .ref b), (1, .ref h0), (2, .ref mh0), (3, .ref o), (4, .ref od), (5, .int 0)]) hx hb dL_law_491 hl (by decide) rfl (fun ls hl => ?_)
    refine lv_aload_n hx hb dL_law_493 rfl (lv_at hl 4 rfl) ?_
    refine z_calli (wr := [(o, .inl (co, 1, .inr (.inl xf3)))]) (va_runV (As := []) (rest := []) ⟨hx, hb, hml, hown, hts⟩ (z_M_thrown l dC dI 1 mxq1 mxq2 mxq3 mxq4 mxq5 mxq6 mxq7 mxq8 mxq9 0 0 mxq10 mxq11 mxq12 mxq13 mxq14 mxq15 mxq16 mxq17 mxq18 mxq19 mxq20 mxq21 mxq22 mxq23 mxq24 mxq25 mxq26 0 0 0 0 0 0 mxq27 mxq28 mxq29 mxq30 mxq31 mxq32 mxq33 0 mh0  H.size) (cwV 0 hts (z_gV z_T.l mw1391 mw1392 mw1393 mw10 mw1394) rfl rfl rfl (by decide +kernel) ⟨Nat.le_of_ble_eq_true rfl, Nat.le_of_ble_eq_true rfl⟩) (z_preV I [1] [] rfl rfl rfl rfl (ci := 9) (q0 := 1) rfl rfl) rfl rfl hl.1 rfl (lv_room (Nat.le_of_ble_eq_true rfl)) dL_law_494 ⟨Nat.le_of_ble_eq_true rfl, Nat.le_of_ble_eq_true rfl⟩) I [1] [0] rfl rfl (by decide) (by decide) (fun r6 u6 H locs hw6 I => ?_)
    obtain ⟨hu6, hp6⟩ := hw6
    subst hu6
    have I : z_I A dC dI [(o, .inl (co, 1, .inr (.inl xf3))), (mh0, .inr (9, [.int 1, .ref mxq1, .ref mxq2, .ref mxq3, .ref mxq4, .ref mxq5, .ref mxq6, .ref mxq7, .ref mxq8, .ref mxq9, .int 0, .int 0, .ref mxq10, .ref mxq11, .ref mxq12, .ref mxq13, .ref mxq14, .ref mxq15, .ref mxq16, .ref mxq17, .ref mxq18, .ref mxq19, .ref mxq20, .ref mxq21, .ref mxq22, .ref mxq23, .ref mxq24, .ref mxq25, .ref mxq26, .long 0, .int 0, .int 0, .int 0, .int 0, .int 0, .ref mxq27, .ref mxq28, .ref mxq29, .ref mxq30, .ref mxq31, .ref mxq32, .ref mxq33, .long 0]))] [(co, .long)] s H _ := I
    obtain rfl : 1 = r6 := hp6.symm
    refine lv_iload hx hb dL_law_497 (lv_at hl 1 rfl) ?_
    refine lv_icmp_eq (tgt := 504) hx hb dL_law_499 (by decide) (fun _ => ?_) (fun c9 => absurd c9 (by decide))
    refine lv_iload hx hb dL_law_504 (lv_at hl 1 rfl) ?_
    refine lv_if_ne (tgt := 521) hx hb dL_law_506 (by decide) (fun _ => ?_) (fun c9 => absurd c9 (by decide))
    refine lv_goto (tgt := 2238) hx hb dL_law_521 (by decide) ?_
    refine W.widen (k := 2000) (n := 9000) (Nat.le_of_ble_eq_true rfl) (Nat.le_of_ble_eq_true rfl) ?_
    exact K _ _ _ I.2.2.2.1 (lv_sub hl [2, 7] rfl)
set_option maxHeartbeats 4000000 in
set_option maxRecDepth 100000 in
theorem z_case_4 (l : Launch) (hst : l.stackTraces = false) (dC : Nat → ClassId) (dI : Nat → Nat → Nat) (xq1 : Nat) (xq2 : Nat) (xq9 : Nat) (xq10 : Nat) (xq11 : Nat) (xq12 : Nat) (xq13 : Nat) (xq14 : Nat) (xq15 : Nat) (xq16 : Nat) (xq17 : Nat) (xq18 : Nat) (xq19 : Nat) (h0 : Nat) (mxq1 : Nat) (mxq2 : Nat) (mxq3 : Nat) (mxq4 : Nat) (mxq5 : Nat) (mxq6 : Nat) (mxq7 : Nat) (mxq8 : Nat) (mxq9 : Nat) (mxq10 : Nat) (mxq11 : Nat) (mxq12 : Nat) (mxq13 : Nat) (mxq14 : Nat) (mxq15 : Nat) (mxq16 : Nat) (mxq17 : Nat) (mxq18 : Nat) (mxq19 : Nat) (mxq20 : Nat) (mxq21 : Nat) (mxq22 : Nat) (mxq23 : Nat) (mxq24 : Nat) (mxq25 : Nat) (mxq26 : Nat) (mxq27 : Nat) (mxq28 : Nat) (mxq29 : Nat) (mxq30 : Nat) (mxq31 : Nat) (mxq32 : Nat) (mxq33 : Nat) (mh0 : Nat) (o : Nat) (co : ClassId) (fo : Nat → Int64) (od : Nat) {p : Program} {e : Env} {s : State} {m : MethodId} {below : List Frame} {meth : Method} {c : Code} {b : Nat} {xs : Nat → Int32} {A : Nat → Prop} {Q : State → Prop} (hx : p.tables.exec = Jvm.exec) (hb : c.code = cL_law) (hml : c.maxLocals = 9) (hown : s.vm.findClass RL = some m.cls) (hts : ∀ w ∈ lw_tbl, w.before #[Value.ref b] s = true) (hX : va_X b 7 xs s s.heap) (hbl : b < s.heap.size) (hbA : ¬ A b) (K : z_LK p l e s m below meth c b A Q) {H : Heap} {locs : List Loc} {ls : Array Slot} (I : z_I A dC dI [(h0, .inr (8, [.ref xq1, .ref xq2])), (xq2, .inr (5, [.ref xq9, .ref xq10, .ref xq11, .ref xq12, .ref xq13, .ref xq14, .ref xq15, .ref xq16, .ref xq17, .ref xq18, .ref xq19, .int 0, .int 0])), (mh0, .inr (9, [.int 0, .ref mxq1, .ref mxq2, .ref mxq3, .ref mxq4, .ref mxq5, .ref mxq6, .ref mxq7, .ref mxq8, .ref mxq9, .int 0, .int 0, .ref mxq10, .ref mxq11, .ref mxq12, .ref mxq13, .ref mxq14, .ref mxq15, .ref mxq16, .ref mxq17, .ref mxq18, .ref mxq19, .ref mxq20, .ref mxq21, .ref mxq22, .ref mxq23, .ref mxq24, .ref mxq25, .ref mxq26, .long 0, .int 0, .int 0, .int 0, .int 0, .int 0, .ref mxq27, .ref mxq28, .ref mxq29, .ref mxq30, .ref mxq31, .ref mxq32, .ref mxq33, .long 0])), (o, .inl (co, 1, .inr (.inl fo)))] [(co, .long)] s H locs) (hl : lv_has ls 9 [(0, .ref b), (1, .ref h0), (2, .ref mh0), (3, .ref o), (4, .ref od), (5, .int 0)]) : W p l e room_1 s m #[Value.ref b] below meth c H locs 1000 8000 Q (F0 m 524 ls []) := by
  have hg : z_G #[Value.ref b] s := fun w hw _ => hts w hw
  refine lv_aload_n hx hb dL_law_524 rfl (lv_at hl 1 rfl) ?_
  refine lv_aload_n hx hb dL_law_525 rfl (lv_at hl 0 rfl) ?_
  refine lv_iload hx hb dL_law_526 (lv_at hl 5 rfl) ?_
  refine lv_iconst (v := 1) hx hb dL_law_528 (by decide) ?_
  refine lv_iadd hx hb dL_law_529 ?_
  refine lv_topi (fun w1 ew1 => ?_)
  obtain rfl : w1 = 1 := ew1.trans (by decide)
  refine va_sld hx hb hX hbl hbA I.2.2.2.1 (by unfold vp_in; decide) dL_law_530 ?_
  refine lv_aload_n hx hb dL_law_531 rfl (lv_at hl 3 rfl) ?_
  refine z_xcalli (wr := [(mh0, .inr (9, [.int 0, .ref mxq1, .ref mxq2, .ref mxq3, .ref mxq4, .ref mxq5, .ref mxq6, .ref mxq7, .ref mxq8, .ref mxq9, .int 0, .int 0, .ref mxq10, .ref mxq11, .ref mxq12, .ref mxq13, .ref mxq14, .ref mxq15, .ref mxq16, .ref mxq17, .ref mxq18, .ref mxq19, .ref mxq20, .ref mxq21, .ref mxq22, .ref mxq23, .ref mxq24, .ref mxq25, .ref mxq26, .long 0, .int 0, .int 0, .int 0, .int 0, .int 0, .ref mxq27, .ref mxq28, .ref mxq29, .ref mxq30, .ref mxq31, .ref mxq32, .ref mxq33, .long 0]))]) (vx_runSX (As := [.ref h0, .int (xs (Int32.toNatClampNeg 1)), .ref o]) (rest := []) ⟨hx, hb, hml, hown, hts⟩ (z_L_upper l hst dC dI xq1 xq2 xq9 xq10 xq11 xq12 xq13 xq14 xq15 xq16 xq17 xq18 xq19 h0 o co fo (xs (Int32.toNatClampNeg 1))  H.size) (vx_cwSW 3 hts (z_gSh z_T.l mw655 mw656 mw0 mw657) rfl rfl rfl (by decide +kernel) ⟨Nat.le_of_ble_eq_true rfl, Nat.le_of_ble_eq_true rfl⟩) (z_pre I [0, 1, 3] [0] rfl rfl rfl rfl) rfl rfl hl.1 rfl (lv_room (Nat.le_of_ble_eq_true rfl)) dL_law_532 ⟨Nat.le_of_ble_eq_true rfl, Nat.le_of_ble_eq_true rfl⟩) I [0, 1, 3] [2] rfl rfl (by decide) (by decide) (fun E2 ce2 q2 H locs hE2 I hcell hcv hcl => ?_) (fun r2 u2 H locs hw2 I => ?_)
  · skip
    have I : z_I A dC dI [(mh0, .inr (9, [.int 0, .ref mxq1, .ref mxq2, .ref mxq3, .ref mxq4, .ref mxq5, .ref mxq6, .ref mxq7, .ref mxq8, .ref mxq9, .int 0, .int 0, .ref mxq10, .ref mxq11, .ref mxq12, .ref mxq13, .ref mxq14, .ref mxq15, .ref mxq16, .ref mxq17, .ref mxq18, .ref mxq19, .ref mxq20, .ref mxq21, .ref mxq22, .ref mxq23, .ref mxq24, .ref mxq25, .ref mxq26, .long 0, .int 0, .int 0, .int 0, .int 0, .int 0, .ref mxq27, .ref mxq28, .ref mxq29, .ref mxq30, .ref mxq31, .ref mxq32, .ref mxq33, .long 0]))] [(co, .long)] s H _ := I
    exact False.elim hE2
  · skip
    obtain ⟨xf3, hu2, hp2⟩ := hw2
    subst hu2
    have I : z_I A dC dI [(mh0, .inr (9, [.int 0, .ref mxq1, .ref mxq2, .ref mxq3, .ref mxq4, .ref mxq5, .ref mxq6, .ref mxq7, .ref mxq8, .ref mxq9, .int 0, .int 0, .ref mxq10, .ref mxq11, .ref mxq12, .ref mxq13, .ref mxq14, .ref mxq15, .ref mxq16, .ref mxq17, .ref mxq18, .ref mxq19, .ref mxq20, .ref mxq21, .ref mxq22, .ref mxq23, .ref mxq24, .ref mxq25, .ref mxq26, .long 0, .int 0, .int 0, .int 0, .int 0, .int 0, .ref mxq27, .ref mxq28, .ref mxq29, .ref mxq30, .ref mxq31, .ref mxq32, .ref mxq33, .long 0])), (o, .inl (co, 1, .inr (.inl xf3)))] [(co, .long)] s H _ := I
    refine W.widen (k := 1001) (n := 8006) (Nat.le_of_ble_eq_true rfl) (Nat.le_of_ble_eq_true rfl) ?_
    obtain rfl : r2 = 1 := hp2.1
    refine lv_istore (lv' := [(6, .int 1), (0, .ref b), (1, .ref h0), (2, .ref mh0), (3, .ref o), (4, .ref od), (5, .int 0)]) hx hb dL_law_535 hl (by decide) rfl (fun ls hl => ?_)
    refine lv_aload_n hx hb dL_law_537 rfl (lv_at hl 3 rfl) ?_
    refine lv_aload_n hx hb dL_law_538 rfl (lv_at hl 1 rfl) ?_
    refine lv_iload hx hb dL_law_539 (lv_at hl 6 rfl) ?_
    refine lv_iconst (v := 1) hx hb dL_law_541 (by decide) ?_
    refine lv_iadd hx hb dL_law_542 ?_
    refine lv_topi (fun w4 ew4 => ?_)
    obtain rfl : w4 = 1 := ew4.trans (by decide)
    refine va_sld hx hb hX hbl hbA I.2.2.2.1 (by unfold vp_in; decide) dL_law_543 ?_
    refine z_calli (wr := [(o, .inl (co, 1, .inr (.inl xf3)))]) (va_runV (As := [.int (xs (Int32.toNatClampNeg 1))]) (rest := []) ⟨hx, hb, hml, hown, hts⟩ (z_M_upper l dC dI mxq1 mxq2 mxq3 mxq4 mxq5 mxq6 mxq7 mxq8 mxq9 mxq10 mxq11 mxq12 mxq13 mxq14 mxq15 mxq16 mxq17 mxq18 mxq19 mxq20 mxq21 mxq22 mxq23 mxq24 mxq25 mxq26 mxq27 mxq28 mxq29 mxq30 mxq31 mxq32 mxq33 mh0 (xs (Int32.toNatClampNeg 1))  H.size) (cwV 1 hts (z_gV z_T.l mw1448 mw1449 mw1450 mw10 mw1451) rfl rfl rfl (by decide +kernel) ⟨Nat.le_of_ble_eq_true rfl, Nat.le_of_ble_eq_true rfl⟩) (z_preV I [0] [] rfl rfl rfl rfl (ci := 9) (q0 := 0) rfl rfl) rfl rfl hl.1 rfl (lv_room (Nat.le_of_ble_eq_true rfl)) dL_law_544 ⟨Nat.le_of_ble_eq_true rfl, Nat.le_of_ble_eq_true rfl⟩) I [0] [1] rfl rfl (by decide) (by decide) (fun r5 u5 H locs hw5 I => ?_)
    obtain ⟨hu5, hp5⟩ := hw5
    subst hu5
    have I : z_I A dC dI [(o, .inl (co, 1, .inr (.inl xf3))), (mh0, .inr (9, [.int 1, .ref mxq1, .ref mxq2, .ref mxq3, .ref mxq4, .ref mxq5, .ref mxq6, .ref mxq7, .ref mxq8, .ref mxq9, .int 0, .int 0, .ref mxq10, .ref mxq11, .ref mxq12, .ref mxq13, .ref mxq14, .ref mxq15, .ref mxq16, .ref mxq17, .ref mxq18, .ref mxq19, .ref mxq20, .ref mxq21, .ref mxq22, .ref mxq23, .ref mxq24, .ref mxq25, .ref mxq26, .long 0, .int 0, .int 0, .int 0, .int 0, .int 0, .ref mxq27, .ref mxq28, .ref mxq29, .ref mxq30, .ref mxq31, .ref mxq32, .ref mxq33, .long 0]))] [(co, .long)] s H _ := I
    obtain rfl : r5 = 0 := hp5
    refine lv_istore (lv' := [(7, .int 0), (6, .int 1), (0, .ref b), (1, .ref h0), (2, .ref mh0), (3, .ref o), (4, .ref od), (5, .int 0)]) hx hb dL_law_547 hl (by decide) rfl (fun ls hl => ?_)
    refine lv_aload_n hx hb dL_law_549 rfl (lv_at hl 4 rfl) ?_
    refine z_calli (wr := [(o, .inl (co, 1, .inr (.inl xf3)))]) (va_runV (As := []) (rest := []) ⟨hx, hb, hml, hown, hts⟩ (z_M_thrown l dC dI 1 mxq1 mxq2 mxq3 mxq4 mxq5 mxq6 mxq7 mxq8 mxq9 0 0 mxq10 mxq11 mxq12 mxq13 mxq14 mxq15 mxq16 mxq17 mxq18 mxq19 mxq20 mxq21 mxq22 mxq23 mxq24 mxq25 mxq26 0 0 0 0 0 0 mxq27 mxq28 mxq29 mxq30 mxq31 mxq32 mxq33 0 mh0  H.size) (cwV 0 hts (z_gV z_T.l mw1391 mw1392 mw1393 mw10 mw1394) rfl rfl rfl (by decide +kernel) ⟨Nat.le_of_ble_eq_true rfl, Nat.le_of_ble_eq_true rfl⟩) (z_preV I [1] [] rfl rfl rfl rfl (ci := 9) (q0 := 1) rfl rfl) rfl rfl hl.1 rfl (lv_room (Nat.le_of_ble_eq_true rfl)) dL_law_550 ⟨Nat.le_of_ble_eq_true rfl, Nat.le_of_ble_eq_true rfl⟩) I [1] [0] rfl rfl (by decide) (by decide) (fun r6 u6 H locs hw6 I => ?_)
    obtain ⟨hu6, hp6⟩ := hw6
    subst hu6
    have I : z_I A dC dI [(o, .inl (co, 1, .inr (.inl xf3))), (mh0, .inr (9, [.int 1, .ref mxq1, .ref mxq2, .ref mxq3, .ref mxq4, .ref mxq5, .ref mxq6, .ref mxq7, .ref mxq8, .ref mxq9, .int 0, .int 0, .ref mxq10, .ref mxq11, .ref mxq12, .ref mxq13, .ref mxq14, .ref mxq15, .ref mxq16, .ref mxq17, .ref mxq18, .ref mxq19, .ref mxq20, .ref mxq21, .ref mxq22, .ref mxq23, .ref mxq24, .ref mxq25, .ref mxq26, .long 0, .int 0, .int 0, .int 0, .int 0, .int 0, .ref mxq27, .ref mxq28, .ref mxq29, .ref mxq30, .ref mxq31, .ref mxq32, .ref mxq33, .long 0]))] [(co, .long)] s H _ := I
    obtain rfl : 1 = r6 := hp6.symm
    refine lv_iload hx hb dL_law_553 (lv_at hl 1 rfl) ?_
    refine lv_icmp_eq (tgt := 560) hx hb dL_law_555 (by decide) (fun _ => ?_) (fun c9 => absurd c9 (by decide))
    refine lv_iload hx hb dL_law_560 (lv_at hl 1 rfl) ?_
    refine lv_if_ne (tgt := 577) hx hb dL_law_562 (by decide) (fun _ => ?_) (fun c9 => absurd c9 (by decide))
    refine lv_goto (tgt := 2238) hx hb dL_law_577 (by decide) ?_
    refine W.widen (k := 2000) (n := 9000) (Nat.le_of_ble_eq_true rfl) (Nat.le_of_ble_eq_true rfl) ?_
    exact K _ _ _ I.2.2.2.1 (lv_sub hl [2, 7] rfl)
set_option maxHeartbeats 4000000 in
set_option maxRecDepth 100000 in
theorem z_case_5 (l : Launch) (hst : l.stackTraces = false) (dC : Nat → ClassId) (dI : Nat → Nat → Nat) (xq1 : Nat) (xq2 : Nat) (xq9 : Nat) (xq10 : Nat) (xq11 : Nat) (xq12 : Nat) (xq13 : Nat) (xq14 : Nat) (xq15 : Nat) (xq16 : Nat) (xq17 : Nat) (xq18 : Nat) (xq19 : Nat) (h0 : Nat) (mxq1 : Nat) (mxq2 : Nat) (mxq3 : Nat) (mxq4 : Nat) (mxq5 : Nat) (mxq6 : Nat) (mxq7 : Nat) (mxq8 : Nat) (mxq9 : Nat) (mxq10 : Nat) (mxq11 : Nat) (mxq12 : Nat) (mxq13 : Nat) (mxq14 : Nat) (mxq15 : Nat) (mxq16 : Nat) (mxq17 : Nat) (mxq18 : Nat) (mxq19 : Nat) (mxq20 : Nat) (mxq21 : Nat) (mxq22 : Nat) (mxq23 : Nat) (mxq24 : Nat) (mxq25 : Nat) (mxq26 : Nat) (mxq27 : Nat) (mxq28 : Nat) (mxq29 : Nat) (mxq30 : Nat) (mxq31 : Nat) (mxq32 : Nat) (mxq33 : Nat) (mh0 : Nat) (o : Nat) (co : ClassId) (fo : Nat → Int64) (od : Nat) {p : Program} {e : Env} {s : State} {m : MethodId} {below : List Frame} {meth : Method} {c : Code} {b : Nat} {xs : Nat → Int32} {A : Nat → Prop} {Q : State → Prop} (hx : p.tables.exec = Jvm.exec) (hb : c.code = cL_law) (hml : c.maxLocals = 9) (hown : s.vm.findClass RL = some m.cls) (hts : ∀ w ∈ lw_tbl, w.before #[Value.ref b] s = true) (hX : va_X b 7 xs s s.heap) (hbl : b < s.heap.size) (hbA : ¬ A b) (K : z_LK p l e s m below meth c b A Q) {H : Heap} {locs : List Loc} {ls : Array Slot} (I : z_I A dC dI [(h0, .inr (8, [.ref xq1, .ref xq2])), (xq2, .inr (5, [.ref xq9, .ref xq10, .ref xq11, .ref xq12, .ref xq13, .ref xq14, .ref xq15, .ref xq16, .ref xq17, .ref xq18, .ref xq19, .int 0, .int 0])), (mh0, .inr (9, [.int 0, .ref mxq1, .ref mxq2, .ref mxq3, .ref mxq4, .ref mxq5, .ref mxq6, .ref mxq7, .ref mxq8, .ref mxq9, .int 0, .int 0, .ref mxq10, .ref mxq11, .ref mxq12, .ref mxq13, .ref mxq14, .ref mxq15, .ref mxq16, .ref mxq17, .ref mxq18, .ref mxq19, .ref mxq20, .ref mxq21, .ref mxq22, .ref mxq23, .ref mxq24, .ref mxq25, .ref mxq26, .long 0, .int 0, .int 0, .int 0, .int 0, .int 0, .ref mxq27, .ref mxq28, .ref mxq29, .ref mxq30, .ref mxq31, .ref mxq32, .ref mxq33, .long 0])), (o, .inl (co, 1, .inr (.inl fo)))] [(co, .long)] s H locs) (hl : lv_has ls 9 [(0, .ref b), (1, .ref h0), (2, .ref mh0), (3, .ref o), (4, .ref od), (5, .int 0)]) : W p l e room_1 s m #[Value.ref b] below meth c H locs 1000 8000 Q (F0 m 580 ls []) := by
  have hg : z_G #[Value.ref b] s := fun w hw _ => hts w hw
  refine lv_aload_n hx hb dL_law_580 rfl (lv_at hl 1 rfl) ?_
  refine lv_aload_n hx hb dL_law_581 rfl (lv_at hl 0 rfl) ?_
  refine lv_iload hx hb dL_law_582 (lv_at hl 5 rfl) ?_
  refine lv_iconst (v := 1) hx hb dL_law_584 (by decide) ?_
  refine lv_iadd hx hb dL_law_585 ?_
  refine lv_topi (fun w1 ew1 => ?_)
  obtain rfl : w1 = 1 := ew1.trans (by decide)
  refine va_sld hx hb hX hbl hbA I.2.2.2.1 (by unfold vp_in; decide) dL_law_586 ?_
  refine lv_aload_n hx hb dL_law_587 rfl (lv_at hl 0 rfl) ?_
  refine lv_iload hx hb dL_law_588 (lv_at hl 5 rfl) ?_
  refine lv_iconst (v := 2) hx hb dL_law_590 (by decide) ?_
  refine lv_iadd hx hb dL_law_591 ?_
  refine lv_topi (fun w2 ew2 => ?_)
  obtain rfl : w2 = 2 := ew2.trans (by decide)
  refine va_sld hx hb hX hbl hbA I.2.2.2.1 (by unfold vp_in; decide) dL_law_592 ?_
  refine lv_aload_n hx hb dL_law_593 rfl (lv_at hl 3 rfl) ?_
  refine z_xcalli (wr := [(mh0, .inr (9, [.int 0, .ref mxq1, .ref mxq2, .ref mxq3, .ref mxq4, .ref mxq5, .ref mxq6, .ref mxq7, .ref mxq8, .ref mxq9, .int 0, .int 0, .ref mxq10, .ref mxq11, .ref mxq12, .ref mxq13, .ref mxq14, .ref mxq15, .ref mxq16, .ref mxq17, .ref mxq18, .ref mxq19, .ref mxq20, .ref mxq21, .ref mxq22, .ref mxq23, .ref mxq24, .ref mxq25, .ref mxq26, .long 0, .int 0, .int 0, .int 0, .int 0, .int 0, .ref mxq27, .ref mxq28, .ref mxq29, .ref mxq30, .ref mxq31, .ref mxq32, .ref mxq33, .long 0]))]) (vx_runSX (As := [.ref h0, .int (xs (Int32.toNatClampNeg 1)), .int (xs (Int32.toNatClampNeg 2)), .ref o]) (rest := []) ⟨hx, hb, hml, hown, hts⟩ (z_L_areAlike l hst dC dI xq1 xq2 xq9 xq10 xq11 xq12 xq13 xq14 xq15 xq16 xq17 xq18 xq19 h0 o co fo (xs (Int32.toNatClampNeg 1)) (xs (Int32.toNatClampNeg 2))  H.size) (vx_cwSW 4 hts (z_gSh z_T.l mw662 mw663 mw0 mw664) rfl rfl rfl (by decide +kernel) ⟨Nat.le_of_ble_eq_true rfl, Nat.le_of_ble_eq_true rfl⟩) (z_pre I [0, 1, 3] [0] rfl rfl rfl rfl) rfl rfl hl.1 rfl (lv_room (Nat.le_of_ble_eq_true rfl)) dL_law_594 ⟨Nat.le_of_ble_eq_true rfl, Nat.le_of_ble_eq_true rfl⟩) I [0, 1, 3] [2] rfl rfl (by decide) (by decide) (fun E3 ce3 q3 H locs hE3 I hcell hcv hcl => ?_) (fun r3 u3 H locs hw3 I => ?_)
  · skip
    have I : z_I A dC dI [(mh0, .inr (9, [.int 0, .ref mxq1, .ref mxq2, .ref mxq3, .ref mxq4, .ref mxq5, .ref mxq6, .ref mxq7, .ref mxq8, .ref mxq9, .int 0, .int 0, .ref mxq10, .ref mxq11, .ref mxq12, .ref mxq13, .ref mxq14, .ref mxq15, .ref mxq16, .ref mxq17, .ref mxq18, .ref mxq19, .ref mxq20, .ref mxq21, .ref mxq22, .ref mxq23, .ref mxq24, .ref mxq25, .ref mxq26, .long 0, .int 0, .int 0, .int 0, .int 0, .int 0, .ref mxq27, .ref mxq28, .ref mxq29, .ref mxq30, .ref mxq31, .ref mxq32, .ref mxq33, .long 0]))] [(co, .long)] s H _ := I
    exact False.elim hE3
  · skip
    obtain ⟨xf4, hu3, hp3⟩ := hw3
    subst hu3
    have I : z_I A dC dI [(mh0, .inr (9, [.int 0, .ref mxq1, .ref mxq2, .ref mxq3, .ref mxq4, .ref mxq5, .ref mxq6, .ref mxq7, .ref mxq8, .ref mxq9, .int 0, .int 0, .ref mxq10, .ref mxq11, .ref mxq12, .ref mxq13, .ref mxq14, .ref mxq15, .ref mxq16, .ref mxq17, .ref mxq18, .ref mxq19, .ref mxq20, .ref mxq21, .ref mxq22, .ref mxq23, .ref mxq24, .ref mxq25, .ref mxq26, .long 0, .int 0, .int 0, .int 0, .int 0, .int 0, .ref mxq27, .ref mxq28, .ref mxq29, .ref mxq30, .ref mxq31, .ref mxq32, .ref mxq33, .long 0])), (o, .inl (co, 1, .inr (.inl xf4)))] [(co, .long)] s H _ := I
    refine W.widen (k := 1001) (n := 8006) (Nat.le_of_ble_eq_true rfl) (Nat.le_of_ble_eq_true rfl) ?_
    obtain rfl : r3 = 1 := hp3.1
    refine lv_istore (lv' := [(6, .int 1), (0, .ref b), (1, .ref h0), (2, .ref mh0), (3, .ref o), (4, .ref od), (5, .int 0)]) hx hb dL_law_597 hl (by decide) rfl (fun ls hl => ?_)
    refine lv_aload_n hx hb dL_law_599 rfl (lv_at hl 3 rfl) ?_
    refine lv_aload_n hx hb dL_law_600 rfl (lv_at hl 1 rfl) ?_
    refine lv_iload hx hb dL_law_601 (lv_at hl 6 rfl) ?_
    refine lv_iconst (v := 1) hx hb dL_law_603 (by decide) ?_
    refine lv_iadd hx hb dL_law_604 ?_
    refine lv_topi (fun w5 ew5 => ?_)
    obtain rfl : w5 = 1 := ew5.trans (by decide)
    refine va_sld hx hb hX hbl hbA I.2.2.2.1 (by unfold vp_in; decide) dL_law_605 ?_
    refine lv_aload_n hx hb dL_law_606 rfl (lv_at hl 1 rfl) ?_
    refine lv_iload hx hb dL_law_607 (lv_at hl 6 rfl) ?_
    refine lv_iconst (v := 2) hx hb dL_law_609 (by decide) ?_
    refine lv_iadd hx hb dL_law_610 ?_
    refine lv_topi (fun w6 ew6 => ?_)
    obtain rfl : w6 = 2 := ew6.trans (by decide)
    refine va_sld hx hb hX hbl hbA I.2.2.2.1 (by unfold vp_in; decide) dL_law_611 ?_
    refine z_calli (wr := [(o, .inl (co, 1, .inr (.inl xf4)))]) (va_runV (As := [.int (xs (Int32.toNatClampNeg 1)), .int (xs (Int32.toNatClampNeg 2))]) (rest := []) ⟨hx, hb, hml, hown, hts⟩ (z_M_areAlike l dC dI mxq1 mxq2 mxq3 mxq4 mxq5 mxq6 mxq7 mxq8 mxq9 mxq10 mxq11 mxq12 mxq13 mxq14 mxq15 mxq16 mxq17 mxq18 mxq19 mxq20 mxq21 mxq22 mxq23 mxq24 mxq25 mxq26 mxq27 mxq28 mxq29 mxq30 mxq31 mxq32 mxq33 mh0 (xs (Int32.toNatClampNeg 1)) (xs (Int32.toNatClampNeg 2))  H.size) (cwV 2 hts (z_gV z_T.l mw1452 mw1453 mw1454 mw10 mw1455) rfl rfl rfl (by decide +kernel) ⟨Nat.le_of_ble_eq_true rfl, Nat.le_of_ble_eq_true rfl⟩) (z_preV I [0] [] rfl rfl rfl rfl (ci := 9) (q0 := 0) rfl rfl) rfl rfl hl.1 rfl (lv_room (Nat.le_of_ble_eq_true rfl)) dL_law_612 ⟨Nat.le_of_ble_eq_true rfl, Nat.le_of_ble_eq_true rfl⟩) I [0] [1] rfl rfl (by decide) (by decide) (fun r7 u7 H locs hw7 I => ?_)
    obtain ⟨hu7, hp7⟩ := hw7
    subst hu7
    have I : z_I A dC dI [(o, .inl (co, 1, .inr (.inl xf4))), (mh0, .inr (9, [.int 1, .ref mxq1, .ref mxq2, .ref mxq3, .ref mxq4, .ref mxq5, .ref mxq6, .ref mxq7, .ref mxq8, .ref mxq9, .int 0, .int 0, .ref mxq10, .ref mxq11, .ref mxq12, .ref mxq13, .ref mxq14, .ref mxq15, .ref mxq16, .ref mxq17, .ref mxq18, .ref mxq19, .ref mxq20, .ref mxq21, .ref mxq22, .ref mxq23, .ref mxq24, .ref mxq25, .ref mxq26, .long 0, .int 0, .int 0, .int 0, .int 0, .int 0, .ref mxq27, .ref mxq28, .ref mxq29, .ref mxq30, .ref mxq31, .ref mxq32, .ref mxq33, .long 0]))] [(co, .long)] s H _ := I
    obtain rfl : r7 = 0 := hp7
    refine lv_istore (lv' := [(7, .int 0), (6, .int 1), (0, .ref b), (1, .ref h0), (2, .ref mh0), (3, .ref o), (4, .ref od), (5, .int 0)]) hx hb dL_law_615 hl (by decide) rfl (fun ls hl => ?_)
    refine lv_aload_n hx hb dL_law_617 rfl (lv_at hl 4 rfl) ?_
    refine z_calli (wr := [(o, .inl (co, 1, .inr (.inl xf4)))]) (va_runV (As := []) (rest := []) ⟨hx, hb, hml, hown, hts⟩ (z_M_thrown l dC dI 1 mxq1 mxq2 mxq3 mxq4 mxq5 mxq6 mxq7 mxq8 mxq9 0 0 mxq10 mxq11 mxq12 mxq13 mxq14 mxq15 mxq16 mxq17 mxq18 mxq19 mxq20 mxq21 mxq22 mxq23 mxq24 mxq25 mxq26 0 0 0 0 0 0 mxq27 mxq28 mxq29 mxq30 mxq31 mxq32 mxq33 0 mh0  H.size) (cwV 0 hts (z_gV z_T.l mw1391 mw1392 mw1393 mw10 mw1394) rfl rfl rfl (by decide +kernel) ⟨Nat.le_of_ble_eq_true rfl, Nat.le_of_ble_eq_true rfl⟩) (z_preV I [1] [] rfl rfl rfl rfl (ci := 9) (q0 := 1) rfl rfl) rfl rfl hl.1 rfl (lv_room (Nat.le_of_ble_eq_true rfl)) dL_law_618 ⟨Nat.le_of_ble_eq_true rfl, Nat.le_of_ble_eq_true rfl⟩) I [1] [0] rfl rfl (by decide) (by decide) (fun r8 u8 H locs hw8 I => ?_)
    obtain ⟨hu8, hp8⟩ := hw8
    subst hu8
    have I : z_I A dC dI [(o, .inl (co, 1, .inr (.inl xf4))), (mh0, .inr (9, [.int 1, .ref mxq1, .ref mxq2, .ref mxq3, .ref mxq4, .ref mxq5, .ref mxq6, .ref mxq7, .ref mxq8, .ref mxq9, .int 0, .int 0, .ref mxq10, .ref mxq11, .ref mxq12, .ref mxq13, .ref mxq14, .ref mxq15, .ref mxq16, .ref mxq17, .ref mxq18, .ref mxq19, .ref mxq20, .ref mxq21, .ref mxq22, .ref mxq23, .ref mxq24, .ref mxq25, .ref mxq26, .long 0, .int 0, .int 0, .int 0, .int 0, .int 0, .ref mxq27, .ref mxq28, .ref mxq29, .ref mxq30, .ref mxq31, .ref mxq32, .ref mxq33, .long 0]))] [(co, .long)] s H _ := I
    obtain rfl : 1 = r8 := hp8.symm
    refine lv_iload hx hb dL_law_621 (lv_at hl 1 rfl) ?_
    refine lv_icmp_eq (tgt := 628) hx hb dL_law_623 (by decide) (fun _ => ?_) (fun c9 => absurd c9 (by decide))
    refine lv_iload hx hb dL_law_628 (lv_at hl 1 rfl) ?_
    refine lv_if_ne (tgt := 652) hx hb dL_law_630 (by decide) (fun _ => ?_) (fun c9 => absurd c9 (by decide))
    refine lv_goto (tgt := 2238) hx hb dL_law_652 (by decide) ?_
    refine W.widen (k := 2000) (n := 9000) (Nat.le_of_ble_eq_true rfl) (Nat.le_of_ble_eq_true rfl) ?_
    exact K _ _ _ I.2.2.2.1 (lv_sub hl [2, 7] rfl)
set_option maxHeartbeats 4000000 in
set_option maxRecDepth 100000 in
theorem z_case_6 (l : Launch) (hst : l.stackTraces = false) (dC : Nat → ClassId) (dI : Nat → Nat → Nat) (xq1 : Nat) (xq2 : Nat) (xq9 : Nat) (xq10 : Nat) (xq11 : Nat) (xq12 : Nat) (xq13 : Nat) (xq14 : Nat) (xq15 : Nat) (xq16 : Nat) (xq17 : Nat) (xq18 : Nat) (xq19 : Nat) (xq35 : Nat) (xq36 : Nat) (xq37 : Nat) (xq38 : Nat) (xq39 : Nat) (xq40 : Nat) (xq41 : Nat) (xq42 : Nat) (h0 : Nat) (mxq1 : Nat) (mxq2 : Nat) (mxq3 : Nat) (mxq4 : Nat) (mxq5 : Nat) (mxq6 : Nat) (mxq7 : Nat) (mxq8 : Nat) (mxq9 : Nat) (mxq10 : Nat) (mxq11 : Nat) (mxq12 : Nat) (mxq13 : Nat) (mxq14 : Nat) (mxq15 : Nat) (mxq16 : Nat) (mxq17 : Nat) (mxq18 : Nat) (mxq19 : Nat) (mxq20 : Nat) (mxq21 : Nat) (mxq22 : Nat) (mxq23 : Nat) (mxq24 : Nat) (mxq25 : Nat) (mxq26 : Nat) (mxq27 : Nat) (mxq28 : Nat) (mxq29 : Nat) (mxq30 : Nat) (mxq31 : Nat) (mxq32 : Nat) (mxq33 : Nat) (mxf35 : Nat → Int32) (mxc36 : ClassId) (mxc37 : ClassId) (mxc47 : ClassId) (mxf48 : Nat → Option Nat) (mxq49 : Nat) (mxc50 : ClassId) (mxf51 : Nat → Option Nat) (mxq52 : Nat) (mxq53 : Nat) (mxq54 : Nat) (mxq55 : Nat) (mxq56 : Nat) (mxc57 : ClassId) (mxf58 : Nat → Int64) (mxc59 : ClassId) (mxc60 : ClassId) (mxc61 : ClassId) (mxc62 : ClassId) (mxf63 : Nat → Option Nat) (mxq64 : Nat) (mxc65 : ClassId) (mh0 : Nat) (o : Nat) (co : ClassId) (fo : Nat → Int64) (od : Nat) {p : Program} {e : Env} {s : State} {m : MethodId} {below : List Frame} {meth : Method} {c : Code} {b : Nat} {xs : Nat → Int32} {A : Nat → Prop} {Q : State → Prop} (hx : p.tables.exec = Jvm.exec) (hb : c.code = cL_law) (hml : c.maxLocals = 9) (hown : s.vm.findClass RL = some m.cls) (hts : ∀ w ∈ lw_tbl, w.before #[Value.ref b] s = true) (hX : va_X b 7 xs s s.heap) (hbl : b < s.heap.size) (hbA : ¬ A b) (K : z_LK p l e s m below meth c b A Q) {H : Heap} {locs : List Loc} {ls : Array Slot} (I : z_I A dC dI [(h0, .inr (8, [.ref xq1, .ref xq2])), (xq2, .inr (5, [.ref xq9, .ref xq10, .ref xq11, .ref xq12, .ref xq13, .ref xq14, .ref xq15, .ref xq16, .ref xq17, .ref xq18, .ref xq19, .int 0, .int 0])), (xq19, .inr (0, [.ref xq35, .ref xq36, .ref xq37, .ref xq38, .ref xq39, .ref xq40, .ref xq41, .int 0, .int 0])), (xq35, .inr (4, [.ref xq42, .long 1, .long 0])), (mh0, .inr (9, [.int 0, .ref mxq1, .ref mxq2, .ref mxq3, .ref mxq4, .ref mxq5, .ref mxq6, .ref mxq7, .ref mxq8, .ref mxq9, .int 0, .int 0, .ref mxq10, .ref mxq11, .ref mxq12, .ref mxq13, .ref mxq14, .ref mxq15, .ref mxq16, .ref mxq17, .ref mxq18, .ref mxq19, .ref mxq20, .ref mxq21, .ref mxq22, .ref mxq23, .ref mxq24, .ref mxq25, .ref mxq26, .long 0, .int 0, .int 0, .int 0, .int 0, .int 0, .ref mxq27, .ref mxq28, .ref mxq29, .ref mxq30, .ref mxq31, .ref mxq32, .ref mxq33, .long 0])), (mxq2, .inl (mxc36, 4, .inl mxf35)), (mxq3, .inl (mxc37, 4, .inl mxf35)), (mxq28, .inl (mxc47, 5, .inr (.inr (.inr (.inr (va_up mxf48 0 (some mxq49))))))), (mxq49, .inl (mxc50, 5, .inr (.inr (.inr (.inr (va_up (va_up (va_up (va_up (va_up mxf51 4 (some mxq52)) 3 (some mxq53)) 2 (some mxq54)) 1 (some mxq55)) 0 (some mxq56))))))), (mxq56, .inl (mxc57, 4, .inr (.inl mxf58))), (mxq55, .inl (mxc57, 4, .inr (.inl mxf58))), (mxq54, .inl (mxc57, 4, .inr (.inl mxf58))), (mxq53, .inl (mxc57, 4, .inr (.inl mxf58))), (mxq52, .inl (mxc57, 4, .inr (.inl mxf58))), (mxq29, .inl (mxc59, 5, .inl mxf35)), (mxq30, .inl (mxc60, 4, .inl mxf35)), (mxq31, .inl (mxc61, 4, .inl mxf35)), (mxq32, .inl (mxc62, 5, .inr (.inr (.inr (.inr (va_up mxf63 0 (some mxq64))))))), (mxq64, .inl (mxc65, 4, .inl mxf35)), (o, .inl (co, 1, .inr (.inl fo)))] [(mxc36, .int), (mxc37, .int), (mxc47, .array (.array .long)), (mxc50, .array .long), (mxc57, .long), (mxc59, .int), (mxc60, .int), (mxc61, .int), (mxc62, .array .boolean), (mxc65, .boolean), (co, .long)] s H locs) (hl : lv_has ls 9 [(0, .ref b), (1, .ref h0), (2, .ref mh0), (3, .ref o), (4, .ref od), (5, .int 0)]) : W p l e room_1 s m #[Value.ref b] below meth c H locs 1000 8000 Q (F0 m 655 ls []) := by
  have hg : z_G #[Value.ref b] s := fun w hw _ => hts w hw
  refine lv_aload_n hx hb dL_law_655 rfl (lv_at hl 1 rfl) ?_
  refine lv_aload_n hx hb dL_law_656 rfl (lv_at hl 3 rfl) ?_
  refine z_xcalli (wr := [(mh0, .inr (9, [.int 0, .ref mxq1, .ref mxq2, .ref mxq3, .ref mxq4, .ref mxq5, .ref mxq6, .ref mxq7, .ref mxq8, .ref mxq9, .int 0, .int 0, .ref mxq10, .ref mxq11, .ref mxq12, .ref mxq13, .ref mxq14, .ref mxq15, .ref mxq16, .ref mxq17, .ref mxq18, .ref mxq19, .ref mxq20, .ref mxq21, .ref mxq22, .ref mxq23, .ref mxq24, .ref mxq25, .ref mxq26, .long 0, .int 0, .int 0, .int 0, .int 0, .int 0, .ref mxq27, .ref mxq28, .ref mxq29, .ref mxq30, .ref mxq31, .ref mxq32, .ref mxq33, .long 0])), (mxq2, .inl (mxc36, 4, .inl mxf35)), (mxq3, .inl (mxc37, 4, .inl mxf35)), (mxq28, .inl (mxc47, 5, .inr (.inr (.inr (.inr (va_up mxf48 0 (some mxq49))))))), (mxq49, .inl (mxc50, 5, .inr (.inr (.inr (.inr (va_up (va_up (va_up (va_up (va_up mxf51 4 (some mxq52)) 3 (some mxq53)) 2 (some mxq54)) 1 (some mxq55)) 0 (some mxq56))))))), (mxq56, .inl (mxc57, 4, .inr (.inl mxf58))), (mxq55, .inl (mxc57, 4, .inr (.inl mxf58))), (mxq54, .inl (mxc57, 4, .inr (.inl mxf58))), (mxq53, .inl (mxc57, 4, .inr (.inl mxf58))), (mxq52, .inl (mxc57, 4, .inr (.inl mxf58))), (mxq29, .inl (mxc59, 5, .inl mxf35)), (mxq30, .inl (mxc60, 4, .inl mxf35)), (mxq31, .inl (mxc61, 4, .inl mxf35)), (mxq32, .inl (mxc62, 5, .inr (.inr (.inr (.inr (va_up mxf63 0 (some mxq64))))))), (mxq64, .inl (mxc65, 4, .inl mxf35))]) (vx_runSX (As := [.ref h0, .ref o]) (rest := []) ⟨hx, hb, hml, hown, hts⟩ (z_L_unkept l hst dC dI xq1 xq2 xq9 xq10 xq11 xq12 xq13 xq14 xq15 xq16 xq17 xq18 xq19 xq35 xq36 xq37 xq38 xq39 xq40 xq41 xq42 h0 o co fo  H.size) (vx_cwSW 2 hts (z_gSh z_T.l mw670 mw671 mw0 mw672) rfl rfl rfl (by decide +kernel) ⟨Nat.le_of_ble_eq_true rfl, Nat.le_of_ble_eq_true rfl⟩) (z_pre I [0, 1, 2, 3, 19] [10] rfl rfl rfl rfl) rfl rfl hl.1 rfl (lv_room (Nat.le_of_ble_eq_true rfl)) dL_law_657 ⟨Nat.le_of_ble_eq_true rfl, Nat.le_of_ble_eq_true rfl⟩) I [0, 1, 2, 3, 19] [4, 5, 6, 7, 8, 9, 10, 11, 12, 13, 14, 15, 16, 17, 18] rfl rfl (by decide) (by decide) (fun E1 ce1 q1 H locs hE1 I hcell hcv hcl => ?_) (fun r1 u1 H locs hw1 I => ?_)
  · skip
    have I : z_I A dC dI [(mh0, .inr (9, [.int 0, .ref mxq1, .ref mxq2, .ref mxq3, .ref mxq4, .ref mxq5, .ref mxq6, .ref mxq7, .ref mxq8, .ref mxq9, .int 0, .int 0, .ref mxq10, .ref mxq11, .ref mxq12, .ref mxq13, .ref mxq14, .ref mxq15, .ref mxq16, .ref mxq17, .ref mxq18, .ref mxq19, .ref mxq20, .ref mxq21, .ref mxq22, .ref mxq23, .ref mxq24, .ref mxq25, .ref mxq26, .long 0, .int 0, .int 0, .int 0, .int 0, .int 0, .ref mxq27, .ref mxq28, .ref mxq29, .ref mxq30, .ref mxq31, .ref mxq32, .ref mxq33, .long 0])), (mxq2, .inl (mxc36, 4, .inl mxf35)), (mxq3, .inl (mxc37, 4, .inl mxf35)), (mxq28, .inl (mxc47, 5, .inr (.inr (.inr (.inr (va_up mxf48 0 (some mxq49))))))), (mxq49, .inl (mxc50, 5, .inr (.inr (.inr (.inr (va_up (va_up (va_up (va_up (va_up mxf51 4 (some mxq52)) 3 (some mxq53)) 2 (some mxq54)) 1 (some mxq55)) 0 (some mxq56))))))), (mxq56, .inl (mxc57, 4, .inr (.inl mxf58))), (mxq55, .inl (mxc57, 4, .inr (.inl mxf58))), (mxq54, .inl (mxc57, 4, .inr (.inl mxf58))), (mxq53, .inl (mxc57, 4, .inr (.inl mxf58))), (mxq52, .inl (mxc57, 4, .inr (.inl mxf58))), (mxq29, .inl (mxc59, 5, .inl mxf35)), (mxq30, .inl (mxc60, 4, .inl mxf35)), (mxq31, .inl (mxc61, 4, .inl mxf35)), (mxq32, .inl (mxc62, 5, .inr (.inr (.inr (.inr (va_up mxf63 0 (some mxq64))))))), (mxq64, .inl (mxc65, 4, .inl mxf35))] [(mxc36, .int), (mxc37, .int), (mxc47, .array (.array .long)), (mxc50, .array .long), (mxc57, .long), (mxc59, .int), (mxc60, .int), (mxc61, .int), (mxc62, .array .boolean), (mxc65, .boolean), (co, .long)] s H _ := I
    exact False.elim hE1
  · skip
    obtain ⟨xf2, hu1, hp1⟩ := hw1
    subst hu1
    have I : z_I A dC dI [(mh0, .inr (9, [.int 0, .ref mxq1, .ref mxq2, .ref mxq3, .ref mxq4, .ref mxq5, .ref mxq6, .ref mxq7, .ref mxq8, .ref mxq9, .int 0, .int 0, .ref mxq10, .ref mxq11, .ref mxq12, .ref mxq13, .ref mxq14, .ref mxq15, .ref mxq16, .ref mxq17, .ref mxq18, .ref mxq19, .ref mxq20, .ref mxq21, .ref mxq22, .ref mxq23, .ref mxq24, .ref mxq25, .ref mxq26, .long 0, .int 0, .int 0, .int 0, .int 0, .int 0, .ref mxq27, .ref mxq28, .ref mxq29, .ref mxq30, .ref mxq31, .ref mxq32, .ref mxq33, .long 0])), (mxq2, .inl (mxc36, 4, .inl mxf35)), (mxq3, .inl (mxc37, 4, .inl mxf35)), (mxq28, .inl (mxc47, 5, .inr (.inr (.inr (.inr (va_up mxf48 0 (some mxq49))))))), (mxq49, .inl (mxc50, 5, .inr (.inr (.inr (.inr (va_up (va_up (va_up (va_up (va_up mxf51 4 (some mxq52)) 3 (some mxq53)) 2 (some mxq54)) 1 (some mxq55)) 0 (some mxq56))))))), (mxq56, .inl (mxc57, 4, .inr (.inl mxf58))), (mxq55, .inl (mxc57, 4, .inr (.inl mxf58))), (mxq54, .inl (mxc57, 4, .inr (.inl mxf58))), (mxq53, .inl (mxc57, 4, .inr (.inl mxf58))), (mxq52, .inl (mxc57, 4, .inr (.inl mxf58))), (mxq29, .inl (mxc59, 5, .inl mxf35)), (mxq30, .inl (mxc60, 4, .inl mxf35)), (mxq31, .inl (mxc61, 4, .inl mxf35)), (mxq32, .inl (mxc62, 5, .inr (.inr (.inr (.inr (va_up mxf63 0 (some mxq64))))))), (mxq64, .inl (mxc65, 4, .inl mxf35)), (o, .inl (co, 1, .inr (.inl xf2)))] [(mxc36, .int), (mxc37, .int), (mxc47, .array (.array .long)), (mxc50, .array .long), (mxc57, .long), (mxc59, .int), (mxc60, .int), (mxc61, .int), (mxc62, .array .boolean), (mxc65, .boolean), (co, .long)] s H _ := I
    refine W.widen (k := 1001) (n := 8006) (Nat.le_of_ble_eq_true rfl) (Nat.le_of_ble_eq_true rfl) ?_
    obtain rfl : r1 = 1 := hp1.1
    refine lv_istore (lv' := [(6, .int 1), (0, .ref b), (1, .ref h0), (2, .ref mh0), (3, .ref o), (4, .ref od), (5, .int 0)]) hx hb dL_law_660 hl (by decide) rfl (fun ls hl => ?_)
    refine lv_aload_n hx hb dL_law_662 rfl (lv_at hl 3 rfl) ?_
    refine z_calli (wr := [(o, .inl (co, 1, .inr (.inl xf2)))]) (va_runV (As := []) (rest := []) ⟨hx, hb, hml, hown, hts⟩ (z_M_unkept l dC dI mxq1 mxq2 mxq3 mxq4 mxq5 mxq6 mxq7 mxq8 mxq9 mxq10 mxq11 mxq12 mxq13 mxq14 mxq15 mxq16 mxq17 mxq18 mxq19 mxq20 mxq21 mxq22 mxq23 mxq24 mxq25 mxq26 mxq27 mxq28 mxq29 mxq30 mxq31 mxq32 mxq33 mxf35 mxc36 mxc37 mxc47 mxf48 mxq49 mxc50 mxf51 mxq52 mxq53 mxq54 mxq55 mxq56 mxc57 mxf58 mxc59 mxc60 mxc61 mxc62 mxf63 mxq64 mxc65 mh0  H.size) (cwV 0 hts (z_gV z_T.l mw1456 mw1457 mw1458 mw10 mw1459) rfl rfl rfl (by decide +kernel) ⟨Nat.le_of_ble_eq_true rfl, Nat.le_of_ble_eq_true rfl⟩) (z_preV I [0, 1, 2, 3, 4, 5, 6, 7, 8, 9, 10, 11, 12, 13, 14] [0, 1, 2, 3, 4, 5, 6, 7, 8, 9] rfl rfl rfl rfl (ci := 9) (q0 := 0) rfl rfl) rfl rfl hl.1 rfl (lv_room (Nat.le_of_ble_eq_true rfl)) dL_law_663 ⟨Nat.le_of_ble_eq_true rfl, Nat.le_of_ble_eq_true rfl⟩) I [0, 1, 2, 3, 4, 5, 6, 7, 8, 9, 10, 11, 12, 13, 14] [15] rfl rfl (by decide) (by decide) (fun r3 u3 H locs hw3 I => ?_)
    obtain ⟨hu3, hp3⟩ := hw3
    subst hu3
    have I : z_I A dC dI [(o, .inl (co, 1, .inr (.inl xf2))), (mh0, .inr (9, [.int 1, .ref mxq1, .ref mxq2, .ref mxq3, .ref mxq4, .ref mxq5, .ref mxq6, .ref mxq7, .ref mxq8, .ref mxq9, .int 0, .int 0, .ref mxq10, .ref mxq11, .ref mxq12, .ref mxq13, .ref mxq14, .ref mxq15, .ref mxq16, .ref mxq17, .ref mxq18, .ref mxq19, .ref mxq20, .ref mxq21, .ref mxq22, .ref mxq23, .ref mxq24, .ref mxq25, .ref mxq26, .long 0, .int 0, .int 0, .int 0, .int 0, .int 0, .ref mxq27, .ref mxq28, .ref mxq29, .ref mxq30, .ref mxq31, .ref mxq32, .ref mxq33, .long 1]))] [(mxc36, .int), (mxc37, .int), (mxc47, .array (.array .long)), (mxc50, .array .long), (mxc57, .long), (mxc59, .int), (mxc60, .int), (mxc61, .int), (mxc62, .array .boolean), (mxc65, .boolean), (co, .long)] s H _ := I
    obtain rfl : r3 = 0 := hp3
    refine lv_istore (lv' := [(7, .int 0), (6, .int 1), (0, .ref b), (1, .ref h0), (2, .ref mh0), (3, .ref o), (4, .ref od), (5, .int 0)]) hx hb dL_law_666 hl (by decide) rfl (fun ls hl => ?_)
    refine lv_aload_n hx hb dL_law_668 rfl (lv_at hl 4 rfl) ?_
    refine z_calli (wr := [(o, .inl (co, 1, .inr (.inl xf2)))]) (va_runV (As := []) (rest := []) ⟨hx, hb, hml, hown, hts⟩ (z_M_thrown l dC dI 1 mxq1 mxq2 mxq3 mxq4 mxq5 mxq6 mxq7 mxq8 mxq9 0 0 mxq10 mxq11 mxq12 mxq13 mxq14 mxq15 mxq16 mxq17 mxq18 mxq19 mxq20 mxq21 mxq22 mxq23 mxq24 mxq25 mxq26 0 0 0 0 0 0 mxq27 mxq28 mxq29 mxq30 mxq31 mxq32 mxq33 1 mh0  H.size) (cwV 0 hts (z_gV z_T.l mw1391 mw1392 mw1393 mw10 mw1394) rfl rfl rfl (by decide +kernel) ⟨Nat.le_of_ble_eq_true rfl, Nat.le_of_ble_eq_true rfl⟩) (z_preV I [1] [] rfl rfl rfl rfl (ci := 9) (q0 := 1) rfl rfl) rfl rfl hl.1 rfl (lv_room (Nat.le_of_ble_eq_true rfl)) dL_law_669 ⟨Nat.le_of_ble_eq_true rfl, Nat.le_of_ble_eq_true rfl⟩) I [1] [0] rfl rfl (by decide) (by decide) (fun r4 u4 H locs hw4 I => ?_)
    obtain ⟨hu4, hp4⟩ := hw4
    subst hu4
    have I : z_I A dC dI [(o, .inl (co, 1, .inr (.inl xf2))), (mh0, .inr (9, [.int 1, .ref mxq1, .ref mxq2, .ref mxq3, .ref mxq4, .ref mxq5, .ref mxq6, .ref mxq7, .ref mxq8, .ref mxq9, .int 0, .int 0, .ref mxq10, .ref mxq11, .ref mxq12, .ref mxq13, .ref mxq14, .ref mxq15, .ref mxq16, .ref mxq17, .ref mxq18, .ref mxq19, .ref mxq20, .ref mxq21, .ref mxq22, .ref mxq23, .ref mxq24, .ref mxq25, .ref mxq26, .long 0, .int 0, .int 0, .int 0, .int 0, .int 0, .ref mxq27, .ref mxq28, .ref mxq29, .ref mxq30, .ref mxq31, .ref mxq32, .ref mxq33, .long 1]))] [(mxc36, .int), (mxc37, .int), (mxc47, .array (.array .long)), (mxc50, .array .long), (mxc57, .long), (mxc59, .int), (mxc60, .int), (mxc61, .int), (mxc62, .array .boolean), (mxc65, .boolean), (co, .long)] s H _ := I
    obtain rfl : 1 = r4 := hp4.symm
    refine lv_iload hx hb dL_law_672 (lv_at hl 1 rfl) ?_
    refine lv_icmp_eq (tgt := 679) hx hb dL_law_674 (by decide) (fun _ => ?_) (fun c9 => absurd c9 (by decide))
    refine lv_iload hx hb dL_law_679 (lv_at hl 1 rfl) ?_
    refine lv_if_ne (tgt := 696) hx hb dL_law_681 (by decide) (fun _ => ?_) (fun c9 => absurd c9 (by decide))
    refine lv_goto (tgt := 2238) hx hb dL_law_696 (by decide) ?_
    refine W.widen (k := 2000) (n := 9000) (Nat.le_of_ble_eq_true rfl) (Nat.le_of_ble_eq_true rfl) ?_
    exact K _ _ _ I.2.2.2.1 (lv_sub hl [2, 7] rfl)
set_option maxHeartbeats 4000000 in
set_option maxRecDepth 100000 in
theorem z_case_7 (l : Launch) (hst : l.stackTraces = false) (dC : Nat → ClassId) (dI : Nat → Nat → Nat) (xq1 : Nat) (xq2 : Nat) (xq9 : Nat) (xq10 : Nat) (xq11 : Nat) (xq12 : Nat) (xq13 : Nat) (xq14 : Nat) (xq15 : Nat) (xq16 : Nat) (xq17 : Nat) (xq18 : Nat) (xq19 : Nat) (h0 : Nat) (mxq1 : Nat) (mxq2 : Nat) (mxq3 : Nat) (mxq4 : Nat) (mxq5 : Nat) (mxq6 : Nat) (mxq7 : Nat) (mxq8 : Nat) (mxq9 : Nat) (mxq10 : Nat) (mxq11 : Nat) (mxq12 : Nat) (mxq13 : Nat) (mxq14 : Nat) (mxq15 : Nat) (mxq16 : Nat) (mxq17 : Nat) (mxq18 : Nat) (mxq19 : Nat) (mxq20 : Nat) (mxq21 : Nat) (mxq22 : Nat) (mxq23 : Nat) (mxq24 : Nat) (mxq25 : Nat) (mxq26 : Nat) (mxq27 : Nat) (mxq28 : Nat) (mxq29 : Nat) (mxq30 : Nat) (mxq31 : Nat) (mxq32 : Nat) (mxq33 : Nat) (mh0 : Nat) (o : Nat) (co : ClassId) (fo : Nat → Int64) (od : Nat) {p : Program} {e : Env} {s : State} {m : MethodId} {below : List Frame} {meth : Method} {c : Code} {b : Nat} {xs : Nat → Int32} {A : Nat → Prop} {Q : State → Prop} (hx : p.tables.exec = Jvm.exec) (hb : c.code = cL_law) (hml : c.maxLocals = 9) (hown : s.vm.findClass RL = some m.cls) (hts : ∀ w ∈ lw_tbl, w.before #[Value.ref b] s = true) (hX : va_X b 7 xs s s.heap) (hbl : b < s.heap.size) (hbA : ¬ A b) (K : z_LK p l e s m below meth c b A Q) {H : Heap} {locs : List Loc} {ls : Array Slot} (I : z_I A dC dI [(h0, .inr (8, [.ref xq1, .ref xq2])), (xq2, .inr (5, [.ref xq9, .ref xq10, .ref xq11, .ref xq12, .ref xq13, .ref xq14, .ref xq15, .ref xq16, .ref xq17, .ref xq18, .ref xq19, .int 0, .int 0])), (mh0, .inr (9, [.int 0, .ref mxq1, .ref mxq2, .ref mxq3, .ref mxq4, .ref mxq5, .ref mxq6, .ref mxq7, .ref mxq8, .ref mxq9, .int 0, .int 0, .ref mxq10, .ref mxq11, .ref mxq12, .ref mxq13, .ref mxq14, .ref mxq15, .ref mxq16, .ref mxq17, .ref mxq18, .ref mxq19, .ref mxq20, .ref mxq21, .ref mxq22, .ref mxq23, .ref mxq24, .ref mxq25, .ref mxq26, .long 0, .int 0, .int 0, .int 0, .int 0, .int 0, .ref mxq27, .ref mxq28, .ref mxq29, .ref mxq30, .ref mxq31, .ref mxq32, .ref mxq33, .long 0])), (o, .inl (co, 1, .inr (.inl fo)))] [(co, .long)] s H locs) (hl : lv_has ls 9 [(0, .ref b), (1, .ref h0), (2, .ref mh0), (3, .ref o), (4, .ref od), (5, .int 0)]) : W p l e room_1 s m #[Value.ref b] below meth c H locs 1000 8000 Q (F0 m 699 ls []) := by
  have hg : z_G #[Value.ref b] s := fun w hw _ => hts w hw
  refine lv_aload_n hx hb dL_law_699 rfl (lv_at hl 1 rfl) ?_
  refine lv_aload_n hx hb dL_law_700 rfl (lv_at hl 0 rfl) ?_
  refine lv_iload hx hb dL_law_701 (lv_at hl 5 rfl) ?_
  refine lv_iconst (v := 1) hx hb dL_law_703 (by decide) ?_
  refine lv_iadd hx hb dL_law_704 ?_
  refine lv_topi (fun w1 ew1 => ?_)
  obtain rfl : w1 = 1 := ew1.trans (by decide)
  refine va_sld hx hb hX hbl hbA I.2.2.2.1 (by unfold vp_in; decide) dL_law_705 ?_
  refine lv_i2c (v := ((xs (Int32.toNatClampNeg 1)).toUInt32 % 65536).toInt32) hx hb dL_law_706 rfl ?_
  refine lv_aload_n hx hb dL_law_707 rfl (lv_at hl 0 rfl) ?_
  refine lv_iload hx hb dL_law_708 (lv_at hl 5 rfl) ?_
  refine lv_iconst (v := 2) hx hb dL_law_710 (by decide) ?_
  refine lv_iadd hx hb dL_law_711 ?_
  refine lv_topi (fun w2 ew2 => ?_)
  obtain rfl : w2 = 2 := ew2.trans (by decide)
  refine va_sld hx hb hX hbl hbA I.2.2.2.1 (by unfold vp_in; decide) dL_law_712 ?_
  refine lv_i2c (v := ((xs (Int32.toNatClampNeg 2)).toUInt32 % 65536).toInt32) hx hb dL_law_713 rfl ?_
  refine lv_aload_n hx hb dL_law_714 rfl (lv_at hl 3 rfl) ?_
  refine z_xcalli (wr := [(mh0, .inr (9, [.int 0, .ref mxq1, .ref mxq2, .ref mxq3, .ref mxq4, .ref mxq5, .ref mxq6, .ref mxq7, .ref mxq8, .ref mxq9, .int 0, .int 0, .ref mxq10, .ref mxq11, .ref mxq12, .ref mxq13, .ref mxq14, .ref mxq15, .ref mxq16, .ref mxq17, .ref mxq18, .ref mxq19, .ref mxq20, .ref mxq21, .ref mxq22, .ref mxq23, .ref mxq24, .ref mxq25, .ref mxq26, .long 0, .int 0, .int 0, .int 0, .int 0, .int 0, .ref mxq27, .ref mxq28, .ref mxq29, .ref mxq30, .ref mxq31, .ref mxq32, .ref mxq33, .long 0]))]) (vx_runSX (As := [.ref h0, .int (((xs (Int32.toNatClampNeg 1)).toUInt32 % 65536).toInt32), .int (((xs (Int32.toNatClampNeg 2)).toUInt32 % 65536).toInt32), .ref o]) (rest := []) ⟨hx, hb, hml, hown, hts⟩ (z_L_begin l hst dC dI xq1 xq2 xq9 xq10 xq11 xq12 xq13 xq14 xq15 xq16 xq17 xq18 xq19 h0 o co fo (((xs (Int32.toNatClampNeg 1)).toUInt32 % 65536).toInt32) (((xs (Int32.toNatClampNeg 2)).toUInt32 % 65536).toInt32)  H.size) (vx_cwSW 4 hts (z_gSh z_T.l mw749 mw750 mw0 mw751) rfl rfl rfl (by decide +kernel) ⟨Nat.le_of_ble_eq_true rfl, Nat.le_of_ble_eq_true rfl⟩) (z_pre I [0, 1, 3] [0] rfl rfl rfl rfl) rfl rfl hl.1 rfl (lv_room (Nat.le_of_ble_eq_true rfl)) dL_law_715 ⟨Nat.le_of_ble_eq_true rfl, Nat.le_of_ble_eq_true rfl⟩) I [0, 1, 3] [2] rfl rfl (by decide) (by decide) (fun E3 ce3 q3 H locs hE3 I hcell hcv hcl => ?_) (fun r3 u3 H locs hw3 I => ?_)
  · skip
    have I : z_I A dC dI [(mh0, .inr (9, [.int 0, .ref mxq1, .ref mxq2, .ref mxq3, .ref mxq4, .ref mxq5, .ref mxq6, .ref mxq7, .ref mxq8, .ref mxq9, .int 0, .int 0, .ref mxq10, .ref mxq11, .ref mxq12, .ref mxq13, .ref mxq14, .ref mxq15, .ref mxq16, .ref mxq17, .ref mxq18, .ref mxq19, .ref mxq20, .ref mxq21, .ref mxq22, .ref mxq23, .ref mxq24, .ref mxq25, .ref mxq26, .long 0, .int 0, .int 0, .int 0, .int 0, .int 0, .ref mxq27, .ref mxq28, .ref mxq29, .ref mxq30, .ref mxq31, .ref mxq32, .ref mxq33, .long 0]))] [(co, .long)] s H _ := I
    exact False.elim hE3
  · skip
    obtain ⟨xf4, hu3, hp3⟩ := hw3
    subst hu3
    have I : z_I A dC dI [(mh0, .inr (9, [.int 0, .ref mxq1, .ref mxq2, .ref mxq3, .ref mxq4, .ref mxq5, .ref mxq6, .ref mxq7, .ref mxq8, .ref mxq9, .int 0, .int 0, .ref mxq10, .ref mxq11, .ref mxq12, .ref mxq13, .ref mxq14, .ref mxq15, .ref mxq16, .ref mxq17, .ref mxq18, .ref mxq19, .ref mxq20, .ref mxq21, .ref mxq22, .ref mxq23, .ref mxq24, .ref mxq25, .ref mxq26, .long 0, .int 0, .int 0, .int 0, .int 0, .int 0, .ref mxq27, .ref mxq28, .ref mxq29, .ref mxq30, .ref mxq31, .ref mxq32, .ref mxq33, .long 0])), (o, .inl (co, 1, .inr (.inl xf4)))] [(co, .long)] s H _ := I
    refine W.widen (k := 1001) (n := 8006) (Nat.le_of_ble_eq_true rfl) (Nat.le_of_ble_eq_true rfl) ?_
    refine lv_istore (lv' := [(6, .int r3), (0, .ref b), (1, .ref h0), (2, .ref mh0), (3, .ref o), (4, .ref od), (5, .int 0)]) hx hb dL_law_718 hl (by decide) rfl (fun ls hl => ?_)
    refine lv_aload_n hx hb dL_law_720 rfl (lv_at hl 3 rfl) ?_
    refine lv_aload_n hx hb dL_law_721 rfl (lv_at hl 1 rfl) ?_
    refine lv_iload hx hb dL_law_722 (lv_at hl 6 rfl) ?_
    refine lv_iconst (v := 1) hx hb dL_law_724 (by decide) ?_
    refine lv_iadd hx hb dL_law_725 ?_
    refine lv_topi (fun w5 ew5 => ?_)
    obtain rfl : w5 = 1 := ew5.trans (by decide)
    refine va_sld hx hb hX hbl hbA I.2.2.2.1 (by unfold vp_in; decide) dL_law_726 ?_
    refine lv_i2c (v := ((xs (Int32.toNatClampNeg 1)).toUInt32 % 65536).toInt32) hx hb dL_law_727 rfl ?_
    refine lv_aload_n hx hb dL_law_728 rfl (lv_at hl 1 rfl) ?_
    refine lv_iload hx hb dL_law_729 (lv_at hl 6 rfl) ?_
    refine lv_iconst (v := 2) hx hb dL_law_731 (by decide) ?_
    refine lv_iadd hx hb dL_law_732 ?_
    refine lv_topi (fun w6 ew6 => ?_)
    obtain rfl : w6 = 2 := ew6.trans (by decide)
    refine va_sld hx hb hX hbl hbA I.2.2.2.1 (by unfold vp_in; decide) dL_law_733 ?_
    refine lv_i2c (v := ((xs (Int32.toNatClampNeg 2)).toUInt32 % 65536).toInt32) hx hb dL_law_734 rfl ?_
    refine z_calli (wr := [(o, .inl (co, 1, .inr (.inl xf4)))]) (va_runV (As := [.int (((xs (Int32.toNatClampNeg 1)).toUInt32 % 65536).toInt32), .int (((xs (Int32.toNatClampNeg 2)).toUInt32 % 65536).toInt32)]) (rest := []) ⟨hx, hb, hml, hown, hts⟩ (z_M_begin l dC dI mxq1 mxq2 mxq3 mxq4 mxq5 mxq6 mxq7 mxq8 mxq9 mxq10 mxq11 mxq12 mxq13 mxq14 mxq15 mxq16 mxq17 mxq18 mxq19 mxq20 mxq21 mxq22 mxq23 mxq24 mxq25 mxq26 mxq27 mxq28 mxq29 mxq30 mxq31 mxq32 mxq33 mh0 (((xs (Int32.toNatClampNeg 1)).toUInt32 % 65536).toInt32) (((xs (Int32.toNatClampNeg 2)).toUInt32 % 65536).toInt32)  H.size) (cwV 2 hts (z_gV z_T.l mw1507 mw1508 mw1509 mw10 mw1510) rfl rfl rfl (by decide +kernel) ⟨Nat.le_of_ble_eq_true rfl, Nat.le_of_ble_eq_true rfl⟩) (z_preV I [0] [] rfl rfl rfl rfl (ci := 9) (q0 := 0) rfl rfl) rfl rfl hl.1 rfl (lv_room (Nat.le_of_ble_eq_true rfl)) dL_law_735 ⟨Nat.le_of_ble_eq_true rfl, Nat.le_of_ble_eq_true rfl⟩) I [0] [1] rfl rfl (by decide) (by decide) (fun r7 u7 H locs hw7 I => ?_)
    obtain ⟨y8, hu7, hp7⟩ := hw7
    subst hu7
    have I : z_I A dC dI [(o, .inl (co, 1, .inr (.inl xf4))), (mh0, .inr (9, [.int y8, .ref mxq1, .ref mxq2, .ref mxq3, .ref mxq4, .ref mxq5, .ref mxq6, .ref mxq7, .ref mxq8, .ref mxq9, .int 0, .int 0, .ref mxq10, .ref mxq11, .ref mxq12, .ref mxq13, .ref mxq14, .ref mxq15, .ref mxq16, .ref mxq17, .ref mxq18, .ref mxq19, .ref mxq20, .ref mxq21, .ref mxq22, .ref mxq23, .ref mxq24, .ref mxq25, .ref mxq26, .long 0, .int 0, .int 0, .int 0, .int 0, .int 0, .ref mxq27, .ref mxq28, .ref mxq29, .ref mxq30, .ref mxq31, .ref mxq32, .ref mxq33, .long 0]))] [(co, .long)] s H _ := I
    obtain rfl : r7 = 0 := hp7.1
    refine lv_istore (lv' := [(7, .int 0), (6, .int r3), (0, .ref b), (1, .ref h0), (2, .ref mh0), (3, .ref o), (4, .ref od), (5, .int 0)]) hx hb dL_law_738 hl (by decide) rfl (fun ls hl => ?_)
    refine lv_aload_n hx hb dL_law_740 rfl (lv_at hl 4 rfl) ?_
    refine z_calli (wr := [(o, .inl (co, 1, .inr (.inl xf4)))]) (va_runV (As := []) (rest := []) ⟨hx, hb, hml, hown, hts⟩ (z_M_thrown l dC dI y8 mxq1 mxq2 mxq3 mxq4 mxq5 mxq6 mxq7 mxq8 mxq9 0 0 mxq10 mxq11 mxq12 mxq13 mxq14 mxq15 mxq16 mxq17 mxq18 mxq19 mxq20 mxq21 mxq22 mxq23 mxq24 mxq25 mxq26 0 0 0 0 0 0 mxq27 mxq28 mxq29 mxq30 mxq31 mxq32 mxq33 0 mh0  H.size) (cwV 0 hts (z_gV z_T.l mw1391 mw1392 mw1393 mw10 mw1394) rfl rfl rfl (by decide +kernel) ⟨Nat.le_of_ble_eq_true rfl, Nat.le_of_ble_eq_true rfl⟩) (z_preV I [1] [] rfl rfl rfl rfl (ci := 9) (q0 := 1) rfl rfl) rfl rfl hl.1 rfl (lv_room (Nat.le_of_ble_eq_true rfl)) dL_law_741 ⟨Nat.le_of_ble_eq_true rfl, Nat.le_of_ble_eq_true rfl⟩) I [1] [0] rfl rfl (by decide) (by decide) (fun r9 u9 H locs hw9 I => ?_)
    obtain ⟨hu9, hp9⟩ := hw9
    subst hu9
    have I : z_I A dC dI [(o, .inl (co, 1, .inr (.inl xf4))), (mh0, .inr (9, [.int y8, .ref mxq1, .ref mxq2, .ref mxq3, .ref mxq4, .ref mxq5, .ref mxq6, .ref mxq7, .ref mxq8, .ref mxq9, .int 0, .int 0, .ref mxq10, .ref mxq11, .ref mxq12, .ref mxq13, .ref mxq14, .ref mxq15, .ref mxq16, .ref mxq17, .ref mxq18, .ref mxq19, .ref mxq20, .ref mxq21, .ref mxq22, .ref mxq23, .ref mxq24, .ref mxq25, .ref mxq26, .long 0, .int 0, .int 0, .int 0, .int 0, .int 0, .ref mxq27, .ref mxq28, .ref mxq29, .ref mxq30, .ref mxq31, .ref mxq32, .ref mxq33, .long 0]))] [(co, .long)] s H _ := I
    obtain rfl : y8 = r9 := hp9.symm
    refine lv_iload hx hb dL_law_744 (lv_at hl 1 rfl) ?_
    refine lv_icmp_eq (tgt := 751) hx hb dL_law_746 (by decide) (fun _ => ?_) (fun c9 => absurd (hp7.2.trans hp3.1.symm) c9)
    refine lv_iload hx hb dL_law_751 (lv_at hl 1 rfl) ?_
    refine lv_if_ne (tgt := 768) hx hb dL_law_753 (by decide) (fun c10 => ?_) (fun c10 => ?_)
    · skip
      refine lv_goto (tgt := 2238) hx hb dL_law_768 (by decide) ?_
      refine W.widen (k := 2000) (n := 9000) (Nat.le_of_ble_eq_true rfl) (Nat.le_of_ble_eq_true rfl) ?_
      exact K _ _ _ I.2.2.2.1 (lv_sub hl [2, 7] rfl)
    · skip
      refine lv_aload_n hx hb dL_law_756 rfl (lv_at hl 5 rfl) ?_
      refine lv_iconst (v := 0) hx hb dL_law_757 (by decide) ?_
      refine z_lald (v := 0) hx hb I 0 0 rfl rfl (by unfold vp_in; decide) dL_law_758 (hp3.2 c10) ?_
      refine lv_iload hx hb dL_law_759 (lv_at hl 0 rfl) ?_
      refine lv_i2l (v := 0) hx hb dL_law_761 (by decide) ?_
      refine W.lcmp hx hb dL_law_762 ?_
      refine lv_topi (fun w11 ew11 => ?_)
      obtain rfl : w11 = 0 := ew11.trans (by decide)
      refine lv_if_eq (tgt := 768) hx hb dL_law_763 (by decide) (fun _ => ?_) (fun c9 => absurd c9 (by decide))
      refine lv_goto (tgt := 2238) hx hb dL_law_768 (by decide) ?_
      refine W.widen (k := 2000) (n := 9000) (Nat.le_of_ble_eq_true rfl) (Nat.le_of_ble_eq_true rfl) ?_
      exact K _ _ _ I.2.2.2.1 (lv_sub hl [2, 7] rfl)
set_option maxHeartbeats 4000000 in
set_option maxRecDepth 100000 in
theorem z_case_8 (l : Launch) (hst : l.stackTraces = false) (dC : Nat → ClassId) (dI : Nat → Nat → Nat) (xq1 : Nat) (xq2 : Nat) (xq3 : Nat) (xq4 : Nat) (xq5 : Nat) (xq6 : Nat) (xq7 : Nat) (xq8 : Nat) (h0 : Nat) (mxq1 : Nat) (mxq2 : Nat) (mxq3 : Nat) (mxq4 : Nat) (mxq5 : Nat) (mxq6 : Nat) (mxq7 : Nat) (mxq8 : Nat) (mxq9 : Nat) (mxq10 : Nat) (mxq11 : Nat) (mxq12 : Nat) (mxq13 : Nat) (mxq14 : Nat) (mxq15 : Nat) (mxq16 : Nat) (mxq17 : Nat) (mxq18 : Nat) (mxq19 : Nat) (mxq20 : Nat) (mxq21 : Nat) (mxq22 : Nat) (mxq23 : Nat) (mxq24 : Nat) (mxq25 : Nat) (mxq26 : Nat) (mxq27 : Nat) (mxq28 : Nat) (mxq29 : Nat) (mxq30 : Nat) (mxq31 : Nat) (mxq32 : Nat) (mxq33 : Nat) (mh0 : Nat) (o : Nat) (co : ClassId) (fo : Nat → Int64) (od : Nat) {p : Program} {e : Env} {s : State} {m : MethodId} {below : List Frame} {meth : Method} {c : Code} {b : Nat} {xs : Nat → Int32} {A : Nat → Prop} {Q : State → Prop} (hx : p.tables.exec = Jvm.exec) (hb : c.code = cL_law) (hml : c.maxLocals = 9) (hown : s.vm.findClass RL = some m.cls) (hts : ∀ w ∈ lw_tbl, w.before #[Value.ref b] s = true) (hX : va_X b 7 xs s s.heap) (hbl : b < s.heap.size) (hbA : ¬ A b) (K : z_LK p l e s m below meth c b A Q) {H : Heap} {locs : List Loc} {ls : Array Slot} (I : z_I A dC dI [(h0, .inr (8, [.ref xq1, .ref xq2])), (xq1, .inr (7, [.ref xq2, .ref xq3, .ref xq4, .ref xq5, .ref xq6, .ref xq7, .ref xq8, .int 0, .int 0, .int 0, .int 0, .int 0])), (mh0, .inr (9, [.int 0, .ref mxq1, .ref mxq2, .ref mxq3, .ref mxq4, .ref mxq5, .ref mxq6, .ref mxq7, .ref mxq8, .ref mxq9, .int 0, .int 0, .ref mxq10, .ref mxq11, .ref mxq12, .ref mxq13, .ref mxq14, .ref mxq15, .ref mxq16, .ref mxq17, .ref mxq18, .ref mxq19, .ref mxq20, .ref mxq21, .ref mxq22, .ref mxq23, .ref mxq24, .ref mxq25, .ref mxq26, .long 0, .int 0, .int 0, .int 0, .int 0, .int 0, .ref mxq27, .ref mxq28, .ref mxq29, .ref mxq30, .ref mxq31, .ref mxq32, .ref mxq33, .long 0])), (o, .inl (co, 1, .inr (.inl fo)))] [(co, .long)] s H locs) (hl : lv_has ls 9 [(0, .ref b), (1, .ref h0), (2, .ref mh0), (3, .ref o), (4, .ref od), (5, .int 0)]) : W p l e room_1 s m #[Value.ref b] below meth c H locs 1000 8000 Q (F0 m 771 ls []) := by
  have hg : z_G #[Value.ref b] s := fun w hw _ => hts w hw
  refine lv_aload_n hx hb dL_law_771 rfl (lv_at hl 1 rfl) ?_
  refine lv_aload_n hx hb dL_law_772 rfl (lv_at hl 0 rfl) ?_
  refine lv_iload hx hb dL_law_773 (lv_at hl 5 rfl) ?_
  refine lv_iconst (v := 1) hx hb dL_law_775 (by decide) ?_
  refine lv_iadd hx hb dL_law_776 ?_
  refine lv_topi (fun w1 ew1 => ?_)
  obtain rfl : w1 = 1 := ew1.trans (by decide)
  refine va_sld hx hb hX hbl hbA I.2.2.2.1 (by unfold vp_in; decide) dL_law_777 ?_
  refine lv_aload_n hx hb dL_law_778 rfl (lv_at hl 3 rfl) ?_
  refine z_xcalli (wr := [(mh0, .inr (9, [.int 0, .ref mxq1, .ref mxq2, .ref mxq3, .ref mxq4, .ref mxq5, .ref mxq6, .ref mxq7, .ref mxq8, .ref mxq9, .int 0, .int 0, .ref mxq10, .ref mxq11, .ref mxq12, .ref mxq13, .ref mxq14, .ref mxq15, .ref mxq16, .ref mxq17, .ref mxq18, .ref mxq19, .ref mxq20, .ref mxq21, .ref mxq22, .ref mxq23, .ref mxq24, .ref mxq25, .ref mxq26, .long 0, .int 0, .int 0, .int 0, .int 0, .int 0, .ref mxq27, .ref mxq28, .ref mxq29, .ref mxq30, .ref mxq31, .ref mxq32, .ref mxq33, .long 0]))]) (vx_runSX (As := [.ref h0, .int (xs (Int32.toNatClampNeg 1)), .ref o]) (rest := []) ⟨hx, hb, hml, hown, hts⟩ (z_L_solve l hst dC dI xq1 xq2 xq3 xq4 xq5 xq6 xq7 xq8 h0 o co fo (xs (Int32.toNatClampNeg 1))  H.size) (vx_cwSW 3 hts (z_gSh z_T.l mw767 mw768 mw0 mw769) rfl rfl rfl (by decide +kernel) ⟨Nat.le_of_ble_eq_true rfl, Nat.le_of_ble_eq_true rfl⟩) (z_pre I [0, 1, 3] [0] rfl rfl rfl rfl) rfl rfl hl.1 rfl (lv_room (Nat.le_of_ble_eq_true rfl)) dL_law_779 ⟨Nat.le_of_ble_eq_true rfl, Nat.le_of_ble_eq_true rfl⟩) I [0, 1, 3] [2] rfl rfl (by decide) (by decide) (fun E2 ce2 q2 H locs hE2 I hcell hcv hcl => ?_) (fun r2 u2 H locs hw2 I => ?_)
  · skip
    have I : z_I A dC dI [(mh0, .inr (9, [.int 0, .ref mxq1, .ref mxq2, .ref mxq3, .ref mxq4, .ref mxq5, .ref mxq6, .ref mxq7, .ref mxq8, .ref mxq9, .int 0, .int 0, .ref mxq10, .ref mxq11, .ref mxq12, .ref mxq13, .ref mxq14, .ref mxq15, .ref mxq16, .ref mxq17, .ref mxq18, .ref mxq19, .ref mxq20, .ref mxq21, .ref mxq22, .ref mxq23, .ref mxq24, .ref mxq25, .ref mxq26, .long 0, .int 0, .int 0, .int 0, .int 0, .int 0, .ref mxq27, .ref mxq28, .ref mxq29, .ref mxq30, .ref mxq31, .ref mxq32, .ref mxq33, .long 0]))] [(co, .long)] s H _ := I
    exact False.elim hE2
  · skip
    obtain ⟨xf3, hu2, hp2⟩ := hw2
    subst hu2
    have I : z_I A dC dI [(mh0, .inr (9, [.int 0, .ref mxq1, .ref mxq2, .ref mxq3, .ref mxq4, .ref mxq5, .ref mxq6, .ref mxq7, .ref mxq8, .ref mxq9, .int 0, .int 0, .ref mxq10, .ref mxq11, .ref mxq12, .ref mxq13, .ref mxq14, .ref mxq15, .ref mxq16, .ref mxq17, .ref mxq18, .ref mxq19, .ref mxq20, .ref mxq21, .ref mxq22, .ref mxq23, .ref mxq24, .ref mxq25, .ref mxq26, .long 0, .int 0, .int 0, .int 0, .int 0, .int 0, .ref mxq27, .ref mxq28, .ref mxq29, .ref mxq30, .ref mxq31, .ref mxq32, .ref mxq33, .long 0])), (o, .inl (co, 1, .inr (.inl xf3)))] [(co, .long)] s H _ := I
    refine W.widen (k := 1001) (n := 8006) (Nat.le_of_ble_eq_true rfl) (Nat.le_of_ble_eq_true rfl) ?_
    refine lv_istore (lv' := [(6, .int r2), (0, .ref b), (1, .ref h0), (2, .ref mh0), (3, .ref o), (4, .ref od), (5, .int 0)]) hx hb dL_law_782 hl (by decide) rfl (fun ls hl => ?_)
    refine lv_aload_n hx hb dL_law_784 rfl (lv_at hl 3 rfl) ?_
    refine lv_aload_n hx hb dL_law_785 rfl (lv_at hl 1 rfl) ?_
    refine lv_iload hx hb dL_law_786 (lv_at hl 6 rfl) ?_
    refine lv_iconst (v := 1) hx hb dL_law_788 (by decide) ?_
    refine lv_iadd hx hb dL_law_789 ?_
    refine lv_topi (fun w4 ew4 => ?_)
    obtain rfl : w4 = 1 := ew4.trans (by decide)
    refine va_sld hx hb hX hbl hbA I.2.2.2.1 (by unfold vp_in; decide) dL_law_790 ?_
    refine z_calli (wr := [(o, .inl (co, 1, .inr (.inl xf3)))]) (va_runV (As := [.int (xs (Int32.toNatClampNeg 1))]) (rest := []) ⟨hx, hb, hml, hown, hts⟩ (z_M_solve l dC dI mxq1 mxq2 mxq3 mxq4 mxq5 mxq6 mxq7 mxq8 mxq9 mxq10 mxq11 mxq12 mxq13 mxq14 mxq15 mxq16 mxq17 mxq18 mxq19 mxq20 mxq21 mxq22 mxq23 mxq24 mxq25 mxq26 mxq27 mxq28 mxq29 mxq30 mxq31 mxq32 mxq33 mh0 (xs (Int32.toNatClampNeg 1))  H.size) (cwV 1 hts (z_gV z_T.l mw1511 mw1512 mw1513 mw10 mw1514) rfl rfl rfl (by decide +kernel) ⟨Nat.le_of_ble_eq_true rfl, Nat.le_of_ble_eq_true rfl⟩) (z_preV I [0] [] rfl rfl rfl rfl (ci := 9) (q0 := 0) rfl rfl) rfl rfl hl.1 rfl (lv_room (Nat.le_of_ble_eq_true rfl)) dL_law_791 ⟨Nat.le_of_ble_eq_true rfl, Nat.le_of_ble_eq_true rfl⟩) I [0] [1] rfl rfl (by decide) (by decide) (fun r5 u5 H locs hw5 I => ?_)
    obtain ⟨y6, hu5, hp5⟩ := hw5
    subst hu5
    have I : z_I A dC dI [(o, .inl (co, 1, .inr (.inl xf3))), (mh0, .inr (9, [.int y6, .ref mxq1, .ref mxq2, .ref mxq3, .ref mxq4, .ref mxq5, .ref mxq6, .ref mxq7, .ref mxq8, .ref mxq9, .int 0, .int 0, .ref mxq10, .ref mxq11, .ref mxq12, .ref mxq13, .ref mxq14, .ref mxq15, .ref mxq16, .ref mxq17, .ref mxq18, .ref mxq19, .ref mxq20, .ref mxq21, .ref mxq22, .ref mxq23, .ref mxq24, .ref mxq25, .ref mxq26, .long 0, .int 0, .int 0, .int 0, .int 0, .int 0, .ref mxq27, .ref mxq28, .ref mxq29, .ref mxq30, .ref mxq31, .ref mxq32, .ref mxq33, .long 0]))] [(co, .long)] s H _ := I
    obtain rfl : r5 = 0 := hp5.1
    refine lv_istore (lv' := [(7, .int 0), (6, .int r2), (0, .ref b), (1, .ref h0), (2, .ref mh0), (3, .ref o), (4, .ref od), (5, .int 0)]) hx hb dL_law_794 hl (by decide) rfl (fun ls hl => ?_)
    refine lv_aload_n hx hb dL_law_796 rfl (lv_at hl 4 rfl) ?_
    refine z_calli (wr := [(o, .inl (co, 1, .inr (.inl xf3)))]) (va_runV (As := []) (rest := []) ⟨hx, hb, hml, hown, hts⟩ (z_M_thrown l dC dI y6 mxq1 mxq2 mxq3 mxq4 mxq5 mxq6 mxq7 mxq8 mxq9 0 0 mxq10 mxq11 mxq12 mxq13 mxq14 mxq15 mxq16 mxq17 mxq18 mxq19 mxq20 mxq21 mxq22 mxq23 mxq24 mxq25 mxq26 0 0 0 0 0 0 mxq27 mxq28 mxq29 mxq30 mxq31 mxq32 mxq33 0 mh0  H.size) (cwV 0 hts (z_gV z_T.l mw1391 mw1392 mw1393 mw10 mw1394) rfl rfl rfl (by decide +kernel) ⟨Nat.le_of_ble_eq_true rfl, Nat.le_of_ble_eq_true rfl⟩) (z_preV I [1] [] rfl rfl rfl rfl (ci := 9) (q0 := 1) rfl rfl) rfl rfl hl.1 rfl (lv_room (Nat.le_of_ble_eq_true rfl)) dL_law_797 ⟨Nat.le_of_ble_eq_true rfl, Nat.le_of_ble_eq_true rfl⟩) I [1] [0] rfl rfl (by decide) (by decide) (fun r7 u7 H locs hw7 I => ?_)
    obtain ⟨hu7, hp7⟩ := hw7
    subst hu7
    have I : z_I A dC dI [(o, .inl (co, 1, .inr (.inl xf3))), (mh0, .inr (9, [.int y6, .ref mxq1, .ref mxq2, .ref mxq3, .ref mxq4, .ref mxq5, .ref mxq6, .ref mxq7, .ref mxq8, .ref mxq9, .int 0, .int 0, .ref mxq10, .ref mxq11, .ref mxq12, .ref mxq13, .ref mxq14, .ref mxq15, .ref mxq16, .ref mxq17, .ref mxq18, .ref mxq19, .ref mxq20, .ref mxq21, .ref mxq22, .ref mxq23, .ref mxq24, .ref mxq25, .ref mxq26, .long 0, .int 0, .int 0, .int 0, .int 0, .int 0, .ref mxq27, .ref mxq28, .ref mxq29, .ref mxq30, .ref mxq31, .ref mxq32, .ref mxq33, .long 0]))] [(co, .long)] s H _ := I
    obtain rfl : y6 = r7 := hp7.symm
    refine lv_iload hx hb dL_law_800 (lv_at hl 1 rfl) ?_
    refine lv_icmp_eq (tgt := 807) hx hb dL_law_802 (by decide) (fun _ => ?_) (fun c9 => absurd (hp5.2.trans hp2.1.symm) c9)
    refine lv_iload hx hb dL_law_807 (lv_at hl 1 rfl) ?_
    refine lv_if_ne (tgt := 824) hx hb dL_law_809 (by decide) (fun c8 => ?_) (fun c8 => ?_)
    · skip
      refine lv_goto (tgt := 2238) hx hb dL_law_824 (by decide) ?_
      refine W.widen (k := 2000) (n := 9000) (Nat.le_of_ble_eq_true rfl) (Nat.le_of_ble_eq_true rfl) ?_
      exact K _ _ _ I.2.2.2.1 (lv_sub hl [2, 7] rfl)
    · skip
      refine lv_aload_n hx hb dL_law_812 rfl (lv_at hl 5 rfl) ?_
      refine lv_iconst (v := 0) hx hb dL_law_813 (by decide) ?_
      refine z_lald (v := 0) hx hb I 0 0 rfl rfl (by unfold vp_in; decide) dL_law_814 (hp2.2 c8) ?_
      refine lv_iload hx hb dL_law_815 (lv_at hl 0 rfl) ?_
      refine lv_i2l (v := 0) hx hb dL_law_817 (by decide) ?_
      refine W.lcmp hx hb dL_law_818 ?_
      refine lv_topi (fun w9 ew9 => ?_)
      obtain rfl : w9 = 0 := ew9.trans (by decide)
      refine lv_if_eq (tgt := 824) hx hb dL_law_819 (by decide) (fun _ => ?_) (fun c9 => absurd c9 (by decide))
      refine lv_goto (tgt := 2238) hx hb dL_law_824 (by decide) ?_
      refine W.widen (k := 2000) (n := 9000) (Nat.le_of_ble_eq_true rfl) (Nat.le_of_ble_eq_true rfl) ?_
      exact K _ _ _ I.2.2.2.1 (lv_sub hl [2, 7] rfl)
set_option maxHeartbeats 4000000 in
set_option maxRecDepth 100000 in
theorem z_case_9 (l : Launch) (hst : l.stackTraces = false) (dC : Nat → ClassId) (dI : Nat → Nat → Nat) (xq1 : Nat) (xq2 : Nat) (xq3 : Nat) (xq4 : Nat) (xq5 : Nat) (xq6 : Nat) (xq7 : Nat) (xq8 : Nat) (h0 : Nat) (mxq1 : Nat) (mxq2 : Nat) (mxq3 : Nat) (mxq4 : Nat) (mxq5 : Nat) (mxq6 : Nat) (mxq7 : Nat) (mxq8 : Nat) (mxq9 : Nat) (mxq10 : Nat) (mxq11 : Nat) (mxq12 : Nat) (mxq13 : Nat) (mxq14 : Nat) (mxq15 : Nat) (mxq16 : Nat) (mxq17 : Nat) (mxq18 : Nat) (mxq19 : Nat) (mxq20 : Nat) (mxq21 : Nat) (mxq22 : Nat) (mxq23 : Nat) (mxq24 : Nat) (mxq25 : Nat) (mxq26 : Nat) (mxq27 : Nat) (mxq28 : Nat) (mxq29 : Nat) (mxq30 : Nat) (mxq31 : Nat) (mxq32 : Nat) (mxq33 : Nat) (mh0 : Nat) (o : Nat) (od : Nat) {p : Program} {e : Env} {s : State} {m : MethodId} {below : List Frame} {meth : Method} {c : Code} {b : Nat} {xs : Nat → Int32} {A : Nat → Prop} {Q : State → Prop} (hx : p.tables.exec = Jvm.exec) (hb : c.code = cL_law) (hml : c.maxLocals = 9) (hown : s.vm.findClass RL = some m.cls) (hts : ∀ w ∈ lw_tbl, w.before #[Value.ref b] s = true) (hX : va_X b 7 xs s s.heap) (hbl : b < s.heap.size) (hbA : ¬ A b) (K : z_LK p l e s m below meth c b A Q) {H : Heap} {locs : List Loc} {ls : Array Slot} (I : z_I A dC dI [(h0, .inr (8, [.ref xq1, .ref xq2])), (xq1, .inr (7, [.ref xq2, .ref xq3, .ref xq4, .ref xq5, .ref xq6, .ref xq7, .ref xq8, .int 0, .int 0, .int 0, .int 0, .int 0])), (mh0, .inr (9, [.int 0, .ref mxq1, .ref mxq2, .ref mxq3, .ref mxq4, .ref mxq5, .ref mxq6, .ref mxq7, .ref mxq8, .ref mxq9, .int 0, .int 0, .ref mxq10, .ref mxq11, .ref mxq12, .ref mxq13, .ref mxq14, .ref mxq15, .ref mxq16, .ref mxq17, .ref mxq18, .ref mxq19, .ref mxq20, .ref mxq21, .ref mxq22, .ref mxq23, .ref mxq24, .ref mxq25, .ref mxq26, .long 0, .int 0, .int 0, .int 0, .int 0, .int 0, .ref mxq27, .ref mxq28, .ref mxq29, .ref mxq30, .ref mxq31, .ref mxq32, .ref mxq33, .long 0]))] [] s H locs) (hl : lv_has ls 9 [(0, .ref b), (1, .ref h0), (2, .ref mh0), (3, .ref o), (4, .ref od), (5, .int 0)]) : W p l e room_1 s m #[Value.ref b] below meth c H locs 1000 8000 Q (F0 m 827 ls []) := by
  have hg : z_G #[Value.ref b] s := fun w hw _ => hts w hw
  refine lv_aload_n hx hb dL_law_827 rfl (lv_at hl 1 rfl) ?_
  refine z_calli (wr := [(mh0, .inr (9, [.int 0, .ref mxq1, .ref mxq2, .ref mxq3, .ref mxq4, .ref mxq5, .ref mxq6, .ref mxq7, .ref mxq8, .ref mxq9, .int 0, .int 0, .ref mxq10, .ref mxq11, .ref mxq12, .ref mxq13, .ref mxq14, .ref mxq15, .ref mxq16, .ref mxq17, .ref mxq18, .ref mxq19, .ref mxq20, .ref mxq21, .ref mxq22, .ref mxq23, .ref mxq24, .ref mxq25, .ref mxq26, .long 0, .int 0, .int 0, .int 0, .int 0, .int 0, .ref mxq27, .ref mxq28, .ref mxq29, .ref mxq30, .ref mxq31, .ref mxq32, .ref mxq33, .long 0]))]) (va_runV (As := []) (rest := []) ⟨hx, hb, hml, hown, hts⟩ (z_RX8_nodes l dC dI xq1 xq2 xq3 xq4 xq5 xq6 xq7 xq8 h0  H.size) (cwV 0 hts (z_gV z_T.l mw364 mw365 mw366 mw1 mw367) rfl rfl rfl (by decide +kernel) ⟨Nat.le_of_ble_eq_true rfl, Nat.le_of_ble_eq_true rfl⟩) (z_preV I [0, 1] [] rfl rfl rfl rfl (ci := 8) (q0 := 0) rfl rfl) rfl rfl hl.1 rfl (lv_room (Nat.le_of_ble_eq_true rfl)) dL_law_828 ⟨Nat.le_of_ble_eq_true rfl, Nat.le_of_ble_eq_true rfl⟩) I [0, 1] [2] rfl rfl (by decide) (by decide) (fun r1 u1 H locs hw1 I => ?_)
  obtain ⟨hu1, hp1⟩ := hw1
  subst hu1
  have I : z_I A dC dI [(mh0, .inr (9, [.int 0, .ref mxq1, .ref mxq2, .ref mxq3, .ref mxq4, .ref mxq5, .ref mxq6, .ref mxq7, .ref mxq8, .ref mxq9, .int 0, .int 0, .ref mxq10, .ref mxq11, .ref mxq12, .ref mxq13, .ref mxq14, .ref mxq15, .ref mxq16, .ref mxq17, .ref mxq18, .ref mxq19, .ref mxq20, .ref mxq21, .ref mxq22, .ref mxq23, .ref mxq24, .ref mxq25, .ref mxq26, .long 0, .int 0, .int 0, .int 0, .int 0, .int 0, .ref mxq27, .ref mxq28, .ref mxq29, .ref mxq30, .ref mxq31, .ref mxq32, .ref mxq33, .long 0])), (h0, .inr (8, [.ref xq1, .ref xq2])), (xq1, .inr (7, [.ref xq2, .ref xq3, .ref xq4, .ref xq5, .ref xq6, .ref xq7, .ref xq8, .int 0, .int 0, .int 0, .int 0, .int 0]))] [] s H _ := I
  obtain rfl : r1 = 0 := hp1
  refine lv_aload_n hx hb dL_law_831 rfl (lv_at hl 2 rfl) ?_
  refine z_calli (wr := [(h0, .inr (8, [.ref xq1, .ref xq2])), (xq1, .inr (7, [.ref xq2, .ref xq3, .ref xq4, .ref xq5, .ref xq6, .ref xq7, .ref xq8, .int 0, .int 0, .int 0, .int 0, .int 0]))]) (va_runV (As := []) (rest := [.int 0]) ⟨hx, hb, hml, hown, hts⟩ (z_M_nodes l dC dI mxq1 mxq2 mxq3 mxq4 mxq5 mxq6 mxq7 mxq8 mxq9 mxq10 mxq11 mxq12 mxq13 mxq14 mxq15 mxq16 mxq17 mxq18 mxq19 mxq20 mxq21 mxq22 mxq23 mxq24 mxq25 mxq26 mxq27 mxq28 mxq29 mxq30 mxq31 mxq32 mxq33 mh0  H.size) (cwV 0 hts (z_gV z_T.l mw1589 mw1590 mw1591 mw10 mw1592) rfl rfl rfl (by decide +kernel) ⟨Nat.le_of_ble_eq_true rfl, Nat.le_of_ble_eq_true rfl⟩) (z_preV I [0] [] rfl rfl rfl rfl (ci := 9) (q0 := 0) rfl rfl) rfl rfl hl.1 rfl (lv_room (Nat.le_of_ble_eq_true rfl)) dL_law_832 ⟨Nat.le_of_ble_eq_true rfl, Nat.le_of_ble_eq_true rfl⟩) I [0] [1, 2] rfl rfl (by decide) (by decide) (fun r2 u2 H locs hw2 I => ?_)
  obtain ⟨hu2, hp2⟩ := hw2
  subst hu2
  have I : z_I A dC dI [(h0, .inr (8, [.ref xq1, .ref xq2])), (xq1, .inr (7, [.ref xq2, .ref xq3, .ref xq4, .ref xq5, .ref xq6, .ref xq7, .ref xq8, .int 0, .int 0, .int 0, .int 0, .int 0])), (mh0, .inr (9, [.int 0, .ref mxq1, .ref mxq2, .ref mxq3, .ref mxq4, .ref mxq5, .ref mxq6, .ref mxq7, .ref mxq8, .ref mxq9, .int 0, .int 0, .ref mxq10, .ref mxq11, .ref mxq12, .ref mxq13, .ref mxq14, .ref mxq15, .ref mxq16, .ref mxq17, .ref mxq18, .ref mxq19, .ref mxq20, .ref mxq21, .ref mxq22, .ref mxq23, .ref mxq24, .ref mxq25, .ref mxq26, .long 0, .int 0, .int 0, .int 0, .int 0, .int 0, .ref mxq27, .ref mxq28, .ref mxq29, .ref mxq30, .ref mxq31, .ref mxq32, .ref mxq33, .long 0]))] [] s H _ := I
  obtain rfl : r2 = 0 := hp2
  refine lv_icmp_eq (tgt := 2238) hx hb dL_law_835 (by decide) (fun _ => ?_) (fun c9 => absurd c9 (by decide))
  refine W.widen (k := 2000) (n := 9000) (Nat.le_of_ble_eq_true rfl) (Nat.le_of_ble_eq_true rfl) ?_
  exact K _ _ _ I.2.2.2.1 (lv_sub hl [0, 5] rfl)
set_option maxHeartbeats 4000000 in
set_option maxRecDepth 100000 in
theorem z_case_10 (l : Launch) (hst : l.stackTraces = false) (dC : Nat → ClassId) (dI : Nat → Nat → Nat) (xq1 : Nat) (xq2 : Nat) (xq3 : Nat) (xq4 : Nat) (xq5 : Nat) (xq6 : Nat) (xq7 : Nat) (xq8 : Nat) (h0 : Nat) (mxq1 : Nat) (mxq2 : Nat) (mxq3 : Nat) (mxq4 : Nat) (mxq5 : Nat) (mxq6 : Nat) (mxq7 : Nat) (mxq8 : Nat) (mxq9 : Nat) (mxq10 : Nat) (mxq11 : Nat) (mxq12 : Nat) (mxq13 : Nat) (mxq14 : Nat) (mxq15 : Nat) (mxq16 : Nat) (mxq17 : Nat) (mxq18 : Nat) (mxq19 : Nat) (mxq20 : Nat) (mxq21 : Nat) (mxq22 : Nat) (mxq23 : Nat) (mxq24 : Nat) (mxq25 : Nat) (mxq26 : Nat) (mxq27 : Nat) (mxq28 : Nat) (mxq29 : Nat) (mxq30 : Nat) (mxq31 : Nat) (mxq32 : Nat) (mxq33 : Nat) (mh0 : Nat) (o : Nat) (od : Nat) {p : Program} {e : Env} {s : State} {m : MethodId} {below : List Frame} {meth : Method} {c : Code} {b : Nat} {xs : Nat → Int32} {A : Nat → Prop} {Q : State → Prop} (hx : p.tables.exec = Jvm.exec) (hb : c.code = cL_law) (hml : c.maxLocals = 9) (hown : s.vm.findClass RL = some m.cls) (hts : ∀ w ∈ lw_tbl, w.before #[Value.ref b] s = true) (hX : va_X b 7 xs s s.heap) (hbl : b < s.heap.size) (hbA : ¬ A b) (K : z_LK p l e s m below meth c b A Q) {H : Heap} {locs : List Loc} {ls : Array Slot} (I : z_I A dC dI [(h0, .inr (8, [.ref xq1, .ref xq2])), (xq1, .inr (7, [.ref xq2, .ref xq3, .ref xq4, .ref xq5, .ref xq6, .ref xq7, .ref xq8, .int 0, .int 0, .int 0, .int 0, .int 0])), (mh0, .inr (9, [.int 0, .ref mxq1, .ref mxq2, .ref mxq3, .ref mxq4, .ref mxq5, .ref mxq6, .ref mxq7, .ref mxq8, .ref mxq9, .int 0, .int 0, .ref mxq10, .ref mxq11, .ref mxq12, .ref mxq13, .ref mxq14, .ref mxq15, .ref mxq16, .ref mxq17, .ref mxq18, .ref mxq19, .ref mxq20, .ref mxq21, .ref mxq22, .ref mxq23, .ref mxq24, .ref mxq25, .ref mxq26, .long 0, .int 0, .int 0, .int 0, .int 0, .int 0, .ref mxq27, .ref mxq28, .ref mxq29, .ref mxq30, .ref mxq31, .ref mxq32, .ref mxq33, .long 0]))] [] s H locs) (hl : lv_has ls 9 [(0, .ref b), (1, .ref h0), (2, .ref mh0), (3, .ref o), (4, .ref od), (5, .int 0)]) : W p l e room_1 s m #[Value.ref b] below meth c H locs 1000 8000 Q (F0 m 840 ls []) := by
  have hg : z_G #[Value.ref b] s := fun w hw _ => hts w hw
  refine lv_aload_n hx hb dL_law_840 rfl (lv_at hl 1 rfl) ?_
  refine z_calli (wr := [(mh0, .inr (9, [.int 0, .ref mxq1, .ref mxq2, .ref mxq3, .ref mxq4, .ref mxq5, .ref mxq6, .ref mxq7, .ref mxq8, .ref mxq9, .int 0, .int 0, .ref mxq10, .ref mxq11, .ref mxq12, .ref mxq13, .ref mxq14, .ref mxq15, .ref mxq16, .ref mxq17, .ref mxq18, .ref mxq19, .ref mxq20, .ref mxq21, .ref mxq22, .ref mxq23, .ref mxq24, .ref mxq25, .ref mxq26, .long 0, .int 0, .int 0, .int 0, .int 0, .int 0, .ref mxq27, .ref mxq28, .ref mxq29, .ref mxq30, .ref mxq31, .ref mxq32, .ref mxq33, .long 0]))]) (va_runV (As := []) (rest := []) ⟨hx, hb, hml, hown, hts⟩ (z_RX8_open l dC dI xq1 xq2 xq3 xq4 xq5 xq6 xq7 xq8 h0  H.size) (cwV 0 hts (z_gV z_T.l mw368 mw369 mw370 mw1 mw371) rfl rfl rfl (by decide +kernel) ⟨Nat.le_of_ble_eq_true rfl, Nat.le_of_ble_eq_true rfl⟩) (z_preV I [0, 1] [] rfl rfl rfl rfl (ci := 8) (q0 := 0) rfl rfl) rfl rfl hl.1 rfl (lv_room (Nat.le_of_ble_eq_true rfl)) dL_law_841 ⟨Nat.le_of_ble_eq_true rfl, Nat.le_of_ble_eq_true rfl⟩) I [0, 1] [2] rfl rfl (by decide) (by decide) (fun r1 u1 H locs hw1 I => ?_)
  obtain ⟨hu1, hp1⟩ := hw1
  subst hu1
  have I : z_I A dC dI [(mh0, .inr (9, [.int 0, .ref mxq1, .ref mxq2, .ref mxq3, .ref mxq4, .ref mxq5, .ref mxq6, .ref mxq7, .ref mxq8, .ref mxq9, .int 0, .int 0, .ref mxq10, .ref mxq11, .ref mxq12, .ref mxq13, .ref mxq14, .ref mxq15, .ref mxq16, .ref mxq17, .ref mxq18, .ref mxq19, .ref mxq20, .ref mxq21, .ref mxq22, .ref mxq23, .ref mxq24, .ref mxq25, .ref mxq26, .long 0, .int 0, .int 0, .int 0, .int 0, .int 0, .ref mxq27, .ref mxq28, .ref mxq29, .ref mxq30, .ref mxq31, .ref mxq32, .ref mxq33, .long 0])), (h0, .inr (8, [.ref xq1, .ref xq2])), (xq1, .inr (7, [.ref xq2, .ref xq3, .ref xq4, .ref xq5, .ref xq6, .ref xq7, .ref xq8, .int 0, .int 0, .int 0, .int 0, .int 0]))] [] s H _ := I
  obtain rfl : r1 = 0 := hp1
  refine lv_aload_n hx hb dL_law_844 rfl (lv_at hl 2 rfl) ?_
  refine z_calli (wr := [(h0, .inr (8, [.ref xq1, .ref xq2])), (xq1, .inr (7, [.ref xq2, .ref xq3, .ref xq4, .ref xq5, .ref xq6, .ref xq7, .ref xq8, .int 0, .int 0, .int 0, .int 0, .int 0]))]) (va_runV (As := []) (rest := [.int 0]) ⟨hx, hb, hml, hown, hts⟩ (z_M_open l dC dI mxq1 mxq2 mxq3 mxq4 mxq5 mxq6 mxq7 mxq8 mxq9 mxq10 mxq11 mxq12 mxq13 mxq14 mxq15 mxq16 mxq17 mxq18 mxq19 mxq20 mxq21 mxq22 mxq23 mxq24 mxq25 mxq26 mxq27 mxq28 mxq29 mxq30 mxq31 mxq32 mxq33 mh0  H.size) (cwV 0 hts (z_gV z_T.l mw1593 mw1594 mw1595 mw10 mw1596) rfl rfl rfl (by decide +kernel) ⟨Nat.le_of_ble_eq_true rfl, Nat.le_of_ble_eq_true rfl⟩) (z_preV I [0] [] rfl rfl rfl rfl (ci := 9) (q0 := 0) rfl rfl) rfl rfl hl.1 rfl (lv_room (Nat.le_of_ble_eq_true rfl)) dL_law_845 ⟨Nat.le_of_ble_eq_true rfl, Nat.le_of_ble_eq_true rfl⟩) I [0] [1, 2] rfl rfl (by decide) (by decide) (fun r2 u2 H locs hw2 I => ?_)
  obtain ⟨hu2, hp2⟩ := hw2
  subst hu2
  have I : z_I A dC dI [(h0, .inr (8, [.ref xq1, .ref xq2])), (xq1, .inr (7, [.ref xq2, .ref xq3, .ref xq4, .ref xq5, .ref xq6, .ref xq7, .ref xq8, .int 0, .int 0, .int 0, .int 0, .int 0])), (mh0, .inr (9, [.int 0, .ref mxq1, .ref mxq2, .ref mxq3, .ref mxq4, .ref mxq5, .ref mxq6, .ref mxq7, .ref mxq8, .ref mxq9, .int 0, .int 0, .ref mxq10, .ref mxq11, .ref mxq12, .ref mxq13, .ref mxq14, .ref mxq15, .ref mxq16, .ref mxq17, .ref mxq18, .ref mxq19, .ref mxq20, .ref mxq21, .ref mxq22, .ref mxq23, .ref mxq24, .ref mxq25, .ref mxq26, .long 0, .int 0, .int 0, .int 0, .int 0, .int 0, .ref mxq27, .ref mxq28, .ref mxq29, .ref mxq30, .ref mxq31, .ref mxq32, .ref mxq33, .long 0]))] [] s H _ := I
  obtain rfl : r2 = 0 := hp2
  refine lv_icmp_eq (tgt := 2238) hx hb dL_law_848 (by decide) (fun _ => ?_) (fun c9 => absurd c9 (by decide))
  refine W.widen (k := 2000) (n := 9000) (Nat.le_of_ble_eq_true rfl) (Nat.le_of_ble_eq_true rfl) ?_
  exact K _ _ _ I.2.2.2.1 (lv_sub hl [0, 5] rfl)
set_option maxHeartbeats 4000000 in
set_option maxRecDepth 100000 in
theorem z_case_11 (l : Launch) (hst : l.stackTraces = false) (dC : Nat → ClassId) (dI : Nat → Nat → Nat) (xq1 : Nat) (xq2 : Nat) (xq3 : Nat) (xq4 : Nat) (xq5 : Nat) (xq6 : Nat) (xq7 : Nat) (xq8 : Nat) (h0 : Nat) (mxq1 : Nat) (mxq2 : Nat) (mxq3 : Nat) (mxq4 : Nat) (mxq5 : Nat) (mxq6 : Nat) (mxq7 : Nat) (mxq8 : Nat) (mxq9 : Nat) (mxq10 : Nat) (mxq11 : Nat) (mxq12 : Nat) (mxq13 : Nat) (mxq14 : Nat) (mxq15 : Nat) (mxq16 : Nat) (mxq17 : Nat) (mxq18 : Nat) (mxq19 : Nat) (mxq20 : Nat) (mxq21 : Nat) (mxq22 : Nat) (mxq23 : Nat) (mxq24 : Nat) (mxq25 : Nat) (mxq26 : Nat) (mxq27 : Nat) (mxq28 : Nat) (mxq29 : Nat) (mxq30 : Nat) (mxq31 : Nat) (mxq32 : Nat) (mxq33 : Nat) (mh0 : Nat) (o : Nat) (co : ClassId) (fo : Nat → Int64) (od : Nat) {p : Program} {e : Env} {s : State} {m : MethodId} {below : List Frame} {meth : Method} {c : Code} {b : Nat} {xs : Nat → Int32} {A : Nat → Prop} {Q : State → Prop} (hx : p.tables.exec = Jvm.exec) (hb : c.code = cL_law) (hml : c.maxLocals = 9) (hown : s.vm.findClass RL = some m.cls) (hts : ∀ w ∈ lw_tbl, w.before #[Value.ref b] s = true) (hX : va_X b 7 xs s s.heap) (hbl : b < s.heap.size) (hbA : ¬ A b) (K : z_LK p l e s m below meth c b A Q) {H : Heap} {locs : List Loc} {ls : Array Slot} (I : z_I A dC dI [(h0, .inr (8, [.ref xq1, .ref xq2])), (xq1, .inr (7, [.ref xq2, .ref xq3, .ref xq4, .ref xq5, .ref xq6, .ref xq7, .ref xq8, .int 0, .int 0, .int 0, .int 0, .int 0])), (mh0, .inr (9, [.int 0, .ref mxq1, .ref mxq2, .ref mxq3, .ref mxq4, .ref mxq5, .ref mxq6, .ref mxq7, .ref mxq8, .ref mxq9, .int 0, .int 0, .ref mxq10, .ref mxq11, .ref mxq12, .ref mxq13, .ref mxq14, .ref mxq15, .ref mxq16, .ref mxq17, .ref mxq18, .ref mxq19, .ref mxq20, .ref mxq21, .ref mxq22, .ref mxq23, .ref mxq24, .ref mxq25, .ref mxq26, .long 0, .int 0, .int 0, .int 0, .int 0, .int 0, .ref mxq27, .ref mxq28, .ref mxq29, .ref mxq30, .ref mxq31, .ref mxq32, .ref mxq33, .long 0])), (o, .inl (co, 1, .inr (.inl fo)))] [(co, .long)] s H locs) (hl : lv_has ls 9 [(0, .ref b), (1, .ref h0), (2, .ref mh0), (3, .ref o), (4, .ref od), (5, .int 0)]) : W p l e room_1 s m #[Value.ref b] below meth c H locs 1000 8000 Q (F0 m 853 ls []) := by
  have hg : z_G #[Value.ref b] s := fun w hw _ => hts w hw
  refine lv_aload_n hx hb dL_law_853 rfl (lv_at hl 1 rfl) ?_
  refine lv_aload_n hx hb dL_law_854 rfl (lv_at hl 0 rfl) ?_
  refine lv_iload hx hb dL_law_855 (lv_at hl 5 rfl) ?_
  refine lv_iconst (v := 1) hx hb dL_law_857 (by decide) ?_
  refine lv_iadd hx hb dL_law_858 ?_
  refine lv_topi (fun w1 ew1 => ?_)
  obtain rfl : w1 = 1 := ew1.trans (by decide)
  refine va_sld hx hb hX hbl hbA I.2.2.2.1 (by unfold vp_in; decide) dL_law_859 ?_
  refine lv_aload_n hx hb dL_law_860 rfl (lv_at hl 3 rfl) ?_
  refine z_xcalli (wr := [(mh0, .inr (9, [.int 0, .ref mxq1, .ref mxq2, .ref mxq3, .ref mxq4, .ref mxq5, .ref mxq6, .ref mxq7, .ref mxq8, .ref mxq9, .int 0, .int 0, .ref mxq10, .ref mxq11, .ref mxq12, .ref mxq13, .ref mxq14, .ref mxq15, .ref mxq16, .ref mxq17, .ref mxq18, .ref mxq19, .ref mxq20, .ref mxq21, .ref mxq22, .ref mxq23, .ref mxq24, .ref mxq25, .ref mxq26, .long 0, .int 0, .int 0, .int 0, .int 0, .int 0, .ref mxq27, .ref mxq28, .ref mxq29, .ref mxq30, .ref mxq31, .ref mxq32, .ref mxq33, .long 0]))]) (vx_runSX (As := [.ref h0, .int (xs (Int32.toNatClampNeg 1)), .ref o]) (rest := []) ⟨hx, hb, hml, hown, hts⟩ (z_L_state l hst dC dI xq1 xq2 xq3 xq4 xq5 xq6 xq7 xq8 h0 o co fo (xs (Int32.toNatClampNeg 1))  H.size) (vx_cwSW 3 hts (z_gSh z_T.l mw907 mw908 mw0 mw909) rfl rfl rfl (by decide +kernel) ⟨Nat.le_of_ble_eq_true rfl, Nat.le_of_ble_eq_true rfl⟩) (z_pre I [0, 1, 3] [0] rfl rfl rfl rfl) rfl rfl hl.1 rfl (lv_room (Nat.le_of_ble_eq_true rfl)) dL_law_861 ⟨Nat.le_of_ble_eq_true rfl, Nat.le_of_ble_eq_true rfl⟩) I [0, 1, 3] [2] rfl rfl (by decide) (by decide) (fun E2 ce2 q2 H locs hE2 I hcell hcv hcl => ?_) (fun r2 u2 H locs hw2 I => ?_)
  · skip
    have I : z_I A dC dI [(mh0, .inr (9, [.int 0, .ref mxq1, .ref mxq2, .ref mxq3, .ref mxq4, .ref mxq5, .ref mxq6, .ref mxq7, .ref mxq8, .ref mxq9, .int 0, .int 0, .ref mxq10, .ref mxq11, .ref mxq12, .ref mxq13, .ref mxq14, .ref mxq15, .ref mxq16, .ref mxq17, .ref mxq18, .ref mxq19, .ref mxq20, .ref mxq21, .ref mxq22, .ref mxq23, .ref mxq24, .ref mxq25, .ref mxq26, .long 0, .int 0, .int 0, .int 0, .int 0, .int 0, .ref mxq27, .ref mxq28, .ref mxq29, .ref mxq30, .ref mxq31, .ref mxq32, .ref mxq33, .long 0]))] [(co, .long)] s H _ := I
    exact False.elim hE2
  · skip
    obtain ⟨xf3, hu2, hp2⟩ := hw2
    subst hu2
    have I : z_I A dC dI [(mh0, .inr (9, [.int 0, .ref mxq1, .ref mxq2, .ref mxq3, .ref mxq4, .ref mxq5, .ref mxq6, .ref mxq7, .ref mxq8, .ref mxq9, .int 0, .int 0, .ref mxq10, .ref mxq11, .ref mxq12, .ref mxq13, .ref mxq14, .ref mxq15, .ref mxq16, .ref mxq17, .ref mxq18, .ref mxq19, .ref mxq20, .ref mxq21, .ref mxq22, .ref mxq23, .ref mxq24, .ref mxq25, .ref mxq26, .long 0, .int 0, .int 0, .int 0, .int 0, .int 0, .ref mxq27, .ref mxq28, .ref mxq29, .ref mxq30, .ref mxq31, .ref mxq32, .ref mxq33, .long 0])), (o, .inl (co, 1, .inr (.inl xf3)))] [(co, .long)] s H _ := I
    refine W.widen (k := 1001) (n := 8006) (Nat.le_of_ble_eq_true rfl) (Nat.le_of_ble_eq_true rfl) ?_
    obtain rfl : r2 = 1 := hp2.1
    refine lv_istore (lv' := [(6, .int 1), (0, .ref b), (1, .ref h0), (2, .ref mh0), (3, .ref o), (4, .ref od), (5, .int 0)]) hx hb dL_law_864 hl (by decide) rfl (fun ls hl => ?_)
    refine lv_aload_n hx hb dL_law_866 rfl (lv_at hl 3 rfl) ?_
    refine lv_aload_n hx hb dL_law_867 rfl (lv_at hl 1 rfl) ?_
    refine lv_iload hx hb dL_law_868 (lv_at hl 6 rfl) ?_
    refine lv_iconst (v := 1) hx hb dL_law_870 (by decide) ?_
    refine lv_iadd hx hb dL_law_871 ?_
    refine lv_topi (fun w4 ew4 => ?_)
    obtain rfl : w4 = 1 := ew4.trans (by decide)
    refine va_sld hx hb hX hbl hbA I.2.2.2.1 (by unfold vp_in; decide) dL_law_872 ?_
    refine z_calli (wr := [(o, .inl (co, 1, .inr (.inl xf3)))]) (va_runV (As := [.int (xs (Int32.toNatClampNeg 1))]) (rest := []) ⟨hx, hb, hml, hown, hts⟩ (z_M_state l dC dI mxq1 mxq2 mxq3 mxq4 mxq5 mxq6 mxq7 mxq8 mxq9 mxq10 mxq11 mxq12 mxq13 mxq14 mxq15 mxq16 mxq17 mxq18 mxq19 mxq20 mxq21 mxq22 mxq23 mxq24 mxq25 mxq26 mxq27 mxq28 mxq29 mxq30 mxq31 mxq32 mxq33 mh0 (xs (Int32.toNatClampNeg 1))  H.size) (cwV 1 hts (z_gV z_T.l mw1597 mw1598 mw1599 mw10 mw1600) rfl rfl rfl (by decide +kernel) ⟨Nat.le_of_ble_eq_true rfl, Nat.le_of_ble_eq_true rfl⟩) (z_preV I [0] [] rfl rfl rfl rfl (ci := 9) (q0 := 0) rfl rfl) rfl rfl hl.1 rfl (lv_room (Nat.le_of_ble_eq_true rfl)) dL_law_873 ⟨Nat.le_of_ble_eq_true rfl, Nat.le_of_ble_eq_true rfl⟩) I [0] [1] rfl rfl (by decide) (by decide) (fun r5 u5 H locs hw5 I => ?_)
    obtain ⟨hu5, hp5⟩ := hw5
    subst hu5
    have I : z_I A dC dI [(o, .inl (co, 1, .inr (.inl xf3))), (mh0, .inr (9, [.int 1, .ref mxq1, .ref mxq2, .ref mxq3, .ref mxq4, .ref mxq5, .ref mxq6, .ref mxq7, .ref mxq8, .ref mxq9, .int 0, .int 0, .ref mxq10, .ref mxq11, .ref mxq12, .ref mxq13, .ref mxq14, .ref mxq15, .ref mxq16, .ref mxq17, .ref mxq18, .ref mxq19, .ref mxq20, .ref mxq21, .ref mxq22, .ref mxq23, .ref mxq24, .ref mxq25, .ref mxq26, .long 0, .int 0, .int 0, .int 0, .int 0, .int 0, .ref mxq27, .ref mxq28, .ref mxq29, .ref mxq30, .ref mxq31, .ref mxq32, .ref mxq33, .long 0]))] [(co, .long)] s H _ := I
    obtain rfl : r5 = 0 := hp5
    refine lv_istore (lv' := [(7, .int 0), (6, .int 1), (0, .ref b), (1, .ref h0), (2, .ref mh0), (3, .ref o), (4, .ref od), (5, .int 0)]) hx hb dL_law_876 hl (by decide) rfl (fun ls hl => ?_)
    refine lv_aload_n hx hb dL_law_878 rfl (lv_at hl 4 rfl) ?_
    refine z_calli (wr := [(o, .inl (co, 1, .inr (.inl xf3)))]) (va_runV (As := []) (rest := []) ⟨hx, hb, hml, hown, hts⟩ (z_M_thrown l dC dI 1 mxq1 mxq2 mxq3 mxq4 mxq5 mxq6 mxq7 mxq8 mxq9 0 0 mxq10 mxq11 mxq12 mxq13 mxq14 mxq15 mxq16 mxq17 mxq18 mxq19 mxq20 mxq21 mxq22 mxq23 mxq24 mxq25 mxq26 0 0 0 0 0 0 mxq27 mxq28 mxq29 mxq30 mxq31 mxq32 mxq33 0 mh0  H.size) (cwV 0 hts (z_gV z_T.l mw1391 mw1392 mw1393 mw10 mw1394) rfl rfl rfl (by decide +kernel) ⟨Nat.le_of_ble_eq_true rfl, Nat.le_of_ble_eq_true rfl⟩) (z_preV I [1] [] rfl rfl rfl rfl (ci := 9) (q0 := 1) rfl rfl) rfl rfl hl.1 rfl (lv_room (Nat.le_of_ble_eq_true rfl)) dL_law_879 ⟨Nat.le_of_ble_eq_true rfl, Nat.le_of_ble_eq_true rfl⟩) I [1] [0] rfl rfl (by decide) (by decide) (fun r6 u6 H locs hw6 I => ?_)
    obtain ⟨hu6, hp6⟩ := hw6
    subst hu6
    have I : z_I A dC dI [(o, .inl (co, 1, .inr (.inl xf3))), (mh0, .inr (9, [.int 1, .ref mxq1, .ref mxq2, .ref mxq3, .ref mxq4, .ref mxq5, .ref mxq6, .ref mxq7, .ref mxq8, .ref mxq9, .int 0, .int 0, .ref mxq10, .ref mxq11, .ref mxq12, .ref mxq13, .ref mxq14, .ref mxq15, .ref mxq16, .ref mxq17, .ref mxq18, .ref mxq19, .ref mxq20, .ref mxq21, .ref mxq22, .ref mxq23, .ref mxq24, .ref mxq25, .ref mxq26, .long 0, .int 0, .int 0, .int 0, .int 0, .int 0, .ref mxq27, .ref mxq28, .ref mxq29, .ref mxq30, .ref mxq31, .ref mxq32, .ref mxq33, .long 0]))] [(co, .long)] s H _ := I
    obtain rfl : 1 = r6 := hp6.symm
    refine lv_iload hx hb dL_law_882 (lv_at hl 1 rfl) ?_
    refine lv_icmp_eq (tgt := 889) hx hb dL_law_884 (by decide) (fun _ => ?_) (fun c9 => absurd c9 (by decide))
    refine lv_iload hx hb dL_law_889 (lv_at hl 1 rfl) ?_
    refine lv_if_ne (tgt := 906) hx hb dL_law_891 (by decide) (fun _ => ?_) (fun c9 => absurd c9 (by decide))
    refine lv_goto (tgt := 2238) hx hb dL_law_906 (by decide) ?_
    refine W.widen (k := 2000) (n := 9000) (Nat.le_of_ble_eq_true rfl) (Nat.le_of_ble_eq_true rfl) ?_
    exact K _ _ _ I.2.2.2.1 (lv_sub hl [2, 7] rfl)
set_option maxHeartbeats 4000000 in
set_option maxRecDepth 100000 in
theorem z_case_12 (l : Launch) (hst : l.stackTraces = false) (dC : Nat → ClassId) (dI : Nat → Nat → Nat) (xq1 : Nat) (xq2 : Nat) (xq3 : Nat) (xq4 : Nat) (xq5 : Nat) (xq6 : Nat) (xq7 : Nat) (xq8 : Nat) (h0 : Nat) (mxq1 : Nat) (mxq2 : Nat) (mxq3 : Nat) (mxq4 : Nat) (mxq5 : Nat) (mxq6 : Nat) (mxq7 : Nat) (mxq8 : Nat) (mxq9 : Nat) (mxq10 : Nat) (mxq11 : Nat) (mxq12 : Nat) (mxq13 : Nat) (mxq14 : Nat) (mxq15 : Nat) (mxq16 : Nat) (mxq17 : Nat) (mxq18 : Nat) (mxq19 : Nat) (mxq20 : Nat) (mxq21 : Nat) (mxq22 : Nat) (mxq23 : Nat) (mxq24 : Nat) (mxq25 : Nat) (mxq26 : Nat) (mxq27 : Nat) (mxq28 : Nat) (mxq29 : Nat) (mxq30 : Nat) (mxq31 : Nat) (mxq32 : Nat) (mxq33 : Nat) (mh0 : Nat) (o : Nat) (co : ClassId) (fo : Nat → Int64) (od : Nat) {p : Program} {e : Env} {s : State} {m : MethodId} {below : List Frame} {meth : Method} {c : Code} {b : Nat} {xs : Nat → Int32} {A : Nat → Prop} {Q : State → Prop} (hx : p.tables.exec = Jvm.exec) (hb : c.code = cL_law) (hml : c.maxLocals = 9) (hown : s.vm.findClass RL = some m.cls) (hts : ∀ w ∈ lw_tbl, w.before #[Value.ref b] s = true) (hX : va_X b 7 xs s s.heap) (hbl : b < s.heap.size) (hbA : ¬ A b) (K : z_LK p l e s m below meth c b A Q) {H : Heap} {locs : List Loc} {ls : Array Slot} (I : z_I A dC dI [(h0, .inr (8, [.ref xq1, .ref xq2])), (xq1, .inr (7, [.ref xq2, .ref xq3, .ref xq4, .ref xq5, .ref xq6, .ref xq7, .ref xq8, .int 0, .int 0, .int 0, .int 0, .int 0])), (mh0, .inr (9, [.int 0, .ref mxq1, .ref mxq2, .ref mxq3, .ref mxq4, .ref mxq5, .ref mxq6, .ref mxq7, .ref mxq8, .ref mxq9, .int 0, .int 0, .ref mxq10, .ref mxq11, .ref mxq12, .ref mxq13, .ref mxq14, .ref mxq15, .ref mxq16, .ref mxq17, .ref mxq18, .ref mxq19, .ref mxq20, .ref mxq21, .ref mxq22, .ref mxq23, .ref mxq24, .ref mxq25, .ref mxq26, .long 0, .int 0, .int 0, .int 0, .int 0, .int 0, .ref mxq27, .ref mxq28, .ref mxq29, .ref mxq30, .ref mxq31, .ref mxq32, .ref mxq33, .long 0])), (o, .inl (co, 1, .inr (.inl fo)))] [(co, .long)] s H locs) (hl : lv_has ls 9 [(0, .ref b), (1, .ref h0), (2, .ref mh0), (3, .ref o), (4, .ref od), (5, .int 0)]) : W p l e room_1 s m #[Value.ref b] below meth c H locs 1000 8000 Q (F0 m 909 ls []) := by
  have hg : z_G #[Value.ref b] s := fun w hw _ => hts w hw
  refine lv_aload_n hx hb dL_law_909 rfl (lv_at hl 1 rfl) ?_
  refine lv_aload_n hx hb dL_law_910 rfl (lv_at hl 0 rfl) ?_
  refine lv_iload hx hb dL_law_911 (lv_at hl 5 rfl) ?_
  refine lv_iconst (v := 1) hx hb dL_law_913 (by decide) ?_
  refine lv_iadd hx hb dL_law_914 ?_
  refine lv_topi (fun w1 ew1 => ?_)
  obtain rfl : w1 = 1 := ew1.trans (by decide)
  refine va_sld hx hb hX hbl hbA I.2.2.2.1 (by unfold vp_in; decide) dL_law_915 ?_
  refine lv_aload_n hx hb dL_law_916 rfl (lv_at hl 3 rfl) ?_
  refine z_xcalli (wr := [(mh0, .inr (9, [.int 0, .ref mxq1, .ref mxq2, .ref mxq3, .ref mxq4, .ref mxq5, .ref mxq6, .ref mxq7, .ref mxq8, .ref mxq9, .int 0, .int 0, .ref mxq10, .ref mxq11, .ref mxq12, .ref mxq13, .ref mxq14, .ref mxq15, .ref mxq16, .ref mxq17, .ref mxq18, .ref mxq19, .ref mxq20, .ref mxq21, .ref mxq22, .ref mxq23, .ref mxq24, .ref mxq25, .ref mxq26, .long 0, .int 0, .int 0, .int 0, .int 0, .int 0, .ref mxq27, .ref mxq28, .ref mxq29, .ref mxq30, .ref mxq31, .ref mxq32, .ref mxq33, .long 0]))]) (vx_runSX (As := [.ref h0, .int (xs (Int32.toNatClampNeg 1)), .ref o]) (rest := []) ⟨hx, hb, hml, hown, hts⟩ (z_L_parent l hst dC dI xq1 xq2 xq3 xq4 xq5 xq6 xq7 xq8 h0 o co fo (xs (Int32.toNatClampNeg 1))  H.size) (vx_cwSW 3 hts (z_gSh z_T.l mw919 mw920 mw0 mw921) rfl rfl rfl (by decide +kernel) ⟨Nat.le_of_ble_eq_true rfl, Nat.le_of_ble_eq_true rfl⟩) (z_pre I [0, 1, 3] [0] rfl rfl rfl rfl) rfl rfl hl.1 rfl (lv_room (Nat.le_of_ble_eq_true rfl)) dL_law_917 ⟨Nat.le_of_ble_eq_true rfl, Nat.le_of_ble_eq_true rfl⟩) I [0, 1, 3] [2] rfl rfl (by decide) (by decide) (fun E2 ce2 q2 H locs hE2 I hcell hcv hcl => ?_) (fun r2 u2 H locs hw2 I => ?_)
  · skip
    have I : z_I A dC dI [(mh0, .inr (9, [.int 0, .ref mxq1, .ref mxq2, .ref mxq3, .ref mxq4, .ref mxq5, .ref mxq6, .ref mxq7, .ref mxq8, .ref mxq9, .int 0, .int 0, .ref mxq10, .ref mxq11, .ref mxq12, .ref mxq13, .ref mxq14, .ref mxq15, .ref mxq16, .ref mxq17, .ref mxq18, .ref mxq19, .ref mxq20, .ref mxq21, .ref mxq22, .ref mxq23, .ref mxq24, .ref mxq25, .ref mxq26, .long 0, .int 0, .int 0, .int 0, .int 0, .int 0, .ref mxq27, .ref mxq28, .ref mxq29, .ref mxq30, .ref mxq31, .ref mxq32, .ref mxq33, .long 0]))] [(co, .long)] s H _ := I
    exact False.elim hE2
  · skip
    obtain ⟨xf3, hu2, hp2⟩ := hw2
    subst hu2
    have I : z_I A dC dI [(mh0, .inr (9, [.int 0, .ref mxq1, .ref mxq2, .ref mxq3, .ref mxq4, .ref mxq5, .ref mxq6, .ref mxq7, .ref mxq8, .ref mxq9, .int 0, .int 0, .ref mxq10, .ref mxq11, .ref mxq12, .ref mxq13, .ref mxq14, .ref mxq15, .ref mxq16, .ref mxq17, .ref mxq18, .ref mxq19, .ref mxq20, .ref mxq21, .ref mxq22, .ref mxq23, .ref mxq24, .ref mxq25, .ref mxq26, .long 0, .int 0, .int 0, .int 0, .int 0, .int 0, .ref mxq27, .ref mxq28, .ref mxq29, .ref mxq30, .ref mxq31, .ref mxq32, .ref mxq33, .long 0])), (o, .inl (co, 1, .inr (.inl xf3)))] [(co, .long)] s H _ := I
    refine W.widen (k := 1001) (n := 8006) (Nat.le_of_ble_eq_true rfl) (Nat.le_of_ble_eq_true rfl) ?_
    obtain rfl : r2 = 1 := hp2.1
    refine lv_istore (lv' := [(6, .int 1), (0, .ref b), (1, .ref h0), (2, .ref mh0), (3, .ref o), (4, .ref od), (5, .int 0)]) hx hb dL_law_920 hl (by decide) rfl (fun ls hl => ?_)
    refine lv_aload_n hx hb dL_law_922 rfl (lv_at hl 3 rfl) ?_
    refine lv_aload_n hx hb dL_law_923 rfl (lv_at hl 1 rfl) ?_
    refine lv_iload hx hb dL_law_924 (lv_at hl 6 rfl) ?_
    refine lv_iconst (v := 1) hx hb dL_law_926 (by decide) ?_
    refine lv_iadd hx hb dL_law_927 ?_
    refine lv_topi (fun w4 ew4 => ?_)
    obtain rfl : w4 = 1 := ew4.trans (by decide)
    refine va_sld hx hb hX hbl hbA I.2.2.2.1 (by unfold vp_in; decide) dL_law_928 ?_
    refine z_calli (wr := [(o, .inl (co, 1, .inr (.inl xf3)))]) (va_runV (As := [.int (xs (Int32.toNatClampNeg 1))]) (rest := []) ⟨hx, hb, hml, hown, hts⟩ (z_M_parent l dC dI mxq1 mxq2 mxq3 mxq4 mxq5 mxq6 mxq7 mxq8 mxq9 mxq10 mxq11 mxq12 mxq13 mxq14 mxq15 mxq16 mxq17 mxq18 mxq19 mxq20 mxq21 mxq22 mxq23 mxq24 mxq25 mxq26 mxq27 mxq28 mxq29 mxq30 mxq31 mxq32 mxq33 mh0 (xs (Int32.toNatClampNeg 1))  H.size) (cwV 1 hts (z_gV z_T.l mw1605 mw1606 mw1607 mw10 mw1608) rfl rfl rfl (by decide +kernel) ⟨Nat.le_of_ble_eq_true rfl, Nat.le_of_ble_eq_true rfl⟩) (z_preV I [0] [] rfl rfl rfl rfl (ci := 9) (q0 := 0) rfl rfl) rfl rfl hl.1 rfl (lv_room (Nat.le_of_ble_eq_true rfl)) dL_law_929 ⟨Nat.le_of_ble_eq_true rfl, Nat.le_of_ble_eq_true rfl⟩) I [0] [1] rfl rfl (by decide) (by decide) (fun r5 u5 H locs hw5 I => ?_)
    obtain ⟨hu5, hp5⟩ := hw5
    subst hu5
    have I : z_I A dC dI [(o, .inl (co, 1, .inr (.inl xf3))), (mh0, .inr (9, [.int 1, .ref mxq1, .ref mxq2, .ref mxq3, .ref mxq4, .ref mxq5, .ref mxq6, .ref mxq7, .ref mxq8, .ref mxq9, .int 0, .int 0, .ref mxq10, .ref mxq11, .ref mxq12, .ref mxq13, .ref mxq14, .ref mxq15, .ref mxq16, .ref mxq17, .ref mxq18, .ref mxq19, .ref mxq20, .ref mxq21, .ref mxq22, .ref mxq23, .ref mxq24, .ref mxq25, .ref mxq26, .long 0, .int 0, .int 0, .int 0, .int 0, .int 0, .ref mxq27, .ref mxq28, .ref mxq29, .ref mxq30, .ref mxq31, .ref mxq32, .ref mxq33, .long 0]))] [(co, .long)] s H _ := I
    obtain rfl : r5 = 0 := hp5
    refine lv_istore (lv' := [(7, .int 0), (6, .int 1), (0, .ref b), (1, .ref h0), (2, .ref mh0), (3, .ref o), (4, .ref od), (5, .int 0)]) hx hb dL_law_932 hl (by decide) rfl (fun ls hl => ?_)
    refine lv_aload_n hx hb dL_law_934 rfl (lv_at hl 4 rfl) ?_
    refine z_calli (wr := [(o, .inl (co, 1, .inr (.inl xf3)))]) (va_runV (As := []) (rest := []) ⟨hx, hb, hml, hown, hts⟩ (z_M_thrown l dC dI 1 mxq1 mxq2 mxq3 mxq4 mxq5 mxq6 mxq7 mxq8 mxq9 0 0 mxq10 mxq11 mxq12 mxq13 mxq14 mxq15 mxq16 mxq17 mxq18 mxq19 mxq20 mxq21 mxq22 mxq23 mxq24 mxq25 mxq26 0 0 0 0 0 0 mxq27 mxq28 mxq29 mxq30 mxq31 mxq32 mxq33 0 mh0  H.size) (cwV 0 hts (z_gV z_T.l mw1391 mw1392 mw1393 mw10 mw1394) rfl rfl rfl (by decide +kernel) ⟨Nat.le_of_ble_eq_true rfl, Nat.le_of_ble_eq_true rfl⟩) (z_preV I [1] [] rfl rfl rfl rfl (ci := 9) (q0 := 1) rfl rfl) rfl rfl hl.1 rfl (lv_room (Nat.le_of_ble_eq_true rfl)) dL_law_935 ⟨Nat.le_of_ble_eq_true rfl, Nat.le_of_ble_eq_true rfl⟩) I [1] [0] rfl rfl (by decide) (by decide) (fun r6 u6 H locs hw6 I => ?_)
    obtain ⟨hu6, hp6⟩ := hw6
    subst hu6
    have I : z_I A dC dI [(o, .inl (co, 1, .inr (.inl xf3))), (mh0, .inr (9, [.int 1, .ref mxq1, .ref mxq2, .ref mxq3, .ref mxq4, .ref mxq5, .ref mxq6, .ref mxq7, .ref mxq8, .ref mxq9, .int 0, .int 0, .ref mxq10, .ref mxq11, .ref mxq12, .ref mxq13, .ref mxq14, .ref mxq15, .ref mxq16, .ref mxq17, .ref mxq18, .ref mxq19, .ref mxq20, .ref mxq21, .ref mxq22, .ref mxq23, .ref mxq24, .ref mxq25, .ref mxq26, .long 0, .int 0, .int 0, .int 0, .int 0, .int 0, .ref mxq27, .ref mxq28, .ref mxq29, .ref mxq30, .ref mxq31, .ref mxq32, .ref mxq33, .long 0]))] [(co, .long)] s H _ := I
    obtain rfl : 1 = r6 := hp6.symm
    refine lv_iload hx hb dL_law_938 (lv_at hl 1 rfl) ?_
    refine lv_icmp_eq (tgt := 945) hx hb dL_law_940 (by decide) (fun _ => ?_) (fun c9 => absurd c9 (by decide))
    refine lv_iload hx hb dL_law_945 (lv_at hl 1 rfl) ?_
    refine lv_if_ne (tgt := 962) hx hb dL_law_947 (by decide) (fun _ => ?_) (fun c9 => absurd c9 (by decide))
    refine lv_goto (tgt := 2238) hx hb dL_law_962 (by decide) ?_
    refine W.widen (k := 2000) (n := 9000) (Nat.le_of_ble_eq_true rfl) (Nat.le_of_ble_eq_true rfl) ?_
    exact K _ _ _ I.2.2.2.1 (lv_sub hl [2, 7] rfl)
set_option maxHeartbeats 4000000 in
set_option maxRecDepth 100000 in
theorem z_case_13 (l : Launch) (hst : l.stackTraces = false) (dC : Nat → ClassId) (dI : Nat → Nat → Nat) (xq1 : Nat) (xq2 : Nat) (xq3 : Nat) (xq4 : Nat) (xq5 : Nat) (xq6 : Nat) (xq7 : Nat) (xq8 : Nat) (h0 : Nat) (mxq1 : Nat) (mxq2 : Nat) (mxq3 : Nat) (mxq4 : Nat) (mxq5 : Nat) (mxq6 : Nat) (mxq7 : Nat) (mxq8 : Nat) (mxq9 : Nat) (mxq10 : Nat) (mxq11 : Nat) (mxq12 : Nat) (mxq13 : Nat) (mxq14 : Nat) (mxq15 : Nat) (mxq16 : Nat) (mxq17 : Nat) (mxq18 : Nat) (mxq19 : Nat) (mxq20 : Nat) (mxq21 : Nat) (mxq22 : Nat) (mxq23 : Nat) (mxq24 : Nat) (mxq25 : Nat) (mxq26 : Nat) (mxq27 : Nat) (mxq28 : Nat) (mxq29 : Nat) (mxq30 : Nat) (mxq31 : Nat) (mxq32 : Nat) (mxq33 : Nat) (mh0 : Nat) (o : Nat) (co : ClassId) (fo : Nat → Int64) (od : Nat) {p : Program} {e : Env} {s : State} {m : MethodId} {below : List Frame} {meth : Method} {c : Code} {b : Nat} {xs : Nat → Int32} {A : Nat → Prop} {Q : State → Prop} (hx : p.tables.exec = Jvm.exec) (hb : c.code = cL_law) (hml : c.maxLocals = 9) (hown : s.vm.findClass RL = some m.cls) (hts : ∀ w ∈ lw_tbl, w.before #[Value.ref b] s = true) (hX : va_X b 7 xs s s.heap) (hbl : b < s.heap.size) (hbA : ¬ A b) (K : z_LK p l e s m below meth c b A Q) {H : Heap} {locs : List Loc} {ls : Array Slot} (I : z_I A dC dI [(h0, .inr (8, [.ref xq1, .ref xq2])), (xq1, .inr (7, [.ref xq2, .ref xq3, .ref xq4, .ref xq5, .ref xq6, .ref xq7, .ref xq8, .int 0, .int 0, .int 0, .int 0, .int 0])), (mh0, .inr (9, [.int 0, .ref mxq1, .ref mxq2, .ref mxq3, .ref mxq4, .ref mxq5, .ref mxq6, .ref mxq7, .ref mxq8, .ref mxq9, .int 0, .int 0, .ref mxq10, .ref mxq11, .ref mxq12, .ref mxq13, .ref mxq14, .ref mxq15, .ref mxq16, .ref mxq17, .ref mxq18, .ref mxq19, .ref mxq20, .ref mxq21, .ref mxq22, .ref mxq23, .ref mxq24, .ref mxq25, .ref mxq26, .long 0, .int 0, .int 0, .int 0, .int 0, .int 0, .ref mxq27, .ref mxq28, .ref mxq29, .ref mxq30, .ref mxq31, .ref mxq32, .ref mxq33, .long 0])), (o, .inl (co, 1, .inr (.inl fo)))] [(co, .long)] s H locs) (hl : lv_has ls 9 [(0, .ref b), (1, .ref h0), (2, .ref mh0), (3, .ref o), (4, .ref od), (5, .int 0)]) : W p l e room_1 s m #[Value.ref b] below meth c H locs 1000 8000 Q (F0 m 965 ls []) := by
  have hg : z_G #[Value.ref b] s := fun w hw _ => hts w hw
  refine lv_aload_n hx hb dL_law_965 rfl (lv_at hl 1 rfl) ?_
  refine lv_aload_n hx hb dL_law_966 rfl (lv_at hl 0 rfl) ?_
  refine lv_iload hx hb dL_law_967 (lv_at hl 5 rfl) ?_
  refine lv_iconst (v := 1) hx hb dL_law_969 (by decide) ?_
  refine lv_iadd hx hb dL_law_970 ?_
  refine lv_topi (fun w1 ew1 => ?_)
  obtain rfl : w1 = 1 := ew1.trans (by decide)
  refine va_sld hx hb hX hbl hbA I.2.2.2.1 (by unfold vp_in; decide) dL_law_971 ?_
  refine lv_aload_n hx hb dL_law_972 rfl (lv_at hl 0 rfl) ?_
  refine lv_iload hx hb dL_law_973 (lv_at hl 5 rfl) ?_
  refine lv_iconst (v := 2) hx hb dL_law_975 (by decide) ?_
  refine lv_iadd hx hb dL_law_976 ?_
  refine lv_topi (fun w2 ew2 => ?_)
  obtain rfl : w2 = 2 := ew2.trans (by decide)
  refine va_sld hx hb hX hbl hbA I.2.2.2.1 (by unfold vp_in; decide) dL_law_977 ?_
  refine lv_aload_n hx hb dL_law_978 rfl (lv_at hl 3 rfl) ?_
  refine z_xcalli (wr := [(mh0, .inr (9, [.int 0, .ref mxq1, .ref mxq2, .ref mxq3, .ref mxq4, .ref mxq5, .ref mxq6, .ref mxq7, .ref mxq8, .ref mxq9, .int 0, .int 0, .ref mxq10, .ref mxq11, .ref mxq12, .ref mxq13, .ref mxq14, .ref mxq15, .ref mxq16, .ref mxq17, .ref mxq18, .ref mxq19, .ref mxq20, .ref mxq21, .ref mxq22, .ref mxq23, .ref mxq24, .ref mxq25, .ref mxq26, .long 0, .int 0, .int 0, .int 0, .int 0, .int 0, .ref mxq27, .ref mxq28, .ref mxq29, .ref mxq30, .ref mxq31, .ref mxq32, .ref mxq33, .long 0]))]) (vx_runSX (As := [.ref h0, .int (xs (Int32.toNatClampNeg 1)), .int (xs (Int32.toNatClampNeg 2)), .ref o]) (rest := []) ⟨hx, hb, hml, hown, hts⟩ (z_L_lowerAt l hst dC dI xq1 xq2 xq3 xq4 xq5 xq6 xq7 xq8 h0 o co fo (xs (Int32.toNatClampNeg 1)) (xs (Int32.toNatClampNeg 2))  H.size) (vx_cwSW 4 hts (z_gSh z_T.l mw927 mw928 mw0 mw929) rfl rfl rfl (by decide +kernel) ⟨Nat.le_of_ble_eq_true rfl, Nat.le_of_ble_eq_true rfl⟩) (z_pre I [0, 1, 3] [0] rfl rfl rfl rfl) rfl rfl hl.1 rfl (lv_room (Nat.le_of_ble_eq_true rfl)) dL_law_979 ⟨Nat.le_of_ble_eq_true rfl, Nat.le_of_ble_eq_true rfl⟩) I [0, 1, 3] [2] rfl rfl (by decide) (by decide) (fun E3 ce3 q3 H locs hE3 I hcell hcv hcl => ?_) (fun r3 u3 H locs hw3 I => ?_)
  · skip
    have I : z_I A dC dI [(mh0, .inr (9, [.int 0, .ref mxq1, .ref mxq2, .ref mxq3, .ref mxq4, .ref mxq5, .ref mxq6, .ref mxq7, .ref mxq8, .ref mxq9, .int 0, .int 0, .ref mxq10, .ref mxq11, .ref mxq12, .ref mxq13, .ref mxq14, .ref mxq15, .ref mxq16, .ref mxq17, .ref mxq18, .ref mxq19, .ref mxq20, .ref mxq21, .ref mxq22, .ref mxq23, .ref mxq24, .ref mxq25, .ref mxq26, .long 0, .int 0, .int 0, .int 0, .int 0, .int 0, .ref mxq27, .ref mxq28, .ref mxq29, .ref mxq30, .ref mxq31, .ref mxq32, .ref mxq33, .long 0]))] [(co, .long)] s H _ := I
    exact False.elim hE3
  · skip
    obtain ⟨xf4, hu3, hp3⟩ := hw3
    subst hu3
    have I : z_I A dC dI [(mh0, .inr (9, [.int 0, .ref mxq1, .ref mxq2, .ref mxq3, .ref mxq4, .ref mxq5, .ref mxq6, .ref mxq7, .ref mxq8, .ref mxq9, .int 0, .int 0, .ref mxq10, .ref mxq11, .ref mxq12, .ref mxq13, .ref mxq14, .ref mxq15, .ref mxq16, .ref mxq17, .ref mxq18, .ref mxq19, .ref mxq20, .ref mxq21, .ref mxq22, .ref mxq23, .ref mxq24, .ref mxq25, .ref mxq26, .long 0, .int 0, .int 0, .int 0, .int 0, .int 0, .ref mxq27, .ref mxq28, .ref mxq29, .ref mxq30, .ref mxq31, .ref mxq32, .ref mxq33, .long 0])), (o, .inl (co, 1, .inr (.inl xf4)))] [(co, .long)] s H _ := I
    refine W.widen (k := 1001) (n := 8006) (Nat.le_of_ble_eq_true rfl) (Nat.le_of_ble_eq_true rfl) ?_
    obtain rfl : r3 = 1 := hp3.1
    refine lv_istore (lv' := [(6, .int 1), (0, .ref b), (1, .ref h0), (2, .ref mh0), (3, .ref o), (4, .ref od), (5, .int 0)]) hx hb dL_law_982 hl (by decide) rfl (fun ls hl => ?_)
    refine lv_aload_n hx hb dL_law_984 rfl (lv_at hl 3 rfl) ?_
    refine lv_aload_n hx hb dL_law_985 rfl (lv_at hl 1 rfl) ?_
    refine lv_iload hx hb dL_law_986 (lv_at hl 6 rfl) ?_
    refine lv_iconst (v := 1) hx hb dL_law_988 (by decide) ?_
    refine lv_iadd hx hb dL_law_989 ?_
    refine lv_topi (fun w5 ew5 => ?_)
    obtain rfl : w5 = 1 := ew5.trans (by decide)
    refine va_sld hx hb hX hbl hbA I.2.2.2.1 (by unfold vp_in; decide) dL_law_990 ?_
    refine lv_aload_n hx hb dL_law_991 rfl (lv_at hl 1 rfl) ?_
    refine lv_iload hx hb dL_law_992 (lv_at hl 6 rfl) ?_
    refine lv_iconst (v := 2) hx hb dL_law_994 (by decide) ?_
    refine lv_iadd hx hb dL_law_995 ?_
    refine lv_topi (fun w6 ew6 => ?_)
    obtain rfl : w6 = 2 := ew6.trans (by decide)
    refine va_sld hx hb hX hbl hbA I.2.2.2.1 (by unfold vp_in; decide) dL_law_996 ?_
    refine z_calli (wr := [(o, .inl (co, 1, .inr (.inl xf4)))]) (va_runV (As := [.int (xs (Int32.toNatClampNeg 1)), .int (xs (Int32.toNatClampNeg 2))]) (rest := []) ⟨hx, hb, hml, hown, hts⟩ (z_M_lowerAt l dC dI mxq1 mxq2 mxq3 mxq4 mxq5 mxq6 mxq7 mxq8 mxq9 mxq10 mxq11 mxq12 mxq13 mxq14 mxq15 mxq16 mxq17 mxq18 mxq19 mxq20 mxq21 mxq22 mxq23 mxq24 mxq25 mxq26 mxq27 mxq28 mxq29 mxq30 mxq31 mxq32 mxq33 mh0 (xs (Int32.toNatClampNeg 1)) (xs (Int32.toNatClampNeg 2))  H.size) (cwV 2 hts (z_gV z_T.l mw1609 mw1610 mw1611 mw10 mw1612) rfl rfl rfl (by decide +kernel) ⟨Nat.le_of_ble_eq_true rfl, Nat.le_of_ble_eq_true rfl⟩) (z_preV I [0] [] rfl rfl rfl rfl (ci := 9) (q0 := 0) rfl rfl) rfl rfl hl.1 rfl (lv_room (Nat.le_of_ble_eq_true rfl)) dL_law_997 ⟨Nat.le_of_ble_eq_true rfl, Nat.le_of_ble_eq_true rfl⟩) I [0] [1] rfl rfl (by decide) (by decide) (fun r7 u7 H locs hw7 I => ?_)
    obtain ⟨hu7, hp7⟩ := hw7
    subst hu7
    have I : z_I A dC dI [(o, .inl (co, 1, .inr (.inl xf4))), (mh0, .inr (9, [.int 1, .ref mxq1, .ref mxq2, .ref mxq3, .ref mxq4, .ref mxq5, .ref mxq6, .ref mxq7, .ref mxq8, .ref mxq9, .int 0, .int 0, .ref mxq10, .ref mxq11, .ref mxq12, .ref mxq13, .ref mxq14, .ref mxq15, .ref mxq16, .ref mxq17, .ref mxq18, .ref mxq19, .ref mxq20, .ref mxq21, .ref mxq22, .ref mxq23, .ref mxq24, .ref mxq25, .ref mxq26, .long 0, .int 0, .int 0, .int 0, .int 0, .int 0, .ref mxq27, .ref mxq28, .ref mxq29, .ref mxq30, .ref mxq31, .ref mxq32, .ref mxq33, .long 0]))] [(co, .long)] s H _ := I
    obtain rfl : r7 = 0 := hp7
    refine lv_istore (lv' := [(7, .int 0), (6, .int 1), (0, .ref b), (1, .ref h0), (2, .ref mh0), (3, .ref o), (4, .ref od), (5, .int 0)]) hx hb dL_law_1000 hl (by decide) rfl (fun ls hl => ?_)
    refine lv_aload_n hx hb dL_law_1002 rfl (lv_at hl 4 rfl) ?_
    refine z_calli (wr := [(o, .inl (co, 1, .inr (.inl xf4)))]) (va_runV (As := []) (rest := []) ⟨hx, hb, hml, hown, hts⟩ (z_M_thrown l dC dI 1 mxq1 mxq2 mxq3 mxq4 mxq5 mxq6 mxq7 mxq8 mxq9 0 0 mxq10 mxq11 mxq12 mxq13 mxq14 mxq15 mxq16 mxq17 mxq18 mxq19 mxq20 mxq21 mxq22 mxq23 mxq24 mxq25 mxq26 0 0 0 0 0 0 mxq27 mxq28 mxq29 mxq30 mxq31 mxq32 mxq33 0 mh0  H.size) (cwV 0 hts (z_gV z_T.l mw1391 mw1392 mw1393 mw10 mw1394) rfl rfl rfl (by decide +kernel) ⟨Nat.le_of_ble_eq_true rfl, Nat.le_of_ble_eq_true rfl⟩) (z_preV I [1] [] rfl rfl rfl rfl (ci := 9) (q0 := 1) rfl rfl) rfl rfl hl.1 rfl (lv_room (Nat.le_of_ble_eq_true rfl)) dL_law_1003 ⟨Nat.le_of_ble_eq_true rfl, Nat.le_of_ble_eq_true rfl⟩) I [1] [0] rfl rfl (by decide) (by decide) (fun r8 u8 H locs hw8 I => ?_)
    obtain ⟨hu8, hp8⟩ := hw8
    subst hu8
    have I : z_I A dC dI [(o, .inl (co, 1, .inr (.inl xf4))), (mh0, .inr (9, [.int 1, .ref mxq1, .ref mxq2, .ref mxq3, .ref mxq4, .ref mxq5, .ref mxq6, .ref mxq7, .ref mxq8, .ref mxq9, .int 0, .int 0, .ref mxq10, .ref mxq11, .ref mxq12, .ref mxq13, .ref mxq14, .ref mxq15, .ref mxq16, .ref mxq17, .ref mxq18, .ref mxq19, .ref mxq20, .ref mxq21, .ref mxq22, .ref mxq23, .ref mxq24, .ref mxq25, .ref mxq26, .long 0, .int 0, .int 0, .int 0, .int 0, .int 0, .ref mxq27, .ref mxq28, .ref mxq29, .ref mxq30, .ref mxq31, .ref mxq32, .ref mxq33, .long 0]))] [(co, .long)] s H _ := I
    obtain rfl : 1 = r8 := hp8.symm
    refine lv_iload hx hb dL_law_1006 (lv_at hl 1 rfl) ?_
    refine lv_icmp_eq (tgt := 1013) hx hb dL_law_1008 (by decide) (fun _ => ?_) (fun c9 => absurd c9 (by decide))
    refine lv_iload hx hb dL_law_1013 (lv_at hl 1 rfl) ?_
    refine lv_if_ne (tgt := 1030) hx hb dL_law_1015 (by decide) (fun _ => ?_) (fun c9 => absurd c9 (by decide))
    refine lv_goto (tgt := 2238) hx hb dL_law_1030 (by decide) ?_
    refine W.widen (k := 2000) (n := 9000) (Nat.le_of_ble_eq_true rfl) (Nat.le_of_ble_eq_true rfl) ?_
    exact K _ _ _ I.2.2.2.1 (lv_sub hl [2, 7] rfl)
set_option maxHeartbeats 4000000 in
set_option maxRecDepth 100000 in
theorem z_case_14 (l : Launch) (hst : l.stackTraces = false) (dC : Nat → ClassId) (dI : Nat → Nat → Nat) (xq1 : Nat) (xq2 : Nat) (xq3 : Nat) (xq4 : Nat) (xq5 : Nat) (xq6 : Nat) (xq7 : Nat) (xq8 : Nat) (h0 : Nat) (mxq1 : Nat) (mxq2 : Nat) (mxq3 : Nat) (mxq4 : Nat) (mxq5 : Nat) (mxq6 : Nat) (mxq7 : Nat) (mxq8 : Nat) (mxq9 : Nat) (mxq10 : Nat) (mxq11 : Nat) (mxq12 : Nat) (mxq13 : Nat) (mxq14 : Nat) (mxq15 : Nat) (mxq16 : Nat) (mxq17 : Nat) (mxq18 : Nat) (mxq19 : Nat) (mxq20 : Nat) (mxq21 : Nat) (mxq22 : Nat) (mxq23 : Nat) (mxq24 : Nat) (mxq25 : Nat) (mxq26 : Nat) (mxq27 : Nat) (mxq28 : Nat) (mxq29 : Nat) (mxq30 : Nat) (mxq31 : Nat) (mxq32 : Nat) (mxq33 : Nat) (mh0 : Nat) (o : Nat) (co : ClassId) (fo : Nat → Int64) (od : Nat) {p : Program} {e : Env} {s : State} {m : MethodId} {below : List Frame} {meth : Method} {c : Code} {b : Nat} {xs : Nat → Int32} {A : Nat → Prop} {Q : State → Prop} (hx : p.tables.exec = Jvm.exec) (hb : c.code = cL_law) (hml : c.maxLocals = 9) (hown : s.vm.findClass RL = some m.cls) (hts : ∀ w ∈ lw_tbl, w.before #[Value.ref b] s = true) (hX : va_X b 7 xs s s.heap) (hbl : b < s.heap.size) (hbA : ¬ A b) (K : z_LK p l e s m below meth c b A Q) {H : Heap} {locs : List Loc} {ls : Array Slot} (I : z_I A dC dI [(h0, .inr (8, [.ref xq1, .ref xq2])), (xq1, .inr (7, [.ref xq2, .ref xq3, .ref xq4, .ref xq5, .ref xq6, .ref xq7, .ref xq8, .int 0, .int 0, .int 0, .int 0, .int 0])), (mh0, .inr (9, [.int 0, .ref mxq1, .ref mxq2, .ref mxq3, .ref mxq4, .ref mxq5, .ref mxq6, .ref mxq7, .ref mxq8, .ref mxq9, .int 0, .int 0, .ref mxq10, .ref mxq11, .ref mxq12, .ref mxq13, .ref mxq14, .ref mxq15, .ref mxq16, .ref mxq17, .ref mxq18, .ref mxq19, .ref mxq20, .ref mxq21, .ref mxq22, .ref mxq23, .ref mxq24, .ref mxq25, .ref mxq26, .long 0, .int 0, .int 0, .int 0, .int 0, .int 0, .ref mxq27, .ref mxq28, .ref mxq29, .ref mxq30, .ref mxq31, .ref mxq32, .ref mxq33, .long 0])), (o, .inl (co, 1, .inr (.inl fo)))] [(co, .long)] s H locs) (hl : lv_has ls 9 [(0, .ref b), (1, .ref h0), (2, .ref mh0), (3, .ref o), (4, .ref od), (5, .int 0)]) : W p l e room_1 s m #[Value.ref b] below meth c H locs 1000 8000 Q (F0 m 1033 ls []) := by
  have hg : z_G #[Value.ref b] s := fun w hw _ => hts w hw
  refine lv_aload_n hx hb dL_law_1033 rfl (lv_at hl 1 rfl) ?_
  refine lv_aload_n hx hb dL_law_1034 rfl (lv_at hl 0 rfl) ?_
  refine lv_iload hx hb dL_law_1035 (lv_at hl 5 rfl) ?_
  refine lv_iconst (v := 1) hx hb dL_law_1037 (by decide) ?_
  refine lv_iadd hx hb dL_law_1038 ?_
  refine lv_topi (fun w1 ew1 => ?_)
  obtain rfl : w1 = 1 := ew1.trans (by decide)
  refine va_sld hx hb hX hbl hbA I.2.2.2.1 (by unfold vp_in; decide) dL_law_1039 ?_
  refine lv_aload_n hx hb dL_law_1040 rfl (lv_at hl 0 rfl) ?_
  refine lv_iload hx hb dL_law_1041 (lv_at hl 5 rfl) ?_
  refine lv_iconst (v := 2) hx hb dL_law_1043 (by decide) ?_
  refine lv_iadd hx hb dL_law_1044 ?_
  refine lv_topi (fun w2 ew2 => ?_)
  obtain rfl : w2 = 2 := ew2.trans (by decide)
  refine va_sld hx hb hX hbl hbA I.2.2.2.1 (by unfold vp_in; decide) dL_law_1045 ?_
  refine lv_aload_n hx hb dL_law_1046 rfl (lv_at hl 3 rfl) ?_
  refine z_xcalli (wr := [(mh0, .inr (9, [.int 0, .ref mxq1, .ref mxq2, .ref mxq3, .ref mxq4, .ref mxq5, .ref mxq6, .ref mxq7, .ref mxq8, .ref mxq9, .int 0, .int 0, .ref mxq10, .ref mxq11, .ref mxq12, .ref mxq13, .ref mxq14, .ref mxq15, .ref mxq16, .ref mxq17, .ref mxq18, .ref mxq19, .ref mxq20, .ref mxq21, .ref mxq22, .ref mxq23, .ref mxq24, .ref mxq25, .ref mxq26, .long 0, .int 0, .int 0, .int 0, .int 0, .int 0, .ref mxq27, .ref mxq28, .ref mxq29, .ref mxq30, .ref mxq31, .ref mxq32, .ref mxq33, .long 0]))]) (vx_runSX (As := [.ref h0, .int (xs (Int32.toNatClampNeg 1)), .int (xs (Int32.toNatClampNeg 2)), .ref o]) (rest := []) ⟨hx, hb, hml, hown, hts⟩ (z_L_upperAt l hst dC dI xq1 xq2 xq3 xq4 xq5 xq6 xq7 xq8 h0 o co fo (xs (Int32.toNatClampNeg 1)) (xs (Int32.toNatClampNeg 2))  H.size) (vx_cwSW 4 hts (z_gSh z_T.l mw935 mw936 mw0 mw937) rfl rfl rfl (by decide +kernel) ⟨Nat.le_of_ble_eq_true rfl, Nat.le_of_ble_eq_true rfl⟩) (z_pre I [0, 1, 3] [0] rfl rfl rfl rfl) rfl rfl hl.1 rfl (lv_room (Nat.le_of_ble_eq_true rfl)) dL_law_1047 ⟨Nat.le_of_ble_eq_true rfl, Nat.le_of_ble_eq_true rfl⟩) I [0, 1, 3] [2] rfl rfl (by decide) (by decide) (fun E3 ce3 q3 H locs hE3 I hcell hcv hcl => ?_) (fun r3 u3 H locs hw3 I => ?_)
  · skip
    have I : z_I A dC dI [(mh0, .inr (9, [.int 0, .ref mxq1, .ref mxq2, .ref mxq3, .ref mxq4, .ref mxq5, .ref mxq6, .ref mxq7, .ref mxq8, .ref mxq9, .int 0, .int 0, .ref mxq10, .ref mxq11, .ref mxq12, .ref mxq13, .ref mxq14, .ref mxq15, .ref mxq16, .ref mxq17, .ref mxq18, .ref mxq19, .ref mxq20, .ref mxq21, .ref mxq22, .ref mxq23, .ref mxq24, .ref mxq25, .ref mxq26, .long 0, .int 0, .int 0, .int 0, .int 0, .int 0, .ref mxq27, .ref mxq28, .ref mxq29, .ref mxq30, .ref mxq31, .ref mxq32, .ref mxq33, .long 0]))] [(co, .long)] s H _ := I
    exact False.elim hE3
  · skip
    obtain ⟨xf4, hu3, hp3⟩ := hw3
    subst hu3
    have I : z_I A dC dI [(mh0, .inr (9, [.int 0, .ref mxq1, .ref mxq2, .ref mxq3, .ref mxq4, .ref mxq5, .ref mxq6, .ref mxq7, .ref mxq8, .ref mxq9, .int 0, .int 0, .ref mxq10, .ref mxq11, .ref mxq12, .ref mxq13, .ref mxq14, .ref mxq15, .ref mxq16, .ref mxq17, .ref mxq18, .ref mxq19, .ref mxq20, .ref mxq21, .ref mxq22, .ref mxq23, .ref mxq24, .ref mxq25, .ref mxq26, .long 0, .int 0, .int 0, .int 0, .int 0, .int 0, .ref mxq27, .ref mxq28, .ref mxq29, .ref mxq30, .ref mxq31, .ref mxq32, .ref mxq33, .long 0])), (o, .inl (co, 1, .inr (.inl xf4)))] [(co, .long)] s H _ := I
    refine W.widen (k := 1001) (n := 8006) (Nat.le_of_ble_eq_true rfl) (Nat.le_of_ble_eq_true rfl) ?_
    obtain rfl : r3 = 1 := hp3.1
    refine lv_istore (lv' := [(6, .int 1), (0, .ref b), (1, .ref h0), (2, .ref mh0), (3, .ref o), (4, .ref od), (5, .int 0)]) hx hb dL_law_1050 hl (by decide) rfl (fun ls hl => ?_)
    refine lv_aload_n hx hb dL_law_1052 rfl (lv_at hl 3 rfl) ?_
    refine lv_aload_n hx hb dL_law_1053 rfl (lv_at hl 1 rfl) ?_
    refine lv_iload hx hb dL_law_1054 (lv_at hl 6 rfl) ?_
    refine lv_iconst (v := 1) hx hb dL_law_1056 (by decide) ?_
    refine lv_iadd hx hb dL_law_1057 ?_
    refine lv_topi (fun w5 ew5 => ?_)
    obtain rfl : w5 = 1 := ew5.trans (by decide)
    refine va_sld hx hb hX hbl hbA I.2.2.2.1 (by unfold vp_in; decide) dL_law_1058 ?_
    refine lv_aload_n hx hb dL_law_1059 rfl (lv_at hl 1 rfl) ?_
    refine lv_iload hx hb dL_law_1060 (lv_at hl 6 rfl) ?_
    refine lv_iconst (v := 2) hx hb dL_law_1062 (by decide) ?_
    refine lv_iadd hx hb dL_law_1063 ?_
    refine lv_topi (fun w6 ew6 => ?_)
    obtain rfl : w6 = 2 := ew6.trans (by decide)
    refine va_sld hx hb hX hbl hbA I.2.2.2.1 (by unfold vp_in; decide) dL_law_1064 ?_
    refine z_calli (wr := [(o, .inl (co, 1, .inr (.inl xf4)))]) (va_runV (As := [.int (xs (Int32.toNatClampNeg 1)), .int (xs (Int32.toNatClampNeg 2))]) (rest := []) ⟨hx, hb, hml, hown, hts⟩ (z_M_upperAt l dC dI mxq1 mxq2 mxq3 mxq4 mxq5 mxq6 mxq7 mxq8 mxq9 mxq10 mxq11 mxq12 mxq13 mxq14 mxq15 mxq16 mxq17 mxq18 mxq19 mxq20 mxq21 mxq22 mxq23 mxq24 mxq25 mxq26 mxq27 mxq28 mxq29 mxq30 mxq31 mxq32 mxq33 mh0 (xs (Int32.toNatClampNeg 1)) (xs (Int32.toNatClampNeg 2))  H.size) (cwV 2 hts (z_gV z_T.l mw1613 mw1614 mw1615 mw10 mw1616) rfl rfl rfl (by decide +kernel) ⟨Nat.le_of_ble_eq_true rfl, Nat.le_of_ble_eq_true rfl⟩) (z_preV I [0] [] rfl rfl rfl rfl (ci := 9) (q0 := 0) rfl rfl) rfl rfl hl.1 rfl (lv_room (Nat.le_of_ble_eq_true rfl)) dL_law_1065 ⟨Nat.le_of_ble_eq_true rfl, Nat.le_of_ble_eq_true rfl⟩) I [0] [1] rfl rfl (by decide) (by decide) (fun r7 u7 H locs hw7 I => ?_)
    obtain ⟨hu7, hp7⟩ := hw7
    subst hu7
    have I : z_I A dC dI [(o, .inl (co, 1, .inr (.inl xf4))), (mh0, .inr (9, [.int 1, .ref mxq1, .ref mxq2, .ref mxq3, .ref mxq4, .ref mxq5, .ref mxq6, .ref mxq7, .ref mxq8, .ref mxq9, .int 0, .int 0, .ref mxq10, .ref mxq11, .ref mxq12, .ref mxq13, .ref mxq14, .ref mxq15, .ref mxq16, .ref mxq17, .ref mxq18, .ref mxq19, .ref mxq20, .ref mxq21, .ref mxq22, .ref mxq23, .ref mxq24, .ref mxq25, .ref mxq26, .long 0, .int 0, .int 0, .int 0, .int 0, .int 0, .ref mxq27, .ref mxq28, .ref mxq29, .ref mxq30, .ref mxq31, .ref mxq32, .ref mxq33, .long 0]))] [(co, .long)] s H _ := I
    obtain rfl : r7 = 0 := hp7
    refine lv_istore (lv' := [(7, .int 0), (6, .int 1), (0, .ref b), (1, .ref h0), (2, .ref mh0), (3, .ref o), (4, .ref od), (5, .int 0)]) hx hb dL_law_1068 hl (by decide) rfl (fun ls hl => ?_)
    refine lv_aload_n hx hb dL_law_1070 rfl (lv_at hl 4 rfl) ?_
    refine z_calli (wr := [(o, .inl (co, 1, .inr (.inl xf4)))]) (va_runV (As := []) (rest := []) ⟨hx, hb, hml, hown, hts⟩ (z_M_thrown l dC dI 1 mxq1 mxq2 mxq3 mxq4 mxq5 mxq6 mxq7 mxq8 mxq9 0 0 mxq10 mxq11 mxq12 mxq13 mxq14 mxq15 mxq16 mxq17 mxq18 mxq19 mxq20 mxq21 mxq22 mxq23 mxq24 mxq25 mxq26 0 0 0 0 0 0 mxq27 mxq28 mxq29 mxq30 mxq31 mxq32 mxq33 0 mh0  H.size) (cwV 0 hts (z_gV z_T.l mw1391 mw1392 mw1393 mw10 mw1394) rfl rfl rfl (by decide +kernel) ⟨Nat.le_of_ble_eq_true rfl, Nat.le_of_ble_eq_true rfl⟩) (z_preV I [1] [] rfl rfl rfl rfl (ci := 9) (q0 := 1) rfl rfl) rfl rfl hl.1 rfl (lv_room (Nat.le_of_ble_eq_true rfl)) dL_law_1071 ⟨Nat.le_of_ble_eq_true rfl, Nat.le_of_ble_eq_true rfl⟩) I [1] [0] rfl rfl (by decide) (by decide) (fun r8 u8 H locs hw8 I => ?_)
    obtain ⟨hu8, hp8⟩ := hw8
    subst hu8
    have I : z_I A dC dI [(o, .inl (co, 1, .inr (.inl xf4))), (mh0, .inr (9, [.int 1, .ref mxq1, .ref mxq2, .ref mxq3, .ref mxq4, .ref mxq5, .ref mxq6, .ref mxq7, .ref mxq8, .ref mxq9, .int 0, .int 0, .ref mxq10, .ref mxq11, .ref mxq12, .ref mxq13, .ref mxq14, .ref mxq15, .ref mxq16, .ref mxq17, .ref mxq18, .ref mxq19, .ref mxq20, .ref mxq21, .ref mxq22, .ref mxq23, .ref mxq24, .ref mxq25, .ref mxq26, .long 0, .int 0, .int 0, .int 0, .int 0, .int 0, .ref mxq27, .ref mxq28, .ref mxq29, .ref mxq30, .ref mxq31, .ref mxq32, .ref mxq33, .long 0]))] [(co, .long)] s H _ := I
    obtain rfl : 1 = r8 := hp8.symm
    refine lv_iload hx hb dL_law_1074 (lv_at hl 1 rfl) ?_
    refine lv_icmp_eq (tgt := 1081) hx hb dL_law_1076 (by decide) (fun _ => ?_) (fun c9 => absurd c9 (by decide))
    refine lv_iload hx hb dL_law_1081 (lv_at hl 1 rfl) ?_
    refine lv_if_ne (tgt := 1098) hx hb dL_law_1083 (by decide) (fun _ => ?_) (fun c9 => absurd c9 (by decide))
    refine lv_goto (tgt := 2238) hx hb dL_law_1098 (by decide) ?_
    refine W.widen (k := 2000) (n := 9000) (Nat.le_of_ble_eq_true rfl) (Nat.le_of_ble_eq_true rfl) ?_
    exact K _ _ _ I.2.2.2.1 (lv_sub hl [2, 7] rfl)
set_option maxHeartbeats 4000000 in
set_option maxRecDepth 100000 in
theorem z_case_15 (l : Launch) (hst : l.stackTraces = false) (dC : Nat → ClassId) (dI : Nat → Nat → Nat) (xq1 : Nat) (xq2 : Nat) (xq3 : Nat) (xq4 : Nat) (xq5 : Nat) (xq6 : Nat) (xq7 : Nat) (xq8 : Nat) (h0 : Nat) (mxq1 : Nat) (mxq2 : Nat) (mxq3 : Nat) (mxq4 : Nat) (mxq5 : Nat) (mxq6 : Nat) (mxq7 : Nat) (mxq8 : Nat) (mxq9 : Nat) (mxq10 : Nat) (mxq11 : Nat) (mxq12 : Nat) (mxq13 : Nat) (mxq14 : Nat) (mxq15 : Nat) (mxq16 : Nat) (mxq17 : Nat) (mxq18 : Nat) (mxq19 : Nat) (mxq20 : Nat) (mxq21 : Nat) (mxq22 : Nat) (mxq23 : Nat) (mxq24 : Nat) (mxq25 : Nat) (mxq26 : Nat) (mxq27 : Nat) (mxq28 : Nat) (mxq29 : Nat) (mxq30 : Nat) (mxq31 : Nat) (mxq32 : Nat) (mxq33 : Nat) (mh0 : Nat) (o : Nat) (co : ClassId) (fo : Nat → Int64) (od : Nat) {p : Program} {e : Env} {s : State} {m : MethodId} {below : List Frame} {meth : Method} {c : Code} {b : Nat} {xs : Nat → Int32} {A : Nat → Prop} {Q : State → Prop} (hx : p.tables.exec = Jvm.exec) (hb : c.code = cL_law) (hml : c.maxLocals = 9) (hown : s.vm.findClass RL = some m.cls) (hts : ∀ w ∈ lw_tbl, w.before #[Value.ref b] s = true) (hX : va_X b 7 xs s s.heap) (hbl : b < s.heap.size) (hbA : ¬ A b) (K : z_LK p l e s m below meth c b A Q) {H : Heap} {locs : List Loc} {ls : Array Slot} (I : z_I A dC dI [(h0, .inr (8, [.ref xq1, .ref xq2])), (xq1, .inr (7, [.ref xq2, .ref xq3, .ref xq4, .ref xq5, .ref xq6, .ref xq7, .ref xq8, .int 0, .int 0, .int 0, .int 0, .int 0])), (mh0, .inr (9, [.int 0, .ref mxq1, .ref mxq2, .ref mxq3, .ref mxq4, .ref mxq5, .ref mxq6, .ref mxq7, .ref mxq8, .ref mxq9, .int 0, .int 0, .ref mxq10, .ref mxq11, .ref mxq12, .ref mxq13, .ref mxq14, .ref mxq15, .ref mxq16, .ref mxq17, .ref mxq18, .ref mxq19, .ref mxq20, .ref mxq21, .ref mxq22, .ref mxq23, .ref mxq24, .ref mxq25, .ref mxq26, .long 0, .int 0, .int 0, .int 0, .int 0, .int 0, .ref mxq27, .ref mxq28, .ref mxq29, .ref mxq30, .ref mxq31, .ref mxq32, .ref mxq33, .long 0])), (o, .inl (co, 1, .inr (.inl fo)))] [(co, .long)] s H locs) (hl : lv_has ls 9 [(0, .ref b), (1, .ref h0), (2, .ref mh0), (3, .ref o), (4, .ref od), (5, .int 0)]) : W p l e room_1 s m #[Value.ref b] below meth c H locs 1000 8000 Q (F0 m 1101 ls []) := by
  have hg : z_G #[Value.ref b] s := fun w hw _ => hts w hw
  refine lv_aload_n hx hb dL_law_1101 rfl (lv_at hl 1 rfl) ?_
  refine lv_aload_n hx hb dL_law_1102 rfl (lv_at hl 0 rfl) ?_
  refine lv_iload hx hb dL_law_1103 (lv_at hl 5 rfl) ?_
  refine lv_iconst (v := 1) hx hb dL_law_1105 (by decide) ?_
  refine lv_iadd hx hb dL_law_1106 ?_
  refine lv_topi (fun w1 ew1 => ?_)
  obtain rfl : w1 = 1 := ew1.trans (by decide)
  refine va_sld hx hb hX hbl hbA I.2.2.2.1 (by unfold vp_in; decide) dL_law_1107 ?_
  refine lv_aload_n hx hb dL_law_1108 rfl (lv_at hl 3 rfl) ?_
  refine z_xcalli (wr := [(mh0, .inr (9, [.int 0, .ref mxq1, .ref mxq2, .ref mxq3, .ref mxq4, .ref mxq5, .ref mxq6, .ref mxq7, .ref mxq8, .ref mxq9, .int 0, .int 0, .ref mxq10, .ref mxq11, .ref mxq12, .ref mxq13, .ref mxq14, .ref mxq15, .ref mxq16, .ref mxq17, .ref mxq18, .ref mxq19, .ref mxq20, .ref mxq21, .ref mxq22, .ref mxq23, .ref mxq24, .ref mxq25, .ref mxq26, .long 0, .int 0, .int 0, .int 0, .int 0, .int 0, .ref mxq27, .ref mxq28, .ref mxq29, .ref mxq30, .ref mxq31, .ref mxq32, .ref mxq33, .long 0]))]) (vx_runSX (As := [.ref h0, .int (xs (Int32.toNatClampNeg 1)), .ref o]) (rest := []) ⟨hx, hb, hml, hown, hts⟩ (z_L_value l hst dC dI xq1 xq2 xq3 xq4 xq5 xq6 xq7 xq8 h0 o co fo (xs (Int32.toNatClampNeg 1))  H.size) (vx_cwSW 3 hts (z_gSh z_T.l mw942 mw943 mw0 mw944) rfl rfl rfl (by decide +kernel) ⟨Nat.le_of_ble_eq_true rfl, Nat.le_of_ble_eq_true rfl⟩) (z_pre I [0, 1, 3] [0] rfl rfl rfl rfl) rfl rfl hl.1 rfl (lv_room (Nat.le_of_ble_eq_true rfl)) dL_law_1109 ⟨Nat.le_of_ble_eq_true rfl, Nat.le_of_ble_eq_true rfl⟩) I [0, 1, 3] [2] rfl rfl (by decide) (by decide) (fun E2 ce2 q2 H locs hE2 I hcell hcv hcl => ?_) (fun r2 u2 H locs hw2 I => ?_)
  · skip
    have I : z_I A dC dI [(mh0, .inr (9, [.int 0, .ref mxq1, .ref mxq2, .ref mxq3, .ref mxq4, .ref mxq5, .ref mxq6, .ref mxq7, .ref mxq8, .ref mxq9, .int 0, .int 0, .ref mxq10, .ref mxq11, .ref mxq12, .ref mxq13, .ref mxq14, .ref mxq15, .ref mxq16, .ref mxq17, .ref mxq18, .ref mxq19, .ref mxq20, .ref mxq21, .ref mxq22, .ref mxq23, .ref mxq24, .ref mxq25, .ref mxq26, .long 0, .int 0, .int 0, .int 0, .int 0, .int 0, .ref mxq27, .ref mxq28, .ref mxq29, .ref mxq30, .ref mxq31, .ref mxq32, .ref mxq33, .long 0]))] [(co, .long)] s H _ := I
    exact False.elim hE2
  · skip
    obtain ⟨xf3, hu2, hp2⟩ := hw2
    subst hu2
    have I : z_I A dC dI [(mh0, .inr (9, [.int 0, .ref mxq1, .ref mxq2, .ref mxq3, .ref mxq4, .ref mxq5, .ref mxq6, .ref mxq7, .ref mxq8, .ref mxq9, .int 0, .int 0, .ref mxq10, .ref mxq11, .ref mxq12, .ref mxq13, .ref mxq14, .ref mxq15, .ref mxq16, .ref mxq17, .ref mxq18, .ref mxq19, .ref mxq20, .ref mxq21, .ref mxq22, .ref mxq23, .ref mxq24, .ref mxq25, .ref mxq26, .long 0, .int 0, .int 0, .int 0, .int 0, .int 0, .ref mxq27, .ref mxq28, .ref mxq29, .ref mxq30, .ref mxq31, .ref mxq32, .ref mxq33, .long 0])), (o, .inl (co, 1, .inr (.inl xf3)))] [(co, .long)] s H _ := I
    refine W.widen (k := 1001) (n := 8006) (Nat.le_of_ble_eq_true rfl) (Nat.le_of_ble_eq_true rfl) ?_
    obtain rfl : r2 = 1 := hp2.1
    refine lv_istore (lv' := [(6, .int 1), (0, .ref b), (1, .ref h0), (2, .ref mh0), (3, .ref o), (4, .ref od), (5, .int 0)]) hx hb dL_law_1112 hl (by decide) rfl (fun ls hl => ?_)
    refine lv_aload_n hx hb dL_law_1114 rfl (lv_at hl 3 rfl) ?_
    refine lv_aload_n hx hb dL_law_1115 rfl (lv_at hl 1 rfl) ?_
    refine lv_iload hx hb dL_law_1116 (lv_at hl 6 rfl) ?_
    refine lv_iconst (v := 1) hx hb dL_law_1118 (by decide) ?_
    refine lv_iadd hx hb dL_law_1119 ?_
    refine lv_topi (fun w4 ew4 => ?_)
    obtain rfl : w4 = 1 := ew4.trans (by decide)
    refine va_sld hx hb hX hbl hbA I.2.2.2.1 (by unfold vp_in; decide) dL_law_1120 ?_
    refine z_calll (wr := [(o, .inl (co, 1, .inr (.inl xf3)))]) (va_runV (As := [.int (xs (Int32.toNatClampNeg 1))]) (rest := []) ⟨hx, hb, hml, hown, hts⟩ (z_M_value l dC dI mxq1 mxq2 mxq3 mxq4 mxq5 mxq6 mxq7 mxq8 mxq9 mxq10 mxq11 mxq12 mxq13 mxq14 mxq15 mxq16 mxq17 mxq18 mxq19 mxq20 mxq21 mxq22 mxq23 mxq24 mxq25 mxq26 mxq27 mxq28 mxq29 mxq30 mxq31 mxq32 mxq33 mh0 (xs (Int32.toNatClampNeg 1))  H.size) (cwV 1 hts (z_gV z_T.l mw1617 mw1618 mw1619 mw10 mw1620) rfl rfl rfl (by decide +kernel) ⟨Nat.le_of_ble_eq_true rfl, Nat.le_of_ble_eq_true rfl⟩) (z_preV I [0] [] rfl rfl rfl rfl (ci := 9) (q0 := 0) rfl rfl) rfl rfl hl.1 rfl (lv_room (Nat.le_of_ble_eq_true rfl)) dL_law_1121 ⟨Nat.le_of_ble_eq_true rfl, Nat.le_of_ble_eq_true rfl⟩) I [0] [1] rfl rfl (by decide) (by decide) (fun r5 u5 H locs hw5 I => ?_)
    obtain ⟨hu5, hp5⟩ := hw5
    subst hu5
    have I : z_I A dC dI [(o, .inl (co, 1, .inr (.inl xf3))), (mh0, .inr (9, [.int 1, .ref mxq1, .ref mxq2, .ref mxq3, .ref mxq4, .ref mxq5, .ref mxq6, .ref mxq7, .ref mxq8, .ref mxq9, .int 0, .int 0, .ref mxq10, .ref mxq11, .ref mxq12, .ref mxq13, .ref mxq14, .ref mxq15, .ref mxq16, .ref mxq17, .ref mxq18, .ref mxq19, .ref mxq20, .ref mxq21, .ref mxq22, .ref mxq23, .ref mxq24, .ref mxq25, .ref mxq26, .long 0, .int 0, .int 0, .int 0, .int 0, .int 0, .ref mxq27, .ref mxq28, .ref mxq29, .ref mxq30, .ref mxq31, .ref mxq32, .ref mxq33, .long 0]))] [(co, .long)] s H _ := I
    obtain rfl : r5 = 0 := hp5
    refine lv_lstore (lv' := [(7, .long 0), (6, .int 1), (0, .ref b), (1, .ref h0), (2, .ref mh0), (3, .ref o), (4, .ref od), (5, .int 0)]) hx hb dL_law_1124 hl (by decide) rfl (fun ls hl => ?_)
    refine lv_aload_n hx hb dL_law_1126 rfl (lv_at hl 4 rfl) ?_
    refine z_calli (wr := [(o, .inl (co, 1, .inr (.inl xf3)))]) (va_runV (As := []) (rest := []) ⟨hx, hb, hml, hown, hts⟩ (z_M_thrown l dC dI 1 mxq1 mxq2 mxq3 mxq4 mxq5 mxq6 mxq7 mxq8 mxq9 0 0 mxq10 mxq11 mxq12 mxq13 mxq14 mxq15 mxq16 mxq17 mxq18 mxq19 mxq20 mxq21 mxq22 mxq23 mxq24 mxq25 mxq26 0 0 0 0 0 0 mxq27 mxq28 mxq29 mxq30 mxq31 mxq32 mxq33 0 mh0  H.size) (cwV 0 hts (z_gV z_T.l mw1391 mw1392 mw1393 mw10 mw1394) rfl rfl rfl (by decide +kernel) ⟨Nat.le_of_ble_eq_true rfl, Nat.le_of_ble_eq_true rfl⟩) (z_preV I [1] [] rfl rfl rfl rfl (ci := 9) (q0 := 1) rfl rfl) rfl rfl hl.1 rfl (lv_room (Nat.le_of_ble_eq_true rfl)) dL_law_1127 ⟨Nat.le_of_ble_eq_true rfl, Nat.le_of_ble_eq_true rfl⟩) I [1] [0] rfl rfl (by decide) (by decide) (fun r6 u6 H locs hw6 I => ?_)
    obtain ⟨hu6, hp6⟩ := hw6
    subst hu6
    have I : z_I A dC dI [(o, .inl (co, 1, .inr (.inl xf3))), (mh0, .inr (9, [.int 1, .ref mxq1, .ref mxq2, .ref mxq3, .ref mxq4, .ref mxq5, .ref mxq6, .ref mxq7, .ref mxq8, .ref mxq9, .int 0, .int 0, .ref mxq10, .ref mxq11, .ref mxq12, .ref mxq13, .ref mxq14, .ref mxq15, .ref mxq16, .ref mxq17, .ref mxq18, .ref mxq19, .ref mxq20, .ref mxq21, .ref mxq22, .ref mxq23, .ref mxq24, .ref mxq25, .ref mxq26, .long 0, .int 0, .int 0, .int 0, .int 0, .int 0, .ref mxq27, .ref mxq28, .ref mxq29, .ref mxq30, .ref mxq31, .ref mxq32, .ref mxq33, .long 0]))] [(co, .long)] s H _ := I
    obtain rfl : 1 = r6 := hp6.symm
    refine lv_iload hx hb dL_law_1130 (lv_at hl 1 rfl) ?_
    refine lv_icmp_eq (tgt := 1137) hx hb dL_law_1132 (by decide) (fun _ => ?_) (fun c9 => absurd c9 (by decide))
    refine lv_iload hx hb dL_law_1137 (lv_at hl 1 rfl) ?_
    refine lv_if_ne (tgt := 1153) hx hb dL_law_1139 (by decide) (fun _ => ?_) (fun c9 => absurd c9 (by decide))
    refine lv_goto (tgt := 2238) hx hb dL_law_1153 (by decide) ?_
    refine W.widen (k := 2000) (n := 9000) (Nat.le_of_ble_eq_true rfl) (Nat.le_of_ble_eq_true rfl) ?_
    exact K _ _ _ I.2.2.2.1 (lv_sub hl [2, 7] rfl)
set_option maxHeartbeats 4000000 in
set_option maxRecDepth 100000 in
theorem z_case_16 (l : Launch) (hst : l.stackTraces = false) (dC : Nat → ClassId) (dI : Nat → Nat → Nat) (xq1 : Nat) (xq2 : Nat) (xq3 : Nat) (xq4 : Nat) (xq5 : Nat) (xq6 : Nat) (xq7 : Nat) (xq8 : Nat) (h0 : Nat) (mxq1 : Nat) (mxq2 : Nat) (mxq3 : Nat) (mxq4 : Nat) (mxq5 : Nat) (mxq6 : Nat) (mxq7 : Nat) (mxq8 : Nat) (mxq9 : Nat) (mxq10 : Nat) (mxq11 : Nat) (mxq12 : Nat) (mxq13 : Nat) (mxq14 : Nat) (mxq15 : Nat) (mxq16 : Nat) (mxq17 : Nat) (mxq18 : Nat) (mxq19 : Nat) (mxq20 : Nat) (mxq21 : Nat) (mxq22 : Nat) (mxq23 : Nat) (mxq24 : Nat) (mxq25 : Nat) (mxq26 : Nat) (mxq27 : Nat) (mxq28 : Nat) (mxq29 : Nat) (mxq30 : Nat) (mxq31 : Nat) (mxq32 : Nat) (mxq33 : Nat) (mh0 : Nat) (o : Nat) (co : ClassId) (fo : Nat → Int64) (od : Nat) {p : Program} {e : Env} {s : State} {m : MethodId} {below : List Frame} {meth : Method} {c : Code} {b : Nat} {xs : Nat → Int32} {A : Nat → Prop} {Q : State → Prop} (hx : p.tables.exec = Jvm.exec) (hb : c.code = cL_law) (hml : c.maxLocals = 9) (hown : s.vm.findClass RL = some m.cls) (hts : ∀ w ∈ lw_tbl, w.before #[Value.ref b] s = true) (hX : va_X b 7 xs s s.heap) (hbl : b < s.heap.size) (hbA : ¬ A b) (K : z_LK p l e s m below meth c b A Q) {H : Heap} {locs : List Loc} {ls : Array Slot} (I : z_I A dC dI [(h0, .inr (8, [.ref xq1, .ref xq2])), (xq1, .inr (7, [.ref xq2, .ref xq3, .ref xq4, .ref xq5, .ref xq6, .ref xq7, .ref xq8, .int 0, .int 0, .int 0, .int 0, .int 0])), (mh0, .inr (9, [.int 0, .ref mxq1, .ref mxq2, .ref mxq3, .ref mxq4, .ref mxq5, .ref mxq6, .ref mxq7, .ref mxq8, .ref mxq9, .int 0, .int 0, .ref mxq10, .ref mxq11, .ref mxq12, .ref mxq13, .ref mxq14, .ref mxq15, .ref mxq16, .ref mxq17, .ref mxq18, .ref mxq19, .ref mxq20, .ref mxq21, .ref mxq22, .ref mxq23, .ref mxq24, .ref mxq25, .ref mxq26, .long 0, .int 0, .int 0, .int 0, .int 0, .int 0, .ref mxq27, .ref mxq28, .ref mxq29, .ref mxq30, .ref mxq31, .ref mxq32, .ref mxq33, .long 0])), (o, .inl (co, 1, .inr (.inl fo)))] [(co, .long)] s H locs) (hl : lv_has ls 9 [(0, .ref b), (1, .ref h0), (2, .ref mh0), (3, .ref o), (4, .ref od), (5, .int 0)]) : W p l e room_1 s m #[Value.ref b] below meth c H locs 1000 8000 Q (F0 m 1156 ls []) := by
  have hg : z_G #[Value.ref b] s := fun w hw _ => hts w hw
  refine lv_aload_n hx hb dL_law_1156 rfl (lv_at hl 1 rfl) ?_
  refine lv_aload_n hx hb dL_law_1157 rfl (lv_at hl 0 rfl) ?_
  refine lv_iload hx hb dL_law_1158 (lv_at hl 5 rfl) ?_
  refine lv_iconst (v := 1) hx hb dL_law_1160 (by decide) ?_
  refine lv_iadd hx hb dL_law_1161 ?_
  refine lv_topi (fun w1 ew1 => ?_)
  obtain rfl : w1 = 1 := ew1.trans (by decide)
  refine va_sld hx hb hX hbl hbA I.2.2.2.1 (by unfold vp_in; decide) dL_law_1162 ?_
  refine lv_aload_n hx hb dL_law_1163 rfl (lv_at hl 0 rfl) ?_
  refine lv_iload hx hb dL_law_1164 (lv_at hl 5 rfl) ?_
  refine lv_iconst (v := 2) hx hb dL_law_1166 (by decide) ?_
  refine lv_iadd hx hb dL_law_1167 ?_
  refine lv_topi (fun w2 ew2 => ?_)
  obtain rfl : w2 = 2 := ew2.trans (by decide)
  refine va_sld hx hb hX hbl hbA I.2.2.2.1 (by unfold vp_in; decide) dL_law_1168 ?_
  refine lv_aload_n hx hb dL_law_1169 rfl (lv_at hl 3 rfl) ?_
  refine z_xcalli (wr := [(mh0, .inr (9, [.int 0, .ref mxq1, .ref mxq2, .ref mxq3, .ref mxq4, .ref mxq5, .ref mxq6, .ref mxq7, .ref mxq8, .ref mxq9, .int 0, .int 0, .ref mxq10, .ref mxq11, .ref mxq12, .ref mxq13, .ref mxq14, .ref mxq15, .ref mxq16, .ref mxq17, .ref mxq18, .ref mxq19, .ref mxq20, .ref mxq21, .ref mxq22, .ref mxq23, .ref mxq24, .ref mxq25, .ref mxq26, .long 0, .int 0, .int 0, .int 0, .int 0, .int 0, .ref mxq27, .ref mxq28, .ref mxq29, .ref mxq30, .ref mxq31, .ref mxq32, .ref mxq33, .long 0]))]) (vx_runSX (As := [.ref h0, .int (xs (Int32.toNatClampNeg 1)), .int (xs (Int32.toNatClampNeg 2)), .ref o]) (rest := []) ⟨hx, hb, hml, hown, hts⟩ (z_L_point l hst dC dI xq1 xq2 xq3 xq4 xq5 xq6 xq7 xq8 h0 o co fo (xs (Int32.toNatClampNeg 1)) (xs (Int32.toNatClampNeg 2))  H.size) (vx_cwSW 4 hts (z_gSh z_T.l mw965 mw966 mw0 mw967) rfl rfl rfl (by decide +kernel) ⟨Nat.le_of_ble_eq_true rfl, Nat.le_of_ble_eq_true rfl⟩) (z_pre I [0, 1, 3] [0] rfl rfl rfl rfl) rfl rfl hl.1 rfl (lv_room (Nat.le_of_ble_eq_true rfl)) dL_law_1170 ⟨Nat.le_of_ble_eq_true rfl, Nat.le_of_ble_eq_true rfl⟩) I [0, 1, 3] [2] rfl rfl (by decide) (by decide) (fun E3 ce3 q3 H locs hE3 I hcell hcv hcl => ?_) (fun r3 u3 H locs hw3 I => ?_)
  · skip
    have I : z_I A dC dI [(mh0, .inr (9, [.int 0, .ref mxq1, .ref mxq2, .ref mxq3, .ref mxq4, .ref mxq5, .ref mxq6, .ref mxq7, .ref mxq8, .ref mxq9, .int 0, .int 0, .ref mxq10, .ref mxq11, .ref mxq12, .ref mxq13, .ref mxq14, .ref mxq15, .ref mxq16, .ref mxq17, .ref mxq18, .ref mxq19, .ref mxq20, .ref mxq21, .ref mxq22, .ref mxq23, .ref mxq24, .ref mxq25, .ref mxq26, .long 0, .int 0, .int 0, .int 0, .int 0, .int 0, .ref mxq27, .ref mxq28, .ref mxq29, .ref mxq30, .ref mxq31, .ref mxq32, .ref mxq33, .long 0]))] [(co, .long)] s H _ := I
    exact False.elim hE3
  · skip
    obtain ⟨xf4, hu3, hp3⟩ := hw3
    subst hu3
    have I : z_I A dC dI [(mh0, .inr (9, [.int 0, .ref mxq1, .ref mxq2, .ref mxq3, .ref mxq4, .ref mxq5, .ref mxq6, .ref mxq7, .ref mxq8, .ref mxq9, .int 0, .int 0, .ref mxq10, .ref mxq11, .ref mxq12, .ref mxq13, .ref mxq14, .ref mxq15, .ref mxq16, .ref mxq17, .ref mxq18, .ref mxq19, .ref mxq20, .ref mxq21, .ref mxq22, .ref mxq23, .ref mxq24, .ref mxq25, .ref mxq26, .long 0, .int 0, .int 0, .int 0, .int 0, .int 0, .ref mxq27, .ref mxq28, .ref mxq29, .ref mxq30, .ref mxq31, .ref mxq32, .ref mxq33, .long 0])), (o, .inl (co, 1, .inr (.inl xf4)))] [(co, .long)] s H _ := I
    refine W.widen (k := 1001) (n := 8006) (Nat.le_of_ble_eq_true rfl) (Nat.le_of_ble_eq_true rfl) ?_
    obtain rfl : r3 = 1 := hp3.1
    refine lv_istore (lv' := [(6, .int 1), (0, .ref b), (1, .ref h0), (2, .ref mh0), (3, .ref o), (4, .ref od), (5, .int 0)]) hx hb dL_law_1173 hl (by decide) rfl (fun ls hl => ?_)
    refine lv_aload_n hx hb dL_law_1175 rfl (lv_at hl 3 rfl) ?_
    refine lv_aload_n hx hb dL_law_1176 rfl (lv_at hl 1 rfl) ?_
    refine lv_iload hx hb dL_law_1177 (lv_at hl 6 rfl) ?_
    refine lv_iconst (v := 1) hx hb dL_law_1179 (by decide) ?_
    refine lv_iadd hx hb dL_law_1180 ?_
    refine lv_topi (fun w5 ew5 => ?_)
    obtain rfl : w5 = 1 := ew5.trans (by decide)
    refine va_sld hx hb hX hbl hbA I.2.2.2.1 (by unfold vp_in; decide) dL_law_1181 ?_
    refine lv_aload_n hx hb dL_law_1182 rfl (lv_at hl 1 rfl) ?_
    refine lv_iload hx hb dL_law_1183 (lv_at hl 6 rfl) ?_
    refine lv_iconst (v := 2) hx hb dL_law_1185 (by decide) ?_
    refine lv_iadd hx hb dL_law_1186 ?_
    refine lv_topi (fun w6 ew6 => ?_)
    obtain rfl : w6 = 2 := ew6.trans (by decide)
    refine va_sld hx hb hX hbl hbA I.2.2.2.1 (by unfold vp_in; decide) dL_law_1187 ?_
    refine z_calll (wr := [(o, .inl (co, 1, .inr (.inl xf4)))]) (va_runV (As := [.int (xs (Int32.toNatClampNeg 1)), .int (xs (Int32.toNatClampNeg 2))]) (rest := []) ⟨hx, hb, hml, hown, hts⟩ (z_M_point l dC dI mxq1 mxq2 mxq3 mxq4 mxq5 mxq6 mxq7 mxq8 mxq9 mxq10 mxq11 mxq12 mxq13 mxq14 mxq15 mxq16 mxq17 mxq18 mxq19 mxq20 mxq21 mxq22 mxq23 mxq24 mxq25 mxq26 mxq27 mxq28 mxq29 mxq30 mxq31 mxq32 mxq33 mh0 (xs (Int32.toNatClampNeg 1)) (xs (Int32.toNatClampNeg 2))  H.size) (cwV 2 hts (z_gV z_T.l mw1629 mw1630 mw1631 mw10 mw1632) rfl rfl rfl (by decide +kernel) ⟨Nat.le_of_ble_eq_true rfl, Nat.le_of_ble_eq_true rfl⟩) (z_preV I [0] [] rfl rfl rfl rfl (ci := 9) (q0 := 0) rfl rfl) rfl rfl hl.1 rfl (lv_room (Nat.le_of_ble_eq_true rfl)) dL_law_1188 ⟨Nat.le_of_ble_eq_true rfl, Nat.le_of_ble_eq_true rfl⟩) I [0] [1] rfl rfl (by decide) (by decide) (fun r7 u7 H locs hw7 I => ?_)
    obtain ⟨hu7, hp7⟩ := hw7
    subst hu7
    have I : z_I A dC dI [(o, .inl (co, 1, .inr (.inl xf4))), (mh0, .inr (9, [.int 1, .ref mxq1, .ref mxq2, .ref mxq3, .ref mxq4, .ref mxq5, .ref mxq6, .ref mxq7, .ref mxq8, .ref mxq9, .int 0, .int 0, .ref mxq10, .ref mxq11, .ref mxq12, .ref mxq13, .ref mxq14, .ref mxq15, .ref mxq16, .ref mxq17, .ref mxq18, .ref mxq19, .ref mxq20, .ref mxq21, .ref mxq22, .ref mxq23, .ref mxq24, .ref mxq25, .ref mxq26, .long 0, .int 0, .int 0, .int 0, .int 0, .int 0, .ref mxq27, .ref mxq28, .ref mxq29, .ref mxq30, .ref mxq31, .ref mxq32, .ref mxq33, .long 0]))] [(co, .long)] s H _ := I
    obtain rfl : r7 = 0 := hp7
    refine lv_lstore (lv' := [(7, .long 0), (6, .int 1), (0, .ref b), (1, .ref h0), (2, .ref mh0), (3, .ref o), (4, .ref od), (5, .int 0)]) hx hb dL_law_1191 hl (by decide) rfl (fun ls hl => ?_)
    refine lv_aload_n hx hb dL_law_1193 rfl (lv_at hl 4 rfl) ?_
    refine z_calli (wr := [(o, .inl (co, 1, .inr (.inl xf4)))]) (va_runV (As := []) (rest := []) ⟨hx, hb, hml, hown, hts⟩ (z_M_thrown l dC dI 1 mxq1 mxq2 mxq3 mxq4 mxq5 mxq6 mxq7 mxq8 mxq9 0 0 mxq10 mxq11 mxq12 mxq13 mxq14 mxq15 mxq16 mxq17 mxq18 mxq19 mxq20 mxq21 mxq22 mxq23 mxq24 mxq25 mxq26 0 0 0 0 0 0 mxq27 mxq28 mxq29 mxq30 mxq31 mxq32 mxq33 0 mh0  H.size) (cwV 0 hts (z_gV z_T.l mw1391 mw1392 mw1393 mw10 mw1394) rfl rfl rfl (by decide +kernel) ⟨Nat.le_of_ble_eq_true rfl, Nat.le_of_ble_eq_true rfl⟩) (z_preV I [1] [] rfl rfl rfl rfl (ci := 9) (q0 := 1) rfl rfl) rfl rfl hl.1 rfl (lv_room (Nat.le_of_ble_eq_true rfl)) dL_law_1194 ⟨Nat.le_of_ble_eq_true rfl, Nat.le_of_ble_eq_true rfl⟩) I [1] [0] rfl rfl (by decide) (by decide) (fun r8 u8 H locs hw8 I => ?_)
    obtain ⟨hu8, hp8⟩ := hw8
    subst hu8
    have I : z_I A dC dI [(o, .inl (co, 1, .inr (.inl xf4))), (mh0, .inr (9, [.int 1, .ref mxq1, .ref mxq2, .ref mxq3, .ref mxq4, .ref mxq5, .ref mxq6, .ref mxq7, .ref mxq8, .ref mxq9, .int 0, .int 0, .ref mxq10, .ref mxq11, .ref mxq12, .ref mxq13, .ref mxq14, .ref mxq15, .ref mxq16, .ref mxq17, .ref mxq18, .ref mxq19, .ref mxq20, .ref mxq21, .ref mxq22, .ref mxq23, .ref mxq24, .ref mxq25, .ref mxq26, .long 0, .int 0, .int 0, .int 0, .int 0, .int 0, .ref mxq27, .ref mxq28, .ref mxq29, .ref mxq30, .ref mxq31, .ref mxq32, .ref mxq33, .long 0]))] [(co, .long)] s H _ := I
    obtain rfl : 1 = r8 := hp8.symm
    refine lv_iload hx hb dL_law_1197 (lv_at hl 1 rfl) ?_
    refine lv_icmp_eq (tgt := 1204) hx hb dL_law_1199 (by decide) (fun _ => ?_) (fun c9 => absurd c9 (by decide))
    refine lv_iload hx hb dL_law_1204 (lv_at hl 1 rfl) ?_
    refine lv_if_ne (tgt := 1220) hx hb dL_law_1206 (by decide) (fun _ => ?_) (fun c9 => absurd c9 (by decide))
    refine lv_goto (tgt := 2238) hx hb dL_law_1220 (by decide) ?_
    refine W.widen (k := 2000) (n := 9000) (Nat.le_of_ble_eq_true rfl) (Nat.le_of_ble_eq_true rfl) ?_
    exact K _ _ _ I.2.2.2.1 (lv_sub hl [2, 7] rfl)
set_option maxHeartbeats 4000000 in
set_option maxRecDepth 100000 in
theorem z_case_17 (l : Launch) (hst : l.stackTraces = false) (dC : Nat → ClassId) (dI : Nat → Nat → Nat) (xq1 : Nat) (xq2 : Nat) (xq3 : Nat) (xq4 : Nat) (xq5 : Nat) (xq6 : Nat) (xq7 : Nat) (xq8 : Nat) (h0 : Nat) (mxq1 : Nat) (mxq2 : Nat) (mxq3 : Nat) (mxq4 : Nat) (mxq5 : Nat) (mxq6 : Nat) (mxq7 : Nat) (mxq8 : Nat) (mxq9 : Nat) (mxq10 : Nat) (mxq11 : Nat) (mxq12 : Nat) (mxq13 : Nat) (mxq14 : Nat) (mxq15 : Nat) (mxq16 : Nat) (mxq17 : Nat) (mxq18 : Nat) (mxq19 : Nat) (mxq20 : Nat) (mxq21 : Nat) (mxq22 : Nat) (mxq23 : Nat) (mxq24 : Nat) (mxq25 : Nat) (mxq26 : Nat) (mxq27 : Nat) (mxq28 : Nat) (mxq29 : Nat) (mxq30 : Nat) (mxq31 : Nat) (mxq32 : Nat) (mxq33 : Nat) (mh0 : Nat) (o : Nat) (co : ClassId) (fo : Nat → Int64) (od : Nat) {p : Program} {e : Env} {s : State} {m : MethodId} {below : List Frame} {meth : Method} {c : Code} {b : Nat} {xs : Nat → Int32} {A : Nat → Prop} {Q : State → Prop} (hx : p.tables.exec = Jvm.exec) (hb : c.code = cL_law) (hml : c.maxLocals = 9) (hown : s.vm.findClass RL = some m.cls) (hts : ∀ w ∈ lw_tbl, w.before #[Value.ref b] s = true) (hX : va_X b 7 xs s s.heap) (hbl : b < s.heap.size) (hbA : ¬ A b) (K : z_LK p l e s m below meth c b A Q) {H : Heap} {locs : List Loc} {ls : Array Slot} (I : z_I A dC dI [(h0, .inr (8, [.ref xq1, .ref xq2])), (xq1, .inr (7, [.ref xq2, .ref xq3, .ref xq4, .ref xq5, .ref xq6, .ref xq7, .ref xq8, .int 0, .int 0, .int 0, .int 0, .int 0])), (mh0, .inr (9, [.int 0, .ref mxq1, .ref mxq2, .ref mxq3, .ref mxq4, .ref mxq5, .ref mxq6, .ref mxq7, .ref mxq8, .ref mxq9, .int 0, .int 0, .ref mxq10, .ref mxq11, .ref mxq12, .ref mxq13, .ref mxq14, .ref mxq15, .ref mxq16, .ref mxq17, .ref mxq18, .ref mxq19, .ref mxq20, .ref mxq21, .ref mxq22, .ref mxq23, .ref mxq24, .ref mxq25, .ref mxq26, .long 0, .int 0, .int 0, .int 0, .int 0, .int 0, .ref mxq27, .ref mxq28, .ref mxq29, .ref mxq30, .ref mxq31, .ref mxq32, .ref mxq33, .long 0])), (o, .inl (co, 1, .inr (.inl fo)))] [(co, .long)] s H locs) (hl : lv_has ls 9 [(0, .ref b), (1, .ref h0), (2, .ref mh0), (3, .ref o), (4, .ref od), (5, .int 0)]) : W p l e room_1 s m #[Value.ref b] below meth c H locs 1000 8000 Q (F0 m 1223 ls []) := by
  have hg : z_G #[Value.ref b] s := fun w hw _ => hts w hw
  refine lv_aload_n hx hb dL_law_1223 rfl (lv_at hl 1 rfl) ?_
  refine lv_aload_n hx hb dL_law_1224 rfl (lv_at hl 3 rfl) ?_
  refine z_xcalli (wr := [(mh0, .inr (9, [.int 0, .ref mxq1, .ref mxq2, .ref mxq3, .ref mxq4, .ref mxq5, .ref mxq6, .ref mxq7, .ref mxq8, .ref mxq9, .int 0, .int 0, .ref mxq10, .ref mxq11, .ref mxq12, .ref mxq13, .ref mxq14, .ref mxq15, .ref mxq16, .ref mxq17, .ref mxq18, .ref mxq19, .ref mxq20, .ref mxq21, .ref mxq22, .ref mxq23, .ref mxq24, .ref mxq25, .ref mxq26, .long 0, .int 0, .int 0, .int 0, .int 0, .int 0, .ref mxq27, .ref mxq28, .ref mxq29, .ref mxq30, .ref mxq31, .ref mxq32, .ref mxq33, .long 0]))]) (vx_runSX (As := [.ref h0, .ref o]) (rest := []) ⟨hx, hb, hml, hown, hts⟩ (z_L_bound l hst dC dI xq1 xq2 xq3 xq4 xq5 xq6 xq7 xq8 h0 o co fo  H.size) (vx_cwSW 2 hts (z_gSh z_T.l mw976 mw977 mw0 mw978) rfl rfl rfl (by decide +kernel) ⟨Nat.le_of_ble_eq_true rfl, Nat.le_of_ble_eq_true rfl⟩) (z_pre I [0, 1, 3] [0] rfl rfl rfl rfl) rfl rfl hl.1 rfl (lv_room (Nat.le_of_ble_eq_true rfl)) dL_law_1225 ⟨Nat.le_of_ble_eq_true rfl, Nat.le_of_ble_eq_true rfl⟩) I [0, 1, 3] [2] rfl rfl (by decide) (by decide) (fun E1 ce1 q1 H locs hE1 I hcell hcv hcl => ?_) (fun r1 u1 H locs hw1 I => ?_)
  · skip
    have I : z_I A dC dI [(mh0, .inr (9, [.int 0, .ref mxq1, .ref mxq2, .ref mxq3, .ref mxq4, .ref mxq5, .ref mxq6, .ref mxq7, .ref mxq8, .ref mxq9, .int 0, .int 0, .ref mxq10, .ref mxq11, .ref mxq12, .ref mxq13, .ref mxq14, .ref mxq15, .ref mxq16, .ref mxq17, .ref mxq18, .ref mxq19, .ref mxq20, .ref mxq21, .ref mxq22, .ref mxq23, .ref mxq24, .ref mxq25, .ref mxq26, .long 0, .int 0, .int 0, .int 0, .int 0, .int 0, .ref mxq27, .ref mxq28, .ref mxq29, .ref mxq30, .ref mxq31, .ref mxq32, .ref mxq33, .long 0]))] [(co, .long)] s H _ := I
    exact False.elim hE1
  · skip
    obtain ⟨xf2, hu1, hp1⟩ := hw1
    subst hu1
    have I : z_I A dC dI [(mh0, .inr (9, [.int 0, .ref mxq1, .ref mxq2, .ref mxq3, .ref mxq4, .ref mxq5, .ref mxq6, .ref mxq7, .ref mxq8, .ref mxq9, .int 0, .int 0, .ref mxq10, .ref mxq11, .ref mxq12, .ref mxq13, .ref mxq14, .ref mxq15, .ref mxq16, .ref mxq17, .ref mxq18, .ref mxq19, .ref mxq20, .ref mxq21, .ref mxq22, .ref mxq23, .ref mxq24, .ref mxq25, .ref mxq26, .long 0, .int 0, .int 0, .int 0, .int 0, .int 0, .ref mxq27, .ref mxq28, .ref mxq29, .ref mxq30, .ref mxq31, .ref mxq32, .ref mxq33, .long 0])), (o, .inl (co, 1, .inr (.inl xf2)))] [(co, .long)] s H _ := I
    refine W.widen (k := 1001) (n := 8006) (Nat.le_of_ble_eq_true rfl) (Nat.le_of_ble_eq_true rfl) ?_
    obtain rfl : r1 = 1 := hp1.1
    refine lv_istore (lv' := [(6, .int 1), (0, .ref b), (1, .ref h0), (2, .ref mh0), (3, .ref o), (4, .ref od), (5, .int 0)]) hx hb dL_law_1228 hl (by decide) rfl (fun ls hl => ?_)
    refine lv_aload_n hx hb dL_law_1230 rfl (lv_at hl 3 rfl) ?_
    refine z_calll (wr := [(o, .inl (co, 1, .inr (.inl xf2)))]) (va_runV (As := []) (rest := []) ⟨hx, hb, hml, hown, hts⟩ (z_M_bound l dC dI mxq1 mxq2 mxq3 mxq4 mxq5 mxq6 mxq7 mxq8 mxq9 mxq10 mxq11 mxq12 mxq13 mxq14 mxq15 mxq16 mxq17 mxq18 mxq19 mxq20 mxq21 mxq22 mxq23 mxq24 mxq25 mxq26 mxq27 mxq28 mxq29 mxq30 mxq31 mxq32 mxq33 mh0  H.size) (cwV 0 hts (z_gV z_T.l mw1633 mw1634 mw1635 mw10 mw1636) rfl rfl rfl (by decide +kernel) ⟨Nat.le_of_ble_eq_true rfl, Nat.le_of_ble_eq_true rfl⟩) (z_preV I [0] [] rfl rfl rfl rfl (ci := 9) (q0 := 0) rfl rfl) rfl rfl hl.1 rfl (lv_room (Nat.le_of_ble_eq_true rfl)) dL_law_1231 ⟨Nat.le_of_ble_eq_true rfl, Nat.le_of_ble_eq_true rfl⟩) I [0] [1] rfl rfl (by decide) (by decide) (fun r3 u3 H locs hw3 I => ?_)
    obtain ⟨hu3, hp3⟩ := hw3
    subst hu3
    have I : z_I A dC dI [(o, .inl (co, 1, .inr (.inl xf2))), (mh0, .inr (9, [.int 1, .ref mxq1, .ref mxq2, .ref mxq3, .ref mxq4, .ref mxq5, .ref mxq6, .ref mxq7, .ref mxq8, .ref mxq9, .int 0, .int 0, .ref mxq10, .ref mxq11, .ref mxq12, .ref mxq13, .ref mxq14, .ref mxq15, .ref mxq16, .ref mxq17, .ref mxq18, .ref mxq19, .ref mxq20, .ref mxq21, .ref mxq22, .ref mxq23, .ref mxq24, .ref mxq25, .ref mxq26, .long 0, .int 0, .int 0, .int 0, .int 0, .int 0, .ref mxq27, .ref mxq28, .ref mxq29, .ref mxq30, .ref mxq31, .ref mxq32, .ref mxq33, .long 0]))] [(co, .long)] s H _ := I
    obtain rfl : r3 = 0 := hp3
    refine lv_lstore (lv' := [(7, .long 0), (6, .int 1), (0, .ref b), (1, .ref h0), (2, .ref mh0), (3, .ref o), (4, .ref od), (5, .int 0)]) hx hb dL_law_1234 hl (by decide) rfl (fun ls hl => ?_)
    refine lv_aload_n hx hb dL_law_1236 rfl (lv_at hl 4 rfl) ?_
    refine z_calli (wr := [(o, .inl (co, 1, .inr (.inl xf2)))]) (va_runV (As := []) (rest := []) ⟨hx, hb, hml, hown, hts⟩ (z_M_thrown l dC dI 1 mxq1 mxq2 mxq3 mxq4 mxq5 mxq6 mxq7 mxq8 mxq9 0 0 mxq10 mxq11 mxq12 mxq13 mxq14 mxq15 mxq16 mxq17 mxq18 mxq19 mxq20 mxq21 mxq22 mxq23 mxq24 mxq25 mxq26 0 0 0 0 0 0 mxq27 mxq28 mxq29 mxq30 mxq31 mxq32 mxq33 0 mh0  H.size) (cwV 0 hts (z_gV z_T.l mw1391 mw1392 mw1393 mw10 mw1394) rfl rfl rfl (by decide +kernel) ⟨Nat.le_of_ble_eq_true rfl, Nat.le_of_ble_eq_true rfl⟩) (z_preV I [1] [] rfl rfl rfl rfl (ci := 9) (q0 := 1) rfl rfl) rfl rfl hl.1 rfl (lv_room (Nat.le_of_ble_eq_true rfl)) dL_law_1237 ⟨Nat.le_of_ble_eq_true rfl, Nat.le_of_ble_eq_true rfl⟩) I [1] [0] rfl rfl (by decide) (by decide) (fun r4 u4 H locs hw4 I => ?_)
    obtain ⟨hu4, hp4⟩ := hw4
    subst hu4
    have I : z_I A dC dI [(o, .inl (co, 1, .inr (.inl xf2))), (mh0, .inr (9, [.int 1, .ref mxq1, .ref mxq2, .ref mxq3, .ref mxq4, .ref mxq5, .ref mxq6, .ref mxq7, .ref mxq8, .ref mxq9, .int 0, .int 0, .ref mxq10, .ref mxq11, .ref mxq12, .ref mxq13, .ref mxq14, .ref mxq15, .ref mxq16, .ref mxq17, .ref mxq18, .ref mxq19, .ref mxq20, .ref mxq21, .ref mxq22, .ref mxq23, .ref mxq24, .ref mxq25, .ref mxq26, .long 0, .int 0, .int 0, .int 0, .int 0, .int 0, .ref mxq27, .ref mxq28, .ref mxq29, .ref mxq30, .ref mxq31, .ref mxq32, .ref mxq33, .long 0]))] [(co, .long)] s H _ := I
    obtain rfl : 1 = r4 := hp4.symm
    refine lv_iload hx hb dL_law_1240 (lv_at hl 1 rfl) ?_
    refine lv_icmp_eq (tgt := 1247) hx hb dL_law_1242 (by decide) (fun _ => ?_) (fun c9 => absurd c9 (by decide))
    refine lv_iload hx hb dL_law_1247 (lv_at hl 1 rfl) ?_
    refine lv_if_ne (tgt := 1263) hx hb dL_law_1249 (by decide) (fun _ => ?_) (fun c9 => absurd c9 (by decide))
    refine lv_goto (tgt := 2238) hx hb dL_law_1263 (by decide) ?_
    refine W.widen (k := 2000) (n := 9000) (Nat.le_of_ble_eq_true rfl) (Nat.le_of_ble_eq_true rfl) ?_
    exact K _ _ _ I.2.2.2.1 (lv_sub hl [2, 7] rfl)
set_option maxHeartbeats 4000000 in
set_option maxRecDepth 100000 in
theorem z_case_18 (l : Launch) (hst : l.stackTraces = false) (dC : Nat → ClassId) (dI : Nat → Nat → Nat) (xq1 : Nat) (xq2 : Nat) (xq3 : Nat) (xq4 : Nat) (xq5 : Nat) (xq6 : Nat) (xq7 : Nat) (xq8 : Nat) (h0 : Nat) (mxq1 : Nat) (mxq2 : Nat) (mxq3 : Nat) (mxq4 : Nat) (mxq5 : Nat) (mxq6 : Nat) (mxq7 : Nat) (mxq8 : Nat) (mxq9 : Nat) (mxq10 : Nat) (mxq11 : Nat) (mxq12 : Nat) (mxq13 : Nat) (mxq14 : Nat) (mxq15 : Nat) (mxq16 : Nat) (mxq17 : Nat) (mxq18 : Nat) (mxq19 : Nat) (mxq20 : Nat) (mxq21 : Nat) (mxq22 : Nat) (mxq23 : Nat) (mxq24 : Nat) (mxq25 : Nat) (mxq26 : Nat) (mxq27 : Nat) (mxq28 : Nat) (mxq29 : Nat) (mxq30 : Nat) (mxq31 : Nat) (mxq32 : Nat) (mxq33 : Nat) (mh0 : Nat) (o : Nat) (co : ClassId) (fo : Nat → Int64) (od : Nat) {p : Program} {e : Env} {s : State} {m : MethodId} {below : List Frame} {meth : Method} {c : Code} {b : Nat} {xs : Nat → Int32} {A : Nat → Prop} {Q : State → Prop} (hx : p.tables.exec = Jvm.exec) (hb : c.code = cL_law) (hml : c.maxLocals = 9) (hown : s.vm.findClass RL = some m.cls) (hts : ∀ w ∈ lw_tbl, w.before #[Value.ref b] s = true) (hX : va_X b 7 xs s s.heap) (hbl : b < s.heap.size) (hbA : ¬ A b) (K : z_LK p l e s m below meth c b A Q) {H : Heap} {locs : List Loc} {ls : Array Slot} (I : z_I A dC dI [(h0, .inr (8, [.ref xq1, .ref xq2])), (xq1, .inr (7, [.ref xq2, .ref xq3, .ref xq4, .ref xq5, .ref xq6, .ref xq7, .ref xq8, .int 0, .int 0, .int 0, .int 0, .int 0])), (mh0, .inr (9, [.int 0, .ref mxq1, .ref mxq2, .ref mxq3, .ref mxq4, .ref mxq5, .ref mxq6, .ref mxq7, .ref mxq8, .ref mxq9, .int 0, .int 0, .ref mxq10, .ref mxq11, .ref mxq12, .ref mxq13, .ref mxq14, .ref mxq15, .ref mxq16, .ref mxq17, .ref mxq18, .ref mxq19, .ref mxq20, .ref mxq21, .ref mxq22, .ref mxq23, .ref mxq24, .ref mxq25, .ref mxq26, .long 0, .int 0, .int 0, .int 0, .int 0, .int 0, .ref mxq27, .ref mxq28, .ref mxq29, .ref mxq30, .ref mxq31, .ref mxq32, .ref mxq33, .long 0])), (o, .inl (co, 1, .inr (.inl fo)))] [(co, .long)] s H locs) (hl : lv_has ls 9 [(0, .ref b), (1, .ref h0), (2, .ref mh0), (3, .ref o), (4, .ref od), (5, .int 0)]) : W p l e room_1 s m #[Value.ref b] below meth c H locs 1000 8000 Q (F0 m 1266 ls []) := by
  have hg : z_G #[Value.ref b] s := fun w hw _ => hts w hw
  refine lv_aload_n hx hb dL_law_1266 rfl (lv_at hl 1 rfl) ?_
  refine lv_aload_n hx hb dL_law_1267 rfl (lv_at hl 0 rfl) ?_
  refine lv_iload hx hb dL_law_1268 (lv_at hl 5 rfl) ?_
  refine lv_iconst (v := 1) hx hb dL_law_1270 (by decide) ?_
  refine lv_iadd hx hb dL_law_1271 ?_
  refine lv_topi (fun w1 ew1 => ?_)
  obtain rfl : w1 = 1 := ew1.trans (by decide)
  refine va_sld hx hb hX hbl hbA I.2.2.2.1 (by unfold vp_in; decide) dL_law_1272 ?_
  refine lv_aload_n hx hb dL_law_1273 rfl (lv_at hl 0 rfl) ?_
  refine lv_iload hx hb dL_law_1274 (lv_at hl 5 rfl) ?_
  refine lv_iconst (v := 2) hx hb dL_law_1276 (by decide) ?_
  refine lv_iadd hx hb dL_law_1277 ?_
  refine lv_topi (fun w2 ew2 => ?_)
  obtain rfl : w2 = 2 := ew2.trans (by decide)
  refine va_sld hx hb hX hbl hbA I.2.2.2.1 (by unfold vp_in; decide) dL_law_1278 ?_
  refine lv_aload_n hx hb dL_law_1279 rfl (lv_at hl 0 rfl) ?_
  refine lv_iload hx hb dL_law_1280 (lv_at hl 5 rfl) ?_
  refine lv_iconst (v := 3) hx hb dL_law_1282 (by decide) ?_
  refine lv_iadd hx hb dL_law_1283 ?_
  refine lv_topi (fun w3 ew3 => ?_)
  obtain rfl : w3 = 3 := ew3.trans (by decide)
  refine va_sld hx hb hX hbl hbA I.2.2.2.1 (by unfold vp_in; decide) dL_law_1284 ?_
  refine lv_aload_n hx hb dL_law_1285 rfl (lv_at hl 0 rfl) ?_
  refine lv_iload hx hb dL_law_1286 (lv_at hl 5 rfl) ?_
  refine lv_iconst (v := 4) hx hb dL_law_1288 (by decide) ?_
  refine lv_iadd hx hb dL_law_1289 ?_
  refine lv_topi (fun w4 ew4 => ?_)
  obtain rfl : w4 = 4 := ew4.trans (by decide)
  refine va_sld hx hb hX hbl hbA I.2.2.2.1 (by unfold vp_in; decide) dL_law_1290 ?_
  refine lv_aload_n hx hb dL_law_1291 rfl (lv_at hl 3 rfl) ?_
  refine z_xcalli (wr := [(mh0, .inr (9, [.int 0, .ref mxq1, .ref mxq2, .ref mxq3, .ref mxq4, .ref mxq5, .ref mxq6, .ref mxq7, .ref mxq8, .ref mxq9, .int 0, .int 0, .ref mxq10, .ref mxq11, .ref mxq12, .ref mxq13, .ref mxq14, .ref mxq15, .ref mxq16, .ref mxq17, .ref mxq18, .ref mxq19, .ref mxq20, .ref mxq21, .ref mxq22, .ref mxq23, .ref mxq24, .ref mxq25, .ref mxq26, .long 0, .int 0, .int 0, .int 0, .int 0, .int 0, .ref mxq27, .ref mxq28, .ref mxq29, .ref mxq30, .ref mxq31, .ref mxq32, .ref mxq33, .long 0]))]) (vx_runSX (As := [.ref h0, .int (xs (Int32.toNatClampNeg 1)), .int (xs (Int32.toNatClampNeg 2)), .int (xs (Int32.toNatClampNeg 3)), .int (xs (Int32.toNatClampNeg 4)), .ref o]) (rest := []) ⟨hx, hb, hml, hown, hts⟩ (z_L_offer l hst dC dI xq1 xq2 xq3 xq4 xq5 xq6 xq7 xq8 h0 o co fo (xs (Int32.toNatClampNeg 1)) (xs (Int32.toNatClampNeg 2)) (xs (Int32.toNatClampNeg 3)) (xs (Int32.toNatClampNeg 4))  H.size) (vx_cwSW 6 hts (z_gSh z_T.l mw988 mw989 mw0 mw990) rfl rfl rfl (by decide +kernel) ⟨Nat.le_of_ble_eq_true rfl, Nat.le_of_ble_eq_true rfl⟩) (z_pre I [0, 1, 3] [0] rfl rfl rfl rfl) rfl rfl hl.1 rfl (lv_room (Nat.le_of_ble_eq_true rfl)) dL_law_1292 ⟨Nat.le_of_ble_eq_true rfl, Nat.le_of_ble_eq_true rfl⟩) I [0, 1, 3] [2] rfl rfl (by decide) (by decide) (fun E5 ce5 q5 H locs hE5 I hcell hcv hcl => ?_) (fun r5 u5 H locs hw5 I => ?_)
  · skip
    have I : z_I A dC dI [(mh0, .inr (9, [.int 0, .ref mxq1, .ref mxq2, .ref mxq3, .ref mxq4, .ref mxq5, .ref mxq6, .ref mxq7, .ref mxq8, .ref mxq9, .int 0, .int 0, .ref mxq10, .ref mxq11, .ref mxq12, .ref mxq13, .ref mxq14, .ref mxq15, .ref mxq16, .ref mxq17, .ref mxq18, .ref mxq19, .ref mxq20, .ref mxq21, .ref mxq22, .ref mxq23, .ref mxq24, .ref mxq25, .ref mxq26, .long 0, .int 0, .int 0, .int 0, .int 0, .int 0, .ref mxq27, .ref mxq28, .ref mxq29, .ref mxq30, .ref mxq31, .ref mxq32, .ref mxq33, .long 0]))] [(co, .long)] s H _ := I
    exact False.elim hE5
  · skip
    obtain ⟨xf6, hu5, hp5⟩ := hw5
    subst hu5
    have I : z_I A dC dI [(mh0, .inr (9, [.int 0, .ref mxq1, .ref mxq2, .ref mxq3, .ref mxq4, .ref mxq5, .ref mxq6, .ref mxq7, .ref mxq8, .ref mxq9, .int 0, .int 0, .ref mxq10, .ref mxq11, .ref mxq12, .ref mxq13, .ref mxq14, .ref mxq15, .ref mxq16, .ref mxq17, .ref mxq18, .ref mxq19, .ref mxq20, .ref mxq21, .ref mxq22, .ref mxq23, .ref mxq24, .ref mxq25, .ref mxq26, .long 0, .int 0, .int 0, .int 0, .int 0, .int 0, .ref mxq27, .ref mxq28, .ref mxq29, .ref mxq30, .ref mxq31, .ref mxq32, .ref mxq33, .long 0])), (o, .inl (co, 1, .inr (.inl xf6)))] [(co, .long)] s H _ := I
    refine W.widen (k := 1001) (n := 8006) (Nat.le_of_ble_eq_true rfl) (Nat.le_of_ble_eq_true rfl) ?_
    obtain rfl : r5 = 1 := hp5.1
    refine lv_istore (lv' := [(6, .int 1), (0, .ref b), (1, .ref h0), (2, .ref mh0), (3, .ref o), (4, .ref od), (5, .int 0)]) hx hb dL_law_1295 hl (by decide) rfl (fun ls hl => ?_)
    refine lv_aload_n hx hb dL_law_1297 rfl (lv_at hl 3 rfl) ?_
    refine lv_aload_n hx hb dL_law_1298 rfl (lv_at hl 1 rfl) ?_
    refine lv_iload hx hb dL_law_1299 (lv_at hl 6 rfl) ?_
    refine lv_iconst (v := 1) hx hb dL_law_1301 (by decide) ?_
    refine lv_iadd hx hb dL_law_1302 ?_
    refine lv_topi (fun w7 ew7 => ?_)
    obtain rfl : w7 = 1 := ew7.trans (by decide)
    refine va_sld hx hb hX hbl hbA I.2.2.2.1 (by unfold vp_in; decide) dL_law_1303 ?_
    refine lv_aload_n hx hb dL_law_1304 rfl (lv_at hl 1 rfl) ?_
    refine lv_iload hx hb dL_law_1305 (lv_at hl 6 rfl) ?_
    refine lv_iconst (v := 2) hx hb dL_law_1307 (by decide) ?_
    refine lv_iadd hx hb dL_law_1308 ?_
    refine lv_topi (fun w8 ew8 => ?_)
    obtain rfl : w8 = 2 := ew8.trans (by decide)
    refine va_sld hx hb hX hbl hbA I.2.2.2.1 (by unfold vp_in; decide) dL_law_1309 ?_
    refine lv_aload_n hx hb dL_law_1310 rfl (lv_at hl 1 rfl) ?_
    refine lv_iload hx hb dL_law_1311 (lv_at hl 6 rfl) ?_
    refine lv_iconst (v := 3) hx hb dL_law_1313 (by decide) ?_
    refine lv_iadd hx hb dL_law_1314 ?_
    refine lv_topi (fun w9 ew9 => ?_)
    obtain rfl : w9 = 3 := ew9.trans (by decide)
    refine va_sld hx hb hX hbl hbA I.2.2.2.1 (by unfold vp_in; decide) dL_law_1315 ?_
    refine lv_aload_n hx hb dL_law_1316 rfl (lv_at hl 1 rfl) ?_
    refine lv_iload hx hb dL_law_1317 (lv_at hl 6 rfl) ?_
    refine lv_iconst (v := 4) hx hb dL_law_1319 (by decide) ?_
    refine lv_iadd hx hb dL_law_1320 ?_
    refine lv_topi (fun w10 ew10 => ?_)
    obtain rfl : w10 = 4 := ew10.trans (by decide)
    refine va_sld hx hb hX hbl hbA I.2.2.2.1 (by unfold vp_in; decide) dL_law_1321 ?_
    refine z_calli (wr := [(o, .inl (co, 1, .inr (.inl xf6)))]) (va_runV (As := [.int (xs (Int32.toNatClampNeg 1)), .int (xs (Int32.toNatClampNeg 2)), .int (xs (Int32.toNatClampNeg 3)), .int (xs (Int32.toNatClampNeg 4))]) (rest := []) ⟨hx, hb, hml, hown, hts⟩ (z_M_offer l dC dI mxq1 mxq2 mxq3 mxq4 mxq5 mxq6 mxq7 mxq8 mxq9 mxq10 mxq11 mxq12 mxq13 mxq14 mxq15 mxq16 mxq17 mxq18 mxq19 mxq20 mxq21 mxq22 mxq23 mxq24 mxq25 mxq26 mxq27 mxq28 mxq29 mxq30 mxq31 mxq32 mxq33 mh0 (xs (Int32.toNatClampNeg 1)) (xs (Int32.toNatClampNeg 2)) (xs (Int32.toNatClampNeg 3)) (xs (Int32.toNatClampNeg 4))  H.size) (cwV 4 hts (z_gV z_T.l mw1641 mw1642 mw1643 mw10 mw1644) rfl rfl rfl (by decide +kernel) ⟨Nat.le_of_ble_eq_true rfl, Nat.le_of_ble_eq_true rfl⟩) (z_preV I [0] [] rfl rfl rfl rfl (ci := 9) (q0 := 0) rfl rfl) rfl rfl hl.1 rfl (lv_room (Nat.le_of_ble_eq_true rfl)) dL_law_1322 ⟨Nat.le_of_ble_eq_true rfl, Nat.le_of_ble_eq_true rfl⟩) I [0] [1] rfl rfl (by decide) (by decide) (fun r11 u11 H locs hw11 I => ?_)
    obtain ⟨hu11, hp11⟩ := hw11
    subst hu11
    have I : z_I A dC dI [(o, .inl (co, 1, .inr (.inl xf6))), (mh0, .inr (9, [.int 1, .ref mxq1, .ref mxq2, .ref mxq3, .ref mxq4, .ref mxq5, .ref mxq6, .ref mxq7, .ref mxq8, .ref mxq9, .int 0, .int 0, .ref mxq10, .ref mxq11, .ref mxq12, .ref mxq13, .ref mxq14, .ref mxq15, .ref mxq16, .ref mxq17, .ref mxq18, .ref mxq19, .ref mxq20, .ref mxq21, .ref mxq22, .ref mxq23, .ref mxq24, .ref mxq25, .ref mxq26, .long 0, .int 0, .int 0, .int 0, .int 0, .int 0, .ref mxq27, .ref mxq28, .ref mxq29, .ref mxq30, .ref mxq31, .ref mxq32, .ref mxq33, .long 0]))] [(co, .long)] s H _ := I
    obtain rfl : r11 = 0 := hp11
    refine lv_istore (lv' := [(7, .int 0), (6, .int 1), (0, .ref b), (1, .ref h0), (2, .ref mh0), (3, .ref o), (4, .ref od), (5, .int 0)]) hx hb dL_law_1325 hl (by decide) rfl (fun ls hl => ?_)
    refine lv_aload_n hx hb dL_law_1327 rfl (lv_at hl 4 rfl) ?_
    refine z_calli (wr := [(o, .inl (co, 1, .inr (.inl xf6)))]) (va_runV (As := []) (rest := []) ⟨hx, hb, hml, hown, hts⟩ (z_M_thrown l dC dI 1 mxq1 mxq2 mxq3 mxq4 mxq5 mxq6 mxq7 mxq8 mxq9 0 0 mxq10 mxq11 mxq12 mxq13 mxq14 mxq15 mxq16 mxq17 mxq18 mxq19 mxq20 mxq21 mxq22 mxq23 mxq24 mxq25 mxq26 0 0 0 0 0 0 mxq27 mxq28 mxq29 mxq30 mxq31 mxq32 mxq33 0 mh0  H.size) (cwV 0 hts (z_gV z_T.l mw1391 mw1392 mw1393 mw10 mw1394) rfl rfl rfl (by decide +kernel) ⟨Nat.le_of_ble_eq_true rfl, Nat.le_of_ble_eq_true rfl⟩) (z_preV I [1] [] rfl rfl rfl rfl (ci := 9) (q0 := 1) rfl rfl) rfl rfl hl.1 rfl (lv_room (Nat.le_of_ble_eq_true rfl)) dL_law_1328 ⟨Nat.le_of_ble_eq_true rfl, Nat.le_of_ble_eq_true rfl⟩) I [1] [0] rfl rfl (by decide) (by decide) (fun r12 u12 H locs hw12 I => ?_)
    obtain ⟨hu12, hp12⟩ := hw12
    subst hu12
    have I : z_I A dC dI [(o, .inl (co, 1, .inr (.inl xf6))), (mh0, .inr (9, [.int 1, .ref mxq1, .ref mxq2, .ref mxq3, .ref mxq4, .ref mxq5, .ref mxq6, .ref mxq7, .ref mxq8, .ref mxq9, .int 0, .int 0, .ref mxq10, .ref mxq11, .ref mxq12, .ref mxq13, .ref mxq14, .ref mxq15, .ref mxq16, .ref mxq17, .ref mxq18, .ref mxq19, .ref mxq20, .ref mxq21, .ref mxq22, .ref mxq23, .ref mxq24, .ref mxq25, .ref mxq26, .long 0, .int 0, .int 0, .int 0, .int 0, .int 0, .ref mxq27, .ref mxq28, .ref mxq29, .ref mxq30, .ref mxq31, .ref mxq32, .ref mxq33, .long 0]))] [(co, .long)] s H _ := I
    obtain rfl : 1 = r12 := hp12.symm
    refine lv_iload hx hb dL_law_1331 (lv_at hl 1 rfl) ?_
    refine lv_icmp_eq (tgt := 1338) hx hb dL_law_1333 (by decide) (fun _ => ?_) (fun c9 => absurd c9 (by decide))
    refine lv_iload hx hb dL_law_1338 (lv_at hl 1 rfl) ?_
    refine lv_if_ne (tgt := 1362) hx hb dL_law_1340 (by decide) (fun _ => ?_) (fun c9 => absurd c9 (by decide))
    refine lv_goto (tgt := 2238) hx hb dL_law_1362 (by decide) ?_
    refine W.widen (k := 2000) (n := 9000) (Nat.le_of_ble_eq_true rfl) (Nat.le_of_ble_eq_true rfl) ?_
    exact K _ _ _ I.2.2.2.1 (lv_sub hl [2, 7] rfl)
set_option maxHeartbeats 4000000 in
set_option maxRecDepth 100000 in
theorem z_case_19 (l : Launch) (hst : l.stackTraces = false) (dC : Nat → ClassId) (dI : Nat → Nat → Nat) (xq1 : Nat) (xq2 : Nat) (xq3 : Nat) (xq4 : Nat) (xq5 : Nat) (xq6 : Nat) (xq7 : Nat) (xq8 : Nat) (h0 : Nat) (mxq1 : Nat) (mxq2 : Nat) (mxq3 : Nat) (mxq4 : Nat) (mxq5 : Nat) (mxq6 : Nat) (mxq7 : Nat) (mxq8 : Nat) (mxq9 : Nat) (mxq10 : Nat) (mxq11 : Nat) (mxq12 : Nat) (mxq13 : Nat) (mxq14 : Nat) (mxq15 : Nat) (mxq16 : Nat) (mxq17 : Nat) (mxq18 : Nat) (mxq19 : Nat) (mxq20 : Nat) (mxq21 : Nat) (mxq22 : Nat) (mxq23 : Nat) (mxq24 : Nat) (mxq25 : Nat) (mxq26 : Nat) (mxq27 : Nat) (mxq28 : Nat) (mxq29 : Nat) (mxq30 : Nat) (mxq31 : Nat) (mxq32 : Nat) (mxq33 : Nat) (mh0 : Nat) (o : Nat) (co : ClassId) (fo : Nat → Int64) (od : Nat) {p : Program} {e : Env} {s : State} {m : MethodId} {below : List Frame} {meth : Method} {c : Code} {b : Nat} {xs : Nat → Int32} {A : Nat → Prop} {Q : State → Prop} (hx : p.tables.exec = Jvm.exec) (hb : c.code = cL_law) (hml : c.maxLocals = 9) (hown : s.vm.findClass RL = some m.cls) (hts : ∀ w ∈ lw_tbl, w.before #[Value.ref b] s = true) (hX : va_X b 7 xs s s.heap) (hbl : b < s.heap.size) (hbA : ¬ A b) (K : z_LK p l e s m below meth c b A Q) {H : Heap} {locs : List Loc} {ls : Array Slot} (I : z_I A dC dI [(h0, .inr (8, [.ref xq1, .ref xq2])), (xq1, .inr (7, [.ref xq2, .ref xq3, .ref xq4, .ref xq5, .ref xq6, .ref xq7, .ref xq8, .int 0, .int 0, .int 0, .int 0, .int 0])), (mh0, .inr (9, [.int 0, .ref mxq1, .ref mxq2, .ref mxq3, .ref mxq4, .ref mxq5, .ref mxq6, .ref mxq7, .ref mxq8, .ref mxq9, .int 0, .int 0, .ref mxq10, .ref mxq11, .ref mxq12, .ref mxq13, .ref mxq14, .ref mxq15, .ref mxq16, .ref mxq17, .ref mxq18, .ref mxq19, .ref mxq20, .ref mxq21, .ref mxq22, .ref mxq23, .ref mxq24, .ref mxq25, .ref mxq26, .long 0, .int 0, .int 0, .int 0, .int 0, .int 0, .ref mxq27, .ref mxq28, .ref mxq29, .ref mxq30, .ref mxq31, .ref mxq32, .ref mxq33, .long 0])), (o, .inl (co, 1, .inr (.inl fo)))] [(co, .long)] s H locs) (hl : lv_has ls 9 [(0, .ref b), (1, .ref h0), (2, .ref mh0), (3, .ref o), (4, .ref od), (5, .int 0)]) : W p l e room_1 s m #[Value.ref b] below meth c H locs 1000 8000 Q (F0 m 1365 ls []) := by
  have hg : z_G #[Value.ref b] s := fun w hw _ => hts w hw
  refine lv_aload_n hx hb dL_law_1365 rfl (lv_at hl 1 rfl) ?_
  refine lv_aload_n hx hb dL_law_1366 rfl (lv_at hl 0 rfl) ?_
  refine lv_iload hx hb dL_law_1367 (lv_at hl 5 rfl) ?_
  refine lv_iconst (v := 1) hx hb dL_law_1369 (by decide) ?_
  refine lv_iadd hx hb dL_law_1370 ?_
  refine lv_topi (fun w1 ew1 => ?_)
  obtain rfl : w1 = 1 := ew1.trans (by decide)
  refine va_sld hx hb hX hbl hbA I.2.2.2.1 (by unfold vp_in; decide) dL_law_1371 ?_
  refine lv_aload_n hx hb dL_law_1372 rfl (lv_at hl 3 rfl) ?_
  refine z_xcalli (wr := [(mh0, .inr (9, [.int 0, .ref mxq1, .ref mxq2, .ref mxq3, .ref mxq4, .ref mxq5, .ref mxq6, .ref mxq7, .ref mxq8, .ref mxq9, .int 0, .int 0, .ref mxq10, .ref mxq11, .ref mxq12, .ref mxq13, .ref mxq14, .ref mxq15, .ref mxq16, .ref mxq17, .ref mxq18, .ref mxq19, .ref mxq20, .ref mxq21, .ref mxq22, .ref mxq23, .ref mxq24, .ref mxq25, .ref mxq26, .long 0, .int 0, .int 0, .int 0, .int 0, .int 0, .ref mxq27, .ref mxq28, .ref mxq29, .ref mxq30, .ref mxq31, .ref mxq32, .ref mxq33, .long 0]))]) (vx_runSX (As := [.ref h0, .int (xs (Int32.toNatClampNeg 1)), .ref o]) (rest := []) ⟨hx, hb, hml, hown, hts⟩ (z_L_round l hst dC dI xq1 xq2 xq3 xq4 xq5 xq6 xq7 xq8 h0 o co fo (xs (Int32.toNatClampNeg 1))  H.size) (vx_cwSW 3 hts (z_gSh z_T.l mw1013 mw1014 mw0 mw1015) rfl rfl rfl (by decide +kernel) ⟨Nat.le_of_ble_eq_true rfl, Nat.le_of_ble_eq_true rfl⟩) (z_pre I [0, 1, 3] [0] rfl rfl rfl rfl) rfl rfl hl.1 rfl (lv_room (Nat.le_of_ble_eq_true rfl)) dL_law_1373 ⟨Nat.le_of_ble_eq_true rfl, Nat.le_of_ble_eq_true rfl⟩) I [0, 1, 3] [2] rfl rfl (by decide) (by decide) (fun E2 ce2 q2 H locs hE2 I hcell hcv hcl => ?_) (fun r2 u2 H locs hw2 I => ?_)
  · skip
    have I : z_I A dC dI [(mh0, .inr (9, [.int 0, .ref mxq1, .ref mxq2, .ref mxq3, .ref mxq4, .ref mxq5, .ref mxq6, .ref mxq7, .ref mxq8, .ref mxq9, .int 0, .int 0, .ref mxq10, .ref mxq11, .ref mxq12, .ref mxq13, .ref mxq14, .ref mxq15, .ref mxq16, .ref mxq17, .ref mxq18, .ref mxq19, .ref mxq20, .ref mxq21, .ref mxq22, .ref mxq23, .ref mxq24, .ref mxq25, .ref mxq26, .long 0, .int 0, .int 0, .int 0, .int 0, .int 0, .ref mxq27, .ref mxq28, .ref mxq29, .ref mxq30, .ref mxq31, .ref mxq32, .ref mxq33, .long 0]))] [(co, .long)] s H _ := I
    exact False.elim hE2
  · skip
    obtain ⟨xf3, hu2, hp2⟩ := hw2
    subst hu2
    have I : z_I A dC dI [(mh0, .inr (9, [.int 0, .ref mxq1, .ref mxq2, .ref mxq3, .ref mxq4, .ref mxq5, .ref mxq6, .ref mxq7, .ref mxq8, .ref mxq9, .int 0, .int 0, .ref mxq10, .ref mxq11, .ref mxq12, .ref mxq13, .ref mxq14, .ref mxq15, .ref mxq16, .ref mxq17, .ref mxq18, .ref mxq19, .ref mxq20, .ref mxq21, .ref mxq22, .ref mxq23, .ref mxq24, .ref mxq25, .ref mxq26, .long 0, .int 0, .int 0, .int 0, .int 0, .int 0, .ref mxq27, .ref mxq28, .ref mxq29, .ref mxq30, .ref mxq31, .ref mxq32, .ref mxq33, .long 0])), (o, .inl (co, 1, .inr (.inl xf3)))] [(co, .long)] s H _ := I
    refine W.widen (k := 1001) (n := 8006) (Nat.le_of_ble_eq_true rfl) (Nat.le_of_ble_eq_true rfl) ?_
    obtain rfl : r2 = 1 := hp2.1
    refine lv_istore (lv' := [(6, .int 1), (0, .ref b), (1, .ref h0), (2, .ref mh0), (3, .ref o), (4, .ref od), (5, .int 0)]) hx hb dL_law_1376 hl (by decide) rfl (fun ls hl => ?_)
    refine lv_aload_n hx hb dL_law_1378 rfl (lv_at hl 3 rfl) ?_
    refine lv_aload_n hx hb dL_law_1379 rfl (lv_at hl 1 rfl) ?_
    refine lv_iload hx hb dL_law_1380 (lv_at hl 6 rfl) ?_
    refine lv_iconst (v := 1) hx hb dL_law_1382 (by decide) ?_
    refine lv_iadd hx hb dL_law_1383 ?_
    refine lv_topi (fun w4 ew4 => ?_)
    obtain rfl : w4 = 1 := ew4.trans (by decide)
    refine va_sld hx hb hX hbl hbA I.2.2.2.1 (by unfold vp_in; decide) dL_law_1384 ?_
    refine z_calli (wr := [(o, .inl (co, 1, .inr (.inl xf3)))]) (va_runV (As := [.int (xs (Int32.toNatClampNeg 1))]) (rest := []) ⟨hx, hb, hml, hown, hts⟩ (z_M_round l dC dI mxq1 mxq2 mxq3 mxq4 mxq5 mxq6 mxq7 mxq8 mxq9 mxq10 mxq11 mxq12 mxq13 mxq14 mxq15 mxq16 mxq17 mxq18 mxq19 mxq20 mxq21 mxq22 mxq23 mxq24 mxq25 mxq26 mxq27 mxq28 mxq29 mxq30 mxq31 mxq32 mxq33 mh0 (xs (Int32.toNatClampNeg 1))  H.size) (cwV 1 hts (z_gV z_T.l mw1653 mw1654 mw1655 mw10 mw1656) rfl rfl rfl (by decide +kernel) ⟨Nat.le_of_ble_eq_true rfl, Nat.le_of_ble_eq_true rfl⟩) (z_preV I [0] [] rfl rfl rfl rfl (ci := 9) (q0 := 0) rfl rfl) rfl rfl hl.1 rfl (lv_room (Nat.le_of_ble_eq_true rfl)) dL_law_1385 ⟨Nat.le_of_ble_eq_true rfl, Nat.le_of_ble_eq_true rfl⟩) I [0] [1] rfl rfl (by decide) (by decide) (fun r5 u5 H locs hw5 I => ?_)
    obtain ⟨hu5, hp5⟩ := hw5
    subst hu5
    have I : z_I A dC dI [(o, .inl (co, 1, .inr (.inl xf3))), (mh0, .inr (9, [.int 1, .ref mxq1, .ref mxq2, .ref mxq3, .ref mxq4, .ref mxq5, .ref mxq6, .ref mxq7, .ref mxq8, .ref mxq9, .int 0, .int 0, .ref mxq10, .ref mxq11, .ref mxq12, .ref mxq13, .ref mxq14, .ref mxq15, .ref mxq16, .ref mxq17, .ref mxq18, .ref mxq19, .ref mxq20, .ref mxq21, .ref mxq22, .ref mxq23, .ref mxq24, .ref mxq25, .ref mxq26, .long 0, .int 0, .int 0, .int 0, .int 0, .int 0, .ref mxq27, .ref mxq28, .ref mxq29, .ref mxq30, .ref mxq31, .ref mxq32, .ref mxq33, .long 0]))] [(co, .long)] s H _ := I
    obtain rfl : r5 = 0 := hp5
    refine lv_istore (lv' := [(7, .int 0), (6, .int 1), (0, .ref b), (1, .ref h0), (2, .ref mh0), (3, .ref o), (4, .ref od), (5, .int 0)]) hx hb dL_law_1388 hl (by decide) rfl (fun ls hl => ?_)
    refine lv_aload_n hx hb dL_law_1390 rfl (lv_at hl 4 rfl) ?_
    refine z_calli (wr := [(o, .inl (co, 1, .inr (.inl xf3)))]) (va_runV (As := []) (rest := []) ⟨hx, hb, hml, hown, hts⟩ (z_M_thrown l dC dI 1 mxq1 mxq2 mxq3 mxq4 mxq5 mxq6 mxq7 mxq8 mxq9 0 0 mxq10 mxq11 mxq12 mxq13 mxq14 mxq15 mxq16 mxq17 mxq18 mxq19 mxq20 mxq21 mxq22 mxq23 mxq24 mxq25 mxq26 0 0 0 0 0 0 mxq27 mxq28 mxq29 mxq30 mxq31 mxq32 mxq33 0 mh0  H.size) (cwV 0 hts (z_gV z_T.l mw1391 mw1392 mw1393 mw10 mw1394) rfl rfl rfl (by decide +kernel) ⟨Nat.le_of_ble_eq_true rfl, Nat.le_of_ble_eq_true rfl⟩) (z_preV I [1] [] rfl rfl rfl rfl (ci := 9) (q0 := 1) rfl rfl) rfl rfl hl.1 rfl (lv_room (Nat.le_of_ble_eq_true rfl)) dL_law_1391 ⟨Nat.le_of_ble_eq_true rfl, Nat.le_of_ble_eq_true rfl⟩) I [1] [0] rfl rfl (by decide) (by decide) (fun r6 u6 H locs hw6 I => ?_)
    obtain ⟨hu6, hp6⟩ := hw6
    subst hu6
    have I : z_I A dC dI [(o, .inl (co, 1, .inr (.inl xf3))), (mh0, .inr (9, [.int 1, .ref mxq1, .ref mxq2, .ref mxq3, .ref mxq4, .ref mxq5, .ref mxq6, .ref mxq7, .ref mxq8, .ref mxq9, .int 0, .int 0, .ref mxq10, .ref mxq11, .ref mxq12, .ref mxq13, .ref mxq14, .ref mxq15, .ref mxq16, .ref mxq17, .ref mxq18, .ref mxq19, .ref mxq20, .ref mxq21, .ref mxq22, .ref mxq23, .ref mxq24, .ref mxq25, .ref mxq26, .long 0, .int 0, .int 0, .int 0, .int 0, .int 0, .ref mxq27, .ref mxq28, .ref mxq29, .ref mxq30, .ref mxq31, .ref mxq32, .ref mxq33, .long 0]))] [(co, .long)] s H _ := I
    obtain rfl : 1 = r6 := hp6.symm
    refine lv_iload hx hb dL_law_1394 (lv_at hl 1 rfl) ?_
    refine lv_icmp_eq (tgt := 1401) hx hb dL_law_1396 (by decide) (fun _ => ?_) (fun c9 => absurd c9 (by decide))
    refine lv_iload hx hb dL_law_1401 (lv_at hl 1 rfl) ?_
    refine lv_if_ne (tgt := 1425) hx hb dL_law_1403 (by decide) (fun _ => ?_) (fun c9 => absurd c9 (by decide))
    refine lv_goto (tgt := 2238) hx hb dL_law_1425 (by decide) ?_
    refine W.widen (k := 2000) (n := 9000) (Nat.le_of_ble_eq_true rfl) (Nat.le_of_ble_eq_true rfl) ?_
    exact K _ _ _ I.2.2.2.1 (lv_sub hl [2, 7] rfl)
set_option maxHeartbeats 4000000 in
set_option maxRecDepth 100000 in
theorem z_case_20 (l : Launch) (hst : l.stackTraces = false) (dC : Nat → ClassId) (dI : Nat → Nat → Nat) (xq1 : Nat) (xq2 : Nat) (xq3 : Nat) (xq4 : Nat) (xq5 : Nat) (xq6 : Nat) (xq7 : Nat) (xq8 : Nat) (h0 : Nat) (mxq1 : Nat) (mxq2 : Nat) (mxq3 : Nat) (mxq4 : Nat) (mxq5 : Nat) (mxq6 : Nat) (mxq7 : Nat) (mxq8 : Nat) (mxq9 : Nat) (mxq10 : Nat) (mxq11 : Nat) (mxq12 : Nat) (mxq13 : Nat) (mxq14 : Nat) (mxq15 : Nat) (mxq16 : Nat) (mxq17 : Nat) (mxq18 : Nat) (mxq19 : Nat) (mxq20 : Nat) (mxq21 : Nat) (mxq22 : Nat) (mxq23 : Nat) (mxq24 : Nat) (mxq25 : Nat) (mxq26 : Nat) (mxq27 : Nat) (mxq28 : Nat) (mxq29 : Nat) (mxq30 : Nat) (mxq31 : Nat) (mxq32 : Nat) (mxq33 : Nat) (mh0 : Nat) (o : Nat) (co : ClassId) (fo : Nat → Int64) (od : Nat) {p : Program} {e : Env} {s : State} {m : MethodId} {below : List Frame} {meth : Method} {c : Code} {b : Nat} {xs : Nat → Int32} {A : Nat → Prop} {Q : State → Prop} (hx : p.tables.exec = Jvm.exec) (hb : c.code = cL_law) (hml : c.maxLocals = 9) (hown : s.vm.findClass RL = some m.cls) (hts : ∀ w ∈ lw_tbl, w.before #[Value.ref b] s = true) (hX : va_X b 7 xs s s.heap) (hbl : b < s.heap.size) (hbA : ¬ A b) (K : z_LK p l e s m below meth c b A Q) {H : Heap} {locs : List Loc} {ls : Array Slot} (I : z_I A dC dI [(h0, .inr (8, [.ref xq1, .ref xq2])), (xq1, .inr (7, [.ref xq2, .ref xq3, .ref xq4, .ref xq5, .ref xq6, .ref xq7, .ref xq8, .int 0, .int 0, .int 0, .int 0, .int 0])), (mh0, .inr (9, [.int 0, .ref mxq1, .ref mxq2, .ref mxq3, .ref mxq4, .ref mxq5, .ref mxq6, .ref mxq7, .ref mxq8, .ref mxq9, .int 0, .int 0, .ref mxq10, .ref mxq11, .ref mxq12, .ref mxq13, .ref mxq14, .ref mxq15, .ref mxq16, .ref mxq17, .ref mxq18, .ref mxq19, .ref mxq20, .ref mxq21, .ref mxq22, .ref mxq23, .ref mxq24, .ref mxq25, .ref mxq26, .long 0, .int 0, .int 0, .int 0, .int 0, .int 0, .ref mxq27, .ref mxq28, .ref mxq29, .ref mxq30, .ref mxq31, .ref mxq32, .ref mxq33, .long 0])), (o, .inl (co, 1, .inr (.inl fo)))] [(co, .long)] s H locs) (hl : lv_has ls 9 [(0, .ref b), (1, .ref h0), (2, .ref mh0), (3, .ref o), (4, .ref od), (5, .int 0)]) : W p l e room_1 s m #[Value.ref b] below meth c H locs 1000 8000 Q (F0 m 1428 ls []) := by
  have hg : z_G #[Value.ref b] s := fun w hw _ => hts w hw
  refine lv_aload_n hx hb dL_law_1428 rfl (lv_at hl 1 rfl) ?_
  refine lv_aload_n hx hb dL_law_1429 rfl (lv_at hl 3 rfl) ?_
  refine z_xcalli (wr := [(mh0, .inr (9, [.int 0, .ref mxq1, .ref mxq2, .ref mxq3, .ref mxq4, .ref mxq5, .ref mxq6, .ref mxq7, .ref mxq8, .ref mxq9, .int 0, .int 0, .ref mxq10, .ref mxq11, .ref mxq12, .ref mxq13, .ref mxq14, .ref mxq15, .ref mxq16, .ref mxq17, .ref mxq18, .ref mxq19, .ref mxq20, .ref mxq21, .ref mxq22, .ref mxq23, .ref mxq24, .ref mxq25, .ref mxq26, .long 0, .int 0, .int 0, .int 0, .int 0, .int 0, .ref mxq27, .ref mxq28, .ref mxq29, .ref mxq30, .ref mxq31, .ref mxq32, .ref mxq33, .long 0]))]) (vx_runSX (As := [.ref h0, .ref o]) (rest := []) ⟨hx, hb, hml, hown, hts⟩ (z_L_best l hst dC dI xq1 xq2 xq3 xq4 xq5 xq6 xq7 xq8 h0 o co fo  H.size) (vx_cwSW 2 hts (z_gSh z_T.l mw1029 mw1030 mw0 mw1031) rfl rfl rfl (by decide +kernel) ⟨Nat.le_of_ble_eq_true rfl, Nat.le_of_ble_eq_true rfl⟩) (z_pre I [0, 1, 3] [0] rfl rfl rfl rfl) rfl rfl hl.1 rfl (lv_room (Nat.le_of_ble_eq_true rfl)) dL_law_1430 ⟨Nat.le_of_ble_eq_true rfl, Nat.le_of_ble_eq_true rfl⟩) I [0, 1, 3] [2] rfl rfl (by decide) (by decide) (fun E1 ce1 q1 H locs hE1 I hcell hcv hcl => ?_) (fun r1 u1 H locs hw1 I => ?_)
  · skip
    have I : z_I A dC dI [(mh0, .inr (9, [.int 0, .ref mxq1, .ref mxq2, .ref mxq3, .ref mxq4, .ref mxq5, .ref mxq6, .ref mxq7, .ref mxq8, .ref mxq9, .int 0, .int 0, .ref mxq10, .ref mxq11, .ref mxq12, .ref mxq13, .ref mxq14, .ref mxq15, .ref mxq16, .ref mxq17, .ref mxq18, .ref mxq19, .ref mxq20, .ref mxq21, .ref mxq22, .ref mxq23, .ref mxq24, .ref mxq25, .ref mxq26, .long 0, .int 0, .int 0, .int 0, .int 0, .int 0, .ref mxq27, .ref mxq28, .ref mxq29, .ref mxq30, .ref mxq31, .ref mxq32, .ref mxq33, .long 0]))] [(co, .long)] s H _ := I
    exact False.elim hE1
  · skip
    obtain ⟨xf2, hu1, hp1⟩ := hw1
    subst hu1
    have I : z_I A dC dI [(mh0, .inr (9, [.int 0, .ref mxq1, .ref mxq2, .ref mxq3, .ref mxq4, .ref mxq5, .ref mxq6, .ref mxq7, .ref mxq8, .ref mxq9, .int 0, .int 0, .ref mxq10, .ref mxq11, .ref mxq12, .ref mxq13, .ref mxq14, .ref mxq15, .ref mxq16, .ref mxq17, .ref mxq18, .ref mxq19, .ref mxq20, .ref mxq21, .ref mxq22, .ref mxq23, .ref mxq24, .ref mxq25, .ref mxq26, .long 0, .int 0, .int 0, .int 0, .int 0, .int 0, .ref mxq27, .ref mxq28, .ref mxq29, .ref mxq30, .ref mxq31, .ref mxq32, .ref mxq33, .long 0])), (o, .inl (co, 1, .inr (.inl xf2)))] [(co, .long)] s H _ := I
    refine W.widen (k := 1001) (n := 8006) (Nat.le_of_ble_eq_true rfl) (Nat.le_of_ble_eq_true rfl) ?_
    obtain rfl : r1 = 1 := hp1.1
    refine lv_istore (lv' := [(6, .int 1), (0, .ref b), (1, .ref h0), (2, .ref mh0), (3, .ref o), (4, .ref od), (5, .int 0)]) hx hb dL_law_1433 hl (by decide) rfl (fun ls hl => ?_)
    refine lv_aload_n hx hb dL_law_1435 rfl (lv_at hl 3 rfl) ?_
    refine z_calll (wr := [(o, .inl (co, 1, .inr (.inl xf2)))]) (va_runV (As := []) (rest := []) ⟨hx, hb, hml, hown, hts⟩ (z_M_best l dC dI mxq1 mxq2 mxq3 mxq4 mxq5 mxq6 mxq7 mxq8 mxq9 mxq10 mxq11 mxq12 mxq13 mxq14 mxq15 mxq16 mxq17 mxq18 mxq19 mxq20 mxq21 mxq22 mxq23 mxq24 mxq25 mxq26 mxq27 mxq28 mxq29 mxq30 mxq31 mxq32 mxq33 mh0  H.size) (cwV 0 hts (z_gV z_T.l mw1657 mw1658 mw1659 mw10 mw1660) rfl rfl rfl (by decide +kernel) ⟨Nat.le_of_ble_eq_true rfl, Nat.le_of_ble_eq_true rfl⟩) (z_preV I [0] [] rfl rfl rfl rfl (ci := 9) (q0 := 0) rfl rfl) rfl rfl hl.1 rfl (lv_room (Nat.le_of_ble_eq_true rfl)) dL_law_1436 ⟨Nat.le_of_ble_eq_true rfl, Nat.le_of_ble_eq_true rfl⟩) I [0] [1] rfl rfl (by decide) (by decide) (fun r3 u3 H locs hw3 I => ?_)
    obtain ⟨hu3, hp3⟩ := hw3
    subst hu3
    have I : z_I A dC dI [(o, .inl (co, 1, .inr (.inl xf2))), (mh0, .inr (9, [.int 1, .ref mxq1, .ref mxq2, .ref mxq3, .ref mxq4, .ref mxq5, .ref mxq6, .ref mxq7, .ref mxq8, .ref mxq9, .int 0, .int 0, .ref mxq10, .ref mxq11, .ref mxq12, .ref mxq13, .ref mxq14, .ref mxq15, .ref mxq16, .ref mxq17, .ref mxq18, .ref mxq19, .ref mxq20, .ref mxq21, .ref mxq22, .ref mxq23, .ref mxq24, .ref mxq25, .ref mxq26, .long 0, .int 0, .int 0, .int 0, .int 0, .int 0, .ref mxq27, .ref mxq28, .ref mxq29, .ref mxq30, .ref mxq31, .ref mxq32, .ref mxq33, .long 0]))] [(co, .long)] s H _ := I
    obtain rfl : r3 = 0 := hp3
    refine lv_lstore (lv' := [(7, .long 0), (6, .int 1), (0, .ref b), (1, .ref h0), (2, .ref mh0), (3, .ref o), (4, .ref od), (5, .int 0)]) hx hb dL_law_1439 hl (by decide) rfl (fun ls hl => ?_)
    refine lv_aload_n hx hb dL_law_1441 rfl (lv_at hl 4 rfl) ?_
    refine z_calli (wr := [(o, .inl (co, 1, .inr (.inl xf2)))]) (va_runV (As := []) (rest := []) ⟨hx, hb, hml, hown, hts⟩ (z_M_thrown l dC dI 1 mxq1 mxq2 mxq3 mxq4 mxq5 mxq6 mxq7 mxq8 mxq9 0 0 mxq10 mxq11 mxq12 mxq13 mxq14 mxq15 mxq16 mxq17 mxq18 mxq19 mxq20 mxq21 mxq22 mxq23 mxq24 mxq25 mxq26 0 0 0 0 0 0 mxq27 mxq28 mxq29 mxq30 mxq31 mxq32 mxq33 0 mh0  H.size) (cwV 0 hts (z_gV z_T.l mw1391 mw1392 mw1393 mw10 mw1394) rfl rfl rfl (by decide +kernel) ⟨Nat.le_of_ble_eq_true rfl, Nat.le_of_ble_eq_true rfl⟩) (z_preV I [1] [] rfl rfl rfl rfl (ci := 9) (q0 := 1) rfl rfl) rfl rfl hl.1 rfl (lv_room (Nat.le_of_ble_eq_true rfl)) dL_law_1442 ⟨Nat.le_of_ble_eq_true rfl, Nat.le_of_ble_eq_true rfl⟩) I [1] [0] rfl rfl (by decide) (by decide) (fun r4 u4 H locs hw4 I => ?_)
    obtain ⟨hu4, hp4⟩ := hw4
    subst hu4
    have I : z_I A dC dI [(o, .inl (co, 1, .inr (.inl xf2))), (mh0, .inr (9, [.int 1, .ref mxq1, .ref mxq2, .ref mxq3, .ref mxq4, .ref mxq5, .ref mxq6, .ref mxq7, .ref mxq8, .ref mxq9, .int 0, .int 0, .ref mxq10, .ref mxq11, .ref mxq12, .ref mxq13, .ref mxq14, .ref mxq15, .ref mxq16, .ref mxq17, .ref mxq18, .ref mxq19, .ref mxq20, .ref mxq21, .ref mxq22, .ref mxq23, .ref mxq24, .ref mxq25, .ref mxq26, .long 0, .int 0, .int 0, .int 0, .int 0, .int 0, .ref mxq27, .ref mxq28, .ref mxq29, .ref mxq30, .ref mxq31, .ref mxq32, .ref mxq33, .long 0]))] [(co, .long)] s H _ := I
    obtain rfl : 1 = r4 := hp4.symm
    refine lv_iload hx hb dL_law_1445 (lv_at hl 1 rfl) ?_
    refine lv_icmp_eq (tgt := 1452) hx hb dL_law_1447 (by decide) (fun _ => ?_) (fun c9 => absurd c9 (by decide))
    refine lv_iload hx hb dL_law_1452 (lv_at hl 1 rfl) ?_
    refine lv_if_ne (tgt := 1468) hx hb dL_law_1454 (by decide) (fun _ => ?_) (fun c9 => absurd c9 (by decide))
    refine lv_goto (tgt := 2238) hx hb dL_law_1468 (by decide) ?_
    refine W.widen (k := 2000) (n := 9000) (Nat.le_of_ble_eq_true rfl) (Nat.le_of_ble_eq_true rfl) ?_
    exact K _ _ _ I.2.2.2.1 (lv_sub hl [2, 7] rfl)
set_option maxHeartbeats 4000000 in
set_option maxRecDepth 100000 in
theorem z_case_21 (l : Launch) (hst : l.stackTraces = false) (dC : Nat → ClassId) (dI : Nat → Nat → Nat) (xq1 : Nat) (xq2 : Nat) (xq9 : Nat) (xq10 : Nat) (xq11 : Nat) (xq12 : Nat) (xq13 : Nat) (xq14 : Nat) (xq15 : Nat) (xq16 : Nat) (xq17 : Nat) (xq18 : Nat) (xq19 : Nat) (h0 : Nat) (mxq1 : Nat) (mxq2 : Nat) (mxq3 : Nat) (mxq4 : Nat) (mxq5 : Nat) (mxq6 : Nat) (mxq7 : Nat) (mxq8 : Nat) (mxq9 : Nat) (mxq10 : Nat) (mxq11 : Nat) (mxq12 : Nat) (mxq13 : Nat) (mxq14 : Nat) (mxq15 : Nat) (mxq16 : Nat) (mxq17 : Nat) (mxq18 : Nat) (mxq19 : Nat) (mxq20 : Nat) (mxq21 : Nat) (mxq22 : Nat) (mxq23 : Nat) (mxq24 : Nat) (mxq25 : Nat) (mxq26 : Nat) (mxq27 : Nat) (mxq28 : Nat) (mxq29 : Nat) (mxq30 : Nat) (mxq31 : Nat) (mxq32 : Nat) (mxq33 : Nat) (mh0 : Nat) (o : Nat) (co : ClassId) (fo : Nat → Int64) (od : Nat) {p : Program} {e : Env} {s : State} {m : MethodId} {below : List Frame} {meth : Method} {c : Code} {b : Nat} {xs : Nat → Int32} {A : Nat → Prop} {Q : State → Prop} (hx : p.tables.exec = Jvm.exec) (hb : c.code = cL_law) (hml : c.maxLocals = 9) (hown : s.vm.findClass RL = some m.cls) (hts : ∀ w ∈ lw_tbl, w.before #[Value.ref b] s = true) (hX : va_X b 7 xs s s.heap) (hbl : b < s.heap.size) (hbA : ¬ A b) (K : z_LK p l e s m below meth c b A Q) {H : Heap} {locs : List Loc} {ls : Array Slot} (I : z_I A dC dI [(h0, .inr (8, [.ref xq1, .ref xq2])), (xq2, .inr (5, [.ref xq9, .ref xq10, .ref xq11, .ref xq12, .ref xq13, .ref xq14, .ref xq15, .ref xq16, .ref xq17, .ref xq18, .ref xq19, .int 0, .int 0])), (mh0, .inr (9, [.int 0, .ref mxq1, .ref mxq2, .ref mxq3, .ref mxq4, .ref mxq5, .ref mxq6, .ref mxq7, .ref mxq8, .ref mxq9, .int 0, .int 0, .ref mxq10, .ref mxq11, .ref mxq12, .ref mxq13, .ref mxq14, .ref mxq15, .ref mxq16, .ref mxq17, .ref mxq18, .ref mxq19, .ref mxq20, .ref mxq21, .ref mxq22, .ref mxq23, .ref mxq24, .ref mxq25, .ref mxq26, .long 0, .int 0, .int 0, .int 0, .int 0, .int 0, .ref mxq27, .ref mxq28, .ref mxq29, .ref mxq30, .ref mxq31, .ref mxq32, .ref mxq33, .long 0])), (o, .inl (co, 1, .inr (.inl fo)))] [(co, .long)] s H locs) (hl : lv_has ls 9 [(0, .ref b), (1, .ref h0), (2, .ref mh0), (3, .ref o), (4, .ref od), (5, .int 0)]) : W p l e room_1 s m #[Value.ref b] below meth c H locs 1000 8000 Q (F0 m 1471 ls []) := by
  have hg : z_G #[Value.ref b] s := fun w hw _ => hts w hw
  refine lv_aload_n hx hb dL_law_1471 rfl (lv_at hl 1 rfl) ?_
  refine lv_aload_n hx hb dL_law_1472 rfl (lv_at hl 0 rfl) ?_
  refine lv_iload hx hb dL_law_1473 (lv_at hl 5 rfl) ?_
  refine lv_iconst (v := 1) hx hb dL_law_1475 (by decide) ?_
  refine lv_iadd hx hb dL_law_1476 ?_
  refine lv_topi (fun w1 ew1 => ?_)
  obtain rfl : w1 = 1 := ew1.trans (by decide)
  refine va_sld hx hb hX hbl hbA I.2.2.2.1 (by unfold vp_in; decide) dL_law_1477 ?_
  refine lv_aload_n hx hb dL_law_1478 rfl (lv_at hl 3 rfl) ?_
  refine z_xcalli (wr := [(mh0, .inr (9, [.int 0, .ref mxq1, .ref mxq2, .ref mxq3, .ref mxq4, .ref mxq5, .ref mxq6, .ref mxq7, .ref mxq8, .ref mxq9, .int 0, .int 0, .ref mxq10, .ref mxq11, .ref mxq12, .ref mxq13, .ref mxq14, .ref mxq15, .ref mxq16, .ref mxq17, .ref mxq18, .ref mxq19, .ref mxq20, .ref mxq21, .ref mxq22, .ref mxq23, .ref mxq24, .ref mxq25, .ref mxq26, .long 0, .int 0, .int 0, .int 0, .int 0, .int 0, .ref mxq27, .ref mxq28, .ref mxq29, .ref mxq30, .ref mxq31, .ref mxq32, .ref mxq33, .long 0]))]) (vx_runSX (As := [.ref h0, .int (xs (Int32.toNatClampNeg 1)), .ref o]) (rest := []) ⟨hx, hb, hml, hown, hts⟩ (z_L_solution l hst dC dI xq1 xq2 xq9 xq10 xq11 xq12 xq13 xq14 xq15 xq16 xq17 xq18 xq19 h0 o co fo (xs (Int32.toNatClampNeg 1))  H.size) (vx_cwSW 3 hts (z_gSh z_T.l mw1037 mw1038 mw0 mw1039) rfl rfl rfl (by decide +kernel) ⟨Nat.le_of_ble_eq_true rfl, Nat.le_of_ble_eq_true rfl⟩) (z_pre I [0, 1, 3] [0] rfl rfl rfl rfl) rfl rfl hl.1 rfl (lv_room (Nat.le_of_ble_eq_true rfl)) dL_law_1479 ⟨Nat.le_of_ble_eq_true rfl, Nat.le_of_ble_eq_true rfl⟩) I [0, 1, 3] [2] rfl rfl (by decide) (by decide) (fun E2 ce2 q2 H locs hE2 I hcell hcv hcl => ?_) (fun r2 u2 H locs hw2 I => ?_)
  · skip
    have I : z_I A dC dI [(mh0, .inr (9, [.int 0, .ref mxq1, .ref mxq2, .ref mxq3, .ref mxq4, .ref mxq5, .ref mxq6, .ref mxq7, .ref mxq8, .ref mxq9, .int 0, .int 0, .ref mxq10, .ref mxq11, .ref mxq12, .ref mxq13, .ref mxq14, .ref mxq15, .ref mxq16, .ref mxq17, .ref mxq18, .ref mxq19, .ref mxq20, .ref mxq21, .ref mxq22, .ref mxq23, .ref mxq24, .ref mxq25, .ref mxq26, .long 0, .int 0, .int 0, .int 0, .int 0, .int 0, .ref mxq27, .ref mxq28, .ref mxq29, .ref mxq30, .ref mxq31, .ref mxq32, .ref mxq33, .long 0]))] [(co, .long)] s H _ := I
    exact False.elim hE2
  · skip
    obtain ⟨xf3, hu2, hp2⟩ := hw2
    subst hu2
    have I : z_I A dC dI [(mh0, .inr (9, [.int 0, .ref mxq1, .ref mxq2, .ref mxq3, .ref mxq4, .ref mxq5, .ref mxq6, .ref mxq7, .ref mxq8, .ref mxq9, .int 0, .int 0, .ref mxq10, .ref mxq11, .ref mxq12, .ref mxq13, .ref mxq14, .ref mxq15, .ref mxq16, .ref mxq17, .ref mxq18, .ref mxq19, .ref mxq20, .ref mxq21, .ref mxq22, .ref mxq23, .ref mxq24, .ref mxq25, .ref mxq26, .long 0, .int 0, .int 0, .int 0, .int 0, .int 0, .ref mxq27, .ref mxq28, .ref mxq29, .ref mxq30, .ref mxq31, .ref mxq32, .ref mxq33, .long 0])), (o, .inl (co, 1, .inr (.inl xf3)))] [(co, .long)] s H _ := I
    refine W.widen (k := 1001) (n := 8006) (Nat.le_of_ble_eq_true rfl) (Nat.le_of_ble_eq_true rfl) ?_
    obtain rfl : r2 = 1 := hp2.1
    refine lv_istore (lv' := [(6, .int 1), (0, .ref b), (1, .ref h0), (2, .ref mh0), (3, .ref o), (4, .ref od), (5, .int 0)]) hx hb dL_law_1482 hl (by decide) rfl (fun ls hl => ?_)
    refine lv_aload_n hx hb dL_law_1484 rfl (lv_at hl 3 rfl) ?_
    refine lv_aload_n hx hb dL_law_1485 rfl (lv_at hl 1 rfl) ?_
    refine lv_iload hx hb dL_law_1486 (lv_at hl 6 rfl) ?_
    refine lv_iconst (v := 1) hx hb dL_law_1488 (by decide) ?_
    refine lv_iadd hx hb dL_law_1489 ?_
    refine lv_topi (fun w4 ew4 => ?_)
    obtain rfl : w4 = 1 := ew4.trans (by decide)
    refine va_sld hx hb hX hbl hbA I.2.2.2.1 (by unfold vp_in; decide) dL_law_1490 ?_
    refine z_calll (wr := [(o, .inl (co, 1, .inr (.inl xf3)))]) (va_runV (As := [.int (xs (Int32.toNatClampNeg 1))]) (rest := []) ⟨hx, hb, hml, hown, hts⟩ (z_M_solution l dC dI mxq1 mxq2 mxq3 mxq4 mxq5 mxq6 mxq7 mxq8 mxq9 mxq10 mxq11 mxq12 mxq13 mxq14 mxq15 mxq16 mxq17 mxq18 mxq19 mxq20 mxq21 mxq22 mxq23 mxq24 mxq25 mxq26 mxq27 mxq28 mxq29 mxq30 mxq31 mxq32 mxq33 mh0 (xs (Int32.toNatClampNeg 1))  H.size) (cwV 1 hts (z_gV z_T.l mw1661 mw1662 mw1663 mw10 mw1664) rfl rfl rfl (by decide +kernel) ⟨Nat.le_of_ble_eq_true rfl, Nat.le_of_ble_eq_true rfl⟩) (z_preV I [0] [] rfl rfl rfl rfl (ci := 9) (q0 := 0) rfl rfl) rfl rfl hl.1 rfl (lv_room (Nat.le_of_ble_eq_true rfl)) dL_law_1491 ⟨Nat.le_of_ble_eq_true rfl, Nat.le_of_ble_eq_true rfl⟩) I [0] [1] rfl rfl (by decide) (by decide) (fun r5 u5 H locs hw5 I => ?_)
    obtain ⟨hu5, hp5⟩ := hw5
    subst hu5
    have I : z_I A dC dI [(o, .inl (co, 1, .inr (.inl xf3))), (mh0, .inr (9, [.int 1, .ref mxq1, .ref mxq2, .ref mxq3, .ref mxq4, .ref mxq5, .ref mxq6, .ref mxq7, .ref mxq8, .ref mxq9, .int 0, .int 0, .ref mxq10, .ref mxq11, .ref mxq12, .ref mxq13, .ref mxq14, .ref mxq15, .ref mxq16, .ref mxq17, .ref mxq18, .ref mxq19, .ref mxq20, .ref mxq21, .ref mxq22, .ref mxq23, .ref mxq24, .ref mxq25, .ref mxq26, .long 0, .int 0, .int 0, .int 0, .int 0, .int 0, .ref mxq27, .ref mxq28, .ref mxq29, .ref mxq30, .ref mxq31, .ref mxq32, .ref mxq33, .long 0]))] [(co, .long)] s H _ := I
    obtain rfl : r5 = 0 := hp5
    refine lv_lstore (lv' := [(7, .long 0), (6, .int 1), (0, .ref b), (1, .ref h0), (2, .ref mh0), (3, .ref o), (4, .ref od), (5, .int 0)]) hx hb dL_law_1494 hl (by decide) rfl (fun ls hl => ?_)
    refine lv_aload_n hx hb dL_law_1496 rfl (lv_at hl 4 rfl) ?_
    refine z_calli (wr := [(o, .inl (co, 1, .inr (.inl xf3)))]) (va_runV (As := []) (rest := []) ⟨hx, hb, hml, hown, hts⟩ (z_M_thrown l dC dI 1 mxq1 mxq2 mxq3 mxq4 mxq5 mxq6 mxq7 mxq8 mxq9 0 0 mxq10 mxq11 mxq12 mxq13 mxq14 mxq15 mxq16 mxq17 mxq18 mxq19 mxq20 mxq21 mxq22 mxq23 mxq24 mxq25 mxq26 0 0 0 0 0 0 mxq27 mxq28 mxq29 mxq30 mxq31 mxq32 mxq33 0 mh0  H.size) (cwV 0 hts (z_gV z_T.l mw1391 mw1392 mw1393 mw10 mw1394) rfl rfl rfl (by decide +kernel) ⟨Nat.le_of_ble_eq_true rfl, Nat.le_of_ble_eq_true rfl⟩) (z_preV I [1] [] rfl rfl rfl rfl (ci := 9) (q0 := 1) rfl rfl) rfl rfl hl.1 rfl (lv_room (Nat.le_of_ble_eq_true rfl)) dL_law_1497 ⟨Nat.le_of_ble_eq_true rfl, Nat.le_of_ble_eq_true rfl⟩) I [1] [0] rfl rfl (by decide) (by decide) (fun r6 u6 H locs hw6 I => ?_)
    obtain ⟨hu6, hp6⟩ := hw6
    subst hu6
    have I : z_I A dC dI [(o, .inl (co, 1, .inr (.inl xf3))), (mh0, .inr (9, [.int 1, .ref mxq1, .ref mxq2, .ref mxq3, .ref mxq4, .ref mxq5, .ref mxq6, .ref mxq7, .ref mxq8, .ref mxq9, .int 0, .int 0, .ref mxq10, .ref mxq11, .ref mxq12, .ref mxq13, .ref mxq14, .ref mxq15, .ref mxq16, .ref mxq17, .ref mxq18, .ref mxq19, .ref mxq20, .ref mxq21, .ref mxq22, .ref mxq23, .ref mxq24, .ref mxq25, .ref mxq26, .long 0, .int 0, .int 0, .int 0, .int 0, .int 0, .ref mxq27, .ref mxq28, .ref mxq29, .ref mxq30, .ref mxq31, .ref mxq32, .ref mxq33, .long 0]))] [(co, .long)] s H _ := I
    obtain rfl : 1 = r6 := hp6.symm
    refine lv_iload hx hb dL_law_1500 (lv_at hl 1 rfl) ?_
    refine lv_icmp_eq (tgt := 1507) hx hb dL_law_1502 (by decide) (fun _ => ?_) (fun c9 => absurd c9 (by decide))
    refine lv_iload hx hb dL_law_1507 (lv_at hl 1 rfl) ?_
    refine lv_if_ne (tgt := 1523) hx hb dL_law_1509 (by decide) (fun _ => ?_) (fun c9 => absurd c9 (by decide))
    refine lv_goto (tgt := 2238) hx hb dL_law_1523 (by decide) ?_
    refine W.widen (k := 2000) (n := 9000) (Nat.le_of_ble_eq_true rfl) (Nat.le_of_ble_eq_true rfl) ?_
    exact K _ _ _ I.2.2.2.1 (lv_sub hl [2, 7] rfl)
set_option maxHeartbeats 4000000 in
set_option maxRecDepth 100000 in
theorem z_case_22 (l : Launch) (hst : l.stackTraces = false) (dC : Nat → ClassId) (dI : Nat → Nat → Nat) (xq1 : Nat) (xq2 : Nat) (xq9 : Nat) (xq10 : Nat) (xq11 : Nat) (xq12 : Nat) (xq13 : Nat) (xq14 : Nat) (xq15 : Nat) (xq16 : Nat) (xq17 : Nat) (xq18 : Nat) (xq19 : Nat) (xf21 : Nat → Int32) (xc22 : ClassId) (xq32 : Nat) (xc33 : ClassId) (xf34 : Nat → Int64) (h0 : Nat) (mxq1 : Nat) (mxq2 : Nat) (mxq3 : Nat) (mxq4 : Nat) (mxq5 : Nat) (mxq6 : Nat) (mxq7 : Nat) (mxq8 : Nat) (mxq9 : Nat) (mxq10 : Nat) (mxq11 : Nat) (mxq12 : Nat) (mxq13 : Nat) (mxq14 : Nat) (mxq15 : Nat) (mxq16 : Nat) (mxq17 : Nat) (mxq18 : Nat) (mxq19 : Nat) (mxq20 : Nat) (mxq21 : Nat) (mxq22 : Nat) (mxq23 : Nat) (mxq24 : Nat) (mxq25 : Nat) (mxq26 : Nat) (mxq27 : Nat) (mxq28 : Nat) (mxq29 : Nat) (mxq30 : Nat) (mxq31 : Nat) (mxq32 : Nat) (mxq33 : Nat) (mh0 : Nat) (o : Nat) (co : ClassId) (fo : Nat → Int64) (od : Nat) {p : Program} {e : Env} {s : State} {m : MethodId} {below : List Frame} {meth : Method} {c : Code} {b : Nat} {xs : Nat → Int32} {A : Nat → Prop} {Q : State → Prop} (hx : p.tables.exec = Jvm.exec) (hb : c.code = cL_law) (hml : c.maxLocals = 9) (hown : s.vm.findClass RL = some m.cls) (hts : ∀ w ∈ lw_tbl, w.before #[Value.ref b] s = true) (hX : va_X b 7 xs s s.heap) (hbl : b < s.heap.size) (hbA : ¬ A b) (K : z_LK p l e s m below meth c b A Q) {H : Heap} {locs : List Loc} {ls : Array Slot} (I : z_I A dC dI [(h0, .inr (8, [.ref xq1, .ref xq2])), (xq2, .inr (5, [.ref xq9, .ref xq10, .ref xq11, .ref xq12, .ref xq13, .ref xq14, .ref xq15, .ref xq16, .ref xq17, .ref xq18, .ref xq19, .int 0, .int 0])), (xq10, .inl (xc22, 4, .inl xf21)), (xq18, .inr (4, [.ref xq32, .long 1, .long 0])), (xq32, .inl (xc33, 4, .inr (.inl xf34))), (mh0, .inr (9, [.int 0, .ref mxq1, .ref mxq2, .ref mxq3, .ref mxq4, .ref mxq5, .ref mxq6, .ref mxq7, .ref mxq8, .ref mxq9, .int 0, .int 0, .ref mxq10, .ref mxq11, .ref mxq12, .ref mxq13, .ref mxq14, .ref mxq15, .ref mxq16, .ref mxq17, .ref mxq18, .ref mxq19, .ref mxq20, .ref mxq21, .ref mxq22, .ref mxq23, .ref mxq24, .ref mxq25, .ref mxq26, .long 0, .int 0, .int 0, .int 0, .int 0, .int 0, .ref mxq27, .ref mxq28, .ref mxq29, .ref mxq30, .ref mxq31, .ref mxq32, .ref mxq33, .long 0])), (o, .inl (co, 1, .inr (.inl fo)))] [(xc22, .int), (xc33, .long), (co, .long)] s H locs) (hl : lv_has ls 9 [(0, .ref b), (1, .ref h0), (2, .ref mh0), (3, .ref o), (4, .ref od), (5, .int 0)]) : W p l e room_1 s m #[Value.ref b] below meth c H locs 1000 8000 Q (F0 m 1526 ls []) := by
  have hg : z_G #[Value.ref b] s := fun w hw _ => hts w hw
  refine lv_aload_n hx hb dL_law_1526 rfl (lv_at hl 1 rfl) ?_
  refine lv_aload_n hx hb dL_law_1527 rfl (lv_at hl 3 rfl) ?_
  refine z_xcalli (wr := [(mh0, .inr (9, [.int 0, .ref mxq1, .ref mxq2, .ref mxq3, .ref mxq4, .ref mxq5, .ref mxq6, .ref mxq7, .ref mxq8, .ref mxq9, .int 0, .int 0, .ref mxq10, .ref mxq11, .ref mxq12, .ref mxq13, .ref mxq14, .ref mxq15, .ref mxq16, .ref mxq17, .ref mxq18, .ref mxq19, .ref mxq20, .ref mxq21, .ref mxq22, .ref mxq23, .ref mxq24, .ref mxq25, .ref mxq26, .long 0, .int 0, .int 0, .int 0, .int 0, .int 0, .ref mxq27, .ref mxq28, .ref mxq29, .ref mxq30, .ref mxq31, .ref mxq32, .ref mxq33, .long 0]))]) (vx_runSX (As := [.ref h0, .ref o]) (rest := []) ⟨hx, hb, hml, hown, hts⟩ (z_L_bestByAll l hst dC dI xq1 xq2 xq9 xq10 xq11 xq12 xq13 xq14 xq15 xq16 xq17 xq18 xq19 xf21 xc22 xq32 xc33 xf34 h0 o co fo  H.size) (vx_cwSW 2 hts (z_gSh z_T.l mw1044 mw1045 mw0 mw1046) rfl rfl rfl (by decide +kernel) ⟨Nat.le_of_ble_eq_true rfl, Nat.le_of_ble_eq_true rfl⟩) (z_pre I [0, 1, 2, 3, 4, 6] [0, 1, 2] rfl rfl rfl rfl) rfl rfl hl.1 rfl (lv_room (Nat.le_of_ble_eq_true rfl)) dL_law_1528 ⟨Nat.le_of_ble_eq_true rfl, Nat.le_of_ble_eq_true rfl⟩) I [0, 1, 2, 3, 4, 6] [5] rfl rfl (by decide) (by decide) (fun E1 ce1 q1 H locs hE1 I hcell hcv hcl => ?_) (fun r1 u1 H locs hw1 I => ?_)
  · skip
    have I : z_I A dC dI [(mh0, .inr (9, [.int 0, .ref mxq1, .ref mxq2, .ref mxq3, .ref mxq4, .ref mxq5, .ref mxq6, .ref mxq7, .ref mxq8, .ref mxq9, .int 0, .int 0, .ref mxq10, .ref mxq11, .ref mxq12, .ref mxq13, .ref mxq14, .ref mxq15, .ref mxq16, .ref mxq17, .ref mxq18, .ref mxq19, .ref mxq20, .ref mxq21, .ref mxq22, .ref mxq23, .ref mxq24, .ref mxq25, .ref mxq26, .long 0, .int 0, .int 0, .int 0, .int 0, .int 0, .ref mxq27, .ref mxq28, .ref mxq29, .ref mxq30, .ref mxq31, .ref mxq32, .ref mxq33, .long 0]))] [(xc22, .int), (xc33, .long), (co, .long)] s H _ := I
    exact False.elim hE1
  · skip
    obtain ⟨xf2, hu1, hp1⟩ := hw1
    subst hu1
    have I : z_I A dC dI [(mh0, .inr (9, [.int 0, .ref mxq1, .ref mxq2, .ref mxq3, .ref mxq4, .ref mxq5, .ref mxq6, .ref mxq7, .ref mxq8, .ref mxq9, .int 0, .int 0, .ref mxq10, .ref mxq11, .ref mxq12, .ref mxq13, .ref mxq14, .ref mxq15, .ref mxq16, .ref mxq17, .ref mxq18, .ref mxq19, .ref mxq20, .ref mxq21, .ref mxq22, .ref mxq23, .ref mxq24, .ref mxq25, .ref mxq26, .long 0, .int 0, .int 0, .int 0, .int 0, .int 0, .ref mxq27, .ref mxq28, .ref mxq29, .ref mxq30, .ref mxq31, .ref mxq32, .ref mxq33, .long 0])), (o, .inl (co, 1, .inr (.inl xf2)))] [(xc22, .int), (xc33, .long), (co, .long)] s H _ := I
    obtain rfl : r1 = 0 := hp1.1
    refine lv_istore (lv' := [(6, .int 0), (0, .ref b), (1, .ref h0), (2, .ref mh0), (3, .ref o), (4, .ref od), (5, .int 0)]) hx hb dL_law_1531 hl (by decide) rfl (fun ls hl => ?_)
    refine lv_aload_n hx hb dL_law_1533 rfl (lv_at hl 3 rfl) ?_
    refine z_calli (wr := [(o, .inl (co, 1, .inr (.inl xf2)))]) (va_runV (As := []) (rest := []) ⟨hx, hb, hml, hown, hts⟩ (z_M_bestByAll l dC dI mxq1 mxq2 mxq3 mxq4 mxq5 mxq6 mxq7 mxq8 mxq9 mxq10 mxq11 mxq12 mxq13 mxq14 mxq15 mxq16 mxq17 mxq18 mxq19 mxq20 mxq21 mxq22 mxq23 mxq24 mxq25 mxq26 mxq27 mxq28 mxq29 mxq30 mxq31 mxq32 mxq33 mh0  H.size) (cwV 0 hts (z_gV z_T.l mw1665 mw1666 mw1667 mw10 mw1668) rfl rfl rfl (by decide +kernel) ⟨Nat.le_of_ble_eq_true rfl, Nat.le_of_ble_eq_true rfl⟩) (z_preV I [0] [] rfl rfl rfl rfl (ci := 9) (q0 := 0) rfl rfl) rfl rfl hl.1 rfl (lv_room (Nat.le_of_ble_eq_true rfl)) dL_law_1534 ⟨Nat.le_of_ble_eq_true rfl, Nat.le_of_ble_eq_true rfl⟩) I [0] [1] rfl rfl (by decide) (by decide) (fun r3 u3 H locs hw3 I => ?_)
    obtain ⟨hu3, hp3⟩ := hw3
    subst hu3
    have I : z_I A dC dI [(o, .inl (co, 1, .inr (.inl xf2))), (mh0, .inr (9, [.int 0, .ref mxq1, .ref mxq2, .ref mxq3, .ref mxq4, .ref mxq5, .ref mxq6, .ref mxq7, .ref mxq8, .ref mxq9, .int 0, .int 0, .ref mxq10, .ref mxq11, .ref mxq12, .ref mxq13, .ref mxq14, .ref mxq15, .ref mxq16, .ref mxq17, .ref mxq18, .ref mxq19, .ref mxq20, .ref mxq21, .ref mxq22, .ref mxq23, .ref mxq24, .ref mxq25, .ref mxq26, .long 0, .int 0, .int 0, .int 0, .int 0, .int 0, .ref mxq27, .ref mxq28, .ref mxq29, .ref mxq30, .ref mxq31, .ref mxq32, .ref mxq33, .long 1]))] [(xc22, .int), (xc33, .long), (co, .long)] s H _ := I
    obtain rfl : r3 = 0 := hp3
    refine lv_istore (lv' := [(7, .int 0), (6, .int 0), (0, .ref b), (1, .ref h0), (2, .ref mh0), (3, .ref o), (4, .ref od), (5, .int 0)]) hx hb dL_law_1537 hl (by decide) rfl (fun ls hl => ?_)
    refine lv_aload_n hx hb dL_law_1539 rfl (lv_at hl 4 rfl) ?_
    refine z_calli (wr := [(o, .inl (co, 1, .inr (.inl xf2)))]) (va_runV (As := []) (rest := []) ⟨hx, hb, hml, hown, hts⟩ (z_M_thrown l dC dI 0 mxq1 mxq2 mxq3 mxq4 mxq5 mxq6 mxq7 mxq8 mxq9 0 0 mxq10 mxq11 mxq12 mxq13 mxq14 mxq15 mxq16 mxq17 mxq18 mxq19 mxq20 mxq21 mxq22 mxq23 mxq24 mxq25 mxq26 0 0 0 0 0 0 mxq27 mxq28 mxq29 mxq30 mxq31 mxq32 mxq33 1 mh0  H.size) (cwV 0 hts (z_gV z_T.l mw1391 mw1392 mw1393 mw10 mw1394) rfl rfl rfl (by decide +kernel) ⟨Nat.le_of_ble_eq_true rfl, Nat.le_of_ble_eq_true rfl⟩) (z_preV I [1] [] rfl rfl rfl rfl (ci := 9) (q0 := 1) rfl rfl) rfl rfl hl.1 rfl (lv_room (Nat.le_of_ble_eq_true rfl)) dL_law_1540 ⟨Nat.le_of_ble_eq_true rfl, Nat.le_of_ble_eq_true rfl⟩) I [1] [0] rfl rfl (by decide) (by decide) (fun r4 u4 H locs hw4 I => ?_)
    obtain ⟨hu4, hp4⟩ := hw4
    subst hu4
    have I : z_I A dC dI [(o, .inl (co, 1, .inr (.inl xf2))), (mh0, .inr (9, [.int 0, .ref mxq1, .ref mxq2, .ref mxq3, .ref mxq4, .ref mxq5, .ref mxq6, .ref mxq7, .ref mxq8, .ref mxq9, .int 0, .int 0, .ref mxq10, .ref mxq11, .ref mxq12, .ref mxq13, .ref mxq14, .ref mxq15, .ref mxq16, .ref mxq17, .ref mxq18, .ref mxq19, .ref mxq20, .ref mxq21, .ref mxq22, .ref mxq23, .ref mxq24, .ref mxq25, .ref mxq26, .long 0, .int 0, .int 0, .int 0, .int 0, .int 0, .ref mxq27, .ref mxq28, .ref mxq29, .ref mxq30, .ref mxq31, .ref mxq32, .ref mxq33, .long 1]))] [(xc22, .int), (xc33, .long), (co, .long)] s H _ := I
    obtain rfl : 0 = r4 := hp4.symm
    refine lv_iload hx hb dL_law_1543 (lv_at hl 1 rfl) ?_
    refine lv_icmp_eq (tgt := 1550) hx hb dL_law_1545 (by decide) (fun _ => ?_) (fun c9 => absurd c9 (by decide))
    refine lv_iload hx hb dL_law_1550 (lv_at hl 1 rfl) ?_
    refine lv_if_ne (tgt := 1567) hx hb dL_law_1552 (by decide) (fun c9 => absurd c9 (by decide)) (fun _ => ?_)
    refine lv_aload_n hx hb dL_law_1555 rfl (lv_at hl 5 rfl) ?_
    refine lv_iconst (v := 0) hx hb dL_law_1556 (by decide) ?_
    refine z_lald (v := 0) hx hb I 0 2 rfl rfl (by unfold vp_in; decide) dL_law_1557 (hp1.2 rfl) ?_
    refine lv_iload hx hb dL_law_1558 (lv_at hl 0 rfl) ?_
    refine lv_i2l (v := 0) hx hb dL_law_1560 (by decide) ?_
    refine W.lcmp hx hb dL_law_1561 ?_
    refine lv_topi (fun w5 ew5 => ?_)
    obtain rfl : w5 = 0 := ew5.trans (by decide)
    refine lv_if_eq (tgt := 1567) hx hb dL_law_1562 (by decide) (fun _ => ?_) (fun c9 => absurd c9 (by decide))
    refine lv_goto (tgt := 2238) hx hb dL_law_1567 (by decide) ?_
    refine W.widen (k := 2000) (n := 9000) (Nat.le_of_ble_eq_true rfl) (Nat.le_of_ble_eq_true rfl) ?_
    exact K _ _ _ I.2.2.2.1 (lv_sub hl [2, 7] rfl)
set_option maxHeartbeats 4000000 in
set_option maxRecDepth 100000 in
theorem z_case_23 (l : Launch) (hst : l.stackTraces = false) (dC : Nat → ClassId) (dI : Nat → Nat → Nat) (xq1 : Nat) (xq2 : Nat) (xq3 : Nat) (xq4 : Nat) (xq5 : Nat) (xq6 : Nat) (xq7 : Nat) (xq8 : Nat) (h0 : Nat) (mxq1 : Nat) (mxq2 : Nat) (mxq3 : Nat) (mxq4 : Nat) (mxq5 : Nat) (mxq6 : Nat) (mxq7 : Nat) (mxq8 : Nat) (mxq9 : Nat) (mxq10 : Nat) (mxq11 : Nat) (mxq12 : Nat) (mxq13 : Nat) (mxq14 : Nat) (mxq15 : Nat) (mxq16 : Nat) (mxq17 : Nat) (mxq18 : Nat) (mxq19 : Nat) (mxq20 : Nat) (mxq21 : Nat) (mxq22 : Nat) (mxq23 : Nat) (mxq24 : Nat) (mxq25 : Nat) (mxq26 : Nat) (mxq27 : Nat) (mxq28 : Nat) (mxq29 : Nat) (mxq30 : Nat) (mxq31 : Nat) (mxq32 : Nat) (mxq33 : Nat) (mh0 : Nat) (o : Nat) (co : ClassId) (fo : Nat → Int64) (od : Nat) {p : Program} {e : Env} {s : State} {m : MethodId} {below : List Frame} {meth : Method} {c : Code} {b : Nat} {xs : Nat → Int32} {A : Nat → Prop} {Q : State → Prop} (hx : p.tables.exec = Jvm.exec) (hb : c.code = cL_law) (hml : c.maxLocals = 9) (hown : s.vm.findClass RL = some m.cls) (hts : ∀ w ∈ lw_tbl, w.before #[Value.ref b] s = true) (hX : va_X b 7 xs s s.heap) (hbl : b < s.heap.size) (hbA : ¬ A b) (K : z_LK p l e s m below meth c b A Q) {H : Heap} {locs : List Loc} {ls : Array Slot} (I : z_I A dC dI [(h0, .inr (8, [.ref xq1, .ref xq2])), (xq1, .inr (7, [.ref xq2, .ref xq3, .ref xq4, .ref xq5, .ref xq6, .ref xq7, .ref xq8, .int 0, .int 0, .int 0, .int 0, .int 0])), (mh0, .inr (9, [.int 0, .ref mxq1, .ref mxq2, .ref mxq3, .ref mxq4, .ref mxq5, .ref mxq6, .ref mxq7, .ref mxq8, .ref mxq9, .int 0, .int 0, .ref mxq10, .ref mxq11, .ref mxq12, .ref mxq13, .ref mxq14, .ref mxq15, .ref mxq16, .ref mxq17, .ref mxq18, .ref mxq19, .ref mxq20, .ref mxq21, .ref mxq22, .ref mxq23, .ref mxq24, .ref mxq25, .ref mxq26, .long 0, .int 0, .int 0, .int 0, .int 0, .int 0, .ref mxq27, .ref mxq28, .ref mxq29, .ref mxq30, .ref mxq31, .ref mxq32, .ref mxq33, .long 0])), (o, .inl (co, 1, .inr (.inl fo)))] [(co, .long)] s H locs) (hl : lv_has ls 9 [(0, .ref b), (1, .ref h0), (2, .ref mh0), (3, .ref o), (4, .ref od), (5, .int 0)]) : W p l e room_1 s m #[Value.ref b] below meth c H locs 1000 8000 Q (F0 m 1570 ls []) := by
  have hg : z_G #[Value.ref b] s := fun w hw _ => hts w hw
  refine lv_aload_n hx hb dL_law_1570 rfl (lv_at hl 1 rfl) ?_
  refine lv_aload_n hx hb dL_law_1571 rfl (lv_at hl 0 rfl) ?_
  refine lv_iload hx hb dL_law_1572 (lv_at hl 5 rfl) ?_
  refine lv_iconst (v := 1) hx hb dL_law_1574 (by decide) ?_
  refine lv_iadd hx hb dL_law_1575 ?_
  refine lv_topi (fun w1 ew1 => ?_)
  obtain rfl : w1 = 1 := ew1.trans (by decide)
  refine va_sld hx hb hX hbl hbA I.2.2.2.1 (by unfold vp_in; decide) dL_law_1576 ?_
  refine lv_aload_n hx hb dL_law_1577 rfl (lv_at hl 0 rfl) ?_
  refine lv_iload hx hb dL_law_1578 (lv_at hl 5 rfl) ?_
  refine lv_iconst (v := 2) hx hb dL_law_1580 (by decide) ?_
  refine lv_iadd hx hb dL_law_1581 ?_
  refine lv_topi (fun w2 ew2 => ?_)
  obtain rfl : w2 = 2 := ew2.trans (by decide)
  refine va_sld hx hb hX hbl hbA I.2.2.2.1 (by unfold vp_in; decide) dL_law_1582 ?_
  refine lv_aload_n hx hb dL_law_1583 rfl (lv_at hl 0 rfl) ?_
  refine lv_iload hx hb dL_law_1584 (lv_at hl 5 rfl) ?_
  refine lv_iconst (v := 3) hx hb dL_law_1586 (by decide) ?_
  refine lv_iadd hx hb dL_law_1587 ?_
  refine lv_topi (fun w3 ew3 => ?_)
  obtain rfl : w3 = 3 := ew3.trans (by decide)
  refine va_sld hx hb hX hbl hbA I.2.2.2.1 (by unfold vp_in; decide) dL_law_1588 ?_
  refine lv_aload_n hx hb dL_law_1589 rfl (lv_at hl 3 rfl) ?_
  refine z_xcalli (wr := [(mh0, .inr (9, [.int 0, .ref mxq1, .ref mxq2, .ref mxq3, .ref mxq4, .ref mxq5, .ref mxq6, .ref mxq7, .ref mxq8, .ref mxq9, .int 0, .int 0, .ref mxq10, .ref mxq11, .ref mxq12, .ref mxq13, .ref mxq14, .ref mxq15, .ref mxq16, .ref mxq17, .ref mxq18, .ref mxq19, .ref mxq20, .ref mxq21, .ref mxq22, .ref mxq23, .ref mxq24, .ref mxq25, .ref mxq26, .long 0, .int 0, .int 0, .int 0, .int 0, .int 0, .ref mxq27, .ref mxq28, .ref mxq29, .ref mxq30, .ref mxq31, .ref mxq32, .ref mxq33, .long 0]))]) (vx_runSX (As := [.ref h0, .int (xs (Int32.toNatClampNeg 1)), .int (xs (Int32.toNatClampNeg 2)), .int (xs (Int32.toNatClampNeg 3)), .ref o]) (rest := []) ⟨hx, hb, hml, hown, hts⟩ (z_L_cutByRounding l hst dC dI xq1 xq2 xq3 xq4 xq5 xq6 xq7 xq8 h0 o co fo (xs (Int32.toNatClampNeg 1)) (xs (Int32.toNatClampNeg 2)) (xs (Int32.toNatClampNeg 3))  H.size) (vx_cwSW 5 hts (z_gSh z_T.l mw1068 mw1069 mw0 mw1070) rfl rfl rfl (by decide +kernel) ⟨Nat.le_of_ble_eq_true rfl, Nat.le_of_ble_eq_true rfl⟩) (z_pre I [0, 1, 3] [0] rfl rfl rfl rfl) rfl rfl hl.1 rfl (lv_room (Nat.le_of_ble_eq_true rfl)) dL_law_1590 ⟨Nat.le_of_ble_eq_true rfl, Nat.le_of_ble_eq_true rfl⟩) I [0, 1, 3] [2] rfl rfl (by decide) (by decide) (fun E4 ce4 q4 H locs hE4 I hcell hcv hcl => ?_) (fun r4 u4 H locs hw4 I => ?_)
  · skip
    have I : z_I A dC dI [(mh0, .inr (9, [.int 0, .ref mxq1, .ref mxq2, .ref mxq3, .ref mxq4, .ref mxq5, .ref mxq6, .ref mxq7, .ref mxq8, .ref mxq9, .int 0, .int 0, .ref mxq10, .ref mxq11, .ref mxq12, .ref mxq13, .ref mxq14, .ref mxq15, .ref mxq16, .ref mxq17, .ref mxq18, .ref mxq19, .ref mxq20, .ref mxq21, .ref mxq22, .ref mxq23, .ref mxq24, .ref mxq25, .ref mxq26, .long 0, .int 0, .int 0, .int 0, .int 0, .int 0, .ref mxq27, .ref mxq28, .ref mxq29, .ref mxq30, .ref mxq31, .ref mxq32, .ref mxq33, .long 0]))] [(co, .long)] s H _ := I
    exact False.elim hE4
  · skip
    obtain ⟨xf5, hu4, hp4⟩ := hw4
    subst hu4
    have I : z_I A dC dI [(mh0, .inr (9, [.int 0, .ref mxq1, .ref mxq2, .ref mxq3, .ref mxq4, .ref mxq5, .ref mxq6, .ref mxq7, .ref mxq8, .ref mxq9, .int 0, .int 0, .ref mxq10, .ref mxq11, .ref mxq12, .ref mxq13, .ref mxq14, .ref mxq15, .ref mxq16, .ref mxq17, .ref mxq18, .ref mxq19, .ref mxq20, .ref mxq21, .ref mxq22, .ref mxq23, .ref mxq24, .ref mxq25, .ref mxq26, .long 0, .int 0, .int 0, .int 0, .int 0, .int 0, .ref mxq27, .ref mxq28, .ref mxq29, .ref mxq30, .ref mxq31, .ref mxq32, .ref mxq33, .long 0])), (o, .inl (co, 1, .inr (.inl xf5)))] [(co, .long)] s H _ := I
    refine W.widen (k := 1001) (n := 8006) (Nat.le_of_ble_eq_true rfl) (Nat.le_of_ble_eq_true rfl) ?_
    obtain rfl : r4 = 1 := hp4.1
    refine lv_istore (lv' := [(6, .int 1), (0, .ref b), (1, .ref h0), (2, .ref mh0), (3, .ref o), (4, .ref od), (5, .int 0)]) hx hb dL_law_1593 hl (by decide) rfl (fun ls hl => ?_)
    refine lv_aload_n hx hb dL_law_1595 rfl (lv_at hl 3 rfl) ?_
    refine lv_aload_n hx hb dL_law_1596 rfl (lv_at hl 1 rfl) ?_
    refine lv_iload hx hb dL_law_1597 (lv_at hl 6 rfl) ?_
    refine lv_iconst (v := 1) hx hb dL_law_1599 (by decide) ?_
    refine lv_iadd hx hb dL_law_1600 ?_
    refine lv_topi (fun w6 ew6 => ?_)
    obtain rfl : w6 = 1 := ew6.trans (by decide)
    refine va_sld hx hb hX hbl hbA I.2.2.2.1 (by unfold vp_in; decide) dL_law_1601 ?_
    refine lv_aload_n hx hb dL_law_1602 rfl (lv_at hl 1 rfl) ?_
    refine lv_iload hx hb dL_law_1603 (lv_at hl 6 rfl) ?_
    refine lv_iconst (v := 2) hx hb dL_law_1605 (by decide) ?_
    refine lv_iadd hx hb dL_law_1606 ?_
    refine lv_topi (fun w7 ew7 => ?_)
    obtain rfl : w7 = 2 := ew7.trans (by decide)
    refine va_sld hx hb hX hbl hbA I.2.2.2.1 (by unfold vp_in; decide) dL_law_1607 ?_
    refine lv_aload_n hx hb dL_law_1608 rfl (lv_at hl 1 rfl) ?_
    refine lv_iload hx hb dL_law_1609 (lv_at hl 6 rfl) ?_
    refine lv_iconst (v := 3) hx hb dL_law_1611 (by decide) ?_
    refine lv_iadd hx hb dL_law_1612 ?_
    refine lv_topi (fun w8 ew8 => ?_)
    obtain rfl : w8 = 3 := ew8.trans (by decide)
    refine va_sld hx hb hX hbl hbA I.2.2.2.1 (by unfold vp_in; decide) dL_law_1613 ?_
    refine z_calli (wr := [(o, .inl (co, 1, .inr (.inl xf5)))]) (va_runV (As := [.int (xs (Int32.toNatClampNeg 1)), .int (xs (Int32.toNatClampNeg 2)), .int (xs (Int32.toNatClampNeg 3))]) (rest := []) ⟨hx, hb, hml, hown, hts⟩ (z_M_cutByRounding l dC dI mxq1 mxq2 mxq3 mxq4 mxq5 mxq6 mxq7 mxq8 mxq9 mxq10 mxq11 mxq12 mxq13 mxq14 mxq15 mxq16 mxq17 mxq18 mxq19 mxq20 mxq21 mxq22 mxq23 mxq24 mxq25 mxq26 mxq27 mxq28 mxq29 mxq30 mxq31 mxq32 mxq33 mh0 (xs (Int32.toNatClampNeg 1)) (xs (Int32.toNatClampNeg 2)) (xs (Int32.toNatClampNeg 3))  H.size) (cwV 3 hts (z_gV z_T.l mw1673 mw1674 mw1675 mw10 mw1676) rfl rfl rfl (by decide +kernel) ⟨Nat.le_of_ble_eq_true rfl, Nat.le_of_ble_eq_true rfl⟩) (z_preV I [0] [] rfl rfl rfl rfl (ci := 9) (q0 := 0) rfl rfl) rfl rfl hl.1 rfl (lv_room (Nat.le_of_ble_eq_true rfl)) dL_law_1614 ⟨Nat.le_of_ble_eq_true rfl, Nat.le_of_ble_eq_true rfl⟩) I [0] [1] rfl rfl (by decide) (by decide) (fun r9 u9 H locs hw9 I => ?_)
    obtain ⟨hu9, hp9⟩ := hw9
    subst hu9
    have I : z_I A dC dI [(o, .inl (co, 1, .inr (.inl xf5))), (mh0, .inr (9, [.int 1, .ref mxq1, .ref mxq2, .ref mxq3, .ref mxq4, .ref mxq5, .ref mxq6, .ref mxq7, .ref mxq8, .ref mxq9, .int 0, .int 0, .ref mxq10, .ref mxq11, .ref mxq12, .ref mxq13, .ref mxq14, .ref mxq15, .ref mxq16, .ref mxq17, .ref mxq18, .ref mxq19, .ref mxq20, .ref mxq21, .ref mxq22, .ref mxq23, .ref mxq24, .ref mxq25, .ref mxq26, .long 0, .int 0, .int 0, .int 0, .int 0, .int 0, .ref mxq27, .ref mxq28, .ref mxq29, .ref mxq30, .ref mxq31, .ref mxq32, .ref mxq33, .long 0]))] [(co, .long)] s H _ := I
    obtain rfl : r9 = 0 := hp9
    refine lv_istore (lv' := [(7, .int 0), (6, .int 1), (0, .ref b), (1, .ref h0), (2, .ref mh0), (3, .ref o), (4, .ref od), (5, .int 0)]) hx hb dL_law_1617 hl (by decide) rfl (fun ls hl => ?_)
    refine lv_aload_n hx hb dL_law_1619 rfl (lv_at hl 4 rfl) ?_
    refine z_calli (wr := [(o, .inl (co, 1, .inr (.inl xf5)))]) (va_runV (As := []) (rest := []) ⟨hx, hb, hml, hown, hts⟩ (z_M_thrown l dC dI 1 mxq1 mxq2 mxq3 mxq4 mxq5 mxq6 mxq7 mxq8 mxq9 0 0 mxq10 mxq11 mxq12 mxq13 mxq14 mxq15 mxq16 mxq17 mxq18 mxq19 mxq20 mxq21 mxq22 mxq23 mxq24 mxq25 mxq26 0 0 0 0 0 0 mxq27 mxq28 mxq29 mxq30 mxq31 mxq32 mxq33 0 mh0  H.size) (cwV 0 hts (z_gV z_T.l mw1391 mw1392 mw1393 mw10 mw1394) rfl rfl rfl (by decide +kernel) ⟨Nat.le_of_ble_eq_true rfl, Nat.le_of_ble_eq_true rfl⟩) (z_preV I [1] [] rfl rfl rfl rfl (ci := 9) (q0 := 1) rfl rfl) rfl rfl hl.1 rfl (lv_room (Nat.le_of_ble_eq_true rfl)) dL_law_1620 ⟨Nat.le_of_ble_eq_true rfl, Nat.le_of_ble_eq_true rfl⟩) I [1] [0] rfl rfl (by decide) (by decide) (fun r10 u10 H locs hw10 I => ?_)
    obtain ⟨hu10, hp10⟩ := hw10
    subst hu10
    have I : z_I A dC dI [(o, .inl (co, 1, .inr (.inl xf5))), (mh0, .inr (9, [.int 1, .ref mxq1, .ref mxq2, .ref mxq3, .ref mxq4, .ref mxq5, .ref mxq6, .ref mxq7, .ref mxq8, .ref mxq9, .int 0, .int 0, .ref mxq10, .ref mxq11, .ref mxq12, .ref mxq13, .ref mxq14, .ref mxq15, .ref mxq16, .ref mxq17, .ref mxq18, .ref mxq19, .ref mxq20, .ref mxq21, .ref mxq22, .ref mxq23, .ref mxq24, .ref mxq25, .ref mxq26, .long 0, .int 0, .int 0, .int 0, .int 0, .int 0, .ref mxq27, .ref mxq28, .ref mxq29, .ref mxq30, .ref mxq31, .ref mxq32, .ref mxq33, .long 0]))] [(co, .long)] s H _ := I
    obtain rfl : 1 = r10 := hp10.symm
    refine lv_iload hx hb dL_law_1623 (lv_at hl 1 rfl) ?_
    refine lv_icmp_eq (tgt := 1630) hx hb dL_law_1625 (by decide) (fun _ => ?_) (fun c9 => absurd c9 (by decide))
    refine lv_iload hx hb dL_law_1630 (lv_at hl 1 rfl) ?_
    refine lv_if_ne (tgt := 1647) hx hb dL_law_1632 (by decide) (fun _ => ?_) (fun c9 => absurd c9 (by decide))
    refine lv_goto (tgt := 2238) hx hb dL_law_1647 (by decide) ?_
    refine W.widen (k := 2000) (n := 9000) (Nat.le_of_ble_eq_true rfl) (Nat.le_of_ble_eq_true rfl) ?_
    exact K _ _ _ I.2.2.2.1 (lv_sub hl [2, 7] rfl)
set_option maxHeartbeats 4000000 in
set_option maxRecDepth 100000 in
theorem z_case_24 (l : Launch) (hst : l.stackTraces = false) (dC : Nat → ClassId) (dI : Nat → Nat → Nat) (xq1 : Nat) (xq2 : Nat) (xq9 : Nat) (xq10 : Nat) (xq11 : Nat) (xq12 : Nat) (xq13 : Nat) (xq14 : Nat) (xq15 : Nat) (xq16 : Nat) (xq17 : Nat) (xq18 : Nat) (xq19 : Nat) (h0 : Nat) (mxq1 : Nat) (mxq2 : Nat) (mxq3 : Nat) (mxq4 : Nat) (mxq5 : Nat) (mxq6 : Nat) (mxq7 : Nat) (mxq8 : Nat) (mxq9 : Nat) (mxq10 : Nat) (mxq11 : Nat) (mxq12 : Nat) (mxq13 : Nat) (mxq14 : Nat) (mxq15 : Nat) (mxq16 : Nat) (mxq17 : Nat) (mxq18 : Nat) (mxq19 : Nat) (mxq20 : Nat) (mxq21 : Nat) (mxq22 : Nat) (mxq23 : Nat) (mxq24 : Nat) (mxq25 : Nat) (mxq26 : Nat) (mxq27 : Nat) (mxq28 : Nat) (mxq29 : Nat) (mxq30 : Nat) (mxq31 : Nat) (mxq32 : Nat) (mxq33 : Nat) (mh0 : Nat) (o : Nat) (co : ClassId) (fo : Nat → Int64) (od : Nat) {p : Program} {e : Env} {s : State} {m : MethodId} {below : List Frame} {meth : Method} {c : Code} {b : Nat} {xs : Nat → Int32} {A : Nat → Prop} {Q : State → Prop} (hx : p.tables.exec = Jvm.exec) (hb : c.code = cL_law) (hml : c.maxLocals = 9) (hown : s.vm.findClass RL = some m.cls) (hts : ∀ w ∈ lw_tbl, w.before #[Value.ref b] s = true) (hX : va_X b 7 xs s s.heap) (hbl : b < s.heap.size) (hbA : ¬ A b) (K : z_LK p l e s m below meth c b A Q) {H : Heap} {locs : List Loc} {ls : Array Slot} (I : z_I A dC dI [(h0, .inr (8, [.ref xq1, .ref xq2])), (xq2, .inr (5, [.ref xq9, .ref xq10, .ref xq11, .ref xq12, .ref xq13, .ref xq14, .ref xq15, .ref xq16, .ref xq17, .ref xq18, .ref xq19, .int 0, .int 0])), (mh0, .inr (9, [.int 0, .ref mxq1, .ref mxq2, .ref mxq3, .ref mxq4, .ref mxq5, .ref mxq6, .ref mxq7, .ref mxq8, .ref mxq9, .int 0, .int 0, .ref mxq10, .ref mxq11, .ref mxq12, .ref mxq13, .ref mxq14, .ref mxq15, .ref mxq16, .ref mxq17, .ref mxq18, .ref mxq19, .ref mxq20, .ref mxq21, .ref mxq22, .ref mxq23, .ref mxq24, .ref mxq25, .ref mxq26, .long 0, .int 0, .int 0, .int 0, .int 0, .int 0, .ref mxq27, .ref mxq28, .ref mxq29, .ref mxq30, .ref mxq31, .ref mxq32, .ref mxq33, .long 0])), (o, .inl (co, 1, .inr (.inl fo)))] [(co, .long)] s H locs) (hl : lv_has ls 9 [(0, .ref b), (1, .ref h0), (2, .ref mh0), (3, .ref o), (4, .ref od), (5, .int 0)]) : W p l e room_1 s m #[Value.ref b] below meth c H locs 1000 8000 Q (F0 m 1650 ls []) := by
  have hg : z_G #[Value.ref b] s := fun w hw _ => hts w hw
  refine lv_aload_n hx hb dL_law_1650 rfl (lv_at hl 1 rfl) ?_
  refine lv_aload_n hx hb dL_law_1651 rfl (lv_at hl 0 rfl) ?_
  refine lv_iload hx hb dL_law_1652 (lv_at hl 5 rfl) ?_
  refine lv_iconst (v := 1) hx hb dL_law_1654 (by decide) ?_
  refine lv_iadd hx hb dL_law_1655 ?_
  refine lv_topi (fun w1 ew1 => ?_)
  obtain rfl : w1 = 1 := ew1.trans (by decide)
  refine va_sld hx hb hX hbl hbA I.2.2.2.1 (by unfold vp_in; decide) dL_law_1656 ?_
  refine lv_aload_n hx hb dL_law_1657 rfl (lv_at hl 3 rfl) ?_
  refine z_xcalli (wr := [(mh0, .inr (9, [.int 0, .ref mxq1, .ref mxq2, .ref mxq3, .ref mxq4, .ref mxq5, .ref mxq6, .ref mxq7, .ref mxq8, .ref mxq9, .int 0, .int 0, .ref mxq10, .ref mxq11, .ref mxq12, .ref mxq13, .ref mxq14, .ref mxq15, .ref mxq16, .ref mxq17, .ref mxq18, .ref mxq19, .ref mxq20, .ref mxq21, .ref mxq22, .ref mxq23, .ref mxq24, .ref mxq25, .ref mxq26, .long 0, .int 0, .int 0, .int 0, .int 0, .int 0, .ref mxq27, .ref mxq28, .ref mxq29, .ref mxq30, .ref mxq31, .ref mxq32, .ref mxq33, .long 0]))]) (vx_runSX (As := [.ref h0, .int (xs (Int32.toNatClampNeg 1)), .ref o]) (rest := []) ⟨hx, hb, hml, hown, hts⟩ (z_L_cutByCover l hst dC dI xq1 xq2 xq9 xq10 xq11 xq12 xq13 xq14 xq15 xq16 xq17 xq18 xq19 h0 o co fo (xs (Int32.toNatClampNeg 1))  H.size) (vx_cwSW 3 hts (z_gSh z_T.l mw1096 mw1097 mw0 mw1098) rfl rfl rfl (by decide +kernel) ⟨Nat.le_of_ble_eq_true rfl, Nat.le_of_ble_eq_true rfl⟩) (z_pre I [0, 1, 3] [0] rfl rfl rfl rfl) rfl rfl hl.1 rfl (lv_room (Nat.le_of_ble_eq_true rfl)) dL_law_1658 ⟨Nat.le_of_ble_eq_true rfl, Nat.le_of_ble_eq_true rfl⟩) I [0, 1, 3] [2] rfl rfl (by decide) (by decide) (fun E2 ce2 q2 H locs hE2 I hcell hcv hcl => ?_) (fun r2 u2 H locs hw2 I => ?_)
  · skip
    have I : z_I A dC dI [(mh0, .inr (9, [.int 0, .ref mxq1, .ref mxq2, .ref mxq3, .ref mxq4, .ref mxq5, .ref mxq6, .ref mxq7, .ref mxq8, .ref mxq9, .int 0, .int 0, .ref mxq10, .ref mxq11, .ref mxq12, .ref mxq13, .ref mxq14, .ref mxq15, .ref mxq16, .ref mxq17, .ref mxq18, .ref mxq19, .ref mxq20, .ref mxq21, .ref mxq22, .ref mxq23, .ref mxq24, .ref mxq25, .ref mxq26, .long 0, .int 0, .int 0, .int 0, .int 0, .int 0, .ref mxq27, .ref mxq28, .ref mxq29, .ref mxq30, .ref mxq31, .ref mxq32, .ref mxq33, .long 0]))] [(co, .long)] s H _ := I
    exact False.elim hE2
  · skip
    obtain ⟨xf3, hu2, hp2⟩ := hw2
    subst hu2
    have I : z_I A dC dI [(mh0, .inr (9, [.int 0, .ref mxq1, .ref mxq2, .ref mxq3, .ref mxq4, .ref mxq5, .ref mxq6, .ref mxq7, .ref mxq8, .ref mxq9, .int 0, .int 0, .ref mxq10, .ref mxq11, .ref mxq12, .ref mxq13, .ref mxq14, .ref mxq15, .ref mxq16, .ref mxq17, .ref mxq18, .ref mxq19, .ref mxq20, .ref mxq21, .ref mxq22, .ref mxq23, .ref mxq24, .ref mxq25, .ref mxq26, .long 0, .int 0, .int 0, .int 0, .int 0, .int 0, .ref mxq27, .ref mxq28, .ref mxq29, .ref mxq30, .ref mxq31, .ref mxq32, .ref mxq33, .long 0])), (o, .inl (co, 1, .inr (.inl xf3)))] [(co, .long)] s H _ := I
    refine W.widen (k := 1001) (n := 8006) (Nat.le_of_ble_eq_true rfl) (Nat.le_of_ble_eq_true rfl) ?_
    obtain rfl : r2 = 1 := hp2.1
    refine lv_istore (lv' := [(6, .int 1), (0, .ref b), (1, .ref h0), (2, .ref mh0), (3, .ref o), (4, .ref od), (5, .int 0)]) hx hb dL_law_1661 hl (by decide) rfl (fun ls hl => ?_)
    refine lv_aload_n hx hb dL_law_1663 rfl (lv_at hl 3 rfl) ?_
    refine lv_aload_n hx hb dL_law_1664 rfl (lv_at hl 1 rfl) ?_
    refine lv_iload hx hb dL_law_1665 (lv_at hl 6 rfl) ?_
    refine lv_iconst (v := 1) hx hb dL_law_1667 (by decide) ?_
    refine lv_iadd hx hb dL_law_1668 ?_
    refine lv_topi (fun w4 ew4 => ?_)
    obtain rfl : w4 = 1 := ew4.trans (by decide)
    refine va_sld hx hb hX hbl hbA I.2.2.2.1 (by unfold vp_in; decide) dL_law_1669 ?_
    refine z_calli (wr := [(o, .inl (co, 1, .inr (.inl xf3)))]) (va_runV (As := [.int (xs (Int32.toNatClampNeg 1))]) (rest := []) ⟨hx, hb, hml, hown, hts⟩ (z_M_cutByCover l dC dI mxq1 mxq2 mxq3 mxq4 mxq5 mxq6 mxq7 mxq8 mxq9 mxq10 mxq11 mxq12 mxq13 mxq14 mxq15 mxq16 mxq17 mxq18 mxq19 mxq20 mxq21 mxq22 mxq23 mxq24 mxq25 mxq26 mxq27 mxq28 mxq29 mxq30 mxq31 mxq32 mxq33 mh0 (xs (Int32.toNatClampNeg 1))  H.size) (cwV 1 hts (z_gV z_T.l mw1681 mw1682 mw1683 mw10 mw1684) rfl rfl rfl (by decide +kernel) ⟨Nat.le_of_ble_eq_true rfl, Nat.le_of_ble_eq_true rfl⟩) (z_preV I [0] [] rfl rfl rfl rfl (ci := 9) (q0 := 0) rfl rfl) rfl rfl hl.1 rfl (lv_room (Nat.le_of_ble_eq_true rfl)) dL_law_1670 ⟨Nat.le_of_ble_eq_true rfl, Nat.le_of_ble_eq_true rfl⟩) I [0] [1] rfl rfl (by decide) (by decide) (fun r5 u5 H locs hw5 I => ?_)
    obtain ⟨hu5, hp5⟩ := hw5
    subst hu5
    have I : z_I A dC dI [(o, .inl (co, 1, .inr (.inl xf3))), (mh0, .inr (9, [.int 1, .ref mxq1, .ref mxq2, .ref mxq3, .ref mxq4, .ref mxq5, .ref mxq6, .ref mxq7, .ref mxq8, .ref mxq9, .int 0, .int 0, .ref mxq10, .ref mxq11, .ref mxq12, .ref mxq13, .ref mxq14, .ref mxq15, .ref mxq16, .ref mxq17, .ref mxq18, .ref mxq19, .ref mxq20, .ref mxq21, .ref mxq22, .ref mxq23, .ref mxq24, .ref mxq25, .ref mxq26, .long 0, .int 0, .int 0, .int 0, .int 0, .int 0, .ref mxq27, .ref mxq28, .ref mxq29, .ref mxq30, .ref mxq31, .ref mxq32, .ref mxq33, .long 0]))] [(co, .long)] s H _ := I
    obtain rfl : r5 = 0 := hp5
    refine lv_istore (lv' := [(7, .int 0), (6, .int 1), (0, .ref b), (1, .ref h0), (2, .ref mh0), (3, .ref o), (4, .ref od), (5, .int 0)]) hx hb dL_law_1673 hl (by decide) rfl (fun ls hl => ?_)
    refine lv_aload_n hx hb dL_law_1675 rfl (lv_at hl 4 rfl) ?_
    refine z_calli (wr := [(o, .inl (co, 1, .inr (.inl xf3)))]) (va_runV (As := []) (rest := []) ⟨hx, hb, hml, hown, hts⟩ (z_M_thrown l dC dI 1 mxq1 mxq2 mxq3 mxq4 mxq5 mxq6 mxq7 mxq8 mxq9 0 0 mxq10 mxq11 mxq12 mxq13 mxq14 mxq15 mxq16 mxq17 mxq18 mxq19 mxq20 mxq21 mxq22 mxq23 mxq24 mxq25 mxq26 0 0 0 0 0 0 mxq27 mxq28 mxq29 mxq30 mxq31 mxq32 mxq33 0 mh0  H.size) (cwV 0 hts (z_gV z_T.l mw1391 mw1392 mw1393 mw10 mw1394) rfl rfl rfl (by decide +kernel) ⟨Nat.le_of_ble_eq_true rfl, Nat.le_of_ble_eq_true rfl⟩) (z_preV I [1] [] rfl rfl rfl rfl (ci := 9) (q0 := 1) rfl rfl) rfl rfl hl.1 rfl (lv_room (Nat.le_of_ble_eq_true rfl)) dL_law_1676 ⟨Nat.le_of_ble_eq_true rfl, Nat.le_of_ble_eq_true rfl⟩) I [1] [0] rfl rfl (by decide) (by decide) (fun r6 u6 H locs hw6 I => ?_)
    obtain ⟨hu6, hp6⟩ := hw6
    subst hu6
    have I : z_I A dC dI [(o, .inl (co, 1, .inr (.inl xf3))), (mh0, .inr (9, [.int 1, .ref mxq1, .ref mxq2, .ref mxq3, .ref mxq4, .ref mxq5, .ref mxq6, .ref mxq7, .ref mxq8, .ref mxq9, .int 0, .int 0, .ref mxq10, .ref mxq11, .ref mxq12, .ref mxq13, .ref mxq14, .ref mxq15, .ref mxq16, .ref mxq17, .ref mxq18, .ref mxq19, .ref mxq20, .ref mxq21, .ref mxq22, .ref mxq23, .ref mxq24, .ref mxq25, .ref mxq26, .long 0, .int 0, .int 0, .int 0, .int 0, .int 0, .ref mxq27, .ref mxq28, .ref mxq29, .ref mxq30, .ref mxq31, .ref mxq32, .ref mxq33, .long 0]))] [(co, .long)] s H _ := I
    obtain rfl : 1 = r6 := hp6.symm
    refine lv_iload hx hb dL_law_1679 (lv_at hl 1 rfl) ?_
    refine lv_icmp_eq (tgt := 1686) hx hb dL_law_1681 (by decide) (fun _ => ?_) (fun c9 => absurd c9 (by decide))
    refine lv_iload hx hb dL_law_1686 (lv_at hl 1 rfl) ?_
    refine lv_if_ne (tgt := 1703) hx hb dL_law_1688 (by decide) (fun _ => ?_) (fun c9 => absurd c9 (by decide))
    refine lv_goto (tgt := 2238) hx hb dL_law_1703 (by decide) ?_
    refine W.widen (k := 2000) (n := 9000) (Nat.le_of_ble_eq_true rfl) (Nat.le_of_ble_eq_true rfl) ?_
    exact K _ _ _ I.2.2.2.1 (lv_sub hl [2, 7] rfl)
set_option maxHeartbeats 4000000 in
set_option maxRecDepth 100000 in
theorem z_case_25 (l : Launch) (hst : l.stackTraces = false) (dC : Nat → ClassId) (dI : Nat → Nat → Nat) (xq1 : Nat) (xq2 : Nat) (xq9 : Nat) (xq10 : Nat) (xq11 : Nat) (xq12 : Nat) (xq13 : Nat) (xq14 : Nat) (xq15 : Nat) (xq16 : Nat) (xq17 : Nat) (xq18 : Nat) (xq19 : Nat) (h0 : Nat) (mxq1 : Nat) (mxq2 : Nat) (mxq3 : Nat) (mxq4 : Nat) (mxq5 : Nat) (mxq6 : Nat) (mxq7 : Nat) (mxq8 : Nat) (mxq9 : Nat) (mxq10 : Nat) (mxq11 : Nat) (mxq12 : Nat) (mxq13 : Nat) (mxq14 : Nat) (mxq15 : Nat) (mxq16 : Nat) (mxq17 : Nat) (mxq18 : Nat) (mxq19 : Nat) (mxq20 : Nat) (mxq21 : Nat) (mxq22 : Nat) (mxq23 : Nat) (mxq24 : Nat) (mxq25 : Nat) (mxq26 : Nat) (mxq27 : Nat) (mxq28 : Nat) (mxq29 : Nat) (mxq30 : Nat) (mxq31 : Nat) (mxq32 : Nat) (mxq33 : Nat) (mh0 : Nat) (o : Nat) (co : ClassId) (fo : Nat → Int64) (od : Nat) {p : Program} {e : Env} {s : State} {m : MethodId} {below : List Frame} {meth : Method} {c : Code} {b : Nat} {xs : Nat → Int32} {A : Nat → Prop} {Q : State → Prop} (hx : p.tables.exec = Jvm.exec) (hb : c.code = cL_law) (hml : c.maxLocals = 9) (hown : s.vm.findClass RL = some m.cls) (hts : ∀ w ∈ lw_tbl, w.before #[Value.ref b] s = true) (hX : va_X b 7 xs s s.heap) (hbl : b < s.heap.size) (hbA : ¬ A b) (K : z_LK p l e s m below meth c b A Q) {H : Heap} {locs : List Loc} {ls : Array Slot} (I : z_I A dC dI [(h0, .inr (8, [.ref xq1, .ref xq2])), (xq2, .inr (5, [.ref xq9, .ref xq10, .ref xq11, .ref xq12, .ref xq13, .ref xq14, .ref xq15, .ref xq16, .ref xq17, .ref xq18, .ref xq19, .int 0, .int 0])), (mh0, .inr (9, [.int 0, .ref mxq1, .ref mxq2, .ref mxq3, .ref mxq4, .ref mxq5, .ref mxq6, .ref mxq7, .ref mxq8, .ref mxq9, .int 0, .int 0, .ref mxq10, .ref mxq11, .ref mxq12, .ref mxq13, .ref mxq14, .ref mxq15, .ref mxq16, .ref mxq17, .ref mxq18, .ref mxq19, .ref mxq20, .ref mxq21, .ref mxq22, .ref mxq23, .ref mxq24, .ref mxq25, .ref mxq26, .long 0, .int 0, .int 0, .int 0, .int 0, .int 0, .ref mxq27, .ref mxq28, .ref mxq29, .ref mxq30, .ref mxq31, .ref mxq32, .ref mxq33, .long 0])), (o, .inl (co, 1, .inr (.inl fo)))] [(co, .long)] s H locs) (hl : lv_has ls 9 [(0, .ref b), (1, .ref h0), (2, .ref mh0), (3, .ref o), (4, .ref od), (5, .int 0)]) : W p l e room_1 s m #[Value.ref b] below meth c H locs 1000 8000 Q (F0 m 1706 ls []) := by
  have hg : z_G #[Value.ref b] s := fun w hw _ => hts w hw
  refine lv_aload_n hx hb dL_law_1706 rfl (lv_at hl 1 rfl) ?_
  refine lv_aload_n hx hb dL_law_1707 rfl (lv_at hl 0 rfl) ?_
  refine lv_iload hx hb dL_law_1708 (lv_at hl 5 rfl) ?_
  refine lv_iconst (v := 1) hx hb dL_law_1710 (by decide) ?_
  refine lv_iadd hx hb dL_law_1711 ?_
  refine lv_topi (fun w1 ew1 => ?_)
  obtain rfl : w1 = 1 := ew1.trans (by decide)
  refine va_sld hx hb hX hbl hbA I.2.2.2.1 (by unfold vp_in; decide) dL_law_1712 ?_
  refine lv_aload_n hx hb dL_law_1713 rfl (lv_at hl 0 rfl) ?_
  refine lv_iload hx hb dL_law_1714 (lv_at hl 5 rfl) ?_
  refine lv_iconst (v := 2) hx hb dL_law_1716 (by decide) ?_
  refine lv_iadd hx hb dL_law_1717 ?_
  refine lv_topi (fun w2 ew2 => ?_)
  obtain rfl : w2 = 2 := ew2.trans (by decide)
  refine va_sld hx hb hX hbl hbA I.2.2.2.1 (by unfold vp_in; decide) dL_law_1718 ?_
  refine lv_aload_n hx hb dL_law_1719 rfl (lv_at hl 3 rfl) ?_
  refine z_xcalli (wr := [(mh0, .inr (9, [.int 0, .ref mxq1, .ref mxq2, .ref mxq3, .ref mxq4, .ref mxq5, .ref mxq6, .ref mxq7, .ref mxq8, .ref mxq9, .int 0, .int 0, .ref mxq10, .ref mxq11, .ref mxq12, .ref mxq13, .ref mxq14, .ref mxq15, .ref mxq16, .ref mxq17, .ref mxq18, .ref mxq19, .ref mxq20, .ref mxq21, .ref mxq22, .ref mxq23, .ref mxq24, .ref mxq25, .ref mxq26, .long 0, .int 0, .int 0, .int 0, .int 0, .int 0, .ref mxq27, .ref mxq28, .ref mxq29, .ref mxq30, .ref mxq31, .ref mxq32, .ref mxq33, .long 0]))]) (vx_runSX (As := [.ref h0, .int (xs (Int32.toNatClampNeg 1)), .int (xs (Int32.toNatClampNeg 2)), .ref o]) (rest := []) ⟨hx, hb, hml, hown, hts⟩ (z_L_cutByLikeness l hst dC dI xq1 xq2 xq9 xq10 xq11 xq12 xq13 xq14 xq15 xq16 xq17 xq18 xq19 h0 o co fo (xs (Int32.toNatClampNeg 1)) (xs (Int32.toNatClampNeg 2))  H.size) (vx_cwSW 4 hts (z_gSh z_T.l mw1153 mw1154 mw0 mw1155) rfl rfl rfl (by decide +kernel) ⟨Nat.le_of_ble_eq_true rfl, Nat.le_of_ble_eq_true rfl⟩) (z_pre I [0, 1, 3] [0] rfl rfl rfl rfl) rfl rfl hl.1 rfl (lv_room (Nat.le_of_ble_eq_true rfl)) dL_law_1720 ⟨Nat.le_of_ble_eq_true rfl, Nat.le_of_ble_eq_true rfl⟩) I [0, 1, 3] [2] rfl rfl (by decide) (by decide) (fun E3 ce3 q3 H locs hE3 I hcell hcv hcl => ?_) (fun r3 u3 H locs hw3 I => ?_)
  · skip
    have I : z_I A dC dI [(mh0, .inr (9, [.int 0, .ref mxq1, .ref mxq2, .ref mxq3, .ref mxq4, .ref mxq5, .ref mxq6, .ref mxq7, .ref mxq8, .ref mxq9, .int 0, .int 0, .ref mxq10, .ref mxq11, .ref mxq12, .ref mxq13, .ref mxq14, .ref mxq15, .ref mxq16, .ref mxq17, .ref mxq18, .ref mxq19, .ref mxq20, .ref mxq21, .ref mxq22, .ref mxq23, .ref mxq24, .ref mxq25, .ref mxq26, .long 0, .int 0, .int 0, .int 0, .int 0, .int 0, .ref mxq27, .ref mxq28, .ref mxq29, .ref mxq30, .ref mxq31, .ref mxq32, .ref mxq33, .long 0]))] [(co, .long)] s H _ := I
    exact False.elim hE3
  · skip
    obtain ⟨xf4, hu3, hp3⟩ := hw3
    subst hu3
    have I : z_I A dC dI [(mh0, .inr (9, [.int 0, .ref mxq1, .ref mxq2, .ref mxq3, .ref mxq4, .ref mxq5, .ref mxq6, .ref mxq7, .ref mxq8, .ref mxq9, .int 0, .int 0, .ref mxq10, .ref mxq11, .ref mxq12, .ref mxq13, .ref mxq14, .ref mxq15, .ref mxq16, .ref mxq17, .ref mxq18, .ref mxq19, .ref mxq20, .ref mxq21, .ref mxq22, .ref mxq23, .ref mxq24, .ref mxq25, .ref mxq26, .long 0, .int 0, .int 0, .int 0, .int 0, .int 0, .ref mxq27, .ref mxq28, .ref mxq29, .ref mxq30, .ref mxq31, .ref mxq32, .ref mxq33, .long 0])), (o, .inl (co, 1, .inr (.inl xf4)))] [(co, .long)] s H _ := I
    refine W.widen (k := 1001) (n := 8006) (Nat.le_of_ble_eq_true rfl) (Nat.le_of_ble_eq_true rfl) ?_
    obtain rfl : r3 = 1 := hp3.1
    refine lv_istore (lv' := [(6, .int 1), (0, .ref b), (1, .ref h0), (2, .ref mh0), (3, .ref o), (4, .ref od), (5, .int 0)]) hx hb dL_law_1723 hl (by decide) rfl (fun ls hl => ?_)
    refine lv_aload_n hx hb dL_law_1725 rfl (lv_at hl 3 rfl) ?_
    refine lv_aload_n hx hb dL_law_1726 rfl (lv_at hl 1 rfl) ?_
    refine lv_iload hx hb dL_law_1727 (lv_at hl 6 rfl) ?_
    refine lv_iconst (v := 1) hx hb dL_law_1729 (by decide) ?_
    refine lv_iadd hx hb dL_law_1730 ?_
    refine lv_topi (fun w5 ew5 => ?_)
    obtain rfl : w5 = 1 := ew5.trans (by decide)
    refine va_sld hx hb hX hbl hbA I.2.2.2.1 (by unfold vp_in; decide) dL_law_1731 ?_
    refine lv_aload_n hx hb dL_law_1732 rfl (lv_at hl 1 rfl) ?_
    refine lv_iload hx hb dL_law_1733 (lv_at hl 6 rfl) ?_
    refine lv_iconst (v := 2) hx hb dL_law_1735 (by decide) ?_
    refine lv_iadd hx hb dL_law_1736 ?_
    refine lv_topi (fun w6 ew6 => ?_)
    obtain rfl : w6 = 2 := ew6.trans (by decide)
    refine va_sld hx hb hX hbl hbA I.2.2.2.1 (by unfold vp_in; decide) dL_law_1737 ?_
    refine z_calli (wr := [(o, .inl (co, 1, .inr (.inl xf4)))]) (va_runV (As := [.int (xs (Int32.toNatClampNeg 1)), .int (xs (Int32.toNatClampNeg 2))]) (rest := []) ⟨hx, hb, hml, hown, hts⟩ (z_M_cutByLikeness l dC dI mxq1 mxq2 mxq3 mxq4 mxq5 mxq6 mxq7 mxq8 mxq9 mxq10 mxq11 mxq12 mxq13 mxq14 mxq15 mxq16 mxq17 mxq18 mxq19 mxq20 mxq21 mxq22 mxq23 mxq24 mxq25 mxq26 mxq27 mxq28 mxq29 mxq30 mxq31 mxq32 mxq33 mh0 (xs (Int32.toNatClampNeg 1)) (xs (Int32.toNatClampNeg 2))  H.size) (cwV 2 hts (z_gV z_T.l mw1689 mw1690 mw1691 mw10 mw1692) rfl rfl rfl (by decide +kernel) ⟨Nat.le_of_ble_eq_true rfl, Nat.le_of_ble_eq_true rfl⟩) (z_preV I [0] [] rfl rfl rfl rfl (ci := 9) (q0 := 0) rfl rfl) rfl rfl hl.1 rfl (lv_room (Nat.le_of_ble_eq_true rfl)) dL_law_1738 ⟨Nat.le_of_ble_eq_true rfl, Nat.le_of_ble_eq_true rfl⟩) I [0] [1] rfl rfl (by decide) (by decide) (fun r7 u7 H locs hw7 I => ?_)
    obtain ⟨hu7, hp7⟩ := hw7
    subst hu7
    have I : z_I A dC dI [(o, .inl (co, 1, .inr (.inl xf4))), (mh0, .inr (9, [.int 1, .ref mxq1, .ref mxq2, .ref mxq3, .ref mxq4, .ref mxq5, .ref mxq6, .ref mxq7, .ref mxq8, .ref mxq9, .int 0, .int 0, .ref mxq10, .ref mxq11, .ref mxq12, .ref mxq13, .ref mxq14, .ref mxq15, .ref mxq16, .ref mxq17, .ref mxq18, .ref mxq19, .ref mxq20, .ref mxq21, .ref mxq22, .ref mxq23, .ref mxq24, .ref mxq25, .ref mxq26, .long 0, .int 0, .int 0, .int 0, .int 0, .int 0, .ref mxq27, .ref mxq28, .ref mxq29, .ref mxq30, .ref mxq31, .ref mxq32, .ref mxq33, .long 0]))] [(co, .long)] s H _ := I
    obtain rfl : r7 = 0 := hp7
    refine lv_istore (lv' := [(7, .int 0), (6, .int 1), (0, .ref b), (1, .ref h0), (2, .ref mh0), (3, .ref o), (4, .ref od), (5, .int 0)]) hx hb dL_law_1741 hl (by decide) rfl (fun ls hl => ?_)
    refine lv_aload_n hx hb dL_law_1743 rfl (lv_at hl 4 rfl) ?_
    refine z_calli (wr := [(o, .inl (co, 1, .inr (.inl xf4)))]) (va_runV (As := []) (rest := []) ⟨hx, hb, hml, hown, hts⟩ (z_M_thrown l dC dI 1 mxq1 mxq2 mxq3 mxq4 mxq5 mxq6 mxq7 mxq8 mxq9 0 0 mxq10 mxq11 mxq12 mxq13 mxq14 mxq15 mxq16 mxq17 mxq18 mxq19 mxq20 mxq21 mxq22 mxq23 mxq24 mxq25 mxq26 0 0 0 0 0 0 mxq27 mxq28 mxq29 mxq30 mxq31 mxq32 mxq33 0 mh0  H.size) (cwV 0 hts (z_gV z_T.l mw1391 mw1392 mw1393 mw10 mw1394) rfl rfl rfl (by decide +kernel) ⟨Nat.le_of_ble_eq_true rfl, Nat.le_of_ble_eq_true rfl⟩) (z_preV I [1] [] rfl rfl rfl rfl (ci := 9) (q0 := 1) rfl rfl) rfl rfl hl.1 rfl (lv_room (Nat.le_of_ble_eq_true rfl)) dL_law_1744 ⟨Nat.le_of_ble_eq_true rfl, Nat.le_of_ble_eq_true rfl⟩) I [1] [0] rfl rfl (by decide) (by decide) (fun r8 u8 H locs hw8 I => ?_)
    obtain ⟨hu8, hp8⟩ := hw8
    subst hu8
    have I : z_I A dC dI [(o, .inl (co, 1, .inr (.inl xf4))), (mh0, .inr (9, [.int 1, .ref mxq1, .ref mxq2, .ref mxq3, .ref mxq4, .ref mxq5, .ref mxq6, .ref mxq7, .ref mxq8, .ref mxq9, .int 0, .int 0, .ref mxq10, .ref mxq11, .ref mxq12, .ref mxq13, .ref mxq14, .ref mxq15, .ref mxq16, .ref mxq17, .ref mxq18, .ref mxq19, .ref mxq20, .ref mxq21, .ref mxq22, .ref mxq23, .ref mxq24, .ref mxq25, .ref mxq26, .long 0, .int 0, .int 0, .int 0, .int 0, .int 0, .ref mxq27, .ref mxq28, .ref mxq29, .ref mxq30, .ref mxq31, .ref mxq32, .ref mxq33, .long 0]))] [(co, .long)] s H _ := I
    obtain rfl : 1 = r8 := hp8.symm
    refine lv_iload hx hb dL_law_1747 (lv_at hl 1 rfl) ?_
    refine lv_icmp_eq (tgt := 1754) hx hb dL_law_1749 (by decide) (fun _ => ?_) (fun c9 => absurd c9 (by decide))
    refine lv_iload hx hb dL_law_1754 (lv_at hl 1 rfl) ?_
    refine lv_if_ne (tgt := 1771) hx hb dL_law_1756 (by decide) (fun _ => ?_) (fun c9 => absurd c9 (by decide))
    refine lv_goto (tgt := 2238) hx hb dL_law_1771 (by decide) ?_
    refine W.widen (k := 2000) (n := 9000) (Nat.le_of_ble_eq_true rfl) (Nat.le_of_ble_eq_true rfl) ?_
    exact K _ _ _ I.2.2.2.1 (lv_sub hl [2, 7] rfl)
set_option maxHeartbeats 4000000 in
set_option maxRecDepth 100000 in
theorem z_case_26 (l : Launch) (hst : l.stackTraces = false) (dC : Nat → ClassId) (dI : Nat → Nat → Nat) (xq1 : Nat) (xq2 : Nat) (xq3 : Nat) (xq4 : Nat) (xq5 : Nat) (xq6 : Nat) (xq7 : Nat) (xq8 : Nat) (h0 : Nat) (mxq1 : Nat) (mxq2 : Nat) (mxq3 : Nat) (mxq4 : Nat) (mxq5 : Nat) (mxq6 : Nat) (mxq7 : Nat) (mxq8 : Nat) (mxq9 : Nat) (mxq10 : Nat) (mxq11 : Nat) (mxq12 : Nat) (mxq13 : Nat) (mxq14 : Nat) (mxq15 : Nat) (mxq16 : Nat) (mxq17 : Nat) (mxq18 : Nat) (mxq19 : Nat) (mxq20 : Nat) (mxq21 : Nat) (mxq22 : Nat) (mxq23 : Nat) (mxq24 : Nat) (mxq25 : Nat) (mxq26 : Nat) (mxq27 : Nat) (mxq28 : Nat) (mxq29 : Nat) (mxq30 : Nat) (mxq31 : Nat) (mxq32 : Nat) (mxq33 : Nat) (mh0 : Nat) (o : Nat) (od : Nat) {p : Program} {e : Env} {s : State} {m : MethodId} {below : List Frame} {meth : Method} {c : Code} {b : Nat} {xs : Nat → Int32} {A : Nat → Prop} {Q : State → Prop} (hx : p.tables.exec = Jvm.exec) (hb : c.code = cL_law) (hml : c.maxLocals = 9) (hown : s.vm.findClass RL = some m.cls) (hts : ∀ w ∈ lw_tbl, w.before #[Value.ref b] s = true) (hX : va_X b 7 xs s s.heap) (hbl : b < s.heap.size) (hbA : ¬ A b) (K : z_LK p l e s m below meth c b A Q) {H : Heap} {locs : List Loc} {ls : Array Slot} (I : z_I A dC dI [(h0, .inr (8, [.ref xq1, .ref xq2])), (xq1, .inr (7, [.ref xq2, .ref xq3, .ref xq4, .ref xq5, .ref xq6, .ref xq7, .ref xq8, .int 0, .int 0, .int 0, .int 0, .int 0])), (mh0, .inr (9, [.int 0, .ref mxq1, .ref mxq2, .ref mxq3, .ref mxq4, .ref mxq5, .ref mxq6, .ref mxq7, .ref mxq8, .ref mxq9, .int 0, .int 0, .ref mxq10, .ref mxq11, .ref mxq12, .ref mxq13, .ref mxq14, .ref mxq15, .ref mxq16, .ref mxq17, .ref mxq18, .ref mxq19, .ref mxq20, .ref mxq21, .ref mxq22, .ref mxq23, .ref mxq24, .ref mxq25, .ref mxq26, .long 0, .int 0, .int 0, .int 0, .int 0, .int 0, .ref mxq27, .ref mxq28, .ref mxq29, .ref mxq30, .ref mxq31, .ref mxq32, .ref mxq33, .long 0]))] [] s H locs) (hl : lv_has ls 9 [(0, .ref b), (1, .ref h0), (2, .ref mh0), (3, .ref o), (4, .ref od), (5, .int 0)]) : W p l e room_1 s m #[Value.ref b] below meth c H locs 1000 8000 Q (F0 m 1774 ls []) := by
  have hg : z_G #[Value.ref b] s := fun w hw _ => hts w hw
  refine lv_aload_n hx hb dL_law_1774 rfl (lv_at hl 1 rfl) ?_
  refine z_calli (wr := [(mh0, .inr (9, [.int 0, .ref mxq1, .ref mxq2, .ref mxq3, .ref mxq4, .ref mxq5, .ref mxq6, .ref mxq7, .ref mxq8, .ref mxq9, .int 0, .int 0, .ref mxq10, .ref mxq11, .ref mxq12, .ref mxq13, .ref mxq14, .ref mxq15, .ref mxq16, .ref mxq17, .ref mxq18, .ref mxq19, .ref mxq20, .ref mxq21, .ref mxq22, .ref mxq23, .ref mxq24, .ref mxq25, .ref mxq26, .long 0, .int 0, .int 0, .int 0, .int 0, .int 0, .ref mxq27, .ref mxq28, .ref mxq29, .ref mxq30, .ref mxq31, .ref mxq32, .ref mxq33, .long 0]))]) (va_runV (As := []) (rest := []) ⟨hx, hb, hml, hown, hts⟩ (z_RX8_cuts l dC dI xq1 xq2 xq3 xq4 xq5 xq6 xq7 xq8 h0  H.size) (cwV 0 hts (z_gV z_T.l mw376 mw377 mw378 mw1 mw379) rfl rfl rfl (by decide +kernel) ⟨Nat.le_of_ble_eq_true rfl, Nat.le_of_ble_eq_true rfl⟩) (z_preV I [0, 1] [] rfl rfl rfl rfl (ci := 8) (q0 := 0) rfl rfl) rfl rfl hl.1 rfl (lv_room (Nat.le_of_ble_eq_true rfl)) dL_law_1775 ⟨Nat.le_of_ble_eq_true rfl, Nat.le_of_ble_eq_true rfl⟩) I [0, 1] [2] rfl rfl (by decide) (by decide) (fun r1 u1 H locs hw1 I => ?_)
  obtain ⟨hu1, hp1⟩ := hw1
  subst hu1
  have I : z_I A dC dI [(mh0, .inr (9, [.int 0, .ref mxq1, .ref mxq2, .ref mxq3, .ref mxq4, .ref mxq5, .ref mxq6, .ref mxq7, .ref mxq8, .ref mxq9, .int 0, .int 0, .ref mxq10, .ref mxq11, .ref mxq12, .ref mxq13, .ref mxq14, .ref mxq15, .ref mxq16, .ref mxq17, .ref mxq18, .ref mxq19, .ref mxq20, .ref mxq21, .ref mxq22, .ref mxq23, .ref mxq24, .ref mxq25, .ref mxq26, .long 0, .int 0, .int 0, .int 0, .int 0, .int 0, .ref mxq27, .ref mxq28, .ref mxq29, .ref mxq30, .ref mxq31, .ref mxq32, .ref mxq33, .long 0])), (h0, .inr (8, [.ref xq1, .ref xq2])), (xq1, .inr (7, [.ref xq2, .ref xq3, .ref xq4, .ref xq5, .ref xq6, .ref xq7, .ref xq8, .int 0, .int 0, .int 0, .int 0, .int 0]))] [] s H _ := I
  obtain rfl : r1 = 0 := hp1
  refine lv_aload_n hx hb dL_law_1778 rfl (lv_at hl 2 rfl) ?_
  refine z_calli (wr := [(h0, .inr (8, [.ref xq1, .ref xq2])), (xq1, .inr (7, [.ref xq2, .ref xq3, .ref xq4, .ref xq5, .ref xq6, .ref xq7, .ref xq8, .int 0, .int 0, .int 0, .int 0, .int 0]))]) (va_runV (As := []) (rest := [.int 0]) ⟨hx, hb, hml, hown, hts⟩ (z_M_cuts l dC dI mxq1 mxq2 mxq3 mxq4 mxq5 mxq6 mxq7 mxq8 mxq9 mxq10 mxq11 mxq12 mxq13 mxq14 mxq15 mxq16 mxq17 mxq18 mxq19 mxq20 mxq21 mxq22 mxq23 mxq24 mxq25 mxq26 mxq27 mxq28 mxq29 mxq30 mxq31 mxq32 mxq33 mh0  H.size) (cwV 0 hts (z_gV z_T.l mw1693 mw1694 mw1695 mw10 mw1696) rfl rfl rfl (by decide +kernel) ⟨Nat.le_of_ble_eq_true rfl, Nat.le_of_ble_eq_true rfl⟩) (z_preV I [0] [] rfl rfl rfl rfl (ci := 9) (q0 := 0) rfl rfl) rfl rfl hl.1 rfl (lv_room (Nat.le_of_ble_eq_true rfl)) dL_law_1779 ⟨Nat.le_of_ble_eq_true rfl, Nat.le_of_ble_eq_true rfl⟩) I [0] [1, 2] rfl rfl (by decide) (by decide) (fun r2 u2 H locs hw2 I => ?_)
  obtain ⟨hu2, hp2⟩ := hw2
  subst hu2
  have I : z_I A dC dI [(h0, .inr (8, [.ref xq1, .ref xq2])), (xq1, .inr (7, [.ref xq2, .ref xq3, .ref xq4, .ref xq5, .ref xq6, .ref xq7, .ref xq8, .int 0, .int 0, .int 0, .int 0, .int 0])), (mh0, .inr (9, [.int 0, .ref mxq1, .ref mxq2, .ref mxq3, .ref mxq4, .ref mxq5, .ref mxq6, .ref mxq7, .ref mxq8, .ref mxq9, .int 0, .int 0, .ref mxq10, .ref mxq11, .ref mxq12, .ref mxq13, .ref mxq14, .ref mxq15, .ref mxq16, .ref mxq17, .ref mxq18, .ref mxq19, .ref mxq20, .ref mxq21, .ref mxq22, .ref mxq23, .ref mxq24, .ref mxq25, .ref mxq26, .long 0, .int 0, .int 0, .int 0, .int 0, .int 0, .ref mxq27, .ref mxq28, .ref mxq29, .ref mxq30, .ref mxq31, .ref mxq32, .ref mxq33, .long 0]))] [] s H _ := I
  obtain rfl : r2 = 0 := hp2
  refine lv_icmp_eq (tgt := 2238) hx hb dL_law_1782 (by decide) (fun _ => ?_) (fun c9 => absurd c9 (by decide))
  refine W.widen (k := 2000) (n := 9000) (Nat.le_of_ble_eq_true rfl) (Nat.le_of_ble_eq_true rfl) ?_
  exact K _ _ _ I.2.2.2.1 (lv_sub hl [0, 5] rfl)
set_option maxHeartbeats 4000000 in
set_option maxRecDepth 100000 in
theorem z_case_27 (l : Launch) (hst : l.stackTraces = false) (dC : Nat → ClassId) (dI : Nat → Nat → Nat) (xq1 : Nat) (xq2 : Nat) (xq3 : Nat) (xq4 : Nat) (xq5 : Nat) (xq6 : Nat) (xq7 : Nat) (xq8 : Nat) (h0 : Nat) (mxq1 : Nat) (mxq2 : Nat) (mxq3 : Nat) (mxq4 : Nat) (mxq5 : Nat) (mxq6 : Nat) (mxq7 : Nat) (mxq8 : Nat) (mxq9 : Nat) (mxq10 : Nat) (mxq11 : Nat) (mxq12 : Nat) (mxq13 : Nat) (mxq14 : Nat) (mxq15 : Nat) (mxq16 : Nat) (mxq17 : Nat) (mxq18 : Nat) (mxq19 : Nat) (mxq20 : Nat) (mxq21 : Nat) (mxq22 : Nat) (mxq23 : Nat) (mxq24 : Nat) (mxq25 : Nat) (mxq26 : Nat) (mxq27 : Nat) (mxq28 : Nat) (mxq29 : Nat) (mxq30 : Nat) (mxq31 : Nat) (mxq32 : Nat) (mxq33 : Nat) (mh0 : Nat) (o : Nat) (co : ClassId) (fo : Nat → Int64) (od : Nat) {p : Program} {e : Env} {s : State} {m : MethodId} {below : List Frame} {meth : Method} {c : Code} {b : Nat} {xs : Nat → Int32} {A : Nat → Prop} {Q : State → Prop} (hx : p.tables.exec = Jvm.exec) (hb : c.code = cL_law) (hml : c.maxLocals = 9) (hown : s.vm.findClass RL = some m.cls) (hts : ∀ w ∈ lw_tbl, w.before #[Value.ref b] s = true) (hX : va_X b 7 xs s s.heap) (hbl : b < s.heap.size) (hbA : ¬ A b) (K : z_LK p l e s m below meth c b A Q) {H : Heap} {locs : List Loc} {ls : Array Slot} (I : z_I A dC dI [(h0, .inr (8, [.ref xq1, .ref xq2])), (xq1, .inr (7, [.ref xq2, .ref xq3, .ref xq4, .ref xq5, .ref xq6, .ref xq7, .ref xq8, .int 0, .int 0, .int 0, .int 0, .int 0])), (mh0, .inr (9, [.int 0, .ref mxq1, .ref mxq2, .ref mxq3, .ref mxq4, .ref mxq5, .ref mxq6, .ref mxq7, .ref mxq8, .ref mxq9, .int 0, .int 0, .ref mxq10, .ref mxq11, .ref mxq12, .ref mxq13, .ref mxq14, .ref mxq15, .ref mxq16, .ref mxq17, .ref mxq18, .ref mxq19, .ref mxq20, .ref mxq21, .ref mxq22, .ref mxq23, .ref mxq24, .ref mxq25, .ref mxq26, .long 0, .int 0, .int 0, .int 0, .int 0, .int 0, .ref mxq27, .ref mxq28, .ref mxq29, .ref mxq30, .ref mxq31, .ref mxq32, .ref mxq33, .long 0])), (o, .inl (co, 1, .inr (.inl fo)))] [(co, .long)] s H locs) (hl : lv_has ls 9 [(0, .ref b), (1, .ref h0), (2, .ref mh0), (3, .ref o), (4, .ref od), (5, .int 0)]) : W p l e room_1 s m #[Value.ref b] below meth c H locs 1000 8000 Q (F0 m 1787 ls []) := by
  have hg : z_G #[Value.ref b] s := fun w hw _ => hts w hw
  refine lv_aload_n hx hb dL_law_1787 rfl (lv_at hl 1 rfl) ?_
  refine lv_aload_n hx hb dL_law_1788 rfl (lv_at hl 0 rfl) ?_
  refine lv_iload hx hb dL_law_1789 (lv_at hl 5 rfl) ?_
  refine lv_iconst (v := 1) hx hb dL_law_1791 (by decide) ?_
  refine lv_iadd hx hb dL_law_1792 ?_
  refine lv_topi (fun w1 ew1 => ?_)
  obtain rfl : w1 = 1 := ew1.trans (by decide)
  refine va_sld hx hb hX hbl hbA I.2.2.2.1 (by unfold vp_in; decide) dL_law_1793 ?_
  refine lv_aload_n hx hb dL_law_1794 rfl (lv_at hl 3 rfl) ?_
  refine z_xcalli (wr := [(mh0, .inr (9, [.int 0, .ref mxq1, .ref mxq2, .ref mxq3, .ref mxq4, .ref mxq5, .ref mxq6, .ref mxq7, .ref mxq8, .ref mxq9, .int 0, .int 0, .ref mxq10, .ref mxq11, .ref mxq12, .ref mxq13, .ref mxq14, .ref mxq15, .ref mxq16, .ref mxq17, .ref mxq18, .ref mxq19, .ref mxq20, .ref mxq21, .ref mxq22, .ref mxq23, .ref mxq24, .ref mxq25, .ref mxq26, .long 0, .int 0, .int 0, .int 0, .int 0, .int 0, .ref mxq27, .ref mxq28, .ref mxq29, .ref mxq30, .ref mxq31, .ref mxq32, .ref mxq33, .long 0]))]) (vx_runSX (As := [.ref h0, .int (xs (Int32.toNatClampNeg 1)), .ref o]) (rest := []) ⟨hx, hb, hml, hown, hts⟩ (z_L_kind l hst dC dI xq1 xq2 xq3 xq4 xq5 xq6 xq7 xq8 h0 o co fo (xs (Int32.toNatClampNeg 1))  H.size) (vx_cwSW 3 hts (z_gSh z_T.l mw1167 mw1168 mw0 mw1169) rfl rfl rfl (by decide +kernel) ⟨Nat.le_of_ble_eq_true rfl, Nat.le_of_ble_eq_true rfl⟩) (z_pre I [0, 1, 3] [0] rfl rfl rfl rfl) rfl rfl hl.1 rfl (lv_room (Nat.le_of_ble_eq_true rfl)) dL_law_1795 ⟨Nat.le_of_ble_eq_true rfl, Nat.le_of_ble_eq_true rfl⟩) I [0, 1, 3] [2] rfl rfl (by decide) (by decide) (fun E2 ce2 q2 H locs hE2 I hcell hcv hcl => ?_) (fun r2 u2 H locs hw2 I => ?_)
  · skip
    have I : z_I A dC dI [(mh0, .inr (9, [.int 0, .ref mxq1, .ref mxq2, .ref mxq3, .ref mxq4, .ref mxq5, .ref mxq6, .ref mxq7, .ref mxq8, .ref mxq9, .int 0, .int 0, .ref mxq10, .ref mxq11, .ref mxq12, .ref mxq13, .ref mxq14, .ref mxq15, .ref mxq16, .ref mxq17, .ref mxq18, .ref mxq19, .ref mxq20, .ref mxq21, .ref mxq22, .ref mxq23, .ref mxq24, .ref mxq25, .ref mxq26, .long 0, .int 0, .int 0, .int 0, .int 0, .int 0, .ref mxq27, .ref mxq28, .ref mxq29, .ref mxq30, .ref mxq31, .ref mxq32, .ref mxq33, .long 0]))] [(co, .long)] s H _ := I
    exact False.elim hE2
  · skip
    obtain ⟨xf3, hu2, hp2⟩ := hw2
    subst hu2
    have I : z_I A dC dI [(mh0, .inr (9, [.int 0, .ref mxq1, .ref mxq2, .ref mxq3, .ref mxq4, .ref mxq5, .ref mxq6, .ref mxq7, .ref mxq8, .ref mxq9, .int 0, .int 0, .ref mxq10, .ref mxq11, .ref mxq12, .ref mxq13, .ref mxq14, .ref mxq15, .ref mxq16, .ref mxq17, .ref mxq18, .ref mxq19, .ref mxq20, .ref mxq21, .ref mxq22, .ref mxq23, .ref mxq24, .ref mxq25, .ref mxq26, .long 0, .int 0, .int 0, .int 0, .int 0, .int 0, .ref mxq27, .ref mxq28, .ref mxq29, .ref mxq30, .ref mxq31, .ref mxq32, .ref mxq33, .long 0])), (o, .inl (co, 1, .inr (.inl xf3)))] [(co, .long)] s H _ := I
    refine W.widen (k := 1001) (n := 8006) (Nat.le_of_ble_eq_true rfl) (Nat.le_of_ble_eq_true rfl) ?_
    obtain rfl : r2 = 1 := hp2.1
    refine lv_istore (lv' := [(6, .int 1), (0, .ref b), (1, .ref h0), (2, .ref mh0), (3, .ref o), (4, .ref od), (5, .int 0)]) hx hb dL_law_1798 hl (by decide) rfl (fun ls hl => ?_)
    refine lv_aload_n hx hb dL_law_1800 rfl (lv_at hl 3 rfl) ?_
    refine lv_aload_n hx hb dL_law_1801 rfl (lv_at hl 1 rfl) ?_
    refine lv_iload hx hb dL_law_1802 (lv_at hl 6 rfl) ?_
    refine lv_iconst (v := 1) hx hb dL_law_1804 (by decide) ?_
    refine lv_iadd hx hb dL_law_1805 ?_
    refine lv_topi (fun w4 ew4 => ?_)
    obtain rfl : w4 = 1 := ew4.trans (by decide)
    refine va_sld hx hb hX hbl hbA I.2.2.2.1 (by unfold vp_in; decide) dL_law_1806 ?_
    refine z_calli (wr := [(o, .inl (co, 1, .inr (.inl xf3)))]) (va_runV (As := [.int (xs (Int32.toNatClampNeg 1))]) (rest := []) ⟨hx, hb, hml, hown, hts⟩ (z_M_kind l dC dI mxq1 mxq2 mxq3 mxq4 mxq5 mxq6 mxq7 mxq8 mxq9 mxq10 mxq11 mxq12 mxq13 mxq14 mxq15 mxq16 mxq17 mxq18 mxq19 mxq20 mxq21 mxq22 mxq23 mxq24 mxq25 mxq26 mxq27 mxq28 mxq29 mxq30 mxq31 mxq32 mxq33 mh0 (xs (Int32.toNatClampNeg 1))  H.size) (cwV 1 hts (z_gV z_T.l mw1697 mw1698 mw1699 mw10 mw1700) rfl rfl rfl (by decide +kernel) ⟨Nat.le_of_ble_eq_true rfl, Nat.le_of_ble_eq_true rfl⟩) (z_preV I [0] [] rfl rfl rfl rfl (ci := 9) (q0 := 0) rfl rfl) rfl rfl hl.1 rfl (lv_room (Nat.le_of_ble_eq_true rfl)) dL_law_1807 ⟨Nat.le_of_ble_eq_true rfl, Nat.le_of_ble_eq_true rfl⟩) I [0] [1] rfl rfl (by decide) (by decide) (fun r5 u5 H locs hw5 I => ?_)
    obtain ⟨hu5, hp5⟩ := hw5
    subst hu5
    have I : z_I A dC dI [(o, .inl (co, 1, .inr (.inl xf3))), (mh0, .inr (9, [.int 1, .ref mxq1, .ref mxq2, .ref mxq3, .ref mxq4, .ref mxq5, .ref mxq6, .ref mxq7, .ref mxq8, .ref mxq9, .int 0, .int 0, .ref mxq10, .ref mxq11, .ref mxq12, .ref mxq13, .ref mxq14, .ref mxq15, .ref mxq16, .ref mxq17, .ref mxq18, .ref mxq19, .ref mxq20, .ref mxq21, .ref mxq22, .ref mxq23, .ref mxq24, .ref mxq25, .ref mxq26, .long 0, .int 0, .int 0, .int 0, .int 0, .int 0, .ref mxq27, .ref mxq28, .ref mxq29, .ref mxq30, .ref mxq31, .ref mxq32, .ref mxq33, .long 0]))] [(co, .long)] s H _ := I
    obtain rfl : r5 = 0 := hp5
    refine lv_istore (lv' := [(7, .int 0), (6, .int 1), (0, .ref b), (1, .ref h0), (2, .ref mh0), (3, .ref o), (4, .ref od), (5, .int 0)]) hx hb dL_law_1810 hl (by decide) rfl (fun ls hl => ?_)
    refine lv_aload_n hx hb dL_law_1812 rfl (lv_at hl 4 rfl) ?_
    refine z_calli (wr := [(o, .inl (co, 1, .inr (.inl xf3)))]) (va_runV (As := []) (rest := []) ⟨hx, hb, hml, hown, hts⟩ (z_M_thrown l dC dI 1 mxq1 mxq2 mxq3 mxq4 mxq5 mxq6 mxq7 mxq8 mxq9 0 0 mxq10 mxq11 mxq12 mxq13 mxq14 mxq15 mxq16 mxq17 mxq18 mxq19 mxq20 mxq21 mxq22 mxq23 mxq24 mxq25 mxq26 0 0 0 0 0 0 mxq27 mxq28 mxq29 mxq30 mxq31 mxq32 mxq33 0 mh0  H.size) (cwV 0 hts (z_gV z_T.l mw1391 mw1392 mw1393 mw10 mw1394) rfl rfl rfl (by decide +kernel) ⟨Nat.le_of_ble_eq_true rfl, Nat.le_of_ble_eq_true rfl⟩) (z_preV I [1] [] rfl rfl rfl rfl (ci := 9) (q0 := 1) rfl rfl) rfl rfl hl.1 rfl (lv_room (Nat.le_of_ble_eq_true rfl)) dL_law_1813 ⟨Nat.le_of_ble_eq_true rfl, Nat.le_of_ble_eq_true rfl⟩) I [1] [0] rfl rfl (by decide) (by decide) (fun r6 u6 H locs hw6 I => ?_)
    obtain ⟨hu6, hp6⟩ := hw6
    subst hu6
    have I : z_I A dC dI [(o, .inl (co, 1, .inr (.inl xf3))), (mh0, .inr (9, [.int 1, .ref mxq1, .ref mxq2, .ref mxq3, .ref mxq4, .ref mxq5, .ref mxq6, .ref mxq7, .ref mxq8, .ref mxq9, .int 0, .int 0, .ref mxq10, .ref mxq11, .ref mxq12, .ref mxq13, .ref mxq14, .ref mxq15, .ref mxq16, .ref mxq17, .ref mxq18, .ref mxq19, .ref mxq20, .ref mxq21, .ref mxq22, .ref mxq23, .ref mxq24, .ref mxq25, .ref mxq26, .long 0, .int 0, .int 0, .int 0, .int 0, .int 0, .ref mxq27, .ref mxq28, .ref mxq29, .ref mxq30, .ref mxq31, .ref mxq32, .ref mxq33, .long 0]))] [(co, .long)] s H _ := I
    obtain rfl : 1 = r6 := hp6.symm
    refine lv_iload hx hb dL_law_1816 (lv_at hl 1 rfl) ?_
    refine lv_icmp_eq (tgt := 1823) hx hb dL_law_1818 (by decide) (fun _ => ?_) (fun c9 => absurd c9 (by decide))
    refine lv_iload hx hb dL_law_1823 (lv_at hl 1 rfl) ?_
    refine lv_if_ne (tgt := 1840) hx hb dL_law_1825 (by decide) (fun _ => ?_) (fun c9 => absurd c9 (by decide))
    refine lv_goto (tgt := 2238) hx hb dL_law_1840 (by decide) ?_
    refine W.widen (k := 2000) (n := 9000) (Nat.le_of_ble_eq_true rfl) (Nat.le_of_ble_eq_true rfl) ?_
    exact K _ _ _ I.2.2.2.1 (lv_sub hl [2, 7] rfl)
set_option maxHeartbeats 4000000 in
set_option maxRecDepth 100000 in
theorem z_case_28 (l : Launch) (hst : l.stackTraces = false) (dC : Nat → ClassId) (dI : Nat → Nat → Nat) (xq1 : Nat) (xq2 : Nat) (xq3 : Nat) (xq4 : Nat) (xq5 : Nat) (xq6 : Nat) (xq7 : Nat) (xq8 : Nat) (h0 : Nat) (mxq1 : Nat) (mxq2 : Nat) (mxq3 : Nat) (mxq4 : Nat) (mxq5 : Nat) (mxq6 : Nat) (mxq7 : Nat) (mxq8 : Nat) (mxq9 : Nat) (mxq10 : Nat) (mxq11 : Nat) (mxq12 : Nat) (mxq13 : Nat) (mxq14 : Nat) (mxq15 : Nat) (mxq16 : Nat) (mxq17 : Nat) (mxq18 : Nat) (mxq19 : Nat) (mxq20 : Nat) (mxq21 : Nat) (mxq22 : Nat) (mxq23 : Nat) (mxq24 : Nat) (mxq25 : Nat) (mxq26 : Nat) (mxq27 : Nat) (mxq28 : Nat) (mxq29 : Nat) (mxq30 : Nat) (mxq31 : Nat) (mxq32 : Nat) (mxq33 : Nat) (mh0 : Nat) (o : Nat) (co : ClassId) (fo : Nat → Int64) (od : Nat) {p : Program} {e : Env} {s : State} {m : MethodId} {below : List Frame} {meth : Method} {c : Code} {b : Nat} {xs : Nat → Int32} {A : Nat → Prop} {Q : State → Prop} (hx : p.tables.exec = Jvm.exec) (hb : c.code = cL_law) (hml : c.maxLocals = 9) (hown : s.vm.findClass RL = some m.cls) (hts : ∀ w ∈ lw_tbl, w.before #[Value.ref b] s = true) (hX : va_X b 7 xs s s.heap) (hbl : b < s.heap.size) (hbA : ¬ A b) (K : z_LK p l e s m below meth c b A Q) {H : Heap} {locs : List Loc} {ls : Array Slot} (I : z_I A dC dI [(h0, .inr (8, [.ref xq1, .ref xq2])), (xq1, .inr (7, [.ref xq2, .ref xq3, .ref xq4, .ref xq5, .ref xq6, .ref xq7, .ref xq8, .int 0, .int 0, .int 0, .int 0, .int 0])), (mh0, .inr (9, [.int 0, .ref mxq1, .ref mxq2, .ref mxq3, .ref mxq4, .ref mxq5, .ref mxq6, .ref mxq7, .ref mxq8, .ref mxq9, .int 0, .int 0, .ref mxq10, .ref mxq11, .ref mxq12, .ref mxq13, .ref mxq14, .ref mxq15, .ref mxq16, .ref mxq17, .ref mxq18, .ref mxq19, .ref mxq20, .ref mxq21, .ref mxq22, .ref mxq23, .ref mxq24, .ref mxq25, .ref mxq26, .long 0, .int 0, .int 0, .int 0, .int 0, .int 0, .ref mxq27, .ref mxq28, .ref mxq29, .ref mxq30, .ref mxq31, .ref mxq32, .ref mxq33, .long 0])), (o, .inl (co, 1, .inr (.inl fo)))] [(co, .long)] s H locs) (hl : lv_has ls 9 [(0, .ref b), (1, .ref h0), (2, .ref mh0), (3, .ref o), (4, .ref od), (5, .int 0)]) : W p l e room_1 s m #[Value.ref b] below meth c H locs 1000 8000 Q (F0 m 1843 ls []) := by
  have hg : z_G #[Value.ref b] s := fun w hw _ => hts w hw
  refine lv_aload_n hx hb dL_law_1843 rfl (lv_at hl 1 rfl) ?_
  refine lv_aload_n hx hb dL_law_1844 rfl (lv_at hl 0 rfl) ?_
  refine lv_iload hx hb dL_law_1845 (lv_at hl 5 rfl) ?_
  refine lv_iconst (v := 1) hx hb dL_law_1847 (by decide) ?_
  refine lv_iadd hx hb dL_law_1848 ?_
  refine lv_topi (fun w1 ew1 => ?_)
  obtain rfl : w1 = 1 := ew1.trans (by decide)
  refine va_sld hx hb hX hbl hbA I.2.2.2.1 (by unfold vp_in; decide) dL_law_1849 ?_
  refine lv_aload_n hx hb dL_law_1850 rfl (lv_at hl 0 rfl) ?_
  refine lv_iload hx hb dL_law_1851 (lv_at hl 5 rfl) ?_
  refine lv_iconst (v := 2) hx hb dL_law_1853 (by decide) ?_
  refine lv_iadd hx hb dL_law_1854 ?_
  refine lv_topi (fun w2 ew2 => ?_)
  obtain rfl : w2 = 2 := ew2.trans (by decide)
  refine va_sld hx hb hX hbl hbA I.2.2.2.1 (by unfold vp_in; decide) dL_law_1855 ?_
  refine lv_aload_n hx hb dL_law_1856 rfl (lv_at hl 3 rfl) ?_
  refine z_xcalli (wr := [(mh0, .inr (9, [.int 0, .ref mxq1, .ref mxq2, .ref mxq3, .ref mxq4, .ref mxq5, .ref mxq6, .ref mxq7, .ref mxq8, .ref mxq9, .int 0, .int 0, .ref mxq10, .ref mxq11, .ref mxq12, .ref mxq13, .ref mxq14, .ref mxq15, .ref mxq16, .ref mxq17, .ref mxq18, .ref mxq19, .ref mxq20, .ref mxq21, .ref mxq22, .ref mxq23, .ref mxq24, .ref mxq25, .ref mxq26, .long 0, .int 0, .int 0, .int 0, .int 0, .int 0, .ref mxq27, .ref mxq28, .ref mxq29, .ref mxq30, .ref mxq31, .ref mxq32, .ref mxq33, .long 0]))]) (vx_runSX (As := [.ref h0, .int (xs (Int32.toNatClampNeg 1)), .int (xs (Int32.toNatClampNeg 2)), .ref o]) (rest := []) ⟨hx, hb, hml, hown, hts⟩ (z_L_coefficient l hst dC dI xq1 xq2 xq3 xq4 xq5 xq6 xq7 xq8 h0 o co fo (xs (Int32.toNatClampNeg 1)) (xs (Int32.toNatClampNeg 2))  H.size) (vx_cwSW 4 hts (z_gSh z_T.l mw1179 mw1180 mw0 mw1181) rfl rfl rfl (by decide +kernel) ⟨Nat.le_of_ble_eq_true rfl, Nat.le_of_ble_eq_true rfl⟩) (z_pre I [0, 1, 3] [0] rfl rfl rfl rfl) rfl rfl hl.1 rfl (lv_room (Nat.le_of_ble_eq_true rfl)) dL_law_1857 ⟨Nat.le_of_ble_eq_true rfl, Nat.le_of_ble_eq_true rfl⟩) I [0, 1, 3] [2] rfl rfl (by decide) (by decide) (fun E3 ce3 q3 H locs hE3 I hcell hcv hcl => ?_) (fun r3 u3 H locs hw3 I => ?_)
  · skip
    have I : z_I A dC dI [(mh0, .inr (9, [.int 0, .ref mxq1, .ref mxq2, .ref mxq3, .ref mxq4, .ref mxq5, .ref mxq6, .ref mxq7, .ref mxq8, .ref mxq9, .int 0, .int 0, .ref mxq10, .ref mxq11, .ref mxq12, .ref mxq13, .ref mxq14, .ref mxq15, .ref mxq16, .ref mxq17, .ref mxq18, .ref mxq19, .ref mxq20, .ref mxq21, .ref mxq22, .ref mxq23, .ref mxq24, .ref mxq25, .ref mxq26, .long 0, .int 0, .int 0, .int 0, .int 0, .int 0, .ref mxq27, .ref mxq28, .ref mxq29, .ref mxq30, .ref mxq31, .ref mxq32, .ref mxq33, .long 0]))] [(co, .long)] s H _ := I
    exact False.elim hE3
  · skip
    obtain ⟨xf4, hu3, hp3⟩ := hw3
    subst hu3
    have I : z_I A dC dI [(mh0, .inr (9, [.int 0, .ref mxq1, .ref mxq2, .ref mxq3, .ref mxq4, .ref mxq5, .ref mxq6, .ref mxq7, .ref mxq8, .ref mxq9, .int 0, .int 0, .ref mxq10, .ref mxq11, .ref mxq12, .ref mxq13, .ref mxq14, .ref mxq15, .ref mxq16, .ref mxq17, .ref mxq18, .ref mxq19, .ref mxq20, .ref mxq21, .ref mxq22, .ref mxq23, .ref mxq24, .ref mxq25, .ref mxq26, .long 0, .int 0, .int 0, .int 0, .int 0, .int 0, .ref mxq27, .ref mxq28, .ref mxq29, .ref mxq30, .ref mxq31, .ref mxq32, .ref mxq33, .long 0])), (o, .inl (co, 1, .inr (.inl xf4)))] [(co, .long)] s H _ := I
    refine W.widen (k := 1001) (n := 8006) (Nat.le_of_ble_eq_true rfl) (Nat.le_of_ble_eq_true rfl) ?_
    obtain rfl : r3 = 1 := hp3.1
    refine lv_istore (lv' := [(6, .int 1), (0, .ref b), (1, .ref h0), (2, .ref mh0), (3, .ref o), (4, .ref od), (5, .int 0)]) hx hb dL_law_1860 hl (by decide) rfl (fun ls hl => ?_)
    refine lv_aload_n hx hb dL_law_1862 rfl (lv_at hl 3 rfl) ?_
    refine lv_aload_n hx hb dL_law_1863 rfl (lv_at hl 1 rfl) ?_
    refine lv_iload hx hb dL_law_1864 (lv_at hl 6 rfl) ?_
    refine lv_iconst (v := 1) hx hb dL_law_1866 (by decide) ?_
    refine lv_iadd hx hb dL_law_1867 ?_
    refine lv_topi (fun w5 ew5 => ?_)
    obtain rfl : w5 = 1 := ew5.trans (by decide)
    refine va_sld hx hb hX hbl hbA I.2.2.2.1 (by unfold vp_in; decide) dL_law_1868 ?_
    refine lv_aload_n hx hb dL_law_1869 rfl (lv_at hl 1 rfl) ?_
    refine lv_iload hx hb dL_law_1870 (lv_at hl 6 rfl) ?_
    refine lv_iconst (v := 2) hx hb dL_law_1872 (by decide) ?_
    refine lv_iadd hx hb dL_law_1873 ?_
    refine lv_topi (fun w6 ew6 => ?_)
    obtain rfl : w6 = 2 := ew6.trans (by decide)
    refine va_sld hx hb hX hbl hbA I.2.2.2.1 (by unfold vp_in; decide) dL_law_1874 ?_
    refine z_calli (wr := [(o, .inl (co, 1, .inr (.inl xf4)))]) (va_runV (As := [.int (xs (Int32.toNatClampNeg 1)), .int (xs (Int32.toNatClampNeg 2))]) (rest := []) ⟨hx, hb, hml, hown, hts⟩ (z_M_coefficient l dC dI mxq1 mxq2 mxq3 mxq4 mxq5 mxq6 mxq7 mxq8 mxq9 mxq10 mxq11 mxq12 mxq13 mxq14 mxq15 mxq16 mxq17 mxq18 mxq19 mxq20 mxq21 mxq22 mxq23 mxq24 mxq25 mxq26 mxq27 mxq28 mxq29 mxq30 mxq31 mxq32 mxq33 mh0 (xs (Int32.toNatClampNeg 1)) (xs (Int32.toNatClampNeg 2))  H.size) (cwV 2 hts (z_gV z_T.l mw1705 mw1706 mw1707 mw10 mw1708) rfl rfl rfl (by decide +kernel) ⟨Nat.le_of_ble_eq_true rfl, Nat.le_of_ble_eq_true rfl⟩) (z_preV I [0] [] rfl rfl rfl rfl (ci := 9) (q0 := 0) rfl rfl) rfl rfl hl.1 rfl (lv_room (Nat.le_of_ble_eq_true rfl)) dL_law_1875 ⟨Nat.le_of_ble_eq_true rfl, Nat.le_of_ble_eq_true rfl⟩) I [0] [1] rfl rfl (by decide) (by decide) (fun r7 u7 H locs hw7 I => ?_)
    obtain ⟨hu7, hp7⟩ := hw7
    subst hu7
    have I : z_I A dC dI [(o, .inl (co, 1, .inr (.inl xf4))), (mh0, .inr (9, [.int 1, .ref mxq1, .ref mxq2, .ref mxq3, .ref mxq4, .ref mxq5, .ref mxq6, .ref mxq7, .ref mxq8, .ref mxq9, .int 0, .int 0, .ref mxq10, .ref mxq11, .ref mxq12, .ref mxq13, .ref mxq14, .ref mxq15, .ref mxq16, .ref mxq17, .ref mxq18, .ref mxq19, .ref mxq20, .ref mxq21, .ref mxq22, .ref mxq23, .ref mxq24, .ref mxq25, .ref mxq26, .long 0, .int 0, .int 0, .int 0, .int 0, .int 0, .ref mxq27, .ref mxq28, .ref mxq29, .ref mxq30, .ref mxq31, .ref mxq32, .ref mxq33, .long 0]))] [(co, .long)] s H _ := I
    obtain rfl : r7 = 0 := hp7
    refine lv_istore (lv' := [(7, .int 0), (6, .int 1), (0, .ref b), (1, .ref h0), (2, .ref mh0), (3, .ref o), (4, .ref od), (5, .int 0)]) hx hb dL_law_1878 hl (by decide) rfl (fun ls hl => ?_)
    refine lv_aload_n hx hb dL_law_1880 rfl (lv_at hl 4 rfl) ?_
    refine z_calli (wr := [(o, .inl (co, 1, .inr (.inl xf4)))]) (va_runV (As := []) (rest := []) ⟨hx, hb, hml, hown, hts⟩ (z_M_thrown l dC dI 1 mxq1 mxq2 mxq3 mxq4 mxq5 mxq6 mxq7 mxq8 mxq9 0 0 mxq10 mxq11 mxq12 mxq13 mxq14 mxq15 mxq16 mxq17 mxq18 mxq19 mxq20 mxq21 mxq22 mxq23 mxq24 mxq25 mxq26 0 0 0 0 0 0 mxq27 mxq28 mxq29 mxq30 mxq31 mxq32 mxq33 0 mh0  H.size) (cwV 0 hts (z_gV z_T.l mw1391 mw1392 mw1393 mw10 mw1394) rfl rfl rfl (by decide +kernel) ⟨Nat.le_of_ble_eq_true rfl, Nat.le_of_ble_eq_true rfl⟩) (z_preV I [1] [] rfl rfl rfl rfl (ci := 9) (q0 := 1) rfl rfl) rfl rfl hl.1 rfl (lv_room (Nat.le_of_ble_eq_true rfl)) dL_law_1881 ⟨Nat.le_of_ble_eq_true rfl, Nat.le_of_ble_eq_true rfl⟩) I [1] [0] rfl rfl (by decide) (by decide) (fun r8 u8 H locs hw8 I => ?_)
    obtain ⟨hu8, hp8⟩ := hw8
    subst hu8
    have I : z_I A dC dI [(o, .inl (co, 1, .inr (.inl xf4))), (mh0, .inr (9, [.int 1, .ref mxq1, .ref mxq2, .ref mxq3, .ref mxq4, .ref mxq5, .ref mxq6, .ref mxq7, .ref mxq8, .ref mxq9, .int 0, .int 0, .ref mxq10, .ref mxq11, .ref mxq12, .ref mxq13, .ref mxq14, .ref mxq15, .ref mxq16, .ref mxq17, .ref mxq18, .ref mxq19, .ref mxq20, .ref mxq21, .ref mxq22, .ref mxq23, .ref mxq24, .ref mxq25, .ref mxq26, .long 0, .int 0, .int 0, .int 0, .int 0, .int 0, .ref mxq27, .ref mxq28, .ref mxq29, .ref mxq30, .ref mxq31, .ref mxq32, .ref mxq33, .long 0]))] [(co, .long)] s H _ := I
    obtain rfl : 1 = r8 := hp8.symm
    refine lv_iload hx hb dL_law_1884 (lv_at hl 1 rfl) ?_
    refine lv_icmp_eq (tgt := 1891) hx hb dL_law_1886 (by decide) (fun _ => ?_) (fun c9 => absurd c9 (by decide))
    refine lv_iload hx hb dL_law_1891 (lv_at hl 1 rfl) ?_
    refine lv_if_ne (tgt := 1908) hx hb dL_law_1893 (by decide) (fun _ => ?_) (fun c9 => absurd c9 (by decide))
    refine lv_goto (tgt := 2238) hx hb dL_law_1908 (by decide) ?_
    refine W.widen (k := 2000) (n := 9000) (Nat.le_of_ble_eq_true rfl) (Nat.le_of_ble_eq_true rfl) ?_
    exact K _ _ _ I.2.2.2.1 (lv_sub hl [2, 7] rfl)
set_option maxHeartbeats 4000000 in
set_option maxRecDepth 100000 in
theorem z_case_29 (l : Launch) (hst : l.stackTraces = false) (dC : Nat → ClassId) (dI : Nat → Nat → Nat) (xq1 : Nat) (xq2 : Nat) (xq3 : Nat) (xq4 : Nat) (xq5 : Nat) (xq6 : Nat) (xq7 : Nat) (xq8 : Nat) (h0 : Nat) (mxq1 : Nat) (mxq2 : Nat) (mxq3 : Nat) (mxq4 : Nat) (mxq5 : Nat) (mxq6 : Nat) (mxq7 : Nat) (mxq8 : Nat) (mxq9 : Nat) (mxq10 : Nat) (mxq11 : Nat) (mxq12 : Nat) (mxq13 : Nat) (mxq14 : Nat) (mxq15 : Nat) (mxq16 : Nat) (mxq17 : Nat) (mxq18 : Nat) (mxq19 : Nat) (mxq20 : Nat) (mxq21 : Nat) (mxq22 : Nat) (mxq23 : Nat) (mxq24 : Nat) (mxq25 : Nat) (mxq26 : Nat) (mxq27 : Nat) (mxq28 : Nat) (mxq29 : Nat) (mxq30 : Nat) (mxq31 : Nat) (mxq32 : Nat) (mxq33 : Nat) (mh0 : Nat) (o : Nat) (co : ClassId) (fo : Nat → Int64) (od : Nat) {p : Program} {e : Env} {s : State} {m : MethodId} {below : List Frame} {meth : Method} {c : Code} {b : Nat} {xs : Nat → Int32} {A : Nat → Prop} {Q : State → Prop} (hx : p.tables.exec = Jvm.exec) (hb : c.code = cL_law) (hml : c.maxLocals = 9) (hown : s.vm.findClass RL = some m.cls) (hts : ∀ w ∈ lw_tbl, w.before #[Value.ref b] s = true) (hX : va_X b 7 xs s s.heap) (hbl : b < s.heap.size) (hbA : ¬ A b) (K : z_LK p l e s m below meth c b A Q) {H : Heap} {locs : List Loc} {ls : Array Slot} (I : z_I A dC dI [(h0, .inr (8, [.ref xq1, .ref xq2])), (xq1, .inr (7, [.ref xq2, .ref xq3, .ref xq4, .ref xq5, .ref xq6, .ref xq7, .ref xq8, .int 0, .int 0, .int 0, .int 0, .int 0])), (mh0, .inr (9, [.int 0, .ref mxq1, .ref mxq2, .ref mxq3, .ref mxq4, .ref mxq5, .ref mxq6, .ref mxq7, .ref mxq8, .ref mxq9, .int 0, .int 0, .ref mxq10, .ref mxq11, .ref mxq12, .ref mxq13, .ref mxq14, .ref mxq15, .ref mxq16, .ref mxq17, .ref mxq18, .ref mxq19, .ref mxq20, .ref mxq21, .ref mxq22, .ref mxq23, .ref mxq24, .ref mxq25, .ref mxq26, .long 0, .int 0, .int 0, .int 0, .int 0, .int 0, .ref mxq27, .ref mxq28, .ref mxq29, .ref mxq30, .ref mxq31, .ref mxq32, .ref mxq33, .long 0])), (o, .inl (co, 1, .inr (.inl fo)))] [(co, .long)] s H locs) (hl : lv_has ls 9 [(0, .ref b), (1, .ref h0), (2, .ref mh0), (3, .ref o), (4, .ref od), (5, .int 0)]) : W p l e room_1 s m #[Value.ref b] below meth c H locs 1000 8000 Q (F0 m 1911 ls []) := by
  have hg : z_G #[Value.ref b] s := fun w hw _ => hts w hw
  refine lv_aload_n hx hb dL_law_1911 rfl (lv_at hl 1 rfl) ?_
  refine lv_aload_n hx hb dL_law_1912 rfl (lv_at hl 0 rfl) ?_
  refine lv_iload hx hb dL_law_1913 (lv_at hl 5 rfl) ?_
  refine lv_iconst (v := 1) hx hb dL_law_1915 (by decide) ?_
  refine lv_iadd hx hb dL_law_1916 ?_
  refine lv_topi (fun w1 ew1 => ?_)
  obtain rfl : w1 = 1 := ew1.trans (by decide)
  refine va_sld hx hb hX hbl hbA I.2.2.2.1 (by unfold vp_in; decide) dL_law_1917 ?_
  refine lv_aload_n hx hb dL_law_1918 rfl (lv_at hl 3 rfl) ?_
  refine z_xcalli (wr := [(mh0, .inr (9, [.int 0, .ref mxq1, .ref mxq2, .ref mxq3, .ref mxq4, .ref mxq5, .ref mxq6, .ref mxq7, .ref mxq8, .ref mxq9, .int 0, .int 0, .ref mxq10, .ref mxq11, .ref mxq12, .ref mxq13, .ref mxq14, .ref mxq15, .ref mxq16, .ref mxq17, .ref mxq18, .ref mxq19, .ref mxq20, .ref mxq21, .ref mxq22, .ref mxq23, .ref mxq24, .ref mxq25, .ref mxq26, .long 0, .int 0, .int 0, .int 0, .int 0, .int 0, .ref mxq27, .ref mxq28, .ref mxq29, .ref mxq30, .ref mxq31, .ref mxq32, .ref mxq33, .long 0]))]) (vx_runSX (As := [.ref h0, .int (xs (Int32.toNatClampNeg 1)), .ref o]) (rest := []) ⟨hx, hb, hml, hown, hts⟩ (z_L_side l hst dC dI xq1 xq2 xq3 xq4 xq5 xq6 xq7 xq8 h0 o co fo (xs (Int32.toNatClampNeg 1))  H.size) (vx_cwSW 3 hts (z_gSh z_T.l mw1187 mw1188 mw0 mw1189) rfl rfl rfl (by decide +kernel) ⟨Nat.le_of_ble_eq_true rfl, Nat.le_of_ble_eq_true rfl⟩) (z_pre I [0, 1, 3] [0] rfl rfl rfl rfl) rfl rfl hl.1 rfl (lv_room (Nat.le_of_ble_eq_true rfl)) dL_law_1919 ⟨Nat.le_of_ble_eq_true rfl, Nat.le_of_ble_eq_true rfl⟩) I [0, 1, 3] [2] rfl rfl (by decide) (by decide) (fun E2 ce2 q2 H locs hE2 I hcell hcv hcl => ?_) (fun r2 u2 H locs hw2 I => ?_)
  · skip
    have I : z_I A dC dI [(mh0, .inr (9, [.int 0, .ref mxq1, .ref mxq2, .ref mxq3, .ref mxq4, .ref mxq5, .ref mxq6, .ref mxq7, .ref mxq8, .ref mxq9, .int 0, .int 0, .ref mxq10, .ref mxq11, .ref mxq12, .ref mxq13, .ref mxq14, .ref mxq15, .ref mxq16, .ref mxq17, .ref mxq18, .ref mxq19, .ref mxq20, .ref mxq21, .ref mxq22, .ref mxq23, .ref mxq24, .ref mxq25, .ref mxq26, .long 0, .int 0, .int 0, .int 0, .int 0, .int 0, .ref mxq27, .ref mxq28, .ref mxq29, .ref mxq30, .ref mxq31, .ref mxq32, .ref mxq33, .long 0]))] [(co, .long)] s H _ := I
    exact False.elim hE2
  · skip
    obtain ⟨xf3, hu2, hp2⟩ := hw2
    subst hu2
    have I : z_I A dC dI [(mh0, .inr (9, [.int 0, .ref mxq1, .ref mxq2, .ref mxq3, .ref mxq4, .ref mxq5, .ref mxq6, .ref mxq7, .ref mxq8, .ref mxq9, .int 0, .int 0, .ref mxq10, .ref mxq11, .ref mxq12, .ref mxq13, .ref mxq14, .ref mxq15, .ref mxq16, .ref mxq17, .ref mxq18, .ref mxq19, .ref mxq20, .ref mxq21, .ref mxq22, .ref mxq23, .ref mxq24, .ref mxq25, .ref mxq26, .long 0, .int 0, .int 0, .int 0, .int 0, .int 0, .ref mxq27, .ref mxq28, .ref mxq29, .ref mxq30, .ref mxq31, .ref mxq32, .ref mxq33, .long 0])), (o, .inl (co, 1, .inr (.inl xf3)))] [(co, .long)] s H _ := I
    refine W.widen (k := 1001) (n := 8006) (Nat.le_of_ble_eq_true rfl) (Nat.le_of_ble_eq_true rfl) ?_
    obtain rfl : r2 = 1 := hp2.1
    refine lv_istore (lv' := [(6, .int 1), (0, .ref b), (1, .ref h0), (2, .ref mh0), (3, .ref o), (4, .ref od), (5, .int 0)]) hx hb dL_law_1922 hl (by decide) rfl (fun ls hl => ?_)
    refine lv_aload_n hx hb dL_law_1924 rfl (lv_at hl 3 rfl) ?_
    refine lv_aload_n hx hb dL_law_1925 rfl (lv_at hl 1 rfl) ?_
    refine lv_iload hx hb dL_law_1926 (lv_at hl 6 rfl) ?_
    refine lv_iconst (v := 1) hx hb dL_law_1928 (by decide) ?_
    refine lv_iadd hx hb dL_law_1929 ?_
    refine lv_topi (fun w4 ew4 => ?_)
    obtain rfl : w4 = 1 := ew4.trans (by decide)
    refine va_sld hx hb hX hbl hbA I.2.2.2.1 (by unfold vp_in; decide) dL_law_1930 ?_
    refine z_calli (wr := [(o, .inl (co, 1, .inr (.inl xf3)))]) (va_runV (As := [.int (xs (Int32.toNatClampNeg 1))]) (rest := []) ⟨hx, hb, hml, hown, hts⟩ (z_M_side l dC dI mxq1 mxq2 mxq3 mxq4 mxq5 mxq6 mxq7 mxq8 mxq9 mxq10 mxq11 mxq12 mxq13 mxq14 mxq15 mxq16 mxq17 mxq18 mxq19 mxq20 mxq21 mxq22 mxq23 mxq24 mxq25 mxq26 mxq27 mxq28 mxq29 mxq30 mxq31 mxq32 mxq33 mh0 (xs (Int32.toNatClampNeg 1))  H.size) (cwV 1 hts (z_gV z_T.l mw1709 mw1710 mw1711 mw10 mw1712) rfl rfl rfl (by decide +kernel) ⟨Nat.le_of_ble_eq_true rfl, Nat.le_of_ble_eq_true rfl⟩) (z_preV I [0] [] rfl rfl rfl rfl (ci := 9) (q0 := 0) rfl rfl) rfl rfl hl.1 rfl (lv_room (Nat.le_of_ble_eq_true rfl)) dL_law_1931 ⟨Nat.le_of_ble_eq_true rfl, Nat.le_of_ble_eq_true rfl⟩) I [0] [1] rfl rfl (by decide) (by decide) (fun r5 u5 H locs hw5 I => ?_)
    obtain ⟨hu5, hp5⟩ := hw5
    subst hu5
    have I : z_I A dC dI [(o, .inl (co, 1, .inr (.inl xf3))), (mh0, .inr (9, [.int 1, .ref mxq1, .ref mxq2, .ref mxq3, .ref mxq4, .ref mxq5, .ref mxq6, .ref mxq7, .ref mxq8, .ref mxq9, .int 0, .int 0, .ref mxq10, .ref mxq11, .ref mxq12, .ref mxq13, .ref mxq14, .ref mxq15, .ref mxq16, .ref mxq17, .ref mxq18, .ref mxq19, .ref mxq20, .ref mxq21, .ref mxq22, .ref mxq23, .ref mxq24, .ref mxq25, .ref mxq26, .long 0, .int 0, .int 0, .int 0, .int 0, .int 0, .ref mxq27, .ref mxq28, .ref mxq29, .ref mxq30, .ref mxq31, .ref mxq32, .ref mxq33, .long 0]))] [(co, .long)] s H _ := I
    obtain rfl : r5 = 0 := hp5
    refine lv_istore (lv' := [(7, .int 0), (6, .int 1), (0, .ref b), (1, .ref h0), (2, .ref mh0), (3, .ref o), (4, .ref od), (5, .int 0)]) hx hb dL_law_1934 hl (by decide) rfl (fun ls hl => ?_)
    refine lv_aload_n hx hb dL_law_1936 rfl (lv_at hl 4 rfl) ?_
    refine z_calli (wr := [(o, .inl (co, 1, .inr (.inl xf3)))]) (va_runV (As := []) (rest := []) ⟨hx, hb, hml, hown, hts⟩ (z_M_thrown l dC dI 1 mxq1 mxq2 mxq3 mxq4 mxq5 mxq6 mxq7 mxq8 mxq9 0 0 mxq10 mxq11 mxq12 mxq13 mxq14 mxq15 mxq16 mxq17 mxq18 mxq19 mxq20 mxq21 mxq22 mxq23 mxq24 mxq25 mxq26 0 0 0 0 0 0 mxq27 mxq28 mxq29 mxq30 mxq31 mxq32 mxq33 0 mh0  H.size) (cwV 0 hts (z_gV z_T.l mw1391 mw1392 mw1393 mw10 mw1394) rfl rfl rfl (by decide +kernel) ⟨Nat.le_of_ble_eq_true rfl, Nat.le_of_ble_eq_true rfl⟩) (z_preV I [1] [] rfl rfl rfl rfl (ci := 9) (q0 := 1) rfl rfl) rfl rfl hl.1 rfl (lv_room (Nat.le_of_ble_eq_true rfl)) dL_law_1937 ⟨Nat.le_of_ble_eq_true rfl, Nat.le_of_ble_eq_true rfl⟩) I [1] [0] rfl rfl (by decide) (by decide) (fun r6 u6 H locs hw6 I => ?_)
    obtain ⟨hu6, hp6⟩ := hw6
    subst hu6
    have I : z_I A dC dI [(o, .inl (co, 1, .inr (.inl xf3))), (mh0, .inr (9, [.int 1, .ref mxq1, .ref mxq2, .ref mxq3, .ref mxq4, .ref mxq5, .ref mxq6, .ref mxq7, .ref mxq8, .ref mxq9, .int 0, .int 0, .ref mxq10, .ref mxq11, .ref mxq12, .ref mxq13, .ref mxq14, .ref mxq15, .ref mxq16, .ref mxq17, .ref mxq18, .ref mxq19, .ref mxq20, .ref mxq21, .ref mxq22, .ref mxq23, .ref mxq24, .ref mxq25, .ref mxq26, .long 0, .int 0, .int 0, .int 0, .int 0, .int 0, .ref mxq27, .ref mxq28, .ref mxq29, .ref mxq30, .ref mxq31, .ref mxq32, .ref mxq33, .long 0]))] [(co, .long)] s H _ := I
    obtain rfl : 1 = r6 := hp6.symm
    refine lv_iload hx hb dL_law_1940 (lv_at hl 1 rfl) ?_
    refine lv_icmp_eq (tgt := 1947) hx hb dL_law_1942 (by decide) (fun _ => ?_) (fun c9 => absurd c9 (by decide))
    refine lv_iload hx hb dL_law_1947 (lv_at hl 1 rfl) ?_
    refine lv_if_ne (tgt := 1964) hx hb dL_law_1949 (by decide) (fun _ => ?_) (fun c9 => absurd c9 (by decide))
    refine lv_goto (tgt := 2238) hx hb dL_law_1964 (by decide) ?_
    refine W.widen (k := 2000) (n := 9000) (Nat.le_of_ble_eq_true rfl) (Nat.le_of_ble_eq_true rfl) ?_
    exact K _ _ _ I.2.2.2.1 (lv_sub hl [2, 7] rfl)
set_option maxHeartbeats 4000000 in
set_option maxRecDepth 100000 in
theorem z_case_30 (l : Launch) (hst : l.stackTraces = false) (dC : Nat → ClassId) (dI : Nat → Nat → Nat) (xq1 : Nat) (xq2 : Nat) (xq3 : Nat) (xq4 : Nat) (xq5 : Nat) (xq6 : Nat) (xq7 : Nat) (xq8 : Nat) (h0 : Nat) (mxq1 : Nat) (mxq2 : Nat) (mxq3 : Nat) (mxq4 : Nat) (mxq5 : Nat) (mxq6 : Nat) (mxq7 : Nat) (mxq8 : Nat) (mxq9 : Nat) (mxq10 : Nat) (mxq11 : Nat) (mxq12 : Nat) (mxq13 : Nat) (mxq14 : Nat) (mxq15 : Nat) (mxq16 : Nat) (mxq17 : Nat) (mxq18 : Nat) (mxq19 : Nat) (mxq20 : Nat) (mxq21 : Nat) (mxq22 : Nat) (mxq23 : Nat) (mxq24 : Nat) (mxq25 : Nat) (mxq26 : Nat) (mxq27 : Nat) (mxq28 : Nat) (mxq29 : Nat) (mxq30 : Nat) (mxq31 : Nat) (mxq32 : Nat) (mxq33 : Nat) (mh0 : Nat) (o : Nat) (co : ClassId) (fo : Nat → Int64) (od : Nat) {p : Program} {e : Env} {s : State} {m : MethodId} {below : List Frame} {meth : Method} {c : Code} {b : Nat} {xs : Nat → Int32} {A : Nat → Prop} {Q : State → Prop} (hx : p.tables.exec = Jvm.exec) (hb : c.code = cL_law) (hml : c.maxLocals = 9) (hown : s.vm.findClass RL = some m.cls) (hts : ∀ w ∈ lw_tbl, w.before #[Value.ref b] s = true) (hX : va_X b 7 xs s s.heap) (hbl : b < s.heap.size) (hbA : ¬ A b) (K : z_LK p l e s m below meth c b A Q) {H : Heap} {locs : List Loc} {ls : Array Slot} (I : z_I A dC dI [(h0, .inr (8, [.ref xq1, .ref xq2])), (xq1, .inr (7, [.ref xq2, .ref xq3, .ref xq4, .ref xq5, .ref xq6, .ref xq7, .ref xq8, .int 0, .int 0, .int 0, .int 0, .int 0])), (mh0, .inr (9, [.int 0, .ref mxq1, .ref mxq2, .ref mxq3, .ref mxq4, .ref mxq5, .ref mxq6, .ref mxq7, .ref mxq8, .ref mxq9, .int 0, .int 0, .ref mxq10, .ref mxq11, .ref mxq12, .ref mxq13, .ref mxq14, .ref mxq15, .ref mxq16, .ref mxq17, .ref mxq18, .ref mxq19, .ref mxq20, .ref mxq21, .ref mxq22, .ref mxq23, .ref mxq24, .ref mxq25, .ref mxq26, .long 0, .int 0, .int 0, .int 0, .int 0, .int 0, .ref mxq27, .ref mxq28, .ref mxq29, .ref mxq30, .ref mxq31, .ref mxq32, .ref mxq33, .long 0])), (o, .inl (co, 1, .inr (.inl fo)))] [(co, .long)] s H locs) (hl : lv_has ls 9 [(0, .ref b), (1, .ref h0), (2, .ref mh0), (3, .ref o), (4, .ref od), (5, .int 0)]) : W p l e room_1 s m #[Value.ref b] below meth c H locs 1000 8000 Q (F0 m 1967 ls []) := by
  have hg : z_G #[Value.ref b] s := fun w hw _ => hts w hw
  refine lv_aload_n hx hb dL_law_1967 rfl (lv_at hl 1 rfl) ?_
  refine lv_aload_n hx hb dL_law_1968 rfl (lv_at hl 0 rfl) ?_
  refine lv_iload hx hb dL_law_1969 (lv_at hl 5 rfl) ?_
  refine lv_iconst (v := 1) hx hb dL_law_1971 (by decide) ?_
  refine lv_iadd hx hb dL_law_1972 ?_
  refine lv_topi (fun w1 ew1 => ?_)
  obtain rfl : w1 = 1 := ew1.trans (by decide)
  refine va_sld hx hb hX hbl hbA I.2.2.2.1 (by unfold vp_in; decide) dL_law_1973 ?_
  refine lv_aload_n hx hb dL_law_1974 rfl (lv_at hl 3 rfl) ?_
  refine z_xcalli (wr := [(mh0, .inr (9, [.int 0, .ref mxq1, .ref mxq2, .ref mxq3, .ref mxq4, .ref mxq5, .ref mxq6, .ref mxq7, .ref mxq8, .ref mxq9, .int 0, .int 0, .ref mxq10, .ref mxq11, .ref mxq12, .ref mxq13, .ref mxq14, .ref mxq15, .ref mxq16, .ref mxq17, .ref mxq18, .ref mxq19, .ref mxq20, .ref mxq21, .ref mxq22, .ref mxq23, .ref mxq24, .ref mxq25, .ref mxq26, .long 0, .int 0, .int 0, .int 0, .int 0, .int 0, .ref mxq27, .ref mxq28, .ref mxq29, .ref mxq30, .ref mxq31, .ref mxq32, .ref mxq33, .long 0]))]) (vx_runSX (As := [.ref h0, .int (xs (Int32.toNatClampNeg 1)), .ref o]) (rest := []) ⟨hx, hb, hml, hown, hts⟩ (z_L_age l hst dC dI xq1 xq2 xq3 xq4 xq5 xq6 xq7 xq8 h0 o co fo (xs (Int32.toNatClampNeg 1))  H.size) (vx_cwSW 3 hts (z_gSh z_T.l mw1194 mw1195 mw0 mw1196) rfl rfl rfl (by decide +kernel) ⟨Nat.le_of_ble_eq_true rfl, Nat.le_of_ble_eq_true rfl⟩) (z_pre I [0, 1, 3] [0] rfl rfl rfl rfl) rfl rfl hl.1 rfl (lv_room (Nat.le_of_ble_eq_true rfl)) dL_law_1975 ⟨Nat.le_of_ble_eq_true rfl, Nat.le_of_ble_eq_true rfl⟩) I [0, 1, 3] [2] rfl rfl (by decide) (by decide) (fun E2 ce2 q2 H locs hE2 I hcell hcv hcl => ?_) (fun r2 u2 H locs hw2 I => ?_)
  · skip
    have I : z_I A dC dI [(mh0, .inr (9, [.int 0, .ref mxq1, .ref mxq2, .ref mxq3, .ref mxq4, .ref mxq5, .ref mxq6, .ref mxq7, .ref mxq8, .ref mxq9, .int 0, .int 0, .ref mxq10, .ref mxq11, .ref mxq12, .ref mxq13, .ref mxq14, .ref mxq15, .ref mxq16, .ref mxq17, .ref mxq18, .ref mxq19, .ref mxq20, .ref mxq21, .ref mxq22, .ref mxq23, .ref mxq24, .ref mxq25, .ref mxq26, .long 0, .int 0, .int 0, .int 0, .int 0, .int 0, .ref mxq27, .ref mxq28, .ref mxq29, .ref mxq30, .ref mxq31, .ref mxq32, .ref mxq33, .long 0]))] [(co, .long)] s H _ := I
    exact False.elim hE2
  · skip
    obtain ⟨xf3, hu2, hp2⟩ := hw2
    subst hu2
    have I : z_I A dC dI [(mh0, .inr (9, [.int 0, .ref mxq1, .ref mxq2, .ref mxq3, .ref mxq4, .ref mxq5, .ref mxq6, .ref mxq7, .ref mxq8, .ref mxq9, .int 0, .int 0, .ref mxq10, .ref mxq11, .ref mxq12, .ref mxq13, .ref mxq14, .ref mxq15, .ref mxq16, .ref mxq17, .ref mxq18, .ref mxq19, .ref mxq20, .ref mxq21, .ref mxq22, .ref mxq23, .ref mxq24, .ref mxq25, .ref mxq26, .long 0, .int 0, .int 0, .int 0, .int 0, .int 0, .ref mxq27, .ref mxq28, .ref mxq29, .ref mxq30, .ref mxq31, .ref mxq32, .ref mxq33, .long 0])), (o, .inl (co, 1, .inr (.inl xf3)))] [(co, .long)] s H _ := I
    refine W.widen (k := 1001) (n := 8006) (Nat.le_of_ble_eq_true rfl) (Nat.le_of_ble_eq_true rfl) ?_
    obtain rfl : r2 = 1 := hp2.1
    refine lv_istore (lv' := [(6, .int 1), (0, .ref b), (1, .ref h0), (2, .ref mh0), (3, .ref o), (4, .ref od), (5, .int 0)]) hx hb dL_law_1978 hl (by decide) rfl (fun ls hl => ?_)
    refine lv_aload_n hx hb dL_law_1980 rfl (lv_at hl 3 rfl) ?_
    refine lv_aload_n hx hb dL_law_1981 rfl (lv_at hl 1 rfl) ?_
    refine lv_iload hx hb dL_law_1982 (lv_at hl 6 rfl) ?_
    refine lv_iconst (v := 1) hx hb dL_law_1984 (by decide) ?_
    refine lv_iadd hx hb dL_law_1985 ?_
    refine lv_topi (fun w4 ew4 => ?_)
    obtain rfl : w4 = 1 := ew4.trans (by decide)
    refine va_sld hx hb hX hbl hbA I.2.2.2.1 (by unfold vp_in; decide) dL_law_1986 ?_
    refine z_calli (wr := [(o, .inl (co, 1, .inr (.inl xf3)))]) (va_runV (As := [.int (xs (Int32.toNatClampNeg 1))]) (rest := []) ⟨hx, hb, hml, hown, hts⟩ (z_M_age l dC dI mxq1 mxq2 mxq3 mxq4 mxq5 mxq6 mxq7 mxq8 mxq9 mxq10 mxq11 mxq12 mxq13 mxq14 mxq15 mxq16 mxq17 mxq18 mxq19 mxq20 mxq21 mxq22 mxq23 mxq24 mxq25 mxq26 mxq27 mxq28 mxq29 mxq30 mxq31 mxq32 mxq33 mh0 (xs (Int32.toNatClampNeg 1))  H.size) (cwV 1 hts (z_gV z_T.l mw1713 mw1714 mw1715 mw10 mw1716) rfl rfl rfl (by decide +kernel) ⟨Nat.le_of_ble_eq_true rfl, Nat.le_of_ble_eq_true rfl⟩) (z_preV I [0] [] rfl rfl rfl rfl (ci := 9) (q0 := 0) rfl rfl) rfl rfl hl.1 rfl (lv_room (Nat.le_of_ble_eq_true rfl)) dL_law_1987 ⟨Nat.le_of_ble_eq_true rfl, Nat.le_of_ble_eq_true rfl⟩) I [0] [1] rfl rfl (by decide) (by decide) (fun r5 u5 H locs hw5 I => ?_)
    obtain ⟨hu5, hp5⟩ := hw5
    subst hu5
    have I : z_I A dC dI [(o, .inl (co, 1, .inr (.inl xf3))), (mh0, .inr (9, [.int 1, .ref mxq1, .ref mxq2, .ref mxq3, .ref mxq4, .ref mxq5, .ref mxq6, .ref mxq7, .ref mxq8, .ref mxq9, .int 0, .int 0, .ref mxq10, .ref mxq11, .ref mxq12, .ref mxq13, .ref mxq14, .ref mxq15, .ref mxq16, .ref mxq17, .ref mxq18, .ref mxq19, .ref mxq20, .ref mxq21, .ref mxq22, .ref mxq23, .ref mxq24, .ref mxq25, .ref mxq26, .long 0, .int 0, .int 0, .int 0, .int 0, .int 0, .ref mxq27, .ref mxq28, .ref mxq29, .ref mxq30, .ref mxq31, .ref mxq32, .ref mxq33, .long 0]))] [(co, .long)] s H _ := I
    obtain rfl : r5 = 0 := hp5
    refine lv_istore (lv' := [(7, .int 0), (6, .int 1), (0, .ref b), (1, .ref h0), (2, .ref mh0), (3, .ref o), (4, .ref od), (5, .int 0)]) hx hb dL_law_1990 hl (by decide) rfl (fun ls hl => ?_)
    refine lv_aload_n hx hb dL_law_1992 rfl (lv_at hl 4 rfl) ?_
    refine z_calli (wr := [(o, .inl (co, 1, .inr (.inl xf3)))]) (va_runV (As := []) (rest := []) ⟨hx, hb, hml, hown, hts⟩ (z_M_thrown l dC dI 1 mxq1 mxq2 mxq3 mxq4 mxq5 mxq6 mxq7 mxq8 mxq9 0 0 mxq10 mxq11 mxq12 mxq13 mxq14 mxq15 mxq16 mxq17 mxq18 mxq19 mxq20 mxq21 mxq22 mxq23 mxq24 mxq25 mxq26 0 0 0 0 0 0 mxq27 mxq28 mxq29 mxq30 mxq31 mxq32 mxq33 0 mh0  H.size) (cwV 0 hts (z_gV z_T.l mw1391 mw1392 mw1393 mw10 mw1394) rfl rfl rfl (by decide +kernel) ⟨Nat.le_of_ble_eq_true rfl, Nat.le_of_ble_eq_true rfl⟩) (z_preV I [1] [] rfl rfl rfl rfl (ci := 9) (q0 := 1) rfl rfl) rfl rfl hl.1 rfl (lv_room (Nat.le_of_ble_eq_true rfl)) dL_law_1993 ⟨Nat.le_of_ble_eq_true rfl, Nat.le_of_ble_eq_true rfl⟩) I [1] [0] rfl rfl (by decide) (by decide) (fun r6 u6 H locs hw6 I => ?_)
    obtain ⟨hu6, hp6⟩ := hw6
    subst hu6
    have I : z_I A dC dI [(o, .inl (co, 1, .inr (.inl xf3))), (mh0, .inr (9, [.int 1, .ref mxq1, .ref mxq2, .ref mxq3, .ref mxq4, .ref mxq5, .ref mxq6, .ref mxq7, .ref mxq8, .ref mxq9, .int 0, .int 0, .ref mxq10, .ref mxq11, .ref mxq12, .ref mxq13, .ref mxq14, .ref mxq15, .ref mxq16, .ref mxq17, .ref mxq18, .ref mxq19, .ref mxq20, .ref mxq21, .ref mxq22, .ref mxq23, .ref mxq24, .ref mxq25, .ref mxq26, .long 0, .int 0, .int 0, .int 0, .int 0, .int 0, .ref mxq27, .ref mxq28, .ref mxq29, .ref mxq30, .ref mxq31, .ref mxq32, .ref mxq33, .long 0]))] [(co, .long)] s H _ := I
    obtain rfl : 1 = r6 := hp6.symm
    refine lv_iload hx hb dL_law_1996 (lv_at hl 1 rfl) ?_
    refine lv_icmp_eq (tgt := 2003) hx hb dL_law_1998 (by decide) (fun _ => ?_) (fun c9 => absurd c9 (by decide))
    refine lv_iload hx hb dL_law_2003 (lv_at hl 1 rfl) ?_
    refine lv_if_ne (tgt := 2020) hx hb dL_law_2005 (by decide) (fun _ => ?_) (fun c9 => absurd c9 (by decide))
    refine lv_goto (tgt := 2238) hx hb dL_law_2020 (by decide) ?_
    refine W.widen (k := 2000) (n := 9000) (Nat.le_of_ble_eq_true rfl) (Nat.le_of_ble_eq_true rfl) ?_
    exact K _ _ _ I.2.2.2.1 (lv_sub hl [2, 7] rfl)
set_option maxHeartbeats 4000000 in
set_option maxRecDepth 100000 in
theorem z_case_31 (l : Launch) (hst : l.stackTraces = false) (dC : Nat → ClassId) (dI : Nat → Nat → Nat) (xq1 : Nat) (xq2 : Nat) (xq9 : Nat) (xq10 : Nat) (xq11 : Nat) (xq12 : Nat) (xq13 : Nat) (xq14 : Nat) (xq15 : Nat) (xq16 : Nat) (xq17 : Nat) (xq18 : Nat) (xq19 : Nat) (h0 : Nat) (mxq1 : Nat) (mxq2 : Nat) (mxq3 : Nat) (mxq4 : Nat) (mxq5 : Nat) (mxq6 : Nat) (mxq7 : Nat) (mxq8 : Nat) (mxq9 : Nat) (mxq10 : Nat) (mxq11 : Nat) (mxq12 : Nat) (mxq13 : Nat) (mxq14 : Nat) (mxq15 : Nat) (mxq16 : Nat) (mxq17 : Nat) (mxq18 : Nat) (mxq19 : Nat) (mxq20 : Nat) (mxq21 : Nat) (mxq22 : Nat) (mxq23 : Nat) (mxq24 : Nat) (mxq25 : Nat) (mxq26 : Nat) (mxq27 : Nat) (mxq28 : Nat) (mxq29 : Nat) (mxq30 : Nat) (mxq31 : Nat) (mxq32 : Nat) (mxq33 : Nat) (mh0 : Nat) (o : Nat) (co : ClassId) (fo : Nat → Int64) (od : Nat) {p : Program} {e : Env} {s : State} {m : MethodId} {below : List Frame} {meth : Method} {c : Code} {b : Nat} {xs : Nat → Int32} {A : Nat → Prop} {Q : State → Prop} (hx : p.tables.exec = Jvm.exec) (hb : c.code = cL_law) (hml : c.maxLocals = 9) (hown : s.vm.findClass RL = some m.cls) (hts : ∀ w ∈ lw_tbl, w.before #[Value.ref b] s = true) (hX : va_X b 7 xs s s.heap) (hbl : b < s.heap.size) (hbA : ¬ A b) (K : z_LK p l e s m below meth c b A Q) {H : Heap} {locs : List Loc} {ls : Array Slot} (I : z_I A dC dI [(h0, .inr (8, [.ref xq1, .ref xq2])), (xq2, .inr (5, [.ref xq9, .ref xq10, .ref xq11, .ref xq12, .ref xq13, .ref xq14, .ref xq15, .ref xq16, .ref xq17, .ref xq18, .ref xq19, .int 0, .int 0])), (mh0, .inr (9, [.int 0, .ref mxq1, .ref mxq2, .ref mxq3, .ref mxq4, .ref mxq5, .ref mxq6, .ref mxq7, .ref mxq8, .ref mxq9, .int 0, .int 0, .ref mxq10, .ref mxq11, .ref mxq12, .ref mxq13, .ref mxq14, .ref mxq15, .ref mxq16, .ref mxq17, .ref mxq18, .ref mxq19, .ref mxq20, .ref mxq21, .ref mxq22, .ref mxq23, .ref mxq24, .ref mxq25, .ref mxq26, .long 0, .int 0, .int 0, .int 0, .int 0, .int 0, .ref mxq27, .ref mxq28, .ref mxq29, .ref mxq30, .ref mxq31, .ref mxq32, .ref mxq33, .long 0])), (o, .inl (co, 1, .inr (.inl fo)))] [(co, .long)] s H locs) (hl : lv_has ls 9 [(0, .ref b), (1, .ref h0), (2, .ref mh0), (3, .ref o), (4, .ref od), (5, .int 0)]) : W p l e room_1 s m #[Value.ref b] below meth c H locs 1000 8000 Q (F0 m 2023 ls []) := by
  have hg : z_G #[Value.ref b] s := fun w hw _ => hts w hw
  refine lv_aload_n hx hb dL_law_2023 rfl (lv_at hl 1 rfl) ?_
  refine lv_aload_n hx hb dL_law_2024 rfl (lv_at hl 0 rfl) ?_
  refine lv_iload hx hb dL_law_2025 (lv_at hl 5 rfl) ?_
  refine lv_iconst (v := 1) hx hb dL_law_2027 (by decide) ?_
  refine lv_iadd hx hb dL_law_2028 ?_
  refine lv_topi (fun w1 ew1 => ?_)
  obtain rfl : w1 = 1 := ew1.trans (by decide)
  refine va_sld hx hb hX hbl hbA I.2.2.2.1 (by unfold vp_in; decide) dL_law_2029 ?_
  refine lv_aload_n hx hb dL_law_2030 rfl (lv_at hl 0 rfl) ?_
  refine lv_iload hx hb dL_law_2031 (lv_at hl 5 rfl) ?_
  refine lv_iconst (v := 2) hx hb dL_law_2033 (by decide) ?_
  refine lv_iadd hx hb dL_law_2034 ?_
  refine lv_topi (fun w2 ew2 => ?_)
  obtain rfl : w2 = 2 := ew2.trans (by decide)
  refine va_sld hx hb hX hbl hbA I.2.2.2.1 (by unfold vp_in; decide) dL_law_2035 ?_
  refine z_merge (M := 2044) (ls := ls) (P := fun _ => True) (rest := [.int (xs (Int32.toNatClampNeg 1)), .ref h0]) (fun v4 hv4 => ?_) (fun J3 => ?_)
  · skip
    refine lv_aload_n hx hb dL_law_2044 rfl (lv_at hl 3 rfl) ?_
    refine z_xcalli (wr := [(mh0, .inr (9, [.int 0, .ref mxq1, .ref mxq2, .ref mxq3, .ref mxq4, .ref mxq5, .ref mxq6, .ref mxq7, .ref mxq8, .ref mxq9, .int 0, .int 0, .ref mxq10, .ref mxq11, .ref mxq12, .ref mxq13, .ref mxq14, .ref mxq15, .ref mxq16, .ref mxq17, .ref mxq18, .ref mxq19, .ref mxq20, .ref mxq21, .ref mxq22, .ref mxq23, .ref mxq24, .ref mxq25, .ref mxq26, .long 0, .int 0, .int 0, .int 0, .int 0, .int 0, .ref mxq27, .ref mxq28, .ref mxq29, .ref mxq30, .ref mxq31, .ref mxq32, .ref mxq33, .long 0]))]) (vx_runSX (As := [.ref h0, .int (xs (Int32.toNatClampNeg 1)), .int v4, .ref o]) (rest := []) ⟨hx, hb, hml, hown, hts⟩ (z_L_gain l hst dC dI xq1 xq2 xq9 xq10 xq11 xq12 xq13 xq14 xq15 xq16 xq17 xq18 xq19 h0 o co fo (xs (Int32.toNatClampNeg 1)) v4  H.size) (vx_cwSW 4 hts (z_gSh z_T.l mw1201 mw1202 mw0 mw1203) rfl rfl rfl (by decide +kernel) ⟨Nat.le_of_ble_eq_true rfl, Nat.le_of_ble_eq_true rfl⟩) (z_pre I [0, 1, 3] [0] rfl rfl rfl rfl) rfl rfl hl.1 rfl (lv_room (Nat.le_of_ble_eq_true rfl)) dL_law_2045 ⟨Nat.le_of_ble_eq_true rfl, Nat.le_of_ble_eq_true rfl⟩) I [0, 1, 3] [2] rfl rfl (by decide) (by decide) (fun E5 ce5 q5 H locs hE5 I hcell hcv hcl => ?_) (fun r5 u5 H locs hw5 I => ?_)
    · skip
      have I : z_I A dC dI [(mh0, .inr (9, [.int 0, .ref mxq1, .ref mxq2, .ref mxq3, .ref mxq4, .ref mxq5, .ref mxq6, .ref mxq7, .ref mxq8, .ref mxq9, .int 0, .int 0, .ref mxq10, .ref mxq11, .ref mxq12, .ref mxq13, .ref mxq14, .ref mxq15, .ref mxq16, .ref mxq17, .ref mxq18, .ref mxq19, .ref mxq20, .ref mxq21, .ref mxq22, .ref mxq23, .ref mxq24, .ref mxq25, .ref mxq26, .long 0, .int 0, .int 0, .int 0, .int 0, .int 0, .ref mxq27, .ref mxq28, .ref mxq29, .ref mxq30, .ref mxq31, .ref mxq32, .ref mxq33, .long 0]))] [(co, .long)] s H _ := I
      exact False.elim hE5
    · skip
      obtain ⟨xf6, hu5, hp5⟩ := hw5
      subst hu5
      have I : z_I A dC dI [(mh0, .inr (9, [.int 0, .ref mxq1, .ref mxq2, .ref mxq3, .ref mxq4, .ref mxq5, .ref mxq6, .ref mxq7, .ref mxq8, .ref mxq9, .int 0, .int 0, .ref mxq10, .ref mxq11, .ref mxq12, .ref mxq13, .ref mxq14, .ref mxq15, .ref mxq16, .ref mxq17, .ref mxq18, .ref mxq19, .ref mxq20, .ref mxq21, .ref mxq22, .ref mxq23, .ref mxq24, .ref mxq25, .ref mxq26, .long 0, .int 0, .int 0, .int 0, .int 0, .int 0, .ref mxq27, .ref mxq28, .ref mxq29, .ref mxq30, .ref mxq31, .ref mxq32, .ref mxq33, .long 0])), (o, .inl (co, 1, .inr (.inl xf6)))] [(co, .long)] s H _ := I
      refine W.widen (k := 1001) (n := 8006) (Nat.le_of_ble_eq_true rfl) (Nat.le_of_ble_eq_true rfl) ?_
      obtain rfl : r5 = 1 := hp5.1
      refine lv_istore (lv' := [(6, .int 1), (0, .ref b), (1, .ref h0), (2, .ref mh0), (3, .ref o), (4, .ref od), (5, .int 0)]) hx hb dL_law_2048 hl (by decide) rfl (fun ls hl => ?_)
      refine lv_aload_n hx hb dL_law_2050 rfl (lv_at hl 3 rfl) ?_
      refine lv_aload_n hx hb dL_law_2051 rfl (lv_at hl 1 rfl) ?_
      refine lv_iload hx hb dL_law_2052 (lv_at hl 6 rfl) ?_
      refine lv_iconst (v := 1) hx hb dL_law_2054 (by decide) ?_
      refine lv_iadd hx hb dL_law_2055 ?_
      refine lv_topi (fun w7 ew7 => ?_)
      obtain rfl : w7 = 1 := ew7.trans (by decide)
      refine va_sld hx hb hX hbl hbA I.2.2.2.1 (by unfold vp_in; decide) dL_law_2056 ?_
      refine lv_aload_n hx hb dL_law_2057 rfl (lv_at hl 1 rfl) ?_
      refine lv_iload hx hb dL_law_2058 (lv_at hl 6 rfl) ?_
      refine lv_iconst (v := 2) hx hb dL_law_2060 (by decide) ?_
      refine lv_iadd hx hb dL_law_2061 ?_
      refine lv_topi (fun w8 ew8 => ?_)
      obtain rfl : w8 = 2 := ew8.trans (by decide)
      refine va_sld hx hb hX hbl hbA I.2.2.2.1 (by unfold vp_in; decide) dL_law_2062 ?_
      refine z_merge (M := 2071) (ls := ls) (P := fun _ => True) (rest := [.int (xs (Int32.toNatClampNeg 1)), .ref mh0]) (fun v10 hv10 => ?_) (fun J9 => ?_)
      · skip
        refine z_calli (wr := [(o, .inl (co, 1, .inr (.inl xf6)))]) (va_runV (As := [.int (xs (Int32.toNatClampNeg 1)), .int v10]) (rest := []) ⟨hx, hb, hml, hown, hts⟩ (z_M_gain l dC dI mxq1 mxq2 mxq3 mxq4 mxq5 mxq6 mxq7 mxq8 mxq9 mxq10 mxq11 mxq12 mxq13 mxq14 mxq15 mxq16 mxq17 mxq18 mxq19 mxq20 mxq21 mxq22 mxq23 mxq24 mxq25 mxq26 mxq27 mxq28 mxq29 mxq30 mxq31 mxq32 mxq33 mh0 (xs (Int32.toNatClampNeg 1)) v10  H.size) (cwV 2 hts (z_gV z_T.l mw1717 mw1718 mw1719 mw10 mw1720) rfl rfl rfl (by decide +kernel) ⟨Nat.le_of_ble_eq_true rfl, Nat.le_of_ble_eq_true rfl⟩) (z_preV I [0] [] rfl rfl rfl rfl (ci := 9) (q0 := 0) rfl rfl) rfl rfl hl.1 rfl (lv_room (Nat.le_of_ble_eq_true rfl)) dL_law_2071 ⟨Nat.le_of_ble_eq_true rfl, Nat.le_of_ble_eq_true rfl⟩) I [0] [1] rfl rfl (by decide) (by decide) (fun r11 u11 H locs hw11 I => ?_)
        obtain ⟨hu11, hp11⟩ := hw11
        subst hu11
        have I : z_I A dC dI [(o, .inl (co, 1, .inr (.inl xf6))), (mh0, .inr (9, [.int 1, .ref mxq1, .ref mxq2, .ref mxq3, .ref mxq4, .ref mxq5, .ref mxq6, .ref mxq7, .ref mxq8, .ref mxq9, .int 0, .int 0, .ref mxq10, .ref mxq11, .ref mxq12, .ref mxq13, .ref mxq14, .ref mxq15, .ref mxq16, .ref mxq17, .ref mxq18, .ref mxq19, .ref mxq20, .ref mxq21, .ref mxq22, .ref mxq23, .ref mxq24, .ref mxq25, .ref mxq26, .long 0, .int 0, .int 0, .int 0, .int 0, .int 0, .ref mxq27, .ref mxq28, .ref mxq29, .ref mxq30, .ref mxq31, .ref mxq32, .ref mxq33, .long 0]))] [(co, .long)] s H _ := I
        obtain rfl : r11 = 0 := hp11
        refine lv_istore (lv' := [(7, .int 0), (6, .int 1), (0, .ref b), (1, .ref h0), (2, .ref mh0), (3, .ref o), (4, .ref od), (5, .int 0)]) hx hb dL_law_2074 hl (by decide) rfl (fun ls hl => ?_)
        refine lv_aload_n hx hb dL_law_2076 rfl (lv_at hl 4 rfl) ?_
        refine z_calli (wr := [(o, .inl (co, 1, .inr (.inl xf6)))]) (va_runV (As := []) (rest := []) ⟨hx, hb, hml, hown, hts⟩ (z_M_thrown l dC dI 1 mxq1 mxq2 mxq3 mxq4 mxq5 mxq6 mxq7 mxq8 mxq9 0 0 mxq10 mxq11 mxq12 mxq13 mxq14 mxq15 mxq16 mxq17 mxq18 mxq19 mxq20 mxq21 mxq22 mxq23 mxq24 mxq25 mxq26 0 0 0 0 0 0 mxq27 mxq28 mxq29 mxq30 mxq31 mxq32 mxq33 0 mh0  H.size) (cwV 0 hts (z_gV z_T.l mw1391 mw1392 mw1393 mw10 mw1394) rfl rfl rfl (by decide +kernel) ⟨Nat.le_of_ble_eq_true rfl, Nat.le_of_ble_eq_true rfl⟩) (z_preV I [1] [] rfl rfl rfl rfl (ci := 9) (q0 := 1) rfl rfl) rfl rfl hl.1 rfl (lv_room (Nat.le_of_ble_eq_true rfl)) dL_law_2077 ⟨Nat.le_of_ble_eq_true rfl, Nat.le_of_ble_eq_true rfl⟩) I [1] [0] rfl rfl (by decide) (by decide) (fun r12 u12 H locs hw12 I => ?_)
        obtain ⟨hu12, hp12⟩ := hw12
        subst hu12
        have I : z_I A dC dI [(o, .inl (co, 1, .inr (.inl xf6))), (mh0, .inr (9, [.int 1, .ref mxq1, .ref mxq2, .ref mxq3, .ref mxq4, .ref mxq5, .ref mxq6, .ref mxq7, .ref mxq8, .ref mxq9, .int 0, .int 0, .ref mxq10, .ref mxq11, .ref mxq12, .ref mxq13, .ref mxq14, .ref mxq15, .ref mxq16, .ref mxq17, .ref mxq18, .ref mxq19, .ref mxq20, .ref mxq21, .ref mxq22, .ref mxq23, .ref mxq24, .ref mxq25, .ref mxq26, .long 0, .int 0, .int 0, .int 0, .int 0, .int 0, .ref mxq27, .ref mxq28, .ref mxq29, .ref mxq30, .ref mxq31, .ref mxq32, .ref mxq33, .long 0]))] [(co, .long)] s H _ := I
        obtain rfl : 1 = r12 := hp12.symm
        refine lv_iload hx hb dL_law_2080 (lv_at hl 1 rfl) ?_
        refine lv_icmp_eq (tgt := 2087) hx hb dL_law_2082 (by decide) (fun _ => ?_) (fun c9 => absurd c9 (by decide))
        refine lv_iload hx hb dL_law_2087 (lv_at hl 1 rfl) ?_
        refine lv_if_ne (tgt := 2104) hx hb dL_law_2089 (by decide) (fun _ => ?_) (fun c9 => absurd c9 (by decide))
        refine lv_goto (tgt := 2238) hx hb dL_law_2104 (by decide) ?_
        refine W.widen (k := 2000) (n := 9000) (Nat.le_of_ble_eq_true rfl) (Nat.le_of_ble_eq_true rfl) ?_
        exact K _ _ _ I.2.2.2.1 (lv_sub hl [2, 7] rfl)
      · skip
        refine lv_if_eq (tgt := 2070) hx hb dL_law_2063 (by decide) (fun c13 => ?_) (fun c13 => ?_)
        · skip
          refine lv_iconst (v := 0) hx hb dL_law_2070 (by decide) ?_
          exact J9 0 trivial
        · skip
          refine lv_iconst (v := 1) hx hb dL_law_2066 (by decide) ?_
          refine lv_goto (tgt := 2071) hx hb dL_law_2067 (by decide) ?_
          exact J9 1 trivial
  · skip
    refine lv_if_eq (tgt := 2043) hx hb dL_law_2036 (by decide) (fun c14 => ?_) (fun c14 => ?_)
    · skip
      refine lv_iconst (v := 0) hx hb dL_law_2043 (by decide) ?_
      exact J3 0 trivial
    · skip
      refine lv_iconst (v := 1) hx hb dL_law_2039 (by decide) ?_
      refine lv_goto (tgt := 2044) hx hb dL_law_2040 (by decide) ?_
      exact J3 1 trivial
set_option maxHeartbeats 4000000 in
set_option maxRecDepth 100000 in
theorem z_case_32 (l : Launch) (hst : l.stackTraces = false) (dC : Nat → ClassId) (dI : Nat → Nat → Nat) (xq1 : Nat) (xq2 : Nat) (xq3 : Nat) (xq4 : Nat) (xq5 : Nat) (xq6 : Nat) (xq7 : Nat) (xq8 : Nat) (h0 : Nat) (mxq1 : Nat) (mxq2 : Nat) (mxq3 : Nat) (mxq4 : Nat) (mxq5 : Nat) (mxq6 : Nat) (mxq7 : Nat) (mxq8 : Nat) (mxq9 : Nat) (mxq10 : Nat) (mxq11 : Nat) (mxq12 : Nat) (mxq13 : Nat) (mxq14 : Nat) (mxq15 : Nat) (mxq16 : Nat) (mxq17 : Nat) (mxq18 : Nat) (mxq19 : Nat) (mxq20 : Nat) (mxq21 : Nat) (mxq22 : Nat) (mxq23 : Nat) (mxq24 : Nat) (mxq25 : Nat) (mxq26 : Nat) (mxq27 : Nat) (mxq28 : Nat) (mxq29 : Nat) (mxq30 : Nat) (mxq31 : Nat) (mxq32 : Nat) (mxq33 : Nat) (mh0 : Nat) (o : Nat) (od : Nat) (cod : ClassId) (fod : Nat → UInt64) {p : Program} {e : Env} {s : State} {m : MethodId} {below : List Frame} {meth : Method} {c : Code} {b : Nat} {xs : Nat → Int32} {A : Nat → Prop} {Q : State → Prop} (hx : p.tables.exec = Jvm.exec) (hb : c.code = cL_law) (hml : c.maxLocals = 9) (hown : s.vm.findClass RL = some m.cls) (hts : ∀ w ∈ lw_tbl, w.before #[Value.ref b] s = true) (hX : va_X b 7 xs s s.heap) (hbl : b < s.heap.size) (hbA : ¬ A b) (K : z_LK p l e s m below meth c b A Q) {H : Heap} {locs : List Loc} {ls : Array Slot} (I : z_I A dC dI [(h0, .inr (8, [.ref xq1, .ref xq2])), (xq1, .inr (7, [.ref xq2, .ref xq3, .ref xq4, .ref xq5, .ref xq6, .ref xq7, .ref xq8, .int 0, .int 0, .int 0, .int 0, .int 0])), (mh0, .inr (9, [.int 0, .ref mxq1, .ref mxq2, .ref mxq3, .ref mxq4, .ref mxq5, .ref mxq6, .ref mxq7, .ref mxq8, .ref mxq9, .int 0, .int 0, .ref mxq10, .ref mxq11, .ref mxq12, .ref mxq13, .ref mxq14, .ref mxq15, .ref mxq16, .ref mxq17, .ref mxq18, .ref mxq19, .ref mxq20, .ref mxq21, .ref mxq22, .ref mxq23, .ref mxq24, .ref mxq25, .ref mxq26, .long 0, .int 0, .int 0, .int 0, .int 0, .int 0, .ref mxq27, .ref mxq28, .ref mxq29, .ref mxq30, .ref mxq31, .ref mxq32, .ref mxq33, .long 0])), (od, .inl (cod, 1, .inr (.inr (.inr (.inl fod)))))] [(cod, .double)] s H locs) (hl : lv_has ls 9 [(0, .ref b), (1, .ref h0), (2, .ref mh0), (3, .ref o), (4, .ref od), (5, .int 0)]) : W p l e room_1 s m #[Value.ref b] below meth c H locs 1000 8000 Q (F0 m 2107 ls []) := by
  have hg : z_G #[Value.ref b] s := fun w hw _ => hts w hw
  refine lv_aload_n hx hb dL_law_2107 rfl (lv_at hl 1 rfl) ?_
  refine lv_aload hx hb dL_law_2108 (lv_at hl 4 rfl) ?_
  refine z_xcalli (wr := [(mh0, .inr (9, [.int 0, .ref mxq1, .ref mxq2, .ref mxq3, .ref mxq4, .ref mxq5, .ref mxq6, .ref mxq7, .ref mxq8, .ref mxq9, .int 0, .int 0, .ref mxq10, .ref mxq11, .ref mxq12, .ref mxq13, .ref mxq14, .ref mxq15, .ref mxq16, .ref mxq17, .ref mxq18, .ref mxq19, .ref mxq20, .ref mxq21, .ref mxq22, .ref mxq23, .ref mxq24, .ref mxq25, .ref mxq26, .long 0, .int 0, .int 0, .int 0, .int 0, .int 0, .ref mxq27, .ref mxq28, .ref mxq29, .ref mxq30, .ref mxq31, .ref mxq32, .ref mxq33, .long 0]))]) (vx_runSX (As := [.ref h0, .ref od]) (rest := []) ⟨hx, hb, hml, hown, hts⟩ (z_L_gap l hst dC dI xq1 xq2 xq3 xq4 xq5 xq6 xq7 xq8 h0 od cod fod  H.size) (vx_cwSW 2 hts (z_gSh z_T.l mw1209 mw1210 mw0 mw1211) rfl rfl rfl (by decide +kernel) ⟨Nat.le_of_ble_eq_true rfl, Nat.le_of_ble_eq_true rfl⟩) (z_pre I [0, 1, 3] [0] rfl rfl rfl rfl) rfl rfl hl.1 rfl (lv_room (Nat.le_of_ble_eq_true rfl)) dL_law_2110 ⟨Nat.le_of_ble_eq_true rfl, Nat.le_of_ble_eq_true rfl⟩) I [0, 1, 3] [2] rfl rfl (by decide) (by decide) (fun E1 ce1 q1 H locs hE1 I hcell hcv hcl => ?_) (fun r1 u1 H locs hw1 I => ?_)
  · skip
    have I : z_I A dC dI [(mh0, .inr (9, [.int 0, .ref mxq1, .ref mxq2, .ref mxq3, .ref mxq4, .ref mxq5, .ref mxq6, .ref mxq7, .ref mxq8, .ref mxq9, .int 0, .int 0, .ref mxq10, .ref mxq11, .ref mxq12, .ref mxq13, .ref mxq14, .ref mxq15, .ref mxq16, .ref mxq17, .ref mxq18, .ref mxq19, .ref mxq20, .ref mxq21, .ref mxq22, .ref mxq23, .ref mxq24, .ref mxq25, .ref mxq26, .long 0, .int 0, .int 0, .int 0, .int 0, .int 0, .ref mxq27, .ref mxq28, .ref mxq29, .ref mxq30, .ref mxq31, .ref mxq32, .ref mxq33, .long 0]))] [(cod, .double)] s H _ := I
    exact False.elim hE1
  · skip
    obtain ⟨xf2, hu1, hp1⟩ := hw1
    subst hu1
    have I : z_I A dC dI [(mh0, .inr (9, [.int 0, .ref mxq1, .ref mxq2, .ref mxq3, .ref mxq4, .ref mxq5, .ref mxq6, .ref mxq7, .ref mxq8, .ref mxq9, .int 0, .int 0, .ref mxq10, .ref mxq11, .ref mxq12, .ref mxq13, .ref mxq14, .ref mxq15, .ref mxq16, .ref mxq17, .ref mxq18, .ref mxq19, .ref mxq20, .ref mxq21, .ref mxq22, .ref mxq23, .ref mxq24, .ref mxq25, .ref mxq26, .long 0, .int 0, .int 0, .int 0, .int 0, .int 0, .ref mxq27, .ref mxq28, .ref mxq29, .ref mxq30, .ref mxq31, .ref mxq32, .ref mxq33, .long 0])), (od, .inl (cod, 1, .inr (.inr (.inr (.inl xf2)))))] [(cod, .double)] s H _ := I
    refine W.widen (k := 1001) (n := 8006) (Nat.le_of_ble_eq_true rfl) (Nat.le_of_ble_eq_true rfl) ?_
    obtain rfl : r1 = 1 := hp1.1
    refine lv_istore (lv' := [(6, .int 1), (0, .ref b), (1, .ref h0), (2, .ref mh0), (3, .ref o), (4, .ref od), (5, .int 0)]) hx hb dL_law_2113 hl (by decide) rfl (fun ls hl => ?_)
    refine lv_aload_n hx hb dL_law_2115 rfl (lv_at hl 3 rfl) ?_
    refine z_callf (wr := [(od, .inl (cod, 1, .inr (.inr (.inr (.inl xf2)))))]) (va_runV (As := []) (rest := []) ⟨hx, hb, hml, hown, hts⟩ (z_M_gap l dC dI mxq1 mxq2 mxq3 mxq4 mxq5 mxq6 mxq7 mxq8 mxq9 mxq10 mxq11 mxq12 mxq13 mxq14 mxq15 mxq16 mxq17 mxq18 mxq19 mxq20 mxq21 mxq22 mxq23 mxq24 mxq25 mxq26 mxq27 mxq28 mxq29 mxq30 mxq31 mxq32 mxq33 mh0  H.size) (cwV 0 hts (z_gV z_T.l mw1721 mw1722 mw1723 mw10 mw1724) rfl rfl rfl (by decide +kernel) ⟨Nat.le_of_ble_eq_true rfl, Nat.le_of_ble_eq_true rfl⟩) (z_preV I [0] [] rfl rfl rfl rfl (ci := 9) (q0 := 0) rfl rfl) rfl rfl hl.1 rfl (lv_room (Nat.le_of_ble_eq_true rfl)) dL_law_2116 ⟨Nat.le_of_ble_eq_true rfl, Nat.le_of_ble_eq_true rfl⟩) I [0] [1] rfl rfl (by decide) (by decide) (fun r3 u3 H locs hw3 I => ?_)
    obtain ⟨hu3, hp3⟩ := hw3
    subst hu3
    have I : z_I A dC dI [(od, .inl (cod, 1, .inr (.inr (.inr (.inl xf2))))), (mh0, .inr (9, [.int 1, .ref mxq1, .ref mxq2, .ref mxq3, .ref mxq4, .ref mxq5, .ref mxq6, .ref mxq7, .ref mxq8, .ref mxq9, .int 0, .int 0, .ref mxq10, .ref mxq11, .ref mxq12, .ref mxq13, .ref mxq14, .ref mxq15, .ref mxq16, .ref mxq17, .ref mxq18, .ref mxq19, .ref mxq20, .ref mxq21, .ref mxq22, .ref mxq23, .ref mxq24, .ref mxq25, .ref mxq26, .long 0, .int 0, .int 0, .int 0, .int 0, .int 0, .ref mxq27, .ref mxq28, .ref mxq29, .ref mxq30, .ref mxq31, .ref mxq32, .ref mxq33, .long 0]))] [(cod, .double)] s H _ := I
    refine lv_fstore (lv' := [(7, .float r3), (6, .int 1), (0, .ref b), (1, .ref h0), (2, .ref mh0), (3, .ref o), (4, .ref od), (5, .int 0)]) hx hb dL_law_2119 hl (by decide) rfl (fun ls hl => ?_)
    refine lv_aload_n hx hb dL_law_2121 rfl (lv_at hl 4 rfl) ?_
    refine z_calli (wr := [(od, .inl (cod, 1, .inr (.inr (.inr (.inl xf2)))))]) (va_runV (As := []) (rest := []) ⟨hx, hb, hml, hown, hts⟩ (z_M_thrown l dC dI 1 mxq1 mxq2 mxq3 mxq4 mxq5 mxq6 mxq7 mxq8 mxq9 0 0 mxq10 mxq11 mxq12 mxq13 mxq14 mxq15 mxq16 mxq17 mxq18 mxq19 mxq20 mxq21 mxq22 mxq23 mxq24 mxq25 mxq26 0 0 0 0 0 0 mxq27 mxq28 mxq29 mxq30 mxq31 mxq32 mxq33 0 mh0  H.size) (cwV 0 hts (z_gV z_T.l mw1391 mw1392 mw1393 mw10 mw1394) rfl rfl rfl (by decide +kernel) ⟨Nat.le_of_ble_eq_true rfl, Nat.le_of_ble_eq_true rfl⟩) (z_preV I [1] [] rfl rfl rfl rfl (ci := 9) (q0 := 1) rfl rfl) rfl rfl hl.1 rfl (lv_room (Nat.le_of_ble_eq_true rfl)) dL_law_2122 ⟨Nat.le_of_ble_eq_true rfl, Nat.le_of_ble_eq_true rfl⟩) I [1] [0] rfl rfl (by decide) (by decide) (fun r4 u4 H locs hw4 I => ?_)
    obtain ⟨hu4, hp4⟩ := hw4
    subst hu4
    have I : z_I A dC dI [(od, .inl (cod, 1, .inr (.inr (.inr (.inl xf2))))), (mh0, .inr (9, [.int 1, .ref mxq1, .ref mxq2, .ref mxq3, .ref mxq4, .ref mxq5, .ref mxq6, .ref mxq7, .ref mxq8, .ref mxq9, .int 0, .int 0, .ref mxq10, .ref mxq11, .ref mxq12, .ref mxq13, .ref mxq14, .ref mxq15, .ref mxq16, .ref mxq17, .ref mxq18, .ref mxq19, .ref mxq20, .ref mxq21, .ref mxq22, .ref mxq23, .ref mxq24, .ref mxq25, .ref mxq26, .long 0, .int 0, .int 0, .int 0, .int 0, .int 0, .ref mxq27, .ref mxq28, .ref mxq29, .ref mxq30, .ref mxq31, .ref mxq32, .ref mxq33, .long 0]))] [(cod, .double)] s H _ := I
    obtain rfl : 1 = r4 := hp4.symm
    refine lv_iload hx hb dL_law_2125 (lv_at hl 1 rfl) ?_
    refine lv_icmp_eq (tgt := 2132) hx hb dL_law_2127 (by decide) (fun _ => ?_) (fun c9 => absurd c9 (by decide))
    refine lv_iload hx hb dL_law_2132 (lv_at hl 1 rfl) ?_
    refine lv_if_ne (tgt := 2170) hx hb dL_law_2134 (by decide) (fun _ => ?_) (fun c9 => absurd c9 (by decide))
    refine lv_goto (tgt := 2238) hx hb dL_law_2170 (by decide) ?_
    refine W.widen (k := 2000) (n := 9000) (Nat.le_of_ble_eq_true rfl) (Nat.le_of_ble_eq_true rfl) ?_
    exact K _ _ _ I.2.2.2.1 (lv_sub hl [2, 7] rfl)
set_option maxHeartbeats 4000000 in
set_option maxRecDepth 100000 in
theorem z_case_33 (l : Launch) (hst : l.stackTraces = false) (dC : Nat → ClassId) (dI : Nat → Nat → Nat) (xq1 : Nat) (xq2 : Nat) (xq3 : Nat) (xq4 : Nat) (xq5 : Nat) (xq6 : Nat) (xq7 : Nat) (xq8 : Nat) (h0 : Nat) (mxq1 : Nat) (mxq2 : Nat) (mxq3 : Nat) (mxq4 : Nat) (mxq5 : Nat) (mxq6 : Nat) (mxq7 : Nat) (mxq8 : Nat) (mxq9 : Nat) (mxq10 : Nat) (mxq11 : Nat) (mxq12 : Nat) (mxq13 : Nat) (mxq14 : Nat) (mxq15 : Nat) (mxq16 : Nat) (mxq17 : Nat) (mxq18 : Nat) (mxq19 : Nat) (mxq20 : Nat) (mxq21 : Nat) (mxq22 : Nat) (mxq23 : Nat) (mxq24 : Nat) (mxq25 : Nat) (mxq26 : Nat) (mxq27 : Nat) (mxq28 : Nat) (mxq29 : Nat) (mxq30 : Nat) (mxq31 : Nat) (mxq32 : Nat) (mxq33 : Nat) (mh0 : Nat) (o : Nat) (od : Nat) (cod : ClassId) (fod : Nat → UInt64) {p : Program} {e : Env} {s : State} {m : MethodId} {below : List Frame} {meth : Method} {c : Code} {b : Nat} {xs : Nat → Int32} {A : Nat → Prop} {Q : State → Prop} (hx : p.tables.exec = Jvm.exec) (hb : c.code = cL_law) (hml : c.maxLocals = 9) (hown : s.vm.findClass RL = some m.cls) (hts : ∀ w ∈ lw_tbl, w.before #[Value.ref b] s = true) (hX : va_X b 7 xs s s.heap) (hbl : b < s.heap.size) (hbA : ¬ A b) (K : z_LK p l e s m below meth c b A Q) {H : Heap} {locs : List Loc} {ls : Array Slot} (I : z_I A dC dI [(h0, .inr (8, [.ref xq1, .ref xq2])), (xq1, .inr (7, [.ref xq2, .ref xq3, .ref xq4, .ref xq5, .ref xq6, .ref xq7, .ref xq8, .int 0, .int 0, .int 0, .int 0, .int 0])), (mh0, .inr (9, [.int 0, .ref mxq1, .ref mxq2, .ref mxq3, .ref mxq4, .ref mxq5, .ref mxq6, .ref mxq7, .ref mxq8, .ref mxq9, .int 0, .int 0, .ref mxq10, .ref mxq11, .ref mxq12, .ref mxq13, .ref mxq14, .ref mxq15, .ref mxq16, .ref mxq17, .ref mxq18, .ref mxq19, .ref mxq20, .ref mxq21, .ref mxq22, .ref mxq23, .ref mxq24, .ref mxq25, .ref mxq26, .long 0, .int 0, .int 0, .int 0, .int 0, .int 0, .ref mxq27, .ref mxq28, .ref mxq29, .ref mxq30, .ref mxq31, .ref mxq32, .ref mxq33, .long 0])), (od, .inl (cod, 1, .inr (.inr (.inr (.inl fod)))))] [(cod, .double)] s H locs) (hl : lv_has ls 9 [(0, .ref b), (1, .ref h0), (2, .ref mh0), (3, .ref o), (4, .ref od), (5, .int 0)]) : W p l e room_1 s m #[Value.ref b] below meth c H locs 1000 8000 Q (F0 m 2173 ls []) := by
  have hg : z_G #[Value.ref b] s := fun w hw _ => hts w hw
  refine lv_aload_n hx hb dL_law_2173 rfl (lv_at hl 1 rfl) ?_
  refine lv_aload hx hb dL_law_2174 (lv_at hl 4 rfl) ?_
  refine z_xcalli (wr := [(mh0, .inr (9, [.int 0, .ref mxq1, .ref mxq2, .ref mxq3, .ref mxq4, .ref mxq5, .ref mxq6, .ref mxq7, .ref mxq8, .ref mxq9, .int 0, .int 0, .ref mxq10, .ref mxq11, .ref mxq12, .ref mxq13, .ref mxq14, .ref mxq15, .ref mxq16, .ref mxq17, .ref mxq18, .ref mxq19, .ref mxq20, .ref mxq21, .ref mxq22, .ref mxq23, .ref mxq24, .ref mxq25, .ref mxq26, .long 0, .int 0, .int 0, .int 0, .int 0, .int 0, .ref mxq27, .ref mxq28, .ref mxq29, .ref mxq30, .ref mxq31, .ref mxq32, .ref mxq33, .long 0]))]) (vx_runSX (As := [.ref h0, .ref od]) (rest := []) ⟨hx, hb, hml, hown, hts⟩ (z_L_meanDepth l hst dC dI xq1 xq2 xq3 xq4 xq5 xq6 xq7 xq8 h0 od cod fod  H.size) (vx_cwSW 2 hts (z_gSh z_T.l mw1237 mw1238 mw0 mw1239) rfl rfl rfl (by decide +kernel) ⟨Nat.le_of_ble_eq_true rfl, Nat.le_of_ble_eq_true rfl⟩) (z_pre I [0, 1, 3] [0] rfl rfl rfl rfl) rfl rfl hl.1 rfl (lv_room (Nat.le_of_ble_eq_true rfl)) dL_law_2176 ⟨Nat.le_of_ble_eq_true rfl, Nat.le_of_ble_eq_true rfl⟩) I [0, 1, 3] [2] rfl rfl (by decide) (by decide) (fun E1 ce1 q1 H locs hE1 I hcell hcv hcl => ?_) (fun r1 u1 H locs hw1 I => ?_)
  · skip
    have I : z_I A dC dI [(mh0, .inr (9, [.int 0, .ref mxq1, .ref mxq2, .ref mxq3, .ref mxq4, .ref mxq5, .ref mxq6, .ref mxq7, .ref mxq8, .ref mxq9, .int 0, .int 0, .ref mxq10, .ref mxq11, .ref mxq12, .ref mxq13, .ref mxq14, .ref mxq15, .ref mxq16, .ref mxq17, .ref mxq18, .ref mxq19, .ref mxq20, .ref mxq21, .ref mxq22, .ref mxq23, .ref mxq24, .ref mxq25, .ref mxq26, .long 0, .int 0, .int 0, .int 0, .int 0, .int 0, .ref mxq27, .ref mxq28, .ref mxq29, .ref mxq30, .ref mxq31, .ref mxq32, .ref mxq33, .long 0]))] [(cod, .double)] s H _ := I
    exact False.elim hE1
  · skip
    obtain ⟨xf2, hu1, hp1⟩ := hw1
    subst hu1
    have I : z_I A dC dI [(mh0, .inr (9, [.int 0, .ref mxq1, .ref mxq2, .ref mxq3, .ref mxq4, .ref mxq5, .ref mxq6, .ref mxq7, .ref mxq8, .ref mxq9, .int 0, .int 0, .ref mxq10, .ref mxq11, .ref mxq12, .ref mxq13, .ref mxq14, .ref mxq15, .ref mxq16, .ref mxq17, .ref mxq18, .ref mxq19, .ref mxq20, .ref mxq21, .ref mxq22, .ref mxq23, .ref mxq24, .ref mxq25, .ref mxq26, .long 0, .int 0, .int 0, .int 0, .int 0, .int 0, .ref mxq27, .ref mxq28, .ref mxq29, .ref mxq30, .ref mxq31, .ref mxq32, .ref mxq33, .long 0])), (od, .inl (cod, 1, .inr (.inr (.inr (.inl xf2)))))] [(cod, .double)] s H _ := I
    refine W.widen (k := 1001) (n := 8006) (Nat.le_of_ble_eq_true rfl) (Nat.le_of_ble_eq_true rfl) ?_
    obtain rfl : r1 = 1 := hp1.1
    refine lv_istore (lv' := [(6, .int 1), (0, .ref b), (1, .ref h0), (2, .ref mh0), (3, .ref o), (4, .ref od), (5, .int 0)]) hx hb dL_law_2179 hl (by decide) rfl (fun ls hl => ?_)
    refine lv_aload_n hx hb dL_law_2181 rfl (lv_at hl 3 rfl) ?_
    refine z_calld (wr := [(od, .inl (cod, 1, .inr (.inr (.inr (.inl xf2)))))]) (va_runV (As := []) (rest := []) ⟨hx, hb, hml, hown, hts⟩ (z_M_meanDepth l dC dI mxq1 mxq2 mxq3 mxq4 mxq5 mxq6 mxq7 mxq8 mxq9 mxq10 mxq11 mxq12 mxq13 mxq14 mxq15 mxq16 mxq17 mxq18 mxq19 mxq20 mxq21 mxq22 mxq23 mxq24 mxq25 mxq26 mxq27 mxq28 mxq29 mxq30 mxq31 mxq32 mxq33 mh0  H.size) (cwV 0 hts (z_gV z_T.l mw1745 mw1746 mw1747 mw10 mw1748) rfl rfl rfl (by decide +kernel) ⟨Nat.le_of_ble_eq_true rfl, Nat.le_of_ble_eq_true rfl⟩) (z_preV I [0] [] rfl rfl rfl rfl (ci := 9) (q0 := 0) rfl rfl) rfl rfl hl.1 rfl (lv_room (Nat.le_of_ble_eq_true rfl)) dL_law_2182 ⟨Nat.le_of_ble_eq_true rfl, Nat.le_of_ble_eq_true rfl⟩) I [0] [1] rfl rfl (by decide) (by decide) (fun r3 u3 H locs hw3 I => ?_)
    obtain ⟨hu3, hp3⟩ := hw3
    subst hu3
    have I : z_I A dC dI [(od, .inl (cod, 1, .inr (.inr (.inr (.inl xf2))))), (mh0, .inr (9, [.int 1, .ref mxq1, .ref mxq2, .ref mxq3, .ref mxq4, .ref mxq5, .ref mxq6, .ref mxq7, .ref mxq8, .ref mxq9, .int 0, .int 0, .ref mxq10, .ref mxq11, .ref mxq12, .ref mxq13, .ref mxq14, .ref mxq15, .ref mxq16, .ref mxq17, .ref mxq18, .ref mxq19, .ref mxq20, .ref mxq21, .ref mxq22, .ref mxq23, .ref mxq24, .ref mxq25, .ref mxq26, .long 0, .int 0, .int 0, .int 0, .int 0, .int 0, .ref mxq27, .ref mxq28, .ref mxq29, .ref mxq30, .ref mxq31, .ref mxq32, .ref mxq33, .long 0]))] [(cod, .double)] s H _ := I
    refine lv_dstore (lv' := [(7, .double r3), (6, .int 1), (0, .ref b), (1, .ref h0), (2, .ref mh0), (3, .ref o), (4, .ref od), (5, .int 0)]) hx hb dL_law_2185 hl (by decide) rfl (fun ls hl => ?_)
    refine lv_aload_n hx hb dL_law_2187 rfl (lv_at hl 4 rfl) ?_
    refine z_calli (wr := [(od, .inl (cod, 1, .inr (.inr (.inr (.inl xf2)))))]) (va_runV (As := []) (rest := []) ⟨hx, hb, hml, hown, hts⟩ (z_M_thrown l dC dI 1 mxq1 mxq2 mxq3 mxq4 mxq5 mxq6 mxq7 mxq8 mxq9 0 0 mxq10 mxq11 mxq12 mxq13 mxq14 mxq15 mxq16 mxq17 mxq18 mxq19 mxq20 mxq21 mxq22 mxq23 mxq24 mxq25 mxq26 0 0 0 0 0 0 mxq27 mxq28 mxq29 mxq30 mxq31 mxq32 mxq33 0 mh0  H.size) (cwV 0 hts (z_gV z_T.l mw1391 mw1392 mw1393 mw10 mw1394) rfl rfl rfl (by decide +kernel) ⟨Nat.le_of_ble_eq_true rfl, Nat.le_of_ble_eq_true rfl⟩) (z_preV I [1] [] rfl rfl rfl rfl (ci := 9) (q0 := 1) rfl rfl) rfl rfl hl.1 rfl (lv_room (Nat.le_of_ble_eq_true rfl)) dL_law_2188 ⟨Nat.le_of_ble_eq_true rfl, Nat.le_of_ble_eq_true rfl⟩) I [1] [0] rfl rfl (by decide) (by decide) (fun r4 u4 H locs hw4 I => ?_)
    obtain ⟨hu4, hp4⟩ := hw4
    subst hu4
    have I : z_I A dC dI [(od, .inl (cod, 1, .inr (.inr (.inr (.inl xf2))))), (mh0, .inr (9, [.int 1, .ref mxq1, .ref mxq2, .ref mxq3, .ref mxq4, .ref mxq5, .ref mxq6, .ref mxq7, .ref mxq8, .ref mxq9, .int 0, .int 0, .ref mxq10, .ref mxq11, .ref mxq12, .ref mxq13, .ref mxq14, .ref mxq15, .ref mxq16, .ref mxq17, .ref mxq18, .ref mxq19, .ref mxq20, .ref mxq21, .ref mxq22, .ref mxq23, .ref mxq24, .ref mxq25, .ref mxq26, .long 0, .int 0, .int 0, .int 0, .int 0, .int 0, .ref mxq27, .ref mxq28, .ref mxq29, .ref mxq30, .ref mxq31, .ref mxq32, .ref mxq33, .long 0]))] [(cod, .double)] s H _ := I
    obtain rfl : 1 = r4 := hp4.symm
    refine lv_iload hx hb dL_law_2191 (lv_at hl 1 rfl) ?_
    refine lv_icmp_eq (tgt := 2198) hx hb dL_law_2193 (by decide) (fun _ => ?_) (fun c9 => absurd c9 (by decide))
    refine lv_iload hx hb dL_law_2198 (lv_at hl 1 rfl) ?_
    refine lv_if_ne (tgt := 2235) hx hb dL_law_2200 (by decide) (fun _ => ?_) (fun c9 => absurd c9 (by decide))
    refine lv_goto (tgt := 2238) hx hb dL_law_2235 (by decide) ?_
    refine W.widen (k := 2000) (n := 9000) (Nat.le_of_ble_eq_true rfl) (Nat.le_of_ble_eq_true rfl) ?_
    exact K _ _ _ I.2.2.2.1 (lv_sub hl [2, 7] rfl)
