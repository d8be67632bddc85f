/-! the law's helpers -/
set_option maxHeartbeats 4000000 in
set_option maxRecDepth 100000 in
theorem z_L_addColumn (l : Launch) (hst : l.stackTraces = false) (dC : Nat → ClassId) (dI : Nat → Nat → Nat) (xq1 : Nat) (xq2 : Nat) (xq3 : Nat) (xq4 : Nat) (xq5 : Nat) (xq6 : Nat) (xq7 : Nat) (xq8 : Nat) (xq9 : Nat) (xq10 : Nat) (xq11 : Nat) (xq12 : Nat) (xq13 : Nat) (xq14 : Nat) (xq15 : Nat) (xq16 : Nat) (xq17 : Nat) (xq18 : Nat) (xq19 : Nat) (xc20 : ClassId) (xf21 : Nat → Int32) (xc22 : ClassId) (xc23 : ClassId) (xc24 : ClassId) (xc25 : ClassId) (xc26 : ClassId) (h0 : Nat) (o : Nat) (co : ClassId) (fo : Nat → Int64) (p0 : Int32) (p1 : Int32) (p2 : Int32) (p3 : Int32) (sz : Nat) : vx_Met l yL_addColumn (z_wh yL_addColumn cL_addColumn 7 (some .int) [(0, 14, 17, 13), (0, 14, 21, 15)]) ({ frames := 12, cells := 1, slots := 6, locals := 260 }) (z_P dC dI [(h0, .inr (8, [.ref xq1, .ref xq2])), (xq1, .inr (7, [.ref xq2, .ref xq3, .ref xq4, .ref xq5, .ref xq6, .ref xq7, .ref xq8, .int 0, .int 0, .int 0, .int 0, .int 0])), (xq2, .inr (5, [.ref xq9, .ref xq10, .ref xq11, .ref xq12, .ref xq13, .ref xq14, .ref xq15, .ref xq16, .ref xq17, .ref xq18, .ref xq19, .int 0, .int 0])), (xq9, .inl (xc20, 4, .inl xf21)), (xq10, .inl (xc22, 4, .inl xf21)), (xq11, .inl (xc23, 4, .inl xf21)), (xq12, .inl (xc24, 4, .inl xf21)), (xq13, .inl (xc25, 4, .inl xf21)), (xq14, .inl (xc26, 4, .inl xf21)), (o, .inl (co, 1, .inr (.inl fo)))] [(xc20, .int), (xc22, .int), (xc23, .int), (xc24, .boolean), (xc25, .int), (xc26, .int), (co, .long)] sz [.ref h0, .int p0, .int p1, .int p2, .int p3, .ref o]) (va_Qi (fun (r : Int32) (u : va_W × List (ClassId × FieldType)) => ∃ (xf1 : Nat → Int64), u = ([(o, .inl (co, 1, .inr (.inl xf1)))], []) ∧ r = z_cAC p0 p1 p2 ∧ (r = 0 → xf1 0 = 0)) (z_B dC dI (va_A [(h0, .inr (8, [.ref xq1, .ref xq2])), (xq1, .inr (7, [.ref xq2, .ref xq3, .ref xq4, .ref xq5, .ref xq6, .ref xq7, .ref xq8, .int 0, .int 0, .int 0, .int 0, .int 0])), (xq2, .inr (5, [.ref xq9, .ref xq10, .ref xq11, .ref xq12, .ref xq13, .ref xq14, .ref xq15, .ref xq16, .ref xq17, .ref xq18, .ref xq19, .int 0, .int 0])), (xq9, .inl (xc20, 4, .inl xf21)), (xq10, .inl (xc22, 4, .inl xf21)), (xq11, .inl (xc23, 4, .inl xf21)), (xq12, .inl (xc24, 4, .inl xf21)), (xq13, .inl (xc25, 4, .inl xf21)), (xq14, .inl (xc26, 4, .inl xf21)), (o, .inl (co, 1, .inr (.inl fo)))] sz)) (va_A [(h0, .inr (8, [.ref xq1, .ref xq2])), (xq1, .inr (7, [.ref xq2, .ref xq3, .ref xq4, .ref xq5, .ref xq6, .ref xq7, .ref xq8, .int 0, .int 0, .int 0, .int 0, .int 0])), (xq2, .inr (5, [.ref xq9, .ref xq10, .ref xq11, .ref xq12, .ref xq13, .ref xq14, .ref xq15, .ref xq16, .ref xq17, .ref xq18, .ref xq19, .int 0, .int 0])), (xq9, .inl (xc20, 4, .inl xf21)), (xq10, .inl (xc22, 4, .inl xf21)), (xq11, .inl (xc23, 4, .inl xf21)), (xq12, .inl (xc24, 4, .inl xf21)), (xq13, .inl (xc25, 4, .inl xf21)), (xq14, .inl (xc26, 4, .inl xf21)), (o, .inl (co, 1, .inr (.inl fo)))] sz)) (z_XC (fun _ : String => False) (va_A [(h0, .inr (8, [.ref xq1, .ref xq2])), (xq1, .inr (7, [.ref xq2, .ref xq3, .ref xq4, .ref xq5, .ref xq6, .ref xq7, .ref xq8, .int 0, .int 0, .int 0, .int 0, .int 0])), (xq2, .inr (5, [.ref xq9, .ref xq10, .ref xq11, .ref xq12, .ref xq13, .ref xq14, .ref xq15, .ref xq16, .ref xq17, .ref xq18, .ref xq19, .int 0, .int 0])), (xq9, .inl (xc20, 4, .inl xf21)), (xq10, .inl (xc22, 4, .inl xf21)), (xq11, .inl (xc23, 4, .inl xf21)), (xq12, .inl (xc24, 4, .inl xf21)), (xq13, .inl (xc25, 4, .inl xf21)), (xq14, .inl (xc26, 4, .inl xf21)), (o, .inl (co, 1, .inr (.inl fo)))] sz)) 1 6 (va_A [(h0, .inr (8, [.ref xq1, .ref xq2])), (xq1, .inr (7, [.ref xq2, .ref xq3, .ref xq4, .ref xq5, .ref xq6, .ref xq7, .ref xq8, .int 0, .int 0, .int 0, .int 0, .int 0])), (xq2, .inr (5, [.ref xq9, .ref xq10, .ref xq11, .ref xq12, .ref xq13, .ref xq14, .ref xq15, .ref xq16, .ref xq17, .ref xq18, .ref xq19, .int 0, .int 0])), (xq9, .inl (xc20, 4, .inl xf21)), (xq10, .inl (xc22, 4, .inl xf21)), (xq11, .inl (xc23, 4, .inl xf21)), (xq12, .inl (xc24, 4, .inl xf21)), (xq13, .inl (xc25, 4, .inl xf21)), (xq14, .inl (xc26, 4, .inl xf21)), (o, .inl (co, 1, .inr (.inl fo)))] sz) := by
  refine vx_ofWH (cc := cL_addColumn) (maxL := 7) (ret := (some .int)) (by decide) rfl ?_
  intro p e s m args below meth c s₁ B hml hv
  obtain ⟨rfl, rfl, I⟩ := z_open hv
  have hx := B.exec
  have hb := B.bytes
  have hr := B.returns
  have hts := atoms_spec (ws := z_wh yL_addColumn cL_addColumn 7 (some .int) [(0, 14, 17, 13), (0, 14, 21, 15)]) B.pre
  have hg : z_G _ s := z_G.of hts
  have hown : s.vm.findClass RL = some m.cls := findClass_of_methodNamed B.named
  have hlocks := B.notSynchronized
  have htab : c.exceptionTable.toList = tableOf [(0, 14, 17, 13), (0, 14, 21, 15)] := vx_table (x := yL_addColumn) B (hts _ List.mem_cons_self)
  generalize va_A [(h0, .inr (8, [.ref xq1, .ref xq2])), (xq1, .inr (7, [.ref xq2, .ref xq3, .ref xq4, .ref xq5, .ref xq6, .ref xq7, .ref xq8, .int 0, .int 0, .int 0, .int 0, .int 0])), (xq2, .inr (5, [.ref xq9, .ref xq10, .ref xq11, .ref xq12, .ref xq13, .ref xq14, .ref xq15, .ref xq16, .ref xq17, .ref xq18, .ref xq19, .int 0, .int 0])), (xq9, .inl (xc20, 4, .inl xf21)), (xq10, .inl (xc22, 4, .inl xf21)), (xq11, .inl (xc23, 4, .inl xf21)), (xq12, .inl (xc24, 4, .inl xf21)), (xq13, .inl (xc25, 4, .inl xf21)), (xq14, .inl (xc26, 4, .inl xf21)), (o, .inl (co, 1, .inr (.inl fo)))] s.heap.size = A at I ⊢
  have hl := lv_entry ([.ref h0, .int p0, .int p1, .int p2, .int p3, .ref o]) (n := 7) (Nat.le_of_ble_eq_true rfl)
  rw [lg_entry_eq]
  generalize (lg_sl ([.ref h0, .int p0, .int p1, .int p2, .int p3, .ref o]) ++ List.replicate (7 - (lg_sl ([.ref h0, .int p0, .int p1, .int p2, .int p3, .ref o])).length) Slot.unset).toArray = ls at hl ⊢
  have hl : lv_has ls 7 [(0, .ref h0), (1, .int p0), (2, .int p1), (3, .int p2), (4, .int p3), (5, .ref o)] := hl
  refine lv_aload hx hb dL_addColumn_0 (lv_at hl 5 rfl) ?_
  refine lv_iconst (v := 0) hx hb dL_addColumn_2 (by decide) ?_
  refine lv_aload_n hx hb dL_addColumn_3 rfl (lv_at hl 0 rfl) ?_
  refine lv_iload_n hx hb dL_addColumn_4 rfl (lv_at hl 1 rfl) ?_
  refine lv_iload_n hx hb dL_addColumn_5 rfl (lv_at hl 2 rfl) ?_
  refine lv_iload_n hx hb dL_addColumn_6 rfl (lv_at hl 3 rfl) ?_
  refine lv_iload hx hb dL_addColumn_7 (lv_at hl 4 rfl) ?_
  refine z_xcalli (wr := [(o, .inl (co, 1, .inr (.inl fo)))]) (vx_runV (As := [.int p0, .int p1, .int p2, .int p3]) (rest := [.int 0, .ref o]) ⟨hx, hb, hml, hown, hts⟩ (z_RX8_addColumn l hst dC dI xq1 xq2 xq3 xq4 xq5 xq6 xq7 xq8 xq9 xq10 xq11 xq12 xq13 xq14 xq15 xq16 xq17 xq18 xq19 xc20 xf21 xc22 xc23 xc24 xc25 xc26 h0 p0 p1 p2 p3  s.heap.size) (cwV 4 hts (z_gV z_T.wh mw385 mw386 mw387 mw1 mw388) rfl rfl rfl (by decide +kernel) ⟨Nat.le_of_ble_eq_true rfl, Nat.le_of_ble_eq_true rfl⟩) (z_preV I [0, 1, 2, 3, 4, 5, 6, 7, 8] [0, 1, 2, 3, 4, 5] rfl rfl rfl rfl (ci := 8) (q0 := 0) rfl rfl) rfl rfl hl.1 rfl (lv_room (Nat.le_of_ble_eq_true rfl)) dL_addColumn_9 ⟨Nat.le_of_ble_eq_true rfl, Nat.le_of_ble_eq_true rfl⟩) I [0, 1, 2, 3, 4, 5, 6, 7, 8] [9] rfl rfl (by decide) (by decide) (fun E1 ce1 q1 H locs hE1 I hcell hcv hcl => ?_) (fun r1 u1 H locs hw1 I => ?_)
  · skip
    have I : z_I A dC dI [(o, .inl (co, 1, .inr (.inl fo)))] [(xc20, .int), (xc22, .int), (xc23, .int), (xc24, .boolean), (xc25, .int), (xc26, .int), (co, .long)] s H _ := I
    obtain ⟨rfl, hc1⟩ := hE1
    refine vx_widen (Nat.le_refl _) (Nat.le_refl _) ?_
    refine vx_catch (own := RL) (name := "java/lang/IllegalArgumentException") (E := "java/lang/IllegalArgumentException") hown [] ⟨0, 14, 17, 13⟩ [⟨0, 14, 21, 15⟩] (by rw [htab]; rfl) (fun z hz => nomatch hz) (by decide) (by decide) (hg _ mw383 rfl) (va_Nw.use rfl (I.2.2.2.2.2.2.2.1 _ (List.mem_of_getElem? (i := 0) rfl))) hcell hcv hcl ?_
    refine lv_astore (lv' := [(6, .ref q1), (0, .ref h0), (1, .int p0), (2, .int p1), (3, .int p2), (4, .int p3), (5, .ref o)]) hx hb dL_addColumn_17 hl (by decide) rfl (fun ls hl => ?_)
    refine lv_iconst (v := 1) hx hb dL_addColumn_19 (by decide) ?_
    have I := I.subT (t' := []) [] rfl
    refine W.widen (k := 1) (n := 6) (Nat.le_of_ble_eq_true rfl) (Nat.le_of_ble_eq_true rfl) ?_
    refine vx_ret ?_
    exact z_iret hx hb hr hlocks I ⟨fo, rfl, hc1.symm, (fun h => absurd h (by decide))⟩ dL_addColumn_20
  · skip
    obtain ⟨hu1, hp1⟩ := hw1
    subst hu1
    have I : z_I A dC dI [(o, .inl (co, 1, .inr (.inl fo)))] [(xc20, .int), (xc22, .int), (xc23, .int), (xc24, .boolean), (xc25, .int), (xc26, .int), (co, .long)] s H _ := I
    refine W.widen (k := 1) (n := 6) (Nat.le_of_ble_eq_true rfl) (Nat.le_of_ble_eq_true rfl) ?_
    obtain rfl : r1 = 0 := hp1.1
    refine lv_i2l (v := 0) hx hb dL_addColumn_12 (by decide) ?_
    refine z_last hx hb I 0 6 rfl rfl (by unfold vp_in; decide) dL_addColumn_13 (fun g2 H locs eg2 I => ?_)
    have I : z_I A dC dI [(o, .inl (co, 1, .inr (.inl g2)))] [(xc20, .int), (xc22, .int), (xc23, .int), (xc24, .boolean), (xc25, .int), (xc26, .int), (co, .long)] s H _ := I
    have kg2_0 : g2 0 = 0 := by rw [eg2]; rfl
    refine lv_goto (tgt := 25) hx hb dL_addColumn_14 (by decide) ?_
    refine lv_iconst (v := 0) hx hb dL_addColumn_25 (by decide) ?_
    have I := I.subT (t' := []) [] rfl
    refine W.widen (k := 1) (n := 6) (Nat.le_of_ble_eq_true rfl) (Nat.le_of_ble_eq_true rfl) ?_
    refine vx_ret ?_
    exact z_iret hx hb hr hlocks I ⟨g2, rfl, hp1.2.symm, (fun _ => kg2_0)⟩ dL_addColumn_26
set_option maxHeartbeats 4000000 in
set_option maxRecDepth 100000 in
theorem z_L_addRow (l : Launch) (hst : l.stackTraces = false) (dC : Nat → ClassId) (dI : Nat → Nat → Nat) (xq1 : Nat) (xq2 : Nat) (xq3 : Nat) (xq4 : Nat) (xq5 : Nat) (xq6 : Nat) (xq7 : Nat) (xq8 : Nat) (xq9 : Nat) (xq10 : Nat) (xq11 : Nat) (xq12 : Nat) (xq13 : Nat) (xq14 : Nat) (xq15 : Nat) (xq16 : Nat) (xq17 : Nat) (xq18 : Nat) (xq19 : Nat) (xc29 : ClassId) (xf30 : Nat → Option Nat) (xq31 : Nat) (xq45 : Nat) (xc46 : ClassId) (xf47 : Nat → Int32) (h0 : Nat) (o : Nat) (co : ClassId) (fo : Nat → Int64) (p0 : Int32) (p1 : Int32) (p2 : Int32) (p3 : Int32) (p4 : Int32) (p5 : Int32) (hn : narrow .char (.int p0) = .int p0) (sz : Nat) : vx_Met l yL_addRow (z_wh yL_addRow cL_addRow 9 (some .int) [(0, 18, 21, 13), (0, 18, 25, 15)]) ({ frames := 14, cells := 1, slots := 6, locals := 320 }) (z_P dC dI [(h0, .inr (8, [.ref xq1, .ref xq2])), (xq1, .inr (7, [.ref xq2, .ref xq3, .ref xq4, .ref xq5, .ref xq6, .ref xq7, .ref xq8, .int 0, .int 0, .int 0, .int 0, .int 0])), (xq2, .inr (5, [.ref xq9, .ref xq10, .ref xq11, .ref xq12, .ref xq13, .ref xq14, .ref xq15, .ref xq16, .ref xq17, .ref xq18, .ref xq19, .int 0, .int 0])), (xq17, .inl (xc29, 8, .inr (.inr (.inr (.inr (va_up xf30 0 (some xq31))))))), (xq31, .inr (6, [.ref xq45, .int 0, .int 108])), (xq45, .inl (xc46, 4, .inl xf47)), (o, .inl (co, 1, .inr (.inl fo)))] [(xc29, .object RX6), (xc46, .int), (co, .long)] sz [.ref h0, .int p0, .int p1, .int p2, .int p3, .int p4, .int p5, .ref o]) (va_Qi (fun (r : Int32) (u : va_W × List (ClassId × FieldType)) => ∃ (xf1 : Nat → Int64), u = ([(o, .inl (co, 1, .inr (.inl xf1)))], []) ∧ r = z_cAR p0 p1 p2 p3 p4 p5 ∧ (r = 0 → xf1 0 = 0)) (z_B dC dI (va_A [(h0, .inr (8, [.ref xq1, .ref xq2])), (xq1, .inr (7, [.ref xq2, .ref xq3, .ref xq4, .ref xq5, .ref xq6, .ref xq7, .ref xq8, .int 0, .int 0, .int 0, .int 0, .int 0])), (xq2, .inr (5, [.ref xq9, .ref xq10, .ref xq11, .ref xq12, .ref xq13, .ref xq14, .ref xq15, .ref xq16, .ref xq17, .ref xq18, .ref xq19, .int 0, .int 0])), (xq17, .inl (xc29, 8, .inr (.inr (.inr (.inr (va_up xf30 0 (some xq31))))))), (xq31, .inr (6, [.ref xq45, .int 0, .int 108])), (xq45, .inl (xc46, 4, .inl xf47)), (o, .inl (co, 1, .inr (.inl fo)))] sz)) (va_A [(h0, .inr (8, [.ref xq1, .ref xq2])), (xq1, .inr (7, [.ref xq2, .ref xq3, .ref xq4, .ref xq5, .ref xq6, .ref xq7, .ref xq8, .int 0, .int 0, .int 0, .int 0, .int 0])), (xq2, .inr (5, [.ref xq9, .ref xq10, .ref xq11, .ref xq12, .ref xq13, .ref xq14, .ref xq15, .ref xq16, .ref xq17, .ref xq18, .ref xq19, .int 0, .int 0])), (xq17, .inl (xc29, 8, .inr (.inr (.inr (.inr (va_up xf30 0 (some xq31))))))), (xq31, .inr (6, [.ref xq45, .int 0, .int 108])), (xq45, .inl (xc46, 4, .inl xf47)), (o, .inl (co, 1, .inr (.inl fo)))] sz)) (z_XC (fun _ : String => False) (va_A [(h0, .inr (8, [.ref xq1, .ref xq2])), (xq1, .inr (7, [.ref xq2, .ref xq3, .ref xq4, .ref xq5, .ref xq6, .ref xq7, .ref xq8, .int 0, .int 0, .int 0, .int 0, .int 0])), (xq2, .inr (5, [.ref xq9, .ref xq10, .ref xq11, .ref xq12, .ref xq13, .ref xq14, .ref xq15, .ref xq16, .ref xq17, .ref xq18, .ref xq19, .int 0, .int 0])), (xq17, .inl (xc29, 8, .inr (.inr (.inr (.inr (va_up xf30 0 (some xq31))))))), (xq31, .inr (6, [.ref xq45, .int 0, .int 108])), (xq45, .inl (xc46, 4, .inl xf47)), (o, .inl (co, 1, .inr (.inl fo)))] sz)) 1 6 (va_A [(h0, .inr (8, [.ref xq1, .ref xq2])), (xq1, .inr (7, [.ref xq2, .ref xq3, .ref xq4, .ref xq5, .ref xq6, .ref xq7, .ref xq8, .int 0, .int 0, .int 0, .int 0, .int 0])), (xq2, .inr (5, [.ref xq9, .ref xq10, .ref xq11, .ref xq12, .ref xq13, .ref xq14, .ref xq15, .ref xq16, .ref xq17, .ref xq18, .ref xq19, .int 0, .int 0])), (xq17, .inl (xc29, 8, .inr (.inr (.inr (.inr (va_up xf30 0 (some xq31))))))), (xq31, .inr (6, [.ref xq45, .int 0, .int 108])), (xq45, .inl (xc46, 4, .inl xf47)), (o, .inl (co, 1, .inr (.inl fo)))] sz) := by
  refine vx_ofWH (cc := cL_addRow) (maxL := 9) (ret := (some .int)) (by decide) rfl ?_
  intro p e s m args below meth c s₁ B hml hv
  obtain ⟨rfl, rfl, I⟩ := z_open hv
  have hx := B.exec
  have hb := B.bytes
  have hr := B.returns
  have hts := atoms_spec (ws := z_wh yL_addRow cL_addRow 9 (some .int) [(0, 18, 21, 13), (0, 18, 25, 15)]) B.pre
  have hg : z_G _ s := z_G.of hts
  have hown : s.vm.findClass RL = some m.cls := findClass_of_methodNamed B.named
  have hlocks := B.notSynchronized
  have htab : c.exceptionTable.toList = tableOf [(0, 18, 21, 13), (0, 18, 25, 15)] := vx_table (x := yL_addRow) B (hts _ List.mem_cons_self)
  generalize va_A [(h0, .inr (8, [.ref xq1, .ref xq2])), (xq1, .inr (7, [.ref xq2, .ref xq3, .ref xq4, .ref xq5, .ref xq6, .ref xq7, .ref xq8, .int 0, .int 0, .int 0, .int 0, .int 0])), (xq2, .inr (5, [.ref xq9, .ref xq10, .ref xq11, .ref xq12, .ref xq13, .ref xq14, .ref xq15, .ref xq16, .ref xq17, .ref xq18, .ref xq19, .int 0, .int 0])), (xq17, .inl (xc29, 8, .inr (.inr (.inr (.inr (va_up xf30 0 (some xq31))))))), (xq31, .inr (6, [.ref xq45, .int 0, .int 108])), (xq45, .inl (xc46, 4, .inl xf47)), (o, .inl (co, 1, .inr (.inl fo)))] s.heap.size = A at I ⊢
  have hl := lv_entry ([.ref h0, .int p0, .int p1, .int p2, .int p3, .int p4, .int p5, .ref o]) (n := 9) (Nat.le_of_ble_eq_true rfl)
  rw [lg_entry_eq]
  generalize (lg_sl ([.ref h0, .int p0, .int p1, .int p2, .int p3, .int p4, .int p5, .ref o]) ++ List.replicate (9 - (lg_sl ([.ref h0, .int p0, .int p1, .int p2, .int p3, .int p4, .int p5, .ref o])).length) Slot.unset).toArray = ls at hl ⊢
  have hl : lv_has ls 9 [(0, .ref h0), (1, .int p0), (2, .int p1), (3, .int p2), (4, .int p3), (5, .int p4), (6, .int p5), (7, .ref o)] := hl
  refine lv_aload hx hb dL_addRow_0 (lv_at hl 7 rfl) ?_
  refine lv_iconst (v := 0) hx hb dL_addRow_2 (by decide) ?_
  refine lv_aload_n hx hb dL_addRow_3 rfl (lv_at hl 0 rfl) ?_
  refine lv_iload_n hx hb dL_addRow_4 rfl (lv_at hl 1 rfl) ?_
  refine lv_iload_n hx hb dL_addRow_5 rfl (lv_at hl 2 rfl) ?_
  refine lv_iload_n hx hb dL_addRow_6 rfl (lv_at hl 3 rfl) ?_
  refine lv_iload hx hb dL_addRow_7 (lv_at hl 4 rfl) ?_
  refine lv_iload hx hb dL_addRow_9 (lv_at hl 5 rfl) ?_
  refine lv_iload hx hb dL_addRow_11 (lv_at hl 6 rfl) ?_
  refine z_xcalli (wr := [(o, .inl (co, 1, .inr (.inl fo)))]) (vx_runV (As := [.int p0, .int p1, .int p2, .int p3, .int p4, .int p5]) (rest := [.int 0, .ref o]) ⟨hx, hb, hml, hown, hts⟩ (z_RX8_addRow l hst dC dI xq1 xq2 xq3 xq4 xq5 xq6 xq7 xq8 xq9 xq10 xq11 xq12 xq13 xq14 xq15 xq16 xq17 xq18 xq19 xc29 xf30 xq31 xq45 xc46 xf47 h0 p0 p1 p2 p3 p4 p5 hn s.heap.size) (cwV 6 hts (z_gV z_T.wh mw491 mw492 mw493 mw1 mw494) rfl rfl rfl (by decide +kernel) ⟨Nat.le_of_ble_eq_true rfl, Nat.le_of_ble_eq_true rfl⟩) (z_preV I [0, 1, 2, 3, 4, 5] [0, 1] rfl rfl rfl rfl (ci := 8) (q0 := 0) rfl rfl) rfl rfl hl.1 rfl (lv_room (Nat.le_of_ble_eq_true rfl)) dL_addRow_13 ⟨Nat.le_of_ble_eq_true rfl, Nat.le_of_ble_eq_true rfl⟩) I [0, 1, 2, 3, 4, 5] [6] rfl rfl (by decide) (by decide) (fun E1 ce1 q1 H locs hE1 I hcell hcv hcl => ?_) (fun r1 u1 H locs hw1 I => ?_)
  · skip
    have I : z_I A dC dI [(o, .inl (co, 1, .inr (.inl fo)))] [(xc29, .object RX6), (xc46, .int), (co, .long)] s H _ := I
    obtain ⟨rfl, hc1⟩ := hE1
    refine vx_widen (Nat.le_refl _) (Nat.le_refl _) ?_
    refine vx_catch (own := RL) (name := "java/lang/IllegalArgumentException") (E := "java/lang/IllegalArgumentException") hown [] ⟨0, 18, 21, 13⟩ [⟨0, 18, 25, 15⟩] (by rw [htab]; rfl) (fun z hz => nomatch hz) (by decide) (by decide) (hg _ mw383 rfl) (va_Nw.use rfl (I.2.2.2.2.2.2.2.1 _ (List.mem_of_getElem? (i := 0) rfl))) hcell hcv hcl ?_
    refine lv_astore (lv' := [(8, .ref q1), (0, .ref h0), (1, .int p0), (2, .int p1), (3, .int p2), (4, .int p3), (5, .int p4), (6, .int p5), (7, .ref o)]) hx hb dL_addRow_21 hl (by decide) rfl (fun ls hl => ?_)
    refine lv_iconst (v := 1) hx hb dL_addRow_23 (by decide) ?_
    have I := I.subT (t' := []) [] rfl
    refine W.widen (k := 1) (n := 6) (Nat.le_of_ble_eq_true rfl) (Nat.le_of_ble_eq_true rfl) ?_
    refine vx_ret ?_
    exact z_iret hx hb hr hlocks I ⟨fo, rfl, hc1.symm, (fun h => absurd h (by decide))⟩ dL_addRow_24
  · skip
    obtain ⟨hu1, hp1⟩ := hw1
    subst hu1
    have I : z_I A dC dI [(o, .inl (co, 1, .inr (.inl fo)))] [(xc29, .object RX6), (xc46, .int), (co, .long)] s H _ := I
    refine W.widen (k := 1) (n := 6) (Nat.le_of_ble_eq_true rfl) (Nat.le_of_ble_eq_true rfl) ?_
    obtain rfl : r1 = 0 := hp1.1
    refine lv_i2l (v := 0) hx hb dL_addRow_16 (by decide) ?_
    refine z_last hx hb I 0 2 rfl rfl (by unfold vp_in; decide) dL_addRow_17 (fun g2 H locs eg2 I => ?_)
    have I : z_I A dC dI [(o, .inl (co, 1, .inr (.inl g2)))] [(xc29, .object RX6), (xc46, .int), (co, .long)] s H _ := I
    have kg2_0 : g2 0 = 0 := by rw [eg2]; rfl
    refine lv_goto (tgt := 29) hx hb dL_addRow_18 (by decide) ?_
    refine lv_iconst (v := 0) hx hb dL_addRow_29 (by decide) ?_
    have I := I.subT (t' := []) [] rfl
    refine W.widen (k := 1) (n := 6) (Nat.le_of_ble_eq_true rfl) (Nat.le_of_ble_eq_true rfl) ?_
    refine vx_ret ?_
    exact z_iret hx hb hr hlocks I ⟨g2, rfl, hp1.2.symm, (fun _ => kg2_0)⟩ dL_addRow_30
set_option maxHeartbeats 4000000 in
set_option maxRecDepth 100000 in
theorem z_L_age (l : Launch) (hst : l.stackTraces = false) (dC : Nat → ClassId) (dI : Nat → Nat → Nat) (xq1 : Nat) (xq2 : Nat) (xq3 : Nat) (xq4 : Nat) (xq5 : Nat) (xq6 : Nat) (xq7 : Nat) (xq8 : Nat) (h0 : Nat) (o : Nat) (co : ClassId) (fo : Nat → Int64) (p0 : Int32) (sz : Nat) : vx_Met l yL_age (z_wh yL_age cL_age 4 (some .int) [(0, 9, 12, 31)]) ({ frames := 12, cells := 1, slots := 6, locals := 260 }) (z_P dC dI [(h0, .inr (8, [.ref xq1, .ref xq2])), (xq1, .inr (7, [.ref xq2, .ref xq3, .ref xq4, .ref xq5, .ref xq6, .ref xq7, .ref xq8, .int 0, .int 0, .int 0, .int 0, .int 0])), (o, .inl (co, 1, .inr (.inl fo)))] [(co, .long)] sz [.ref h0, .int p0, .ref o]) (va_Qi (fun (r : Int32) (u : va_W × List (ClassId × FieldType)) => ∃ (xf1 : Nat → Int64), u = ([(o, .inl (co, 1, .inr (.inl xf1)))], []) ∧ r = 1 ∧ (r = 0 → xf1 0 = 0)) (z_B dC dI (va_A [(h0, .inr (8, [.ref xq1, .ref xq2])), (xq1, .inr (7, [.ref xq2, .ref xq3, .ref xq4, .ref xq5, .ref xq6, .ref xq7, .ref xq8, .int 0, .int 0, .int 0, .int 0, .int 0])), (o, .inl (co, 1, .inr (.inl fo)))] sz)) (va_A [(h0, .inr (8, [.ref xq1, .ref xq2])), (xq1, .inr (7, [.ref xq2, .ref xq3, .ref xq4, .ref xq5, .ref xq6, .ref xq7, .ref xq8, .int 0, .int 0, .int 0, .int 0, .int 0])), (o, .inl (co, 1, .inr (.inl fo)))] sz)) (z_XC (fun _ : String => False) (va_A [(h0, .inr (8, [.ref xq1, .ref xq2])), (xq1, .inr (7, [.ref xq2, .ref xq3, .ref xq4, .ref xq5, .ref xq6, .ref xq7, .ref xq8, .int 0, .int 0, .int 0, .int 0, .int 0])), (o, .inl (co, 1, .inr (.inl fo)))] sz)) 1 6 (va_A [(h0, .inr (8, [.ref xq1, .ref xq2])), (xq1, .inr (7, [.ref xq2, .ref xq3, .ref xq4, .ref xq5, .ref xq6, .ref xq7, .ref xq8, .int 0, .int 0, .int 0, .int 0, .int 0])), (o, .inl (co, 1, .inr (.inl fo)))] sz) := by
  refine vx_ofWH (cc := cL_age) (maxL := 4) (ret := (some .int)) (by decide) rfl ?_
  intro p e s m args below meth c s₁ B hml hv
  obtain ⟨rfl, rfl, I⟩ := z_open hv
  have hx := B.exec
  have hb := B.bytes
  have hr := B.returns
  have hts := atoms_spec (ws := z_wh yL_age cL_age 4 (some .int) [(0, 9, 12, 31)]) B.pre
  have hg : z_G _ s := z_G.of hts
  have hown : s.vm.findClass RL = some m.cls := findClass_of_methodNamed B.named
  have hlocks := B.notSynchronized
  have htab : c.exceptionTable.toList = tableOf [(0, 9, 12, 31)] := vx_table (x := yL_age) B (hts _ List.mem_cons_self)
  generalize va_A [(h0, .inr (8, [.ref xq1, .ref xq2])), (xq1, .inr (7, [.ref xq2, .ref xq3, .ref xq4, .ref xq5, .ref xq6, .ref xq7, .ref xq8, .int 0, .int 0, .int 0, .int 0, .int 0])), (o, .inl (co, 1, .inr (.inl fo)))] s.heap.size = A at I ⊢
  have hl := lv_entry ([.ref h0, .int p0, .ref o]) (n := 4) (Nat.le_of_ble_eq_true rfl)
  rw [lg_entry_eq]
  generalize (lg_sl ([.ref h0, .int p0, .ref o]) ++ List.replicate (4 - (lg_sl ([.ref h0, .int p0, .ref o])).length) Slot.unset).toArray = ls at hl ⊢
  have hl : lv_has ls 4 [(0, .ref h0), (1, .int p0), (2, .ref o)] := hl
  refine lv_aload_n hx hb dL_age_0 rfl (lv_at hl 2 rfl) ?_
  refine lv_iconst (v := 0) hx hb dL_age_1 (by decide) ?_
  refine lv_aload_n hx hb dL_age_2 rfl (lv_at hl 0 rfl) ?_
  refine lv_iload_n hx hb dL_age_3 rfl (lv_at hl 1 rfl) ?_
  refine z_xcalli (wr := [(o, .inl (co, 1, .inr (.inl fo)))]) (vx_runV (As := [.int p0]) (rest := [.int 0, .ref o]) ⟨hx, hb, hml, hown, hts⟩ (z_RX8_age l hst dC dI xq1 xq2 xq3 xq4 xq5 xq6 xq7 xq8 h0 p0  s.heap.size) (cwV 1 hts (z_gV z_T.wh mw1197 mw1198 mw1199 mw1 mw1200) rfl rfl rfl (by decide +kernel) ⟨Nat.le_of_ble_eq_true rfl, Nat.le_of_ble_eq_true rfl⟩) (z_preV I [0, 1] [] rfl rfl rfl rfl (ci := 8) (q0 := 0) rfl rfl) rfl rfl hl.1 rfl (lv_room (Nat.le_of_ble_eq_true rfl)) dL_age_4 ⟨Nat.le_of_ble_eq_true rfl, Nat.le_of_ble_eq_true rfl⟩) I [0, 1] [2] rfl rfl (by decide) (by decide) (fun E1 ce1 q1 H locs hE1 I hcell hcv hcl => ?_) (fun r1 u1 H locs hw1 I => ?_)
  · skip
    have I : z_I A dC dI [(o, .inl (co, 1, .inr (.inl fo)))] [(co, .long)] s H _ := I
    subst hE1
    refine vx_widen (Nat.le_refl _) (Nat.le_refl _) ?_
    refine vx_catch (own := RL) (name := "java/lang/IndexOutOfBoundsException") (E := "java/lang/IndexOutOfBoundsException") hown [] ⟨0, 9, 12, 31⟩ [] (by rw [htab]; rfl) (fun z hz => nomatch hz) (by decide) (by decide) (hg _ mw610 rfl) (va_Nw.use rfl (I.2.2.2.2.2.2.2.1 _ (List.mem_of_getElem? (i := 2) rfl))) hcell hcv hcl ?_
    refine lv_astore_n (lv' := [(3, .ref q1), (0, .ref h0), (1, .int p0), (2, .ref o)]) hx hb dL_age_12 rfl hl (by decide) rfl (fun ls hl => ?_)
    refine lv_iconst (v := 1) hx hb dL_age_13 (by decide) ?_
    have I := I.subT (t' := []) [] rfl
    refine W.widen (k := 1) (n := 6) (Nat.le_of_ble_eq_true rfl) (Nat.le_of_ble_eq_true rfl) ?_
    refine vx_ret ?_
    exact z_iret hx hb hr hlocks I ⟨fo, rfl, rfl, (fun h => absurd h (by decide))⟩ dL_age_14
  · skip
    obtain ⟨hu1, hp1⟩ := hw1
    exact hp1.elim
set_option maxHeartbeats 4000000 in
set_option maxRecDepth 100000 in
theorem z_L_areAlike (l : Launch) (hst : l.stackTraces = false) (dC : Nat → ClassId) (dI : Nat → Nat → Nat) (xq1 : Nat) (xq2 : Nat) (xq9 : Nat) (xq10 : Nat) (xq11 : Nat) (xq12 : Nat) (xq13 : Nat) (xq14 : Nat) (xq15 : Nat) (xq16 : Nat) (xq17 : Nat) (xq18 : Nat) (xq19 : Nat) (h0 : Nat) (o : Nat) (co : ClassId) (fo : Nat → Int64) (p0 : Int32) (p1 : Int32) (sz : Nat) : vx_Met l yL_areAlike (z_wh yL_areAlike cL_areAlike 5 (some .int) [(0, 17, 20, 31)]) ({ frames := 12, cells := 1, slots := 6, locals := 260 }) (z_P dC dI [(h0, .inr (8, [.ref xq1, .ref xq2])), (xq2, .inr (5, [.ref xq9, .ref xq10, .ref xq11, .ref xq12, .ref xq13, .ref xq14, .ref xq15, .ref xq16, .ref xq17, .ref xq18, .ref xq19, .int 0, .int 0])), (o, .inl (co, 1, .inr (.inl fo)))] [(co, .long)] sz [.ref h0, .int p0, .int p1, .ref o]) (va_Qi (fun (r : Int32) (u : va_W × List (ClassId × FieldType)) => ∃ (xf1 : Nat → Int64), u = ([(o, .inl (co, 1, .inr (.inl xf1)))], []) ∧ r = 1 ∧ (r = 0 → xf1 0 = 0)) (z_B dC dI (va_A [(h0, .inr (8, [.ref xq1, .ref xq2])), (xq2, .inr (5, [.ref xq9, .ref xq10, .ref xq11, .ref xq12, .ref xq13, .ref xq14, .ref xq15, .ref xq16, .ref xq17, .ref xq18, .ref xq19, .int 0, .int 0])), (o, .inl (co, 1, .inr (.inl fo)))] sz)) (va_A [(h0, .inr (8, [.ref xq1, .ref xq2])), (xq2, .inr (5, [.ref xq9, .ref xq10, .ref xq11, .ref xq12, .ref xq13, .ref xq14, .ref xq15, .ref xq16, .ref xq17, .ref xq18, .ref xq19, .int 0, .int 0])), (o, .inl (co, 1, .inr (.inl fo)))] sz)) (z_XC (fun _ : String => False) (va_A [(h0, .inr (8, [.ref xq1, .ref xq2])), (xq2, .inr (5, [.ref xq9, .ref xq10, .ref xq11, .ref xq12, .ref xq13, .ref xq14, .ref xq15, .ref xq16, .ref xq17, .ref xq18, .ref xq19, .int 0, .int 0])), (o, .inl (co, 1, .inr (.inl fo)))] sz)) 1 6 (va_A [(h0, .inr (8, [.ref xq1, .ref xq2])), (xq2, .inr (5, [.ref xq9, .ref xq10, .ref xq11, .ref xq12, .ref xq13, .ref xq14, .ref xq15, .ref xq16, .ref xq17, .ref xq18, .ref xq19, .int 0, .int 0])), (o, .inl (co, 1, .inr (.inl fo)))] sz) := by
  refine vx_ofWH (cc := cL_areAlike) (maxL := 5) (ret := (some .int)) (by decide) rfl ?_
  intro p e s m args below meth c s₁ B hml hv
  obtain ⟨rfl, rfl, I⟩ := z_open hv
  have hx := B.exec
  have hb := B.bytes
  have hr := B.returns
  have hts := atoms_spec (ws := z_wh yL_areAlike cL_areAlike 5 (some .int) [(0, 17, 20, 31)]) B.pre
  have hg : z_G _ s := z_G.of hts
  have hown : s.vm.findClass RL = some m.cls := findClass_of_methodNamed B.named
  have hlocks := B.notSynchronized
  have htab : c.exceptionTable.toList = tableOf [(0, 17, 20, 31)] := vx_table (x := yL_areAlike) B (hts _ List.mem_cons_self)
  generalize va_A [(h0, .inr (8, [.ref xq1, .ref xq2])), (xq2, .inr (5, [.ref xq9, .ref xq10, .ref xq11, .ref xq12, .ref xq13, .ref xq14, .ref xq15, .ref xq16, .ref xq17, .ref xq18, .ref xq19, .int 0, .int 0])), (o, .inl (co, 1, .inr (.inl fo)))] s.heap.size = A at I ⊢
  have hl := lv_entry ([.ref h0, .int p0, .int p1, .ref o]) (n := 5) (Nat.le_of_ble_eq_true rfl)
  rw [lg_entry_eq]
  generalize (lg_sl ([.ref h0, .int p0, .int p1, .ref o]) ++ List.replicate (5 - (lg_sl ([.ref h0, .int p0, .int p1, .ref o])).length) Slot.unset).toArray = ls at hl ⊢
  have hl : lv_has ls 5 [(0, .ref h0), (1, .int p0), (2, .int p1), (3, .ref o)] := hl
  refine lv_aload_n hx hb dL_areAlike_0 rfl (lv_at hl 3 rfl) ?_
  refine lv_iconst (v := 0) hx hb dL_areAlike_1 (by decide) ?_
  refine lv_aload_n hx hb dL_areAlike_2 rfl (lv_at hl 0 rfl) ?_
  refine lv_iload_n hx hb dL_areAlike_3 rfl (lv_at hl 1 rfl) ?_
  refine lv_iload_n hx hb dL_areAlike_4 rfl (lv_at hl 2 rfl) ?_
  refine z_xcalli (wr := [(o, .inl (co, 1, .inr (.inl fo)))]) (vx_runV (As := [.int p0, .int p1]) (rest := [.int 0, .ref o]) ⟨hx, hb, hml, hown, hts⟩ (z_RX8_areAlike l hst dC dI xq1 xq2 xq9 xq10 xq11 xq12 xq13 xq14 xq15 xq16 xq17 xq18 xq19 h0 p0 p1  s.heap.size) (cwV 2 hts (z_gV z_T.wh mw665 mw666 mw667 mw1 mw668) rfl rfl rfl (by decide +kernel) ⟨Nat.le_of_ble_eq_true rfl, Nat.le_of_ble_eq_true rfl⟩) (z_preV I [0, 1] [] rfl rfl rfl rfl (ci := 8) (q0 := 0) rfl rfl) rfl rfl hl.1 rfl (lv_room (Nat.le_of_ble_eq_true rfl)) dL_areAlike_5 ⟨Nat.le_of_ble_eq_true rfl, Nat.le_of_ble_eq_true rfl⟩) I [0, 1] [2] rfl rfl (by decide) (by decide) (fun E1 ce1 q1 H locs hE1 I hcell hcv hcl => ?_) (fun r1 u1 H locs hw1 I => ?_)
  · skip
    have I : z_I A dC dI [(o, .inl (co, 1, .inr (.inl fo)))] [(co, .long)] s H _ := I
    subst hE1
    refine vx_widen (Nat.le_refl _) (Nat.le_refl _) ?_
    refine vx_catch (own := RL) (name := "java/lang/IndexOutOfBoundsException") (E := "java/lang/IndexOutOfBoundsException") hown [] ⟨0, 17, 20, 31⟩ [] (by rw [htab]; rfl) (fun z hz => nomatch hz) (by decide) (by decide) (hg _ mw610 rfl) (va_Nw.use rfl (I.2.2.2.2.2.2.2.1 _ (List.mem_of_getElem? (i := 2) rfl))) hcell hcv hcl ?_
    refine lv_astore (lv' := [(4, .ref q1), (0, .ref h0), (1, .int p0), (2, .int p1), (3, .ref o)]) hx hb dL_areAlike_20 hl (by decide) rfl (fun ls hl => ?_)
    refine lv_iconst (v := 1) hx hb dL_areAlike_22 (by decide) ?_
    have I := I.subT (t' := []) [] rfl
    refine W.widen (k := 1) (n := 6) (Nat.le_of_ble_eq_true rfl) (Nat.le_of_ble_eq_true rfl) ?_
    refine vx_ret ?_
    exact z_iret hx hb hr hlocks I ⟨fo, rfl, rfl, (fun h => absurd h (by decide))⟩ dL_areAlike_23
  · skip
    obtain ⟨hu1, hp1⟩ := hw1
    exact hp1.elim
set_option maxHeartbeats 4000000 in
set_option maxRecDepth 100000 in
theorem z_L_begin (l : Launch) (hst : l.stackTraces = false) (dC : Nat → ClassId) (dI : Nat → Nat → Nat) (xq1 : Nat) (xq2 : Nat) (xq9 : Nat) (xq10 : Nat) (xq11 : Nat) (xq12 : Nat) (xq13 : Nat) (xq14 : Nat) (xq15 : Nat) (xq16 : Nat) (xq17 : Nat) (xq18 : Nat) (xq19 : Nat) (h0 : Nat) (o : Nat) (co : ClassId) (fo : Nat → Int64) (p0 : Int32) (p1 : Int32) (sz : Nat) : vx_Met l yL_begin (z_wh yL_begin cL_begin 5 (some .int) [(0, 10, 13, 13), (0, 10, 17, 15)]) ({ frames := 10, cells := 1, slots := 6, locals := 200 }) (z_P dC dI [(h0, .inr (8, [.ref xq1, .ref xq2])), (xq2, .inr (5, [.ref xq9, .ref xq10, .ref xq11, .ref xq12, .ref xq13, .ref xq14, .ref xq15, .ref xq16, .ref xq17, .ref xq18, .ref xq19, .int 0, .int 0])), (o, .inl (co, 1, .inr (.inl fo)))] [(co, .long)] sz [.ref h0, .int p0, .int p1, .ref o]) (va_Qi (fun (r : Int32) (u : va_W × List (ClassId × FieldType)) => ∃ (xf1 : Nat → Int64), u = ([(o, .inl (co, 1, .inr (.inl xf1)))], []) ∧ r = z_cB p0 p1 ∧ (r = 0 → xf1 0 = 0)) (z_B dC dI (va_A [(h0, .inr (8, [.ref xq1, .ref xq2])), (xq2, .inr (5, [.ref xq9, .ref xq10, .ref xq11, .ref xq12, .ref xq13, .ref xq14, .ref xq15, .ref xq16, .ref xq17, .ref xq18, .ref xq19, .int 0, .int 0])), (o, .inl (co, 1, .inr (.inl fo)))] sz)) (va_A [(h0, .inr (8, [.ref xq1, .ref xq2])), (xq2, .inr (5, [.ref xq9, .ref xq10, .ref xq11, .ref xq12, .ref xq13, .ref xq14, .ref xq15, .ref xq16, .ref xq17, .ref xq18, .ref xq19, .int 0, .int 0])), (o, .inl (co, 1, .inr (.inl fo)))] sz)) (z_XC (fun _ : String => False) (va_A [(h0, .inr (8, [.ref xq1, .ref xq2])), (xq2, .inr (5, [.ref xq9, .ref xq10, .ref xq11, .ref xq12, .ref xq13, .ref xq14, .ref xq15, .ref xq16, .ref xq17, .ref xq18, .ref xq19, .int 0, .int 0])), (o, .inl (co, 1, .inr (.inl fo)))] sz)) 1 6 (va_A [(h0, .inr (8, [.ref xq1, .ref xq2])), (xq2, .inr (5, [.ref xq9, .ref xq10, .ref xq11, .ref xq12, .ref xq13, .ref xq14, .ref xq15, .ref xq16, .ref xq17, .ref xq18, .ref xq19, .int 0, .int 0])), (o, .inl (co, 1, .inr (.inl fo)))] sz) := by
  refine vx_ofWH (cc := cL_begin) (maxL := 5) (ret := (some .int)) (by decide) rfl ?_
  intro p e s m args below meth c s₁ B hml hv
  obtain ⟨rfl, rfl, I⟩ := z_open hv
  have hx := B.exec
  have hb := B.bytes
  have hr := B.returns
  have hts := atoms_spec (ws := z_wh yL_begin cL_begin 5 (some .int) [(0, 10, 13, 13), (0, 10, 17, 15)]) B.pre
  have hg : z_G _ s := z_G.of hts
  have hown : s.vm.findClass RL = some m.cls := findClass_of_methodNamed B.named
  have hlocks := B.notSynchronized
  have htab : c.exceptionTable.toList = tableOf [(0, 10, 13, 13), (0, 10, 17, 15)] := vx_table (x := yL_begin) B (hts _ List.mem_cons_self)
  generalize va_A [(h0, .inr (8, [.ref xq1, .ref xq2])), (xq2, .inr (5, [.ref xq9, .ref xq10, .ref xq11, .ref xq12, .ref xq13, .ref xq14, .ref xq15, .ref xq16, .ref xq17, .ref xq18, .ref xq19, .int 0, .int 0])), (o, .inl (co, 1, .inr (.inl fo)))] s.heap.size = A at I ⊢
  have hl := lv_entry ([.ref h0, .int p0, .int p1, .ref o]) (n := 5) (Nat.le_of_ble_eq_true rfl)
  rw [lg_entry_eq]
  generalize (lg_sl ([.ref h0, .int p0, .int p1, .ref o]) ++ List.replicate (5 - (lg_sl ([.ref h0, .int p0, .int p1, .ref o])).length) Slot.unset).toArray = ls at hl ⊢
  have hl : lv_has ls 5 [(0, .ref h0), (1, .int p0), (2, .int p1), (3, .ref o)] := hl
  refine lv_aload_n hx hb dL_begin_0 rfl (lv_at hl 3 rfl) ?_
  refine lv_iconst (v := 0) hx hb dL_begin_1 (by decide) ?_
  refine lv_aload_n hx hb dL_begin_2 rfl (lv_at hl 0 rfl) ?_
  refine lv_iload_n hx hb dL_begin_3 rfl (lv_at hl 1 rfl) ?_
  refine lv_iload_n hx hb dL_begin_4 rfl (lv_at hl 2 rfl) ?_
  refine z_xcalli (wr := [(o, .inl (co, 1, .inr (.inl fo)))]) (vx_runV (As := [.int p0, .int p1]) (rest := [.int 0, .ref o]) ⟨hx, hb, hml, hown, hts⟩ (z_RX8_begin l hst dC dI xq1 xq2 xq9 xq10 xq11 xq12 xq13 xq14 xq15 xq16 xq17 xq18 xq19 h0 p0 p1  s.heap.size) (cwV 2 hts (z_gV z_T.wh mw752 mw753 mw754 mw1 mw755) rfl rfl rfl (by decide +kernel) ⟨Nat.le_of_ble_eq_true rfl, Nat.le_of_ble_eq_true rfl⟩) (z_preV I [0, 1] [] rfl rfl rfl rfl (ci := 8) (q0 := 0) rfl rfl) rfl rfl hl.1 rfl (lv_room (Nat.le_of_ble_eq_true rfl)) dL_begin_5 ⟨Nat.le_of_ble_eq_true rfl, Nat.le_of_ble_eq_true rfl⟩) I [0, 1] [2] rfl rfl (by decide) (by decide) (fun E1 ce1 q1 H locs hE1 I hcell hcv hcl => ?_) (fun r1 u1 H locs hw1 I => ?_)
  · skip
    have I : z_I A dC dI [(o, .inl (co, 1, .inr (.inl fo)))] [(co, .long)] s H _ := I
    rcases hE1 with hE1 | hE1
    · skip
      obtain ⟨rfl, hc1⟩ := hE1
      refine vx_widen (Nat.le_refl _) (Nat.le_refl _) ?_
      refine vx_catch (own := RL) (name := "java/lang/IllegalArgumentException") (E := "java/lang/IllegalArgumentException") hown [] ⟨0, 10, 13, 13⟩ [⟨0, 10, 17, 15⟩] (by rw [htab]; rfl) (fun z hz => nomatch hz) (by decide) (by decide) (hg _ mw383 rfl) (va_Nw.use rfl (I.2.2.2.2.2.2.2.1 _ (List.mem_of_getElem? (i := 0) rfl))) hcell hcv hcl ?_
      refine lv_astore (lv' := [(4, .ref q1), (0, .ref h0), (1, .int p0), (2, .int p1), (3, .ref o)]) hx hb dL_begin_13 hl (by decide) rfl (fun ls hl => ?_)
      refine lv_iconst (v := 1) hx hb dL_begin_15 (by decide) ?_
      have I := I.subT (t' := []) [] rfl
      refine W.widen (k := 1) (n := 6) (Nat.le_of_ble_eq_true rfl) (Nat.le_of_ble_eq_true rfl) ?_
      refine vx_ret ?_
      exact z_iret hx hb hr hlocks I ⟨fo, rfl, hc1.symm, (fun h => absurd h (by decide))⟩ dL_begin_16
    · skip
      obtain ⟨rfl, hc1⟩ := hE1
      refine vx_widen (Nat.le_refl _) (Nat.le_refl _) ?_
      refine vx_catch (own := RL) (name := "java/lang/IllegalStateException") (E := "java/lang/IllegalStateException") hown [⟨0, 10, 13, 13⟩] ⟨0, 10, 17, 15⟩ [] (by rw [htab]; rfl) (fun z hz => by rw [List.mem_singleton.mp hz]; exact Or.inr ⟨by decide, "java/lang/IllegalArgumentException", hg _ mw383 rfl, I.2.2.2.2.2.2.2.2.2.2.1⟩) (by decide) (by decide) (hg _ mw384 rfl) (va_Nw.use rfl (I.2.2.2.2.2.2.2.1 _ (List.mem_of_getElem? (i := 1) rfl))) hcell hcv hcl ?_
      refine lv_astore (lv' := [(4, .ref q1), (0, .ref h0), (1, .int p0), (2, .int p1), (3, .ref o)]) hx hb dL_begin_17 hl (by decide) rfl (fun ls hl => ?_)
      refine lv_iconst (v := 2) hx hb dL_begin_19 (by decide) ?_
      have I := I.subT (t' := []) [] rfl
      refine W.widen (k := 1) (n := 6) (Nat.le_of_ble_eq_true rfl) (Nat.le_of_ble_eq_true rfl) ?_
      refine vx_ret ?_
      exact z_iret hx hb hr hlocks I ⟨fo, rfl, hc1.symm, (fun h => absurd h (by decide))⟩ dL_begin_20
  · skip
    obtain ⟨hu1, hp1⟩ := hw1
    exact hp1.elim
set_option maxHeartbeats 4000000 in
set_option maxRecDepth 100000 in
theorem z_L_best (l : Launch) (hst : l.stackTraces = false) (dC : Nat → ClassId) (dI : Nat → Nat → Nat) (xq1 : Nat) (xq2 : Nat) (xq3 : Nat) (xq4 : Nat) (xq5 : Nat) (xq6 : Nat) (xq7 : Nat) (xq8 : Nat) (h0 : Nat) (o : Nat) (co : ClassId) (fo : Nat → Int64) (sz : Nat) : vx_Met l yL_best (z_wh yL_best cL_best 3 (some .int) [(0, 7, 10, 43)]) ({ frames := 10, cells := 1, slots := 6, locals := 200 }) (z_P dC dI [(h0, .inr (8, [.ref xq1, .ref xq2])), (xq1, .inr (7, [.ref xq2, .ref xq3, .ref xq4, .ref xq5, .ref xq6, .ref xq7, .ref xq8, .int 0, .int 0, .int 0, .int 0, .int 0])), (o, .inl (co, 1, .inr (.inl fo)))] [(co, .long)] sz [.ref h0, .ref o]) (va_Qi (fun (r : Int32) (u : va_W × List (ClassId × FieldType)) => ∃ (xf1 : Nat → Int64), u = ([(o, .inl (co, 1, .inr (.inl xf1)))], []) ∧ r = 1 ∧ (r = 0 → xf1 0 = 0)) (z_B dC dI (va_A [(h0, .inr (8, [.ref xq1, .ref xq2])), (xq1, .inr (7, [.ref xq2, .ref xq3, .ref xq4, .ref xq5, .ref xq6, .ref xq7, .ref xq8, .int 0, .int 0, .int 0, .int 0, .int 0])), (o, .inl (co, 1, .inr (.inl fo)))] sz)) (va_A [(h0, .inr (8, [.ref xq1, .ref xq2])), (xq1, .inr (7, [.ref xq2, .ref xq3, .ref xq4, .ref xq5, .ref xq6, .ref xq7, .ref xq8, .int 0, .int 0, .int 0, .int 0, .int 0])), (o, .inl (co, 1, .inr (.inl fo)))] sz)) (z_XC (fun _ : String => False) (va_A [(h0, .inr (8, [.ref xq1, .ref xq2])), (xq1, .inr (7, [.ref xq2, .ref xq3, .ref xq4, .ref xq5, .ref xq6, .ref xq7, .ref xq8, .int 0, .int 0, .int 0, .int 0, .int 0])), (o, .inl (co, 1, .inr (.inl fo)))] sz)) 1 6 (va_A [(h0, .inr (8, [.ref xq1, .ref xq2])), (xq1, .inr (7, [.ref xq2, .ref xq3, .ref xq4, .ref xq5, .ref xq6, .ref xq7, .ref xq8, .int 0, .int 0, .int 0, .int 0, .int 0])), (o, .inl (co, 1, .inr (.inl fo)))] sz) := by
  refine vx_ofWH (cc := cL_best) (maxL := 3) (ret := (some .int)) (by decide) rfl ?_
  intro p e s m args below meth c s₁ B hml hv
  obtain ⟨rfl, rfl, I⟩ := z_open hv
  have hx := B.exec
  have hb := B.bytes
  have hr := B.returns
  have hts := atoms_spec (ws := z_wh yL_best cL_best 3 (some .int) [(0, 7, 10, 43)]) B.pre
  have hg : z_G _ s := z_G.of hts
  have hown : s.vm.findClass RL = some m.cls := findClass_of_methodNamed B.named
  have hlocks := B.notSynchronized
  have htab : c.exceptionTable.toList = tableOf [(0, 7, 10, 43)] := vx_table (x := yL_best) B (hts _ List.mem_cons_self)
  generalize va_A [(h0, .inr (8, [.ref xq1, .ref xq2])), (xq1, .inr (7, [.ref xq2, .ref xq3, .ref xq4, .ref xq5, .ref xq6, .ref xq7, .ref xq8, .int 0, .int 0, .int 0, .int 0, .int 0])), (o, .inl (co, 1, .inr (.inl fo)))] s.heap.size = A at I ⊢
  have hl := lv_entry ([.ref h0, .ref o]) (n := 3) (Nat.le_of_ble_eq_true rfl)
  rw [lg_entry_eq]
  generalize (lg_sl ([.ref h0, .ref o]) ++ List.replicate (3 - (lg_sl ([.ref h0, .ref o])).length) Slot.unset).toArray = ls at hl ⊢
  have hl : lv_has ls 3 [(0, .ref h0), (1, .ref o)] := hl
  refine lv_aload_n hx hb dL_best_0 rfl (lv_at hl 1 rfl) ?_
  refine lv_iconst (v := 0) hx hb dL_best_1 (by decide) ?_
  refine lv_aload_n hx hb dL_best_2 rfl (lv_at hl 0 rfl) ?_
  refine z_xcalll (wr := [(o, .inl (co, 1, .inr (.inl fo)))]) (vx_runV (As := []) (rest := [.int 0, .ref o]) ⟨hx, hb, hml, hown, hts⟩ (z_RX8_best l hst dC dI xq1 xq2 xq3 xq4 xq5 xq6 xq7 xq8 h0  s.heap.size) (cwV 0 hts (z_gV z_T.wh mw1032 mw1033 mw1034 mw1 mw1035) rfl rfl rfl (by decide +kernel) ⟨Nat.le_of_ble_eq_true rfl, Nat.le_of_ble_eq_true rfl⟩) (z_preV I [0, 1] [] rfl rfl rfl rfl (ci := 8) (q0 := 0) rfl rfl) rfl rfl hl.1 rfl (lv_room (Nat.le_of_ble_eq_true rfl)) dL_best_3 ⟨Nat.le_of_ble_eq_true rfl, Nat.le_of_ble_eq_true rfl⟩) I [0, 1] [2] rfl rfl (by decide) (by decide) (fun E1 ce1 q1 H locs hE1 I hcell hcv hcl => ?_) (fun r1 u1 H locs hw1 I => ?_)
  · skip
    have I : z_I A dC dI [(o, .inl (co, 1, .inr (.inl fo)))] [(co, .long)] s H _ := I
    subst hE1
    refine vx_widen (Nat.le_refl _) (Nat.le_refl _) ?_
    refine vx_catch (own := RL) (name := "java/util/NoSuchElementException") (E := "java/util/NoSuchElementException") hown [] ⟨0, 7, 10, 43⟩ [] (by rw [htab]; rfl) (fun z hz => nomatch hz) (by decide) (by decide) (hg _ mw673 rfl) (va_Nw.use rfl (I.2.2.2.2.2.2.2.1 _ (List.mem_of_getElem? (i := 3) rfl))) hcell hcv hcl ?_
    refine lv_astore_n (lv' := [(2, .ref q1), (0, .ref h0), (1, .ref o)]) hx hb dL_best_10 rfl hl (by decide) rfl (fun ls hl => ?_)
    refine lv_iconst (v := 1) hx hb dL_best_11 (by decide) ?_
    have I := I.subT (t' := []) [] rfl
    refine W.widen (k := 1) (n := 6) (Nat.le_of_ble_eq_true rfl) (Nat.le_of_ble_eq_true rfl) ?_
    refine vx_ret ?_
    exact z_iret hx hb hr hlocks I ⟨fo, rfl, rfl, (fun h => absurd h (by decide))⟩ dL_best_12
  · skip
    obtain ⟨hu1, hp1⟩ := hw1
    exact hp1.elim
set_option maxHeartbeats 4000000 in
set_option maxRecDepth 100000 in
theorem z_L_bestByAll (l : Launch) (hst : l.stackTraces = false) (dC : Nat → ClassId) (dI : Nat → Nat → Nat) (xq1 : Nat) (xq2 : Nat) (xq9 : Nat) (xq10 : Nat) (xq11 : Nat) (xq12 : Nat) (xq13 : Nat) (xq14 : Nat) (xq15 : Nat) (xq16 : Nat) (xq17 : Nat) (xq18 : Nat) (xq19 : Nat) (xf21 : Nat → Int32) (xc22 : ClassId) (xq32 : Nat) (xc33 : ClassId) (xf34 : Nat → Int64) (h0 : Nat) (o : Nat) (co : ClassId) (fo : Nat → Int64) (sz : Nat) : vx_Met l yL_bestByAll (z_wh yL_bestByAll cL_bestByAll 3 (some .int) [(0, 8, 11, 25), (0, 8, 14, 43)]) ({ frames := 14, cells := 0, slots := 0, locals := 320 }) (z_P dC dI [(h0, .inr (8, [.ref xq1, .ref xq2])), (xq2, .inr (5, [.ref xq9, .ref xq10, .ref xq11, .ref xq12, .ref xq13, .ref xq14, .ref xq15, .ref xq16, .ref xq17, .ref xq18, .ref xq19, .int 0, .int 0])), (xq10, .inl (xc22, 4, .inl xf21)), (xq18, .inr (4, [.ref xq32, .long 1, .long 0])), (xq32, .inl (xc33, 4, .inr (.inl xf34))), (o, .inl (co, 1, .inr (.inl fo)))] [(xc22, .int), (xc33, .long), (co, .long)] sz [.ref h0, .ref o]) (va_Qi (fun (r : Int32) (u : va_W × List (ClassId × FieldType)) => ∃ (xf1 : Nat → Int64), u = ([(o, .inl (co, 1, .inr (.inl xf1)))], []) ∧ r = 0 ∧ (r = 0 → xf1 0 = 0)) (z_B dC dI (va_A [(h0, .inr (8, [.ref xq1, .ref xq2])), (xq2, .inr (5, [.ref xq9, .ref xq10, .ref xq11, .ref xq12, .ref xq13, .ref xq14, .ref xq15, .ref xq16, .ref xq17, .ref xq18, .ref xq19, .int 0, .int 0])), (xq10, .inl (xc22, 4, .inl xf21)), (xq18, .inr (4, [.ref xq32, .long 1, .long 0])), (xq32, .inl (xc33, 4, .inr (.inl xf34))), (o, .inl (co, 1, .inr (.inl fo)))] sz)) (va_A [(h0, .inr (8, [.ref xq1, .ref xq2])), (xq2, .inr (5, [.ref xq9, .ref xq10, .ref xq11, .ref xq12, .ref xq13, .ref xq14, .ref xq15, .ref xq16, .ref xq17, .ref xq18, .ref xq19, .int 0, .int 0])), (xq10, .inl (xc22, 4, .inl xf21)), (xq18, .inr (4, [.ref xq32, .long 1, .long 0])), (xq32, .inl (xc33, 4, .inr (.inl xf34))), (o, .inl (co, 1, .inr (.inl fo)))] sz)) (z_XC (fun _ : String => False) (va_A [(h0, .inr (8, [.ref xq1, .ref xq2])), (xq2, .inr (5, [.ref xq9, .ref xq10, .ref xq11, .ref xq12, .ref xq13, .ref xq14, .ref xq15, .ref xq16, .ref xq17, .ref xq18, .ref xq19, .int 0, .int 0])), (xq10, .inl (xc22, 4, .inl xf21)), (xq18, .inr (4, [.ref xq32, .long 1, .long 0])), (xq32, .inl (xc33, 4, .inr (.inl xf34))), (o, .inl (co, 1, .inr (.inl fo)))] sz)) 0 0 (va_A [(h0, .inr (8, [.ref xq1, .ref xq2])), (xq2, .inr (5, [.ref xq9, .ref xq10, .ref xq11, .ref xq12, .ref xq13, .ref xq14, .ref xq15, .ref xq16, .ref xq17, .ref xq18, .ref xq19, .int 0, .int 0])), (xq10, .inl (xc22, 4, .inl xf21)), (xq18, .inr (4, [.ref xq32, .long 1, .long 0])), (xq32, .inl (xc33, 4, .inr (.inl xf34))), (o, .inl (co, 1, .inr (.inl fo)))] sz) := by
  refine vx_ofWH (cc := cL_bestByAll) (maxL := 3) (ret := (some .int)) (by decide) rfl ?_
  intro p e s m args below meth c s₁ B hml hv
  obtain ⟨rfl, rfl, I⟩ := z_open hv
  have hx := B.exec
  have hb := B.bytes
  have hr := B.returns
  have hts := atoms_spec (ws := z_wh yL_bestByAll cL_bestByAll 3 (some .int) [(0, 8, 11, 25), (0, 8, 14, 43)]) B.pre
  have hg : z_G _ s := z_G.of hts
  have hown : s.vm.findClass RL = some m.cls := findClass_of_methodNamed B.named
  have hlocks := B.notSynchronized
  have htab : c.exceptionTable.toList = tableOf [(0, 8, 11, 25), (0, 8, 14, 43)] := vx_table (x := yL_bestByAll) B (hts _ List.mem_cons_self)
  generalize va_A [(h0, .inr (8, [.ref xq1, .ref xq2])), (xq2, .inr (5, [.ref xq9, .ref xq10, .ref xq11, .ref xq12, .ref xq13, .ref xq14, .ref xq15, .ref xq16, .ref xq17, .ref xq18, .ref xq19, .int 0, .int 0])), (xq10, .inl (xc22, 4, .inl xf21)), (xq18, .inr (4, [.ref xq32, .long 1, .long 0])), (xq32, .inl (xc33, 4, .inr (.inl xf34))), (o, .inl (co, 1, .inr (.inl fo)))] s.heap.size = A at I ⊢
  have hl := lv_entry ([.ref h0, .ref o]) (n := 3) (Nat.le_of_ble_eq_true rfl)
  rw [lg_entry_eq]
  generalize (lg_sl ([.ref h0, .ref o]) ++ List.replicate (3 - (lg_sl ([.ref h0, .ref o])).length) Slot.unset).toArray = ls at hl ⊢
  have hl : lv_has ls 3 [(0, .ref h0), (1, .ref o)] := hl
  refine lv_aload_n hx hb dL_bestByAll_0 rfl (lv_at hl 1 rfl) ?_
  refine lv_iconst (v := 0) hx hb dL_bestByAll_1 (by decide) ?_
  refine lv_aload_n hx hb dL_bestByAll_2 rfl (lv_at hl 0 rfl) ?_
  refine z_xcalli (wr := [(o, .inl (co, 1, .inr (.inl fo)))]) (vx_runV (As := []) (rest := [.int 0, .ref o]) ⟨hx, hb, hml, hown, hts⟩ (z_RX8_bestByAll l hst dC dI xq1 xq2 xq9 xq10 xq11 xq12 xq13 xq14 xq15 xq16 xq17 xq18 xq19 xf21 xc22 xq32 xc33 xf34 h0  s.heap.size) (cwV 0 hts (z_gV z_T.wh mw1047 mw1048 mw1049 mw1 mw1050) rfl rfl rfl (by decide +kernel) ⟨Nat.le_of_ble_eq_true rfl, Nat.le_of_ble_eq_true rfl⟩) (z_preV I [0, 1, 2, 3, 4] [0, 1] rfl rfl rfl rfl (ci := 8) (q0 := 0) rfl rfl) rfl rfl hl.1 rfl (lv_room (Nat.le_of_ble_eq_true rfl)) dL_bestByAll_3 ⟨Nat.le_of_ble_eq_true rfl, Nat.le_of_ble_eq_true rfl⟩) I [0, 1, 2, 3, 4] [5] rfl rfl (by decide) (by decide) (fun E1 ce1 q1 H locs hE1 I hcell hcv hcl => ?_) (fun r1 u1 H locs hw1 I => ?_)
  · skip
    have I : z_I A dC dI [(o, .inl (co, 1, .inr (.inl fo)))] [(xc22, .int), (xc33, .long), (co, .long)] s H _ := I
    exact False.elim hE1
  · skip
    obtain ⟨hu1, hp1⟩ := hw1
    subst hu1
    have I : z_I A dC dI [(o, .inl (co, 1, .inr (.inl fo)))] [(xc22, .int), (xc33, .long), (co, .long)] s H _ := I
    obtain rfl : r1 = 0 := hp1
    refine lv_i2l (v := 0) hx hb dL_bestByAll_6 (by decide) ?_
    refine z_last hx hb I 0 2 rfl rfl (by unfold vp_in; decide) dL_bestByAll_7 (fun g2 H locs eg2 I => ?_)
    have I : z_I A dC dI [(o, .inl (co, 1, .inr (.inl g2)))] [(xc22, .int), (xc33, .long), (co, .long)] s H _ := I
    have kg2_0 : g2 0 = 0 := by rw [eg2]; rfl
    refine lv_goto (tgt := 17) hx hb dL_bestByAll_8 (by decide) ?_
    refine lv_iconst (v := 0) hx hb dL_bestByAll_17 (by decide) ?_
    have I := I.subT (t' := []) [] rfl
    refine W.widen (k := 0) (n := 0) (Nat.le_of_ble_eq_true rfl) (Nat.le_of_ble_eq_true rfl) ?_
    refine vx_ret ?_
    exact z_iret hx hb hr hlocks I ⟨g2, rfl, rfl, (fun _ => kg2_0)⟩ dL_bestByAll_18
set_option maxHeartbeats 4000000 in
set_option maxRecDepth 100000 in
theorem z_L_bound (l : Launch) (hst : l.stackTraces = false) (dC : Nat → ClassId) (dI : Nat → Nat → Nat) (xq1 : Nat) (xq2 : Nat) (xq3 : Nat) (xq4 : Nat) (xq5 : Nat) (xq6 : Nat) (xq7 : Nat) (xq8 : Nat) (h0 : Nat) (o : Nat) (co : ClassId) (fo : Nat → Int64) (sz : Nat) : vx_Met l yL_bound (z_wh yL_bound cL_bound 3 (some .int) [(0, 7, 10, 43)]) ({ frames := 14, cells := 1, slots := 6, locals := 320 }) (z_P dC dI [(h0, .inr (8, [.ref xq1, .ref xq2])), (xq1, .inr (7, [.ref xq2, .ref xq3, .ref xq4, .ref xq5, .ref xq6, .ref xq7, .ref xq8, .int 0, .int 0, .int 0, .int 0, .int 0])), (o, .inl (co, 1, .inr (.inl fo)))] [(co, .long)] sz [.ref h0, .ref o]) (va_Qi (fun (r : Int32) (u : va_W × List (ClassId × FieldType)) => ∃ (xf1 : Nat → Int64), u = ([(o, .inl (co, 1, .inr (.inl xf1)))], []) ∧ r = 1 ∧ (r = 0 → xf1 0 = 0)) (z_B dC dI (va_A [(h0, .inr (8, [.ref xq1, .ref xq2])), (xq1, .inr (7, [.ref xq2, .ref xq3, .ref xq4, .ref xq5, .ref xq6, .ref xq7, .ref xq8, .int 0, .int 0, .int 0, .int 0, .int 0])), (o, .inl (co, 1, .inr (.inl fo)))] sz)) (va_A [(h0, .inr (8, [.ref xq1, .ref xq2])), (xq1, .inr (7, [.ref xq2, .ref xq3, .ref xq4, .ref xq5, .ref xq6, .ref xq7, .ref xq8, .int 0, .int 0, .int 0, .int 0, .int 0])), (o, .inl (co, 1, .inr (.inl fo)))] sz)) (z_XC (fun _ : String => False) (va_A [(h0, .inr (8, [.ref xq1, .ref xq2])), (xq1, .inr (7, [.ref xq2, .ref xq3, .ref xq4, .ref xq5, .ref xq6, .ref xq7, .ref xq8, .int 0, .int 0, .int 0, .int 0, .int 0])), (o, .inl (co, 1, .inr (.inl fo)))] sz)) 1 6 (va_A [(h0, .inr (8, [.ref xq1, .ref xq2])), (xq1, .inr (7, [.ref xq2, .ref xq3, .ref xq4, .ref xq5, .ref xq6, .ref xq7, .ref xq8, .int 0, .int 0, .int 0, .int 0, .int 0])), (o, .inl (co, 1, .inr (.inl fo)))] sz) := by
  refine vx_ofWH (cc := cL_bound) (maxL := 3) (ret := (some .int)) (by decide) rfl ?_
  intro p e s m args below meth c s₁ B hml hv
  obtain ⟨rfl, rfl, I⟩ := z_open hv
  have hx := B.exec
  have hb := B.bytes
  have hr := B.returns
  have hts := atoms_spec (ws := z_wh yL_bound cL_bound 3 (some .int) [(0, 7, 10, 43)]) B.pre
  have hg : z_G _ s := z_G.of hts
  have hown : s.vm.findClass RL = some m.cls := findClass_of_methodNamed B.named
  have hlocks := B.notSynchronized
  have htab : c.exceptionTable.toList = tableOf [(0, 7, 10, 43)] := vx_table (x := yL_bound) B (hts _ List.mem_cons_self)
  generalize va_A [(h0, .inr (8, [.ref xq1, .ref xq2])), (xq1, .inr (7, [.ref xq2, .ref xq3, .ref xq4, .ref xq5, .ref xq6, .ref xq7, .ref xq8, .int 0, .int 0, .int 0, .int 0, .int 0])), (o, .inl (co, 1, .inr (.inl fo)))] s.heap.size = A at I ⊢
  have hl := lv_entry ([.ref h0, .ref o]) (n := 3) (Nat.le_of_ble_eq_true rfl)
  rw [lg_entry_eq]
  generalize (lg_sl ([.ref h0, .ref o]) ++ List.replicate (3 - (lg_sl ([.ref h0, .ref o])).length) Slot.unset).toArray = ls at hl ⊢
  have hl : lv_has ls 3 [(0, .ref h0), (1, .ref o)] := hl
  refine lv_aload_n hx hb dL_bound_0 rfl (lv_at hl 1 rfl) ?_
  refine lv_iconst (v := 0) hx hb dL_bound_1 (by decide) ?_
  refine lv_aload_n hx hb dL_bound_2 rfl (lv_at hl 0 rfl) ?_
  refine z_xcalll (wr := [(o, .inl (co, 1, .inr (.inl fo)))]) (vx_runV (As := []) (rest := [.int 0, .ref o]) ⟨hx, hb, hml, hown, hts⟩ (z_RX8_bound l hst dC dI xq1 xq2 xq3 xq4 xq5 xq6 xq7 xq8 h0  s.heap.size) (cwV 0 hts (z_gV z_T.wh mw979 mw980 mw981 mw1 mw982) rfl rfl rfl (by decide +kernel) ⟨Nat.le_of_ble_eq_true rfl, Nat.le_of_ble_eq_true rfl⟩) (z_preV I [0, 1] [] rfl rfl rfl rfl (ci := 8) (q0 := 0) rfl rfl) rfl rfl hl.1 rfl (lv_room (Nat.le_of_ble_eq_true rfl)) dL_bound_3 ⟨Nat.le_of_ble_eq_true rfl, Nat.le_of_ble_eq_true rfl⟩) I [0, 1] [2] rfl rfl (by decide) (by decide) (fun E1 ce1 q1 H locs hE1 I hcell hcv hcl => ?_) (fun r1 u1 H locs hw1 I => ?_)
  · skip
    have I : z_I A dC dI [(o, .inl (co, 1, .inr (.inl fo)))] [(co, .long)] s H _ := I
    subst hE1
    refine vx_widen (Nat.le_refl _) (Nat.le_refl _) ?_
    refine vx_catch (own := RL) (name := "java/util/NoSuchElementException") (E := "java/util/NoSuchElementException") hown [] ⟨0, 7, 10, 43⟩ [] (by rw [htab]; rfl) (fun z hz => nomatch hz) (by decide) (by decide) (hg _ mw673 rfl) (va_Nw.use rfl (I.2.2.2.2.2.2.2.1 _ (List.mem_of_getElem? (i := 3) rfl))) hcell hcv hcl ?_
    refine lv_astore_n (lv' := [(2, .ref q1), (0, .ref h0), (1, .ref o)]) hx hb dL_bound_10 rfl hl (by decide) rfl (fun ls hl => ?_)
    refine lv_iconst (v := 1) hx hb dL_bound_11 (by decide) ?_
    have I := I.subT (t' := []) [] rfl
    refine W.widen (k := 1) (n := 6) (Nat.le_of_ble_eq_true rfl) (Nat.le_of_ble_eq_true rfl) ?_
    refine vx_ret ?_
    exact z_iret hx hb hr hlocks I ⟨fo, rfl, rfl, (fun h => absurd h (by decide))⟩ dL_bound_12
  · skip
    obtain ⟨hu1, hp1⟩ := hw1
    exact hp1.elim
set_option maxHeartbeats 4000000 in
set_option maxRecDepth 100000 in
theorem z_L_coefficient (l : Launch) (hst : l.stackTraces = false) (dC : Nat → ClassId) (dI : Nat → Nat → Nat) (xq1 : Nat) (xq2 : Nat) (xq3 : Nat) (xq4 : Nat) (xq5 : Nat) (xq6 : Nat) (xq7 : Nat) (xq8 : Nat) (h0 : Nat) (o : Nat) (co : ClassId) (fo : Nat → Int64) (p0 : Int32) (p1 : Int32) (sz : Nat) : vx_Met l yL_coefficient (z_wh yL_coefficient cL_coefficient 5 (some .int) [(0, 10, 13, 31)]) ({ frames := 12, cells := 1, slots := 6, locals := 260 }) (z_P dC dI [(h0, .inr (8, [.ref xq1, .ref xq2])), (xq1, .inr (7, [.ref xq2, .ref xq3, .ref xq4, .ref xq5, .ref xq6, .ref xq7, .ref xq8, .int 0, .int 0, .int 0, .int 0, .int 0])), (o, .inl (co, 1, .inr (.inl fo)))] [(co, .long)] sz [.ref h0, .int p0, .int p1, .ref o]) (va_Qi (fun (r : Int32) (u : va_W × List (ClassId × FieldType)) => ∃ (xf1 : Nat → Int64), u = ([(o, .inl (co, 1, .inr (.inl xf1)))], []) ∧ r = 1 ∧ (r = 0 → xf1 0 = 0)) (z_B dC dI (va_A [(h0, .inr (8, [.ref xq1, .ref xq2])), (xq1, .inr (7, [.ref xq2, .ref xq3, .ref xq4, .ref xq5, .ref xq6, .ref xq7, .ref xq8, .int 0, .int 0, .int 0, .int 0, .int 0])), (o, .inl (co, 1, .inr (.inl fo)))] sz)) (va_A [(h0, .inr (8, [.ref xq1, .ref xq2])), (xq1, .inr (7, [.ref xq2, .ref xq3, .ref xq4, .ref xq5, .ref xq6, .ref xq7, .ref xq8, .int 0, .int 0, .int 0, .int 0, .int 0])), (o, .inl (co, 1, .inr (.inl fo)))] sz)) (z_XC (fun _ : String => False) (va_A [(h0, .inr (8, [.ref xq1, .ref xq2])), (xq1, .inr (7, [.ref xq2, .ref xq3, .ref xq4, .ref xq5, .ref xq6, .ref xq7, .ref xq8, .int 0, .int 0, .int 0, .int 0, .int 0])), (o, .inl (co, 1, .inr (.inl fo)))] sz)) 1 6 (va_A [(h0, .inr (8, [.ref xq1, .ref xq2])), (xq1, .inr (7, [.ref xq2, .ref xq3, .ref xq4, .ref xq5, .ref xq6, .ref xq7, .ref xq8, .int 0, .int 0, .int 0, .int 0, .int 0])), (o, .inl (co, 1, .inr (.inl fo)))] sz) := by
  refine vx_ofWH (cc := cL_coefficient) (maxL := 5) (ret := (some .int)) (by decide) rfl ?_
  intro p e s m args below meth c s₁ B hml hv
  obtain ⟨rfl, rfl, I⟩ := z_open hv
  have hx := B.exec
  have hb := B.bytes
  have hr := B.returns
  have hts := atoms_spec (ws := z_wh yL_coefficient cL_coefficient 5 (some .int) [(0, 10, 13, 31)]) B.pre
  have hg : z_G _ s := z_G.of hts
  have hown : s.vm.findClass RL = some m.cls := findClass_of_methodNamed B.named
  have hlocks := B.notSynchronized
  have htab : c.exceptionTable.toList = tableOf [(0, 10, 13, 31)] := vx_table (x := yL_coefficient) B (hts _ List.mem_cons_self)
  generalize va_A [(h0, .inr (8, [.ref xq1, .ref xq2])), (xq1, .inr (7, [.ref xq2, .ref xq3, .ref xq4, .ref xq5, .ref xq6, .ref xq7, .ref xq8, .int 0, .int 0, .int 0, .int 0, .int 0])), (o, .inl (co, 1, .inr (.inl fo)))] s.heap.size = A at I ⊢
  have hl := lv_entry ([.ref h0, .int p0, .int p1, .ref o]) (n := 5) (Nat.le_of_ble_eq_true rfl)
  rw [lg_entry_eq]
  generalize (lg_sl ([.ref h0, .int p0, .int p1, .ref o]) ++ List.replicate (5 - (lg_sl ([.ref h0, .int p0, .int p1, .ref o])).length) Slot.unset).toArray = ls at hl ⊢
  have hl : lv_has ls 5 [(0, .ref h0), (1, .int p0), (2, .int p1), (3, .ref o)] := hl
  refine lv_aload_n hx hb dL_coefficient_0 rfl (lv_at hl 3 rfl) ?_
  refine lv_iconst (v := 0) hx hb dL_coefficient_1 (by decide) ?_
  refine lv_aload_n hx hb dL_coefficient_2 rfl (lv_at hl 0 rfl) ?_
  refine lv_iload_n hx hb dL_coefficient_3 rfl (lv_at hl 1 rfl) ?_
  refine lv_iload_n hx hb dL_coefficient_4 rfl (lv_at hl 2 rfl) ?_
  refine z_xcalli (wr := [(o, .inl (co, 1, .inr (.inl fo)))]) (vx_runV (As := [.int p0, .int p1]) (rest := [.int 0, .ref o]) ⟨hx, hb, hml, hown, hts⟩ (z_RX8_coefficient l hst dC dI xq1 xq2 xq3 xq4 xq5 xq6 xq7 xq8 h0 p0 p1  s.heap.size) (cwV 2 hts (z_gV z_T.wh mw1182 mw1183 mw1184 mw1 mw1185) rfl rfl rfl (by decide +kernel) ⟨Nat.le_of_ble_eq_true rfl, Nat.le_of_ble_eq_true rfl⟩) (z_preV I [0, 1] [] rfl rfl rfl rfl (ci := 8) (q0 := 0) rfl rfl) rfl rfl hl.1 rfl (lv_room (Nat.le_of_ble_eq_true rfl)) dL_coefficient_5 ⟨Nat.le_of_ble_eq_true rfl, Nat.le_of_ble_eq_true rfl⟩) I [0, 1] [2] rfl rfl (by decide) (by decide) (fun E1 ce1 q1 H locs hE1 I hcell hcv hcl => ?_) (fun r1 u1 H locs hw1 I => ?_)
  · skip
    have I : z_I A dC dI [(o, .inl (co, 1, .inr (.inl fo)))] [(co, .long)] s H _ := I
    subst hE1
    refine vx_widen (Nat.le_refl _) (Nat.le_refl _) ?_
    refine vx_catch (own := RL) (name := "java/lang/IndexOutOfBoundsException") (E := "java/lang/IndexOutOfBoundsException") hown [] ⟨0, 10, 13, 31⟩ [] (by rw [htab]; rfl) (fun z hz => nomatch hz) (by decide) (by decide) (hg _ mw610 rfl) (va_Nw.use rfl (I.2.2.2.2.2.2.2.1 _ (List.mem_of_getElem? (i := 2) rfl))) hcell hcv hcl ?_
    refine lv_astore (lv' := [(4, .ref q1), (0, .ref h0), (1, .int p0), (2, .int p1), (3, .ref o)]) hx hb dL_coefficient_13 hl (by decide) rfl (fun ls hl => ?_)
    refine lv_iconst (v := 1) hx hb dL_coefficient_15 (by decide) ?_
    have I := I.subT (t' := []) [] rfl
    refine W.widen (k := 1) (n := 6) (Nat.le_of_ble_eq_true rfl) (Nat.le_of_ble_eq_true rfl) ?_
    refine vx_ret ?_
    exact z_iret hx hb hr hlocks I ⟨fo, rfl, rfl, (fun h => absurd h (by decide))⟩ dL_coefficient_16
  · skip
    obtain ⟨hu1, hp1⟩ := hw1
    exact hp1.elim
set_option maxHeartbeats 4000000 in
set_option maxRecDepth 100000 in
theorem z_L_cutByCover (l : Launch) (hst : l.stackTraces = false) (dC : Nat → ClassId) (dI : Nat → Nat → Nat) (xq1 : Nat) (xq2 : Nat) (xq9 : Nat) (xq10 : Nat) (xq11 : Nat) (xq12 : Nat) (xq13 : Nat) (xq14 : Nat) (xq15 : Nat) (xq16 : Nat) (xq17 : Nat) (xq18 : Nat) (xq19 : Nat) (h0 : Nat) (o : Nat) (co : ClassId) (fo : Nat → Int64) (p0 : Int32) (sz : Nat) : vx_Met l yL_cutByCover (z_wh yL_cutByCover cL_cutByCover 4 (some .int) [(0, 9, 12, 31), (0, 9, 15, 43), (0, 9, 18, 15), (0, 9, 21, 25)]) ({ frames := 12, cells := 1, slots := 6, locals := 260 }) (z_P dC dI [(h0, .inr (8, [.ref xq1, .ref xq2])), (xq2, .inr (5, [.ref xq9, .ref xq10, .ref xq11, .ref xq12, .ref xq13, .ref xq14, .ref xq15, .ref xq16, .ref xq17, .ref xq18, .ref xq19, .int 0, .int 0])), (o, .inl (co, 1, .inr (.inl fo)))] [(co, .long)] sz [.ref h0, .int p0, .ref o]) (va_Qi (fun (r : Int32) (u : va_W × List (ClassId × FieldType)) => ∃ (xf1 : Nat → Int64), u = ([(o, .inl (co, 1, .inr (.inl xf1)))], []) ∧ r = 1 ∧ (r = 0 → xf1 0 = 0)) (z_B dC dI (va_A [(h0, .inr (8, [.ref xq1, .ref xq2])), (xq2, .inr (5, [.ref xq9, .ref xq10, .ref xq11, .ref xq12, .ref xq13, .ref xq14, .ref xq15, .ref xq16, .ref xq17, .ref xq18, .ref xq19, .int 0, .int 0])), (o, .inl (co, 1, .inr (.inl fo)))] sz)) (va_A [(h0, .inr (8, [.ref xq1, .ref xq2])), (xq2, .inr (5, [.ref xq9, .ref xq10, .ref xq11, .ref xq12, .ref xq13, .ref xq14, .ref xq15, .ref xq16, .ref xq17, .ref xq18, .ref xq19, .int 0, .int 0])), (o, .inl (co, 1, .inr (.inl fo)))] sz)) (z_XC (fun _ : String => False) (va_A [(h0, .inr (8, [.ref xq1, .ref xq2])), (xq2, .inr (5, [.ref xq9, .ref xq10, .ref xq11, .ref xq12, .ref xq13, .ref xq14, .ref xq15, .ref xq16, .ref xq17, .ref xq18, .ref xq19, .int 0, .int 0])), (o, .inl (co, 1, .inr (.inl fo)))] sz)) 1 6 (va_A [(h0, .inr (8, [.ref xq1, .ref xq2])), (xq2, .inr (5, [.ref xq9, .ref xq10, .ref xq11, .ref xq12, .ref xq13, .ref xq14, .ref xq15, .ref xq16, .ref xq17, .ref xq18, .ref xq19, .int 0, .int 0])), (o, .inl (co, 1, .inr (.inl fo)))] sz) := by
  refine vx_ofWH (cc := cL_cutByCover) (maxL := 4) (ret := (some .int)) (by decide) rfl ?_
  intro p e s m args below meth c s₁ B hml hv
  obtain ⟨rfl, rfl, I⟩ := z_open hv
  have hx := B.exec
  have hb := B.bytes
  have hr := B.returns
  have hts := atoms_spec (ws := z_wh yL_cutByCover cL_cutByCover 4 (some .int) [(0, 9, 12, 31), (0, 9, 15, 43), (0, 9, 18, 15), (0, 9, 21, 25)]) B.pre
  have hg : z_G _ s := z_G.of hts
  have hown : s.vm.findClass RL = some m.cls := findClass_of_methodNamed B.named
  have hlocks := B.notSynchronized
  have htab : c.exceptionTable.toList = tableOf [(0, 9, 12, 31), (0, 9, 15, 43), (0, 9, 18, 15), (0, 9, 21, 25)] := vx_table (x := yL_cutByCover) B (hts _ List.mem_cons_self)
  generalize va_A [(h0, .inr (8, [.ref xq1, .ref xq2])), (xq2, .inr (5, [.ref xq9, .ref xq10, .ref xq11, .ref xq12, .ref xq13, .ref xq14, .ref xq15, .ref xq16, .ref xq17, .ref xq18, .ref xq19, .int 0, .int 0])), (o, .inl (co, 1, .inr (.inl fo)))] s.heap.size = A at I ⊢
  have hl := lv_entry ([.ref h0, .int p0, .ref o]) (n := 4) (Nat.le_of_ble_eq_true rfl)
  rw [lg_entry_eq]
  generalize (lg_sl ([.ref h0, .int p0, .ref o]) ++ List.replicate (4 - (lg_sl ([.ref h0, .int p0, .ref o])).length) Slot.unset).toArray = ls at hl ⊢
  have hl : lv_has ls 4 [(0, .ref h0), (1, .int p0), (2, .ref o)] := hl
  refine lv_aload_n hx hb dL_cutByCover_0 rfl (lv_at hl 2 rfl) ?_
  refine lv_iconst (v := 0) hx hb dL_cutByCover_1 (by decide) ?_
  refine lv_aload_n hx hb dL_cutByCover_2 rfl (lv_at hl 0 rfl) ?_
  refine lv_iload_n hx hb dL_cutByCover_3 rfl (lv_at hl 1 rfl) ?_
  refine z_xcalli (wr := [(o, .inl (co, 1, .inr (.inl fo)))]) (vx_runV (As := [.int p0]) (rest := [.int 0, .ref o]) ⟨hx, hb, hml, hown, hts⟩ (z_RX8_cutByCover l hst dC dI xq1 xq2 xq9 xq10 xq11 xq12 xq13 xq14 xq15 xq16 xq17 xq18 xq19 h0 p0  s.heap.size) (cwV 1 hts (z_gV z_T.wh mw1099 mw1100 mw1101 mw1 mw1102) rfl rfl rfl (by decide +kernel) ⟨Nat.le_of_ble_eq_true rfl, Nat.le_of_ble_eq_true rfl⟩) (z_preV I [0, 1] [] rfl rfl rfl rfl (ci := 8) (q0 := 0) rfl rfl) rfl rfl hl.1 rfl (lv_room (Nat.le_of_ble_eq_true rfl)) dL_cutByCover_4 ⟨Nat.le_of_ble_eq_true rfl, Nat.le_of_ble_eq_true rfl⟩) I [0, 1] [2] rfl rfl (by decide) (by decide) (fun E1 ce1 q1 H locs hE1 I hcell hcv hcl => ?_) (fun r1 u1 H locs hw1 I => ?_)
  · skip
    have I : z_I A dC dI [(o, .inl (co, 1, .inr (.inl fo)))] [(co, .long)] s H _ := I
    subst hE1
    refine vx_widen (Nat.le_refl _) (Nat.le_refl _) ?_
    refine vx_catch (own := RL) (name := "java/lang/IndexOutOfBoundsException") (E := "java/lang/IndexOutOfBoundsException") hown [] ⟨0, 9, 12, 31⟩ [⟨0, 9, 15, 43⟩, ⟨0, 9, 18, 15⟩, ⟨0, 9, 21, 25⟩] (by rw [htab]; rfl) (fun z hz => nomatch hz) (by decide) (by decide) (hg _ mw610 rfl) (va_Nw.use rfl (I.2.2.2.2.2.2.2.1 _ (List.mem_of_getElem? (i := 2) rfl))) hcell hcv hcl ?_
    refine lv_astore_n (lv' := [(3, .ref q1), (0, .ref h0), (1, .int p0), (2, .ref o)]) hx hb dL_cutByCover_12 rfl hl (by decide) rfl (fun ls hl => ?_)
    refine lv_iconst (v := 1) hx hb dL_cutByCover_13 (by decide) ?_
    have I := I.subT (t' := []) [] rfl
    refine W.widen (k := 1) (n := 6) (Nat.le_of_ble_eq_true rfl) (Nat.le_of_ble_eq_true rfl) ?_
    refine vx_ret ?_
    exact z_iret hx hb hr hlocks I ⟨fo, rfl, rfl, (fun h => absurd h (by decide))⟩ dL_cutByCover_14
  · skip
    obtain ⟨hu1, hp1⟩ := hw1
    exact hp1.elim
set_option maxHeartbeats 4000000 in
set_option maxRecDepth 100000 in
theorem z_L_cutByLikeness (l : Launch) (hst : l.stackTraces = false) (dC : Nat → ClassId) (dI : Nat → Nat → Nat) (xq1 : Nat) (xq2 : Nat) (xq9 : Nat) (xq10 : Nat) (xq11 : Nat) (xq12 : Nat) (xq13 : Nat) (xq14 : Nat) (xq15 : Nat) (xq16 : Nat) (xq17 : Nat) (xq18 : Nat) (xq19 : Nat) (h0 : Nat) (o : Nat) (co : ClassId) (fo : Nat → Int64) (p0 : Int32) (p1 : Int32) (sz : Nat) : vx_Met l yL_cutByLikeness (z_wh yL_cutByLikeness cL_cutByLikeness 5 (some .int) [(0, 10, 13, 31), (0, 10, 17, 13), (0, 10, 21, 15), (0, 10, 25, 25)]) ({ frames := 12, cells := 1, slots := 6, locals := 260 }) (z_P dC dI [(h0, .inr (8, [.ref xq1, .ref xq2])), (xq2, .inr (5, [.ref xq9, .ref xq10, .ref xq11, .ref xq12, .ref xq13, .ref xq14, .ref xq15, .ref xq16, .ref xq17, .ref xq18, .ref xq19, .int 0, .int 0])), (o, .inl (co, 1, .inr (.inl fo)))] [(co, .long)] sz [.ref h0, .int p0, .int p1, .ref o]) (va_Qi (fun (r : Int32) (u : va_W × List (ClassId × FieldType)) => ∃ (xf1 : Nat → Int64), u = ([(o, .inl (co, 1, .inr (.inl xf1)))], []) ∧ r = 1 ∧ (r = 0 → xf1 0 = 0)) (z_B dC dI (va_A [(h0, .inr (8, [.ref xq1, .ref xq2])), (xq2, .inr (5, [.ref xq9, .ref xq10, .ref xq11, .ref xq12, .ref xq13, .ref xq14, .ref xq15, .ref xq16, .ref xq17, .ref xq18, .ref xq19, .int 0, .int 0])), (o, .inl (co, 1, .inr (.inl fo)))] sz)) (va_A [(h0, .inr (8, [.ref xq1, .ref xq2])), (xq2, .inr (5, [.ref xq9, .ref xq10, .ref xq11, .ref xq12, .ref xq13, .ref xq14, .ref xq15, .ref xq16, .ref xq17, .ref xq18, .ref xq19, .int 0, .int 0])), (o, .inl (co, 1, .inr (.inl fo)))] sz)) (z_XC (fun _ : String => False) (va_A [(h0, .inr (8, [.ref xq1, .ref xq2])), (xq2, .inr (5, [.ref xq9, .ref xq10, .ref xq11, .ref xq12, .ref xq13, .ref xq14, .ref xq15, .ref xq16, .ref xq17, .ref xq18, .ref xq19, .int 0, .int 0])), (o, .inl (co, 1, .inr (.inl fo)))] sz)) 1 6 (va_A [(h0, .inr (8, [.ref xq1, .ref xq2])), (xq2, .inr (5, [.ref xq9, .ref xq10, .ref xq11, .ref xq12, .ref xq13, .ref xq14, .ref xq15, .ref xq16, .ref xq17, .ref xq18, .ref xq19, .int 0, .int 0])), (o, .inl (co, 1, .inr (.inl fo)))] sz) := by
  refine vx_ofWH (cc := cL_cutByLikeness) (maxL := 5) (ret := (some .int)) (by decide) rfl ?_
  intro p e s m args below meth c s₁ B hml hv
  obtain ⟨rfl, rfl, I⟩ := z_open hv
  have hx := B.exec
  have hb := B.bytes
  have hr := B.returns
  have hts := atoms_spec (ws := z_wh yL_cutByLikeness cL_cutByLikeness 5 (some .int) [(0, 10, 13, 31), (0, 10, 17, 13), (0, 10, 21, 15), (0, 10, 25, 25)]) B.pre
  have hg : z_G _ s := z_G.of hts
  have hown : s.vm.findClass RL = some m.cls := findClass_of_methodNamed B.named
  have hlocks := B.notSynchronized
  have htab : c.exceptionTable.toList = tableOf [(0, 10, 13, 31), (0, 10, 17, 13), (0, 10, 21, 15), (0, 10, 25, 25)] := vx_table (x := yL_cutByLikeness) B (hts _ List.mem_cons_self)
  generalize va_A [(h0, .inr (8, [.ref xq1, .ref xq2])), (xq2, .inr (5, [.ref xq9, .ref xq10, .ref xq11, .ref xq12, .ref xq13, .ref xq14, .ref xq15, .ref xq16, .ref xq17, .ref xq18, .ref xq19, .int 0, .int 0])), (o, .inl (co, 1, .inr (.inl fo)))] s.heap.size = A at I ⊢
  have hl := lv_entry ([.ref h0, .int p0, .int p1, .ref o]) (n := 5) (Nat.le_of_ble_eq_true rfl)
  rw [lg_entry_eq]
  generalize (lg_sl ([.ref h0, .int p0, .int p1, .ref o]) ++ List.replicate (5 - (lg_sl ([.ref h0, .int p0, .int p1, .ref o])).length) Slot.unset).toArray = ls at hl ⊢
  have hl : lv_has ls 5 [(0, .ref h0), (1, .int p0), (2, .int p1), (3, .ref o)] := hl
  refine lv_aload_n hx hb dL_cutByLikeness_0 rfl (lv_at hl 3 rfl) ?_
  refine lv_iconst (v := 0) hx hb dL_cutByLikeness_1 (by decide) ?_
  refine lv_aload_n hx hb dL_cutByLikeness_2 rfl (lv_at hl 0 rfl) ?_
  refine lv_iload_n hx hb dL_cutByLikeness_3 rfl (lv_at hl 1 rfl) ?_
  refine lv_iload_n hx hb dL_cutByLikeness_4 rfl (lv_at hl 2 rfl) ?_
  refine z_xcalli (wr := [(o, .inl (co, 1, .inr (.inl fo)))]) (vx_runV (As := [.int p0, .int p1]) (rest := [.int 0, .ref o]) ⟨hx, hb, hml, hown, hts⟩ (z_RX8_cutByLikeness l hst dC dI xq1 xq2 xq9 xq10 xq11 xq12 xq13 xq14 xq15 xq16 xq17 xq18 xq19 h0 p0 p1  s.heap.size) (cwV 2 hts (z_gV z_T.wh mw1156 mw1157 mw1158 mw1 mw1159) rfl rfl rfl (by decide +kernel) ⟨Nat.le_of_ble_eq_true rfl, Nat.le_of_ble_eq_true rfl⟩) (z_preV I [0, 1] [] rfl rfl rfl rfl (ci := 8) (q0 := 0) rfl rfl) rfl rfl hl.1 rfl (lv_room (Nat.le_of_ble_eq_true rfl)) dL_cutByLikeness_5 ⟨Nat.le_of_ble_eq_true rfl, Nat.le_of_ble_eq_true rfl⟩) I [0, 1] [2] rfl rfl (by decide) (by decide) (fun E1 ce1 q1 H locs hE1 I hcell hcv hcl => ?_) (fun r1 u1 H locs hw1 I => ?_)
  · skip
    have I : z_I A dC dI [(o, .inl (co, 1, .inr (.inl fo)))] [(co, .long)] s H _ := I
    subst hE1
    refine vx_widen (Nat.le_refl _) (Nat.le_refl _) ?_
    refine vx_catch (own := RL) (name := "java/lang/IndexOutOfBoundsException") (E := "java/lang/IndexOutOfBoundsException") hown [] ⟨0, 10, 13, 31⟩ [⟨0, 10, 17, 13⟩, ⟨0, 10, 21, 15⟩, ⟨0, 10, 25, 25⟩] (by rw [htab]; rfl) (fun z hz => nomatch hz) (by decide) (by decide) (hg _ mw610 rfl) (va_Nw.use rfl (I.2.2.2.2.2.2.2.1 _ (List.mem_of_getElem? (i := 2) rfl))) hcell hcv hcl ?_
    refine lv_astore (lv' := [(4, .ref q1), (0, .ref h0), (1, .int p0), (2, .int p1), (3, .ref o)]) hx hb dL_cutByLikeness_13 hl (by decide) rfl (fun ls hl => ?_)
    refine lv_iconst (v := 1) hx hb dL_cutByLikeness_15 (by decide) ?_
    have I := I.subT (t' := []) [] rfl
    refine W.widen (k := 1) (n := 6) (Nat.le_of_ble_eq_true rfl) (Nat.le_of_ble_eq_true rfl) ?_
    refine vx_ret ?_
    exact z_iret hx hb hr hlocks I ⟨fo, rfl, rfl, (fun h => absurd h (by decide))⟩ dL_cutByLikeness_16
  · skip
    obtain ⟨hu1, hp1⟩ := hw1
    exact hp1.elim
set_option maxHeartbeats 4000000 in
set_option maxRecDepth 100000 in
theorem z_L_cutByRounding (l : Launch) (hst : l.stackTraces = false) (dC : Nat → ClassId) (dI : Nat → Nat → Nat) (xq1 : Nat) (xq2 : Nat) (xq3 : Nat) (xq4 : Nat) (xq5 : Nat) (xq6 : Nat) (xq7 : Nat) (xq8 : Nat) (h0 : Nat) (o : Nat) (co : ClassId) (fo : Nat → Int64) (p0 : Int32) (p1 : Int32) (p2 : Int32) (sz : Nat) : vx_Met l yL_cutByRounding (z_wh yL_cutByRounding cL_cutByRounding 6 (some .int) [(0, 12, 15, 31), (0, 12, 19, 13), (0, 12, 23, 15), (0, 12, 27, 25)]) ({ frames := 12, cells := 1, slots := 6, locals := 260 }) (z_P dC dI [(h0, .inr (8, [.ref xq1, .ref xq2])), (xq1, .inr (7, [.ref xq2, .ref xq3, .ref xq4, .ref xq5, .ref xq6, .ref xq7, .ref xq8, .int 0, .int 0, .int 0, .int 0, .int 0])), (o, .inl (co, 1, .inr (.inl fo)))] [(co, .long)] sz [.ref h0, .int p0, .int p1, .int p2, .ref o]) (va_Qi (fun (r : Int32) (u : va_W × List (ClassId × FieldType)) => ∃ (xf1 : Nat → Int64), u = ([(o, .inl (co, 1, .inr (.inl xf1)))], []) ∧ r = 1 ∧ (r = 0 → xf1 0 = 0)) (z_B dC dI (va_A [(h0, .inr (8, [.ref xq1, .ref xq2])), (xq1, .inr (7, [.ref xq2, .ref xq3, .ref xq4, .ref xq5, .ref xq6, .ref xq7, .ref xq8, .int 0, .int 0, .int 0, .int 0, .int 0])), (o, .inl (co, 1, .inr (.inl fo)))] sz)) (va_A [(h0, .inr (8, [.ref xq1, .ref xq2])), (xq1, .inr (7, [.ref xq2, .ref xq3, .ref xq4, .ref xq5, .ref xq6, .ref xq7, .ref xq8, .int 0, .int 0, .int 0, .int 0, .int 0])), (o, .inl (co, 1, .inr (.inl fo)))] sz)) (z_XC (fun _ : String => False) (va_A [(h0, .inr (8, [.ref xq1, .ref xq2])), (xq1, .inr (7, [.ref xq2, .ref xq3, .ref xq4, .ref xq5, .ref xq6, .ref xq7, .ref xq8, .int 0, .int 0, .int 0, .int 0, .int 0])), (o, .inl (co, 1, .inr (.inl fo)))] sz)) 1 6 (va_A [(h0, .inr (8, [.ref xq1, .ref xq2])), (xq1, .inr (7, [.ref xq2, .ref xq3, .ref xq4, .ref xq5, .ref xq6, .ref xq7, .ref xq8, .int 0, .int 0, .int 0, .int 0, .int 0])), (o, .inl (co, 1, .inr (.inl fo)))] sz) := by
  refine vx_ofWH (cc := cL_cutByRounding) (maxL := 6) (ret := (some .int)) (by decide) rfl ?_
  intro p e s m args below meth c s₁ B hml hv
  obtain ⟨rfl, rfl, I⟩ := z_open hv
  have hx := B.exec
  have hb := B.bytes
  have hr := B.returns
  have hts := atoms_spec (ws := z_wh yL_cutByRounding cL_cutByRounding 6 (some .int) [(0, 12, 15, 31), (0, 12, 19, 13), (0, 12, 23, 15), (0, 12, 27, 25)]) B.pre
  have hg : z_G _ s := z_G.of hts
  have hown : s.vm.findClass RL = some m.cls := findClass_of_methodNamed B.named
  have hlocks := B.notSynchronized
  have htab : c.exceptionTable.toList = tableOf [(0, 12, 15, 31), (0, 12, 19, 13), (0, 12, 23, 15), (0, 12, 27, 25)] := vx_table (x := yL_cutByRounding) B (hts _ List.mem_cons_self)
  generalize va_A [(h0, .inr (8, [.ref xq1, .ref xq2])), (xq1, .inr (7, [.ref xq2, .ref xq3, .ref xq4, .ref xq5, .ref xq6, .ref xq7, .ref xq8, .int 0, .int 0, .int 0, .int 0, .int 0])), (o, .inl (co, 1, .inr (.inl fo)))] s.heap.size = A at I ⊢
  have hl := lv_entry ([.ref h0, .int p0, .int p1, .int p2, .ref o]) (n := 6) (Nat.le_of_ble_eq_true rfl)
  rw [lg_entry_eq]
  generalize (lg_sl ([.ref h0, .int p0, .int p1, .int p2, .ref o]) ++ List.replicate (6 - (lg_sl ([.ref h0, .int p0, .int p1, .int p2, .ref o])).length) Slot.unset).toArray = ls at hl ⊢
  have hl : lv_has ls 6 [(0, .ref h0), (1, .int p0), (2, .int p1), (3, .int p2), (4, .ref o)] := hl
  refine lv_aload hx hb dL_cutByRounding_0 (lv_at hl 4 rfl) ?_
  refine lv_iconst (v := 0) hx hb dL_cutByRounding_2 (by decide) ?_
  refine lv_aload_n hx hb dL_cutByRounding_3 rfl (lv_at hl 0 rfl) ?_
  refine lv_iload_n hx hb dL_cutByRounding_4 rfl (lv_at hl 1 rfl) ?_
  refine lv_iload_n hx hb dL_cutByRounding_5 rfl (lv_at hl 2 rfl) ?_
  refine lv_iload_n hx hb dL_cutByRounding_6 rfl (lv_at hl 3 rfl) ?_
  refine z_xcalli (wr := [(o, .inl (co, 1, .inr (.inl fo)))]) (vx_runV (As := [.int p0, .int p1, .int p2]) (rest := [.int 0, .ref o]) ⟨hx, hb, hml, hown, hts⟩ (z_RX8_cutByRounding l hst dC dI xq1 xq2 xq3 xq4 xq5 xq6 xq7 xq8 h0 p0 p1 p2  s.heap.size) (cwV 3 hts (z_gV z_T.wh mw1071 mw1072 mw1073 mw1 mw1074) rfl rfl rfl (by decide +kernel) ⟨Nat.le_of_ble_eq_true rfl, Nat.le_of_ble_eq_true rfl⟩) (z_preV I [0, 1] [] rfl rfl rfl rfl (ci := 8) (q0 := 0) rfl rfl) rfl rfl hl.1 rfl (lv_room (Nat.le_of_ble_eq_true rfl)) dL_cutByRounding_7 ⟨Nat.le_of_ble_eq_true rfl, Nat.le_of_ble_eq_true rfl⟩) I [0, 1] [2] rfl rfl (by decide) (by decide) (fun E1 ce1 q1 H locs hE1 I hcell hcv hcl => ?_) (fun r1 u1 H locs hw1 I => ?_)
  · skip
    have I : z_I A dC dI [(o, .inl (co, 1, .inr (.inl fo)))] [(co, .long)] s H _ := I
    subst hE1
    refine vx_widen (Nat.le_refl _) (Nat.le_refl _) ?_
    refine vx_catch (own := RL) (name := "java/lang/IndexOutOfBoundsException") (E := "java/lang/IndexOutOfBoundsException") hown [] ⟨0, 12, 15, 31⟩ [⟨0, 12, 19, 13⟩, ⟨0, 12, 23, 15⟩, ⟨0, 12, 27, 25⟩] (by rw [htab]; rfl) (fun z hz => nomatch hz) (by decide) (by decide) (hg _ mw610 rfl) (va_Nw.use rfl (I.2.2.2.2.2.2.2.1 _ (List.mem_of_getElem? (i := 2) rfl))) hcell hcv hcl ?_
    refine lv_astore (lv' := [(5, .ref q1), (0, .ref h0), (1, .int p0), (2, .int p1), (3, .int p2), (4, .ref o)]) hx hb dL_cutByRounding_15 hl (by decide) rfl (fun ls hl => ?_)
    refine lv_iconst (v := 1) hx hb dL_cutByRounding_17 (by decide) ?_
    have I := I.subT (t' := []) [] rfl
    refine W.widen (k := 1) (n := 6) (Nat.le_of_ble_eq_true rfl) (Nat.le_of_ble_eq_true rfl) ?_
    refine vx_ret ?_
    exact z_iret hx hb hr hlocks I ⟨fo, rfl, rfl, (fun h => absurd h (by decide))⟩ dL_cutByRounding_18
  · skip
    obtain ⟨hu1, hp1⟩ := hw1
    exact hp1.elim
set_option maxHeartbeats 4000000 in
set_option maxRecDepth 100000 in
theorem z_L_gain (l : Launch) (hst : l.stackTraces = false) (dC : Nat → ClassId) (dI : Nat → Nat → Nat) (xq1 : Nat) (xq2 : Nat) (xq9 : Nat) (xq10 : Nat) (xq11 : Nat) (xq12 : Nat) (xq13 : Nat) (xq14 : Nat) (xq15 : Nat) (xq16 : Nat) (xq17 : Nat) (xq18 : Nat) (xq19 : Nat) (h0 : Nat) (o : Nat) (co : ClassId) (fo : Nat → Int64) (p0 : Int32) (p1 : Int32) (sz : Nat) : vx_Met l yL_gain (z_wh yL_gain cL_gain 5 (some .int) [(0, 10, 13, 31), (0, 10, 17, 15)]) ({ frames := 12, cells := 1, slots := 6, locals := 260 }) (z_P dC dI [(h0, .inr (8, [.ref xq1, .ref xq2])), (xq2, .inr (5, [.ref xq9, .ref xq10, .ref xq11, .ref xq12, .ref xq13, .ref xq14, .ref xq15, .ref xq16, .ref xq17, .ref xq18, .ref xq19, .int 0, .int 0])), (o, .inl (co, 1, .inr (.inl fo)))] [(co, .long)] sz [.ref h0, .int p0, .int p1, .ref o]) (va_Qi (fun (r : Int32) (u : va_W × List (ClassId × FieldType)) => ∃ (xf1 : Nat → Int64), u = ([(o, .inl (co, 1, .inr (.inl xf1)))], []) ∧ r = 1 ∧ (r = 0 → xf1 0 = 0)) (z_B dC dI (va_A [(h0, .inr (8, [.ref xq1, .ref xq2])), (xq2, .inr (5, [.ref xq9, .ref xq10, .ref xq11, .ref xq12, .ref xq13, .ref xq14, .ref xq15, .ref xq16, .ref xq17, .ref xq18, .ref xq19, .int 0, .int 0])), (o, .inl (co, 1, .inr (.inl fo)))] sz)) (va_A [(h0, .inr (8, [.ref xq1, .ref xq2])), (xq2, .inr (5, [.ref xq9, .ref xq10, .ref xq11, .ref xq12, .ref xq13, .ref xq14, .ref xq15, .ref xq16, .ref xq17, .ref xq18, .ref xq19, .int 0, .int 0])), (o, .inl (co, 1, .inr (.inl fo)))] sz)) (z_XC (fun _ : String => False) (va_A [(h0, .inr (8, [.ref xq1, .ref xq2])), (xq2, .inr (5, [.ref xq9, .ref xq10, .ref xq11, .ref xq12, .ref xq13, .ref xq14, .ref xq15, .ref xq16, .ref xq17, .ref xq18, .ref xq19, .int 0, .int 0])), (o, .inl (co, 1, .inr (.inl fo)))] sz)) 1 6 (va_A [(h0, .inr (8, [.ref xq1, .ref xq2])), (xq2, .inr (5, [.ref xq9, .ref xq10, .ref xq11, .ref xq12, .ref xq13, .ref xq14, .ref xq15, .ref xq16, .ref xq17, .ref xq18, .ref xq19, .int 0, .int 0])), (o, .inl (co, 1, .inr (.inl fo)))] sz) := by
  refine vx_ofWH (cc := cL_gain) (maxL := 5) (ret := (some .int)) (by decide) rfl ?_
  intro p e s m args below meth c s₁ B hml hv
  obtain ⟨rfl, rfl, I⟩ := z_open hv
  have hx := B.exec
  have hb := B.bytes
  have hr := B.returns
  have hts := atoms_spec (ws := z_wh yL_gain cL_gain 5 (some .int) [(0, 10, 13, 31), (0, 10, 17, 15)]) B.pre
  have hg : z_G _ s := z_G.of hts
  have hown : s.vm.findClass RL = some m.cls := findClass_of_methodNamed B.named
  have hlocks := B.notSynchronized
  have htab : c.exceptionTable.toList = tableOf [(0, 10, 13, 31), (0, 10, 17, 15)] := vx_table (x := yL_gain) B (hts _ List.mem_cons_self)
  generalize va_A [(h0, .inr (8, [.ref xq1, .ref xq2])), (xq2, .inr (5, [.ref xq9, .ref xq10, .ref xq11, .ref xq12, .ref xq13, .ref xq14, .ref xq15, .ref xq16, .ref xq17, .ref xq18, .ref xq19, .int 0, .int 0])), (o, .inl (co, 1, .inr (.inl fo)))] s.heap.size = A at I ⊢
  have hl := lv_entry ([.ref h0, .int p0, .int p1, .ref o]) (n := 5) (Nat.le_of_ble_eq_true rfl)
  rw [lg_entry_eq]
  generalize (lg_sl ([.ref h0, .int p0, .int p1, .ref o]) ++ List.replicate (5 - (lg_sl ([.ref h0, .int p0, .int p1, .ref o])).length) Slot.unset).toArray = ls at hl ⊢
  have hl : lv_has ls 5 [(0, .ref h0), (1, .int p0), (2, .int p1), (3, .ref o)] := hl
  refine lv_aload_n hx hb dL_gain_0 rfl (lv_at hl 3 rfl) ?_
  refine lv_iconst (v := 0) hx hb dL_gain_1 (by decide) ?_
  refine lv_aload_n hx hb dL_gain_2 rfl (lv_at hl 0 rfl) ?_
  refine lv_iload_n hx hb dL_gain_3 rfl (lv_at hl 1 rfl) ?_
  refine lv_iload_n hx hb dL_gain_4 rfl (lv_at hl 2 rfl) ?_
  refine z_xcalli (wr := [(o, .inl (co, 1, .inr (.inl fo)))]) (vx_runV (As := [.int p0, .int p1]) (rest := [.int 0, .ref o]) ⟨hx, hb, hml, hown, hts⟩ (z_RX8_gain l hst dC dI xq1 xq2 xq9 xq10 xq11 xq12 xq13 xq14 xq15 xq16 xq17 xq18 xq19 h0 p0 p1  s.heap.size) (cwV 2 hts (z_gV z_T.wh mw1204 mw1205 mw1206 mw1 mw1207) rfl rfl rfl (by decide +kernel) ⟨Nat.le_of_ble_eq_true rfl, Nat.le_of_ble_eq_true rfl⟩) (z_preV I [0, 1] [] rfl rfl rfl rfl (ci := 8) (q0 := 0) rfl rfl) rfl rfl hl.1 rfl (lv_room (Nat.le_of_ble_eq_true rfl)) dL_gain_5 ⟨Nat.le_of_ble_eq_true rfl, Nat.le_of_ble_eq_true rfl⟩) I [0, 1] [2] rfl rfl (by decide) (by decide) (fun E1 ce1 q1 H locs hE1 I hcell hcv hcl => ?_) (fun r1 u1 H locs hw1 I => ?_)
  · skip
    have I : z_I A dC dI [(o, .inl (co, 1, .inr (.inl fo)))] [(co, .long)] s H _ := I
    subst hE1
    refine vx_widen (Nat.le_refl _) (Nat.le_refl _) ?_
    refine vx_catch (own := RL) (name := "java/lang/IndexOutOfBoundsException") (E := "java/lang/IndexOutOfBoundsException") hown [] ⟨0, 10, 13, 31⟩ [⟨0, 10, 17, 15⟩] (by rw [htab]; rfl) (fun z hz => nomatch hz) (by decide) (by decide) (hg _ mw610 rfl) (va_Nw.use rfl (I.2.2.2.2.2.2.2.1 _ (List.mem_of_getElem? (i := 2) rfl))) hcell hcv hcl ?_
    refine lv_astore (lv' := [(4, .ref q1), (0, .ref h0), (1, .int p0), (2, .int p1), (3, .ref o)]) hx hb dL_gain_13 hl (by decide) rfl (fun ls hl => ?_)
    refine lv_iconst (v := 1) hx hb dL_gain_15 (by decide) ?_
    have I := I.subT (t' := []) [] rfl
    refine W.widen (k := 1) (n := 6) (Nat.le_of_ble_eq_true rfl) (Nat.le_of_ble_eq_true rfl) ?_
    refine vx_ret ?_
    exact z_iret hx hb hr hlocks I ⟨fo, rfl, rfl, (fun h => absurd h (by decide))⟩ dL_gain_16
  · skip
    obtain ⟨hu1, hp1⟩ := hw1
    exact hp1.elim
set_option maxHeartbeats 4000000 in
set_option maxRecDepth 100000 in
theorem z_L_gap (l : Launch) (hst : l.stackTraces = false) (dC : Nat → ClassId) (dI : Nat → Nat → Nat) (xq1 : Nat) (xq2 : Nat) (xq3 : Nat) (xq4 : Nat) (xq5 : Nat) (xq6 : Nat) (xq7 : Nat) (xq8 : Nat) (h0 : Nat) (o : Nat) (co : ClassId) (fo : Nat → UInt64) (sz : Nat) : vx_Met l yL_gap (z_wh yL_gap cL_gap 3 (some .int) [(0, 8, 11, 125)]) ({ frames := 14, cells := 1, slots := 6, locals := 320 }) (z_P dC dI [(h0, .inr (8, [.ref xq1, .ref xq2])), (xq1, .inr (7, [.ref xq2, .ref xq3, .ref xq4, .ref xq5, .ref xq6, .ref xq7, .ref xq8, .int 0, .int 0, .int 0, .int 0, .int 0])), (o, .inl (co, 1, .inr (.inr (.inr (.inl fo)))))] [(co, .double)] sz [.ref h0, .ref o]) (va_Qi (fun (r : Int32) (u : va_W × List (ClassId × FieldType)) => ∃ (xf1 : Nat → UInt64), u = ([(o, .inl (co, 1, .inr (.inr (.inr (.inl xf1)))))], []) ∧ r = 1 ∧ True) (z_B dC dI (va_A [(h0, .inr (8, [.ref xq1, .ref xq2])), (xq1, .inr (7, [.ref xq2, .ref xq3, .ref xq4, .ref xq5, .ref xq6, .ref xq7, .ref xq8, .int 0, .int 0, .int 0, .int 0, .int 0])), (o, .inl (co, 1, .inr (.inr (.inr (.inl fo)))))] sz)) (va_A [(h0, .inr (8, [.ref xq1, .ref xq2])), (xq1, .inr (7, [.ref xq2, .ref xq3, .ref xq4, .ref xq5, .ref xq6, .ref xq7, .ref xq8, .int 0, .int 0, .int 0, .int 0, .int 0])), (o, .inl (co, 1, .inr (.inr (.inr (.inl fo)))))] sz)) (z_XC (fun _ : String => False) (va_A [(h0, .inr (8, [.ref xq1, .ref xq2])), (xq1, .inr (7, [.ref xq2, .ref xq3, .ref xq4, .ref xq5, .ref xq6, .ref xq7, .ref xq8, .int 0, .int 0, .int 0, .int 0, .int 0])), (o, .inl (co, 1, .inr (.inr (.inr (.inl fo)))))] sz)) 1 6 (va_A [(h0, .inr (8, [.ref xq1, .ref xq2])), (xq1, .inr (7, [.ref xq2, .ref xq3, .ref xq4, .ref xq5, .ref xq6, .ref xq7, .ref xq8, .int 0, .int 0, .int 0, .int 0, .int 0])), (o, .inl (co, 1, .inr (.inr (.inr (.inl fo)))))] sz) := by
  refine vx_ofWH (cc := cL_gap) (maxL := 3) (ret := (some .int)) (by decide) rfl ?_
  intro p e s m args below meth c s₁ B hml hv
  obtain ⟨rfl, rfl, I⟩ := z_open hv
  have hx := B.exec
  have hb := B.bytes
  have hr := B.returns
  have hts := atoms_spec (ws := z_wh yL_gap cL_gap 3 (some .int) [(0, 8, 11, 125)]) B.pre
  have hg : z_G _ s := z_G.of hts
  have hown : s.vm.findClass RL = some m.cls := findClass_of_methodNamed B.named
  have hlocks := B.notSynchronized
  have htab : c.exceptionTable.toList = tableOf [(0, 8, 11, 125)] := vx_table (x := yL_gap) B (hts _ List.mem_cons_self)
  generalize va_A [(h0, .inr (8, [.ref xq1, .ref xq2])), (xq1, .inr (7, [.ref xq2, .ref xq3, .ref xq4, .ref xq5, .ref xq6, .ref xq7, .ref xq8, .int 0, .int 0, .int 0, .int 0, .int 0])), (o, .inl (co, 1, .inr (.inr (.inr (.inl fo)))))] s.heap.size = A at I ⊢
  have hl := lv_entry ([.ref h0, .ref o]) (n := 3) (Nat.le_of_ble_eq_true rfl)
  rw [lg_entry_eq]
  generalize (lg_sl ([.ref h0, .ref o]) ++ List.replicate (3 - (lg_sl ([.ref h0, .ref o])).length) Slot.unset).toArray = ls at hl ⊢
  have hl : lv_has ls 3 [(0, .ref h0), (1, .ref o)] := hl
  refine lv_aload_n hx hb dL_gap_0 rfl (lv_at hl 1 rfl) ?_
  refine lv_iconst (v := 0) hx hb dL_gap_1 (by decide) ?_
  refine lv_aload_n hx hb dL_gap_2 rfl (lv_at hl 0 rfl) ?_
  refine z_xcallf (wr := [(o, .inl (co, 1, .inr (.inr (.inr (.inl fo)))))]) (vx_runV (As := []) (rest := [.int 0, .ref o]) ⟨hx, hb, hml, hown, hts⟩ (z_RX8_gap l hst dC dI xq1 xq2 xq3 xq4 xq5 xq6 xq7 xq8 h0  s.heap.size) (cwV 0 hts (z_gV z_T.wh mw1226 mw1227 mw1228 mw1 mw1229) rfl rfl rfl (by decide +kernel) ⟨Nat.le_of_ble_eq_true rfl, Nat.le_of_ble_eq_true rfl⟩) (z_preV I [0, 1] [] rfl rfl rfl rfl (ci := 8) (q0 := 0) rfl rfl) rfl rfl hl.1 rfl (lv_room (Nat.le_of_ble_eq_true rfl)) dL_gap_3 ⟨Nat.le_of_ble_eq_true rfl, Nat.le_of_ble_eq_true rfl⟩) I [0, 1] [2] rfl rfl (by decide) (by decide) (fun E1 ce1 q1 H locs hE1 I hcell hcv hcl => ?_) (fun r1 u1 H locs hw1 I => ?_)
  · skip
    have I : z_I A dC dI [(o, .inl (co, 1, .inr (.inr (.inr (.inl fo)))))] [(co, .double)] s H _ := I
    subst hE1
    refine vx_widen (Nat.le_refl _) (Nat.le_refl _) ?_
    refine vx_catch (own := RL) (name := "java/lang/ArithmeticException") (E := "java/lang/ArithmeticException") hown [] ⟨0, 8, 11, 125⟩ [] (by rw [htab]; rfl) (fun z hz => nomatch hz) (by decide) (by decide) (hg _ mw1212 rfl) (va_Nw.use rfl (I.2.2.2.2.2.2.2.1 _ (List.mem_of_getElem? (i := 4) rfl))) hcell hcv hcl ?_
    refine lv_astore_n (lv' := [(2, .ref q1), (0, .ref h0), (1, .ref o)]) hx hb dL_gap_11 rfl hl (by decide) rfl (fun ls hl => ?_)
    refine lv_iconst (v := 1) hx hb dL_gap_12 (by decide) ?_
    have I := I.subT (t' := []) [] rfl
    refine W.widen (k := 1) (n := 6) (Nat.le_of_ble_eq_true rfl) (Nat.le_of_ble_eq_true rfl) ?_
    refine vx_ret ?_
    exact z_iret hx hb hr hlocks I ⟨fo, rfl, rfl, trivial⟩ dL_gap_13
  · skip
    obtain ⟨hu1, hp1⟩ := hw1
    exact hp1.elim
set_option maxHeartbeats 4000000 in
set_option maxRecDepth 100000 in
theorem z_L_kind (l : Launch) (hst : l.stackTraces = false) (dC : Nat → ClassId) (dI : Nat → Nat → Nat) (xq1 : Nat) (xq2 : Nat) (xq3 : Nat) (xq4 : Nat) (xq5 : Nat) (xq6 : Nat) (xq7 : Nat) (xq8 : Nat) (h0 : Nat) (o : Nat) (co : ClassId) (fo : Nat → Int64) (p0 : Int32) (sz : Nat) : vx_Met l yL_kind (z_wh yL_kind cL_kind 4 (some .int) [(0, 9, 12, 31)]) ({ frames := 12, cells := 1, slots := 6, locals := 260 }) (z_P dC dI [(h0, .inr (8, [.ref xq1, .ref xq2])), (xq1, .inr (7, [.ref xq2, .ref xq3, .ref xq4, .ref xq5, .ref xq6, .ref xq7, .ref xq8, .int 0, .int 0, .int 0, .int 0, .int 0])), (o, .inl (co, 1, .inr (.inl fo)))] [(co, .long)] sz [.ref h0, .int p0, .ref o]) (va_Qi (fun (r : Int32) (u : va_W × List (ClassId × FieldType)) => ∃ (xf1 : Nat → Int64), u = ([(o, .inl (co, 1, .inr (.inl xf1)))], []) ∧ r = 1 ∧ (r = 0 → xf1 0 = 0)) (z_B dC dI (va_A [(h0, .inr (8, [.ref xq1, .ref xq2])), (xq1, .inr (7, [.ref xq2, .ref xq3, .ref xq4, .ref xq5, .ref xq6, .ref xq7, .ref xq8, .int 0, .int 0, .int 0, .int 0, .int 0])), (o, .inl (co, 1, .inr (.inl fo)))] sz)) (va_A [(h0, .inr (8, [.ref xq1, .ref xq2])), (xq1, .inr (7, [.ref xq2, .ref xq3, .ref xq4, .ref xq5, .ref xq6, .ref xq7, .ref xq8, .int 0, .int 0, .int 0, .int 0, .int 0])), (o, .inl (co, 1, .inr (.inl fo)))] sz)) (z_XC (fun _ : String => False) (va_A [(h0, .inr (8, [.ref xq1, .ref xq2])), (xq1, .inr (7, [.ref xq2, .ref xq3, .ref xq4, .ref xq5, .ref xq6, .ref xq7, .ref xq8, .int 0, .int 0, .int 0, .int 0, .int 0])), (o, .inl (co, 1, .inr (.inl fo)))] sz)) 1 6 (va_A [(h0, .inr (8, [.ref xq1, .ref xq2])), (xq1, .inr (7, [.ref xq2, .ref xq3, .ref xq4, .ref xq5, .ref xq6, .ref xq7, .ref xq8, .int 0, .int 0, .int 0, .int 0, .int 0])), (o, .inl (co, 1, .inr (.inl fo)))] sz) := by
  refine vx_ofWH (cc := cL_kind) (maxL := 4) (ret := (some .int)) (by decide) rfl ?_
  intro p e s m args below meth c s₁ B hml hv
  obtain ⟨rfl, rfl, I⟩ := z_open hv
  have hx := B.exec
  have hb := B.bytes
  have hr := B.returns
  have hts := atoms_spec (ws := z_wh yL_kind cL_kind 4 (some .int) [(0, 9, 12, 31)]) B.pre
  have hg : z_G _ s := z_G.of hts
  have hown : s.vm.findClass RL = some m.cls := findClass_of_methodNamed B.named
  have hlocks := B.notSynchronized
  have htab : c.exceptionTable.toList = tableOf [(0, 9, 12, 31)] := vx_table (x := yL_kind) B (hts _ List.mem_cons_self)
  generalize va_A [(h0, .inr (8, [.ref xq1, .ref xq2])), (xq1, .inr (7, [.ref xq2, .ref xq3, .ref xq4, .ref xq5, .ref xq6, .ref xq7, .ref xq8, .int 0, .int 0, .int 0, .int 0, .int 0])), (o, .inl (co, 1, .inr (.inl fo)))] s.heap.size = A at I ⊢
  have hl := lv_entry ([.ref h0, .int p0, .ref o]) (n := 4) (Nat.le_of_ble_eq_true rfl)
  rw [lg_entry_eq]
  generalize (lg_sl ([.ref h0, .int p0, .ref o]) ++ List.replicate (4 - (lg_sl ([.ref h0, .int p0, .ref o])).length) Slot.unset).toArray = ls at hl ⊢
  have hl : lv_has ls 4 [(0, .ref h0), (1, .int p0), (2, .ref o)] := hl
  refine lv_aload_n hx hb dL_kind_0 rfl (lv_at hl 2 rfl) ?_
  refine lv_iconst (v := 0) hx hb dL_kind_1 (by decide) ?_
  refine lv_aload_n hx hb dL_kind_2 rfl (lv_at hl 0 rfl) ?_
  refine lv_iload_n hx hb dL_kind_3 rfl (lv_at hl 1 rfl) ?_
  refine z_xcalli (wr := [(o, .inl (co, 1, .inr (.inl fo)))]) (vx_runV (As := [.int p0]) (rest := [.int 0, .ref o]) ⟨hx, hb, hml, hown, hts⟩ (z_RX8_kind l hst dC dI xq1 xq2 xq3 xq4 xq5 xq6 xq7 xq8 h0 p0  s.heap.size) (cwV 1 hts (z_gV z_T.wh mw1170 mw1171 mw1172 mw1 mw1173) rfl rfl rfl (by decide +kernel) ⟨Nat.le_of_ble_eq_true rfl, Nat.le_of_ble_eq_true rfl⟩) (z_preV I [0, 1] [] rfl rfl rfl rfl (ci := 8) (q0 := 0) rfl rfl) rfl rfl hl.1 rfl (lv_room (Nat.le_of_ble_eq_true rfl)) dL_kind_4 ⟨Nat.le_of_ble_eq_true rfl, Nat.le_of_ble_eq_true rfl⟩) I [0, 1] [2] rfl rfl (by decide) (by decide) (fun E1 ce1 q1 H locs hE1 I hcell hcv hcl => ?_) (fun r1 u1 H locs hw1 I => ?_)
  · skip
    have I : z_I A dC dI [(o, .inl (co, 1, .inr (.inl fo)))] [(co, .long)] s H _ := I
    subst hE1
    refine vx_widen (Nat.le_refl _) (Nat.le_refl _) ?_
    refine vx_catch (own := RL) (name := "java/lang/IndexOutOfBoundsException") (E := "java/lang/IndexOutOfBoundsException") hown [] ⟨0, 9, 12, 31⟩ [] (by rw [htab]; rfl) (fun z hz => nomatch hz) (by decide) (by decide) (hg _ mw610 rfl) (va_Nw.use rfl (I.2.2.2.2.2.2.2.1 _ (List.mem_of_getElem? (i := 2) rfl))) hcell hcv hcl ?_
    refine lv_astore_n (lv' := [(3, .ref q1), (0, .ref h0), (1, .int p0), (2, .ref o)]) hx hb dL_kind_12 rfl hl (by decide) rfl (fun ls hl => ?_)
    refine lv_iconst (v := 1) hx hb dL_kind_13 (by decide) ?_
    have I := I.subT (t' := []) [] rfl
    refine W.widen (k := 1) (n := 6) (Nat.le_of_ble_eq_true rfl) (Nat.le_of_ble_eq_true rfl) ?_
    refine vx_ret ?_
    exact z_iret hx hb hr hlocks I ⟨fo, rfl, rfl, (fun h => absurd h (by decide))⟩ dL_kind_14
  · skip
    obtain ⟨hu1, hp1⟩ := hw1
    exact hp1.elim
set_option maxHeartbeats 4000000 in
set_option maxRecDepth 100000 in
theorem z_L_lower (l : Launch) (hst : l.stackTraces = false) (dC : Nat → ClassId) (dI : Nat → Nat → Nat) (xq1 : Nat) (xq2 : Nat) (xq9 : Nat) (xq10 : Nat) (xq11 : Nat) (xq12 : Nat) (xq13 : Nat) (xq14 : Nat) (xq15 : Nat) (xq16 : Nat) (xq17 : Nat) (xq18 : Nat) (xq19 : Nat) (h0 : Nat) (o : Nat) (co : ClassId) (fo : Nat → Int64) (p0 : Int32) (sz : Nat) : vx_Met l yL_lower (z_wh yL_lower cL_lower 4 (some .int) [(0, 9, 12, 31)]) ({ frames := 12, cells := 1, slots := 6, locals := 260 }) (z_P dC dI [(h0, .inr (8, [.ref xq1, .ref xq2])), (xq2, .inr (5, [.ref xq9, .ref xq10, .ref xq11, .ref xq12, .ref xq13, .ref xq14, .ref xq15, .ref xq16, .ref xq17, .ref xq18, .ref xq19, .int 0, .int 0])), (o, .inl (co, 1, .inr (.inl fo)))] [(co, .long)] sz [.ref h0, .int p0, .ref o]) (va_Qi (fun (r : Int32) (u : va_W × List (ClassId × FieldType)) => ∃ (xf1 : Nat → Int64), u = ([(o, .inl (co, 1, .inr (.inl xf1)))], []) ∧ r = 1 ∧ (r = 0 → xf1 0 = 0)) (z_B dC dI (va_A [(h0, .inr (8, [.ref xq1, .ref xq2])), (xq2, .inr (5, [.ref xq9, .ref xq10, .ref xq11, .ref xq12, .ref xq13, .ref xq14, .ref xq15, .ref xq16, .ref xq17, .ref xq18, .ref xq19, .int 0, .int 0])), (o, .inl (co, 1, .inr (.inl fo)))] sz)) (va_A [(h0, .inr (8, [.ref xq1, .ref xq2])), (xq2, .inr (5, [.ref xq9, .ref xq10, .ref xq11, .ref xq12, .ref xq13, .ref xq14, .ref xq15, .ref xq16, .ref xq17, .ref xq18, .ref xq19, .int 0, .int 0])), (o, .inl (co, 1, .inr (.inl fo)))] sz)) (z_XC (fun _ : String => False) (va_A [(h0, .inr (8, [.ref xq1, .ref xq2])), (xq2, .inr (5, [.ref xq9, .ref xq10, .ref xq11, .ref xq12, .ref xq13, .ref xq14, .ref xq15, .ref xq16, .ref xq17, .ref xq18, .ref xq19, .int 0, .int 0])), (o, .inl (co, 1, .inr (.inl fo)))] sz)) 1 6 (va_A [(h0, .inr (8, [.ref xq1, .ref xq2])), (xq2, .inr (5, [.ref xq9, .ref xq10, .ref xq11, .ref xq12, .ref xq13, .ref xq14, .ref xq15, .ref xq16, .ref xq17, .ref xq18, .ref xq19, .int 0, .int 0])), (o, .inl (co, 1, .inr (.inl fo)))] sz) := by
  refine vx_ofWH (cc := cL_lower) (maxL := 4) (ret := (some .int)) (by decide) rfl ?_
  intro p e s m args below meth c s₁ B hml hv
  obtain ⟨rfl, rfl, I⟩ := z_open hv
  have hx := B.exec
  have hb := B.bytes
  have hr := B.returns
  have hts := atoms_spec (ws := z_wh yL_lower cL_lower 4 (some .int) [(0, 9, 12, 31)]) B.pre
  have hg : z_G _ s := z_G.of hts
  have hown : s.vm.findClass RL = some m.cls := findClass_of_methodNamed B.named
  have hlocks := B.notSynchronized
  have htab : c.exceptionTable.toList = tableOf [(0, 9, 12, 31)] := vx_table (x := yL_lower) B (hts _ List.mem_cons_self)
  generalize va_A [(h0, .inr (8, [.ref xq1, .ref xq2])), (xq2, .inr (5, [.ref xq9, .ref xq10, .ref xq11, .ref xq12, .ref xq13, .ref xq14, .ref xq15, .ref xq16, .ref xq17, .ref xq18, .ref xq19, .int 0, .int 0])), (o, .inl (co, 1, .inr (.inl fo)))] s.heap.size = A at I ⊢
  have hl := lv_entry ([.ref h0, .int p0, .ref o]) (n := 4) (Nat.le_of_ble_eq_true rfl)
  rw [lg_entry_eq]
  generalize (lg_sl ([.ref h0, .int p0, .ref o]) ++ List.replicate (4 - (lg_sl ([.ref h0, .int p0, .ref o])).length) Slot.unset).toArray = ls at hl ⊢
  have hl : lv_has ls 4 [(0, .ref h0), (1, .int p0), (2, .ref o)] := hl
  refine lv_aload_n hx hb dL_lower_0 rfl (lv_at hl 2 rfl) ?_
  refine lv_iconst (v := 0) hx hb dL_lower_1 (by decide) ?_
  refine lv_aload_n hx hb dL_lower_2 rfl (lv_at hl 0 rfl) ?_
  refine lv_iload_n hx hb dL_lower_3 rfl (lv_at hl 1 rfl) ?_
  refine z_xcalli (wr := [(o, .inl (co, 1, .inr (.inl fo)))]) (vx_runV (As := [.int p0]) (rest := [.int 0, .ref o]) ⟨hx, hb, hml, hown, hts⟩ (z_RX8_lower l hst dC dI xq1 xq2 xq9 xq10 xq11 xq12 xq13 xq14 xq15 xq16 xq17 xq18 xq19 h0 p0  s.heap.size) (cwV 1 hts (z_gV z_T.wh mw634 mw635 mw636 mw1 mw637) rfl rfl rfl (by decide +kernel) ⟨Nat.le_of_ble_eq_true rfl, Nat.le_of_ble_eq_true rfl⟩) (z_preV I [0, 1] [] rfl rfl rfl rfl (ci := 8) (q0 := 0) rfl rfl) rfl rfl hl.1 rfl (lv_room (Nat.le_of_ble_eq_true rfl)) dL_lower_4 ⟨Nat.le_of_ble_eq_true rfl, Nat.le_of_ble_eq_true rfl⟩) I [0, 1] [2] rfl rfl (by decide) (by decide) (fun E1 ce1 q1 H locs hE1 I hcell hcv hcl => ?_) (fun r1 u1 H locs hw1 I => ?_)
  · skip
    have I : z_I A dC dI [(o, .inl (co, 1, .inr (.inl fo)))] [(co, .long)] s H _ := I
    subst hE1
    refine vx_widen (Nat.le_refl _) (Nat.le_refl _) ?_
    refine vx_catch (own := RL) (name := "java/lang/IndexOutOfBoundsException") (E := "java/lang/IndexOutOfBoundsException") hown [] ⟨0, 9, 12, 31⟩ [] (by rw [htab]; rfl) (fun z hz => nomatch hz) (by decide) (by decide) (hg _ mw610 rfl) (va_Nw.use rfl (I.2.2.2.2.2.2.2.1 _ (List.mem_of_getElem? (i := 2) rfl))) hcell hcv hcl ?_
    refine lv_astore_n (lv' := [(3, .ref q1), (0, .ref h0), (1, .int p0), (2, .ref o)]) hx hb dL_lower_12 rfl hl (by decide) rfl (fun ls hl => ?_)
    refine lv_iconst (v := 1) hx hb dL_lower_13 (by decide) ?_
    have I := I.subT (t' := []) [] rfl
    refine W.widen (k := 1) (n := 6) (Nat.le_of_ble_eq_true rfl) (Nat.le_of_ble_eq_true rfl) ?_
    refine vx_ret ?_
    exact z_iret hx hb hr hlocks I ⟨fo, rfl, rfl, (fun h => absurd h (by decide))⟩ dL_lower_14
  · skip
    obtain ⟨hu1, hp1⟩ := hw1
    exact hp1.elim
set_option maxHeartbeats 4000000 in
set_option maxRecDepth 100000 in
theorem z_L_lowerAt (l : Launch) (hst : l.stackTraces = false) (dC : Nat → ClassId) (dI : Nat → Nat → Nat) (xq1 : Nat) (xq2 : Nat) (xq3 : Nat) (xq4 : Nat) (xq5 : Nat) (xq6 : Nat) (xq7 : Nat) (xq8 : Nat) (h0 : Nat) (o : Nat) (co : ClassId) (fo : Nat → Int64) (p0 : Int32) (p1 : Int32) (sz : Nat) : vx_Met l yL_lowerAt (z_wh yL_lowerAt cL_lowerAt 5 (some .int) [(0, 10, 13, 31)]) ({ frames := 12, cells := 1, slots := 6, locals := 260 }) (z_P dC dI [(h0, .inr (8, [.ref xq1, .ref xq2])), (xq1, .inr (7, [.ref xq2, .ref xq3, .ref xq4, .ref xq5, .ref xq6, .ref xq7, .ref xq8, .int 0, .int 0, .int 0, .int 0, .int 0])), (o, .inl (co, 1, .inr (.inl fo)))] [(co, .long)] sz [.ref h0, .int p0, .int p1, .ref o]) (va_Qi (fun (r : Int32) (u : va_W × List (ClassId × FieldType)) => ∃ (xf1 : Nat → Int64), u = ([(o, .inl (co, 1, .inr (.inl xf1)))], []) ∧ r = 1 ∧ (r = 0 → xf1 0 = 0)) (z_B dC dI (va_A [(h0, .inr (8, [.ref xq1, .ref xq2])), (xq1, .inr (7, [.ref xq2, .ref xq3, .ref xq4, .ref xq5, .ref xq6, .ref xq7, .ref xq8, .int 0, .int 0, .int 0, .int 0, .int 0])), (o, .inl (co, 1, .inr (.inl fo)))] sz)) (va_A [(h0, .inr (8, [.ref xq1, .ref xq2])), (xq1, .inr (7, [.ref xq2, .ref xq3, .ref xq4, .ref xq5, .ref xq6, .ref xq7, .ref xq8, .int 0, .int 0, .int 0, .int 0, .int 0])), (o, .inl (co, 1, .inr (.inl fo)))] sz)) (z_XC (fun _ : String => False) (va_A [(h0, .inr (8, [.ref xq1, .ref xq2])), (xq1, .inr (7, [.ref xq2, .ref xq3, .ref xq4, .ref xq5, .ref xq6, .ref xq7, .ref xq8, .int 0, .int 0, .int 0, .int 0, .int 0])), (o, .inl (co, 1, .inr (.inl fo)))] sz)) 1 6 (va_A [(h0, .inr (8, [.ref xq1, .ref xq2])), (xq1, .inr (7, [.ref xq2, .ref xq3, .ref xq4, .ref xq5, .ref xq6, .ref xq7, .ref xq8, .int 0, .int 0, .int 0, .int 0, .int 0])), (o, .inl (co, 1, .inr (.inl fo)))] sz) := by
  refine vx_ofWH (cc := cL_lowerAt) (maxL := 5) (ret := (some .int)) (by decide) rfl ?_
  intro p e s m args below meth c s₁ B hml hv
  obtain ⟨rfl, rfl, I⟩ := z_open hv
  have hx := B.exec
  have hb := B.bytes
  have hr := B.returns
  have hts := atoms_spec (ws := z_wh yL_lowerAt cL_lowerAt 5 (some .int) [(0, 10, 13, 31)]) B.pre
  have hg : z_G _ s := z_G.of hts
  have hown : s.vm.findClass RL = some m.cls := findClass_of_methodNamed B.named
  have hlocks := B.notSynchronized
  have htab : c.exceptionTable.toList = tableOf [(0, 10, 13, 31)] := vx_table (x := yL_lowerAt) B (hts _ List.mem_cons_self)
  generalize va_A [(h0, .inr (8, [.ref xq1, .ref xq2])), (xq1, .inr (7, [.ref xq2, .ref xq3, .ref xq4, .ref xq5, .ref xq6, .ref xq7, .ref xq8, .int 0, .int 0, .int 0, .int 0, .int 0])), (o, .inl (co, 1, .inr (.inl fo)))] s.heap.size = A at I ⊢
  have hl := lv_entry ([.ref h0, .int p0, .int p1, .ref o]) (n := 5) (Nat.le_of_ble_eq_true rfl)
  rw [lg_entry_eq]
  generalize (lg_sl ([.ref h0, .int p0, .int p1, .ref o]) ++ List.replicate (5 - (lg_sl ([.ref h0, .int p0, .int p1, .ref o])).length) Slot.unset).toArray = ls at hl ⊢
  have hl : lv_has ls 5 [(0, .ref h0), (1, .int p0), (2, .int p1), (3, .ref o)] := hl
  refine lv_aload_n hx hb dL_lowerAt_0 rfl (lv_at hl 3 rfl) ?_
  refine lv_iconst (v := 0) hx hb dL_lowerAt_1 (by decide) ?_
  refine lv_aload_n hx hb dL_lowerAt_2 rfl (lv_at hl 0 rfl) ?_
  refine lv_iload_n hx hb dL_lowerAt_3 rfl (lv_at hl 1 rfl) ?_
  refine lv_iload_n hx hb dL_lowerAt_4 rfl (lv_at hl 2 rfl) ?_
  refine z_xcalli (wr := [(o, .inl (co, 1, .inr (.inl fo)))]) (vx_runV (As := [.int p0, .int p1]) (rest := [.int 0, .ref o]) ⟨hx, hb, hml, hown, hts⟩ (z_RX8_lowerAt l hst dC dI xq1 xq2 xq3 xq4 xq5 xq6 xq7 xq8 h0 p0 p1  s.heap.size) (cwV 2 hts (z_gV z_T.wh mw930 mw931 mw932 mw1 mw933) rfl rfl rfl (by decide +kernel) ⟨Nat.le_of_ble_eq_true rfl, Nat.le_of_ble_eq_true rfl⟩) (z_preV I [0, 1] [] rfl rfl rfl rfl (ci := 8) (q0 := 0) rfl rfl) rfl rfl hl.1 rfl (lv_room (Nat.le_of_ble_eq_true rfl)) dL_lowerAt_5 ⟨Nat.le_of_ble_eq_true rfl, Nat.le_of_ble_eq_true rfl⟩) I [0, 1] [2] rfl rfl (by decide) (by decide) (fun E1 ce1 q1 H locs hE1 I hcell hcv hcl => ?_) (fun r1 u1 H locs hw1 I => ?_)
  · skip
    have I : z_I A dC dI [(o, .inl (co, 1, .inr (.inl fo)))] [(co, .long)] s H _ := I
    subst hE1
    refine vx_widen (Nat.le_refl _) (Nat.le_refl _) ?_
    refine vx_catch (own := RL) (name := "java/lang/IndexOutOfBoundsException") (E := "java/lang/IndexOutOfBoundsException") hown [] ⟨0, 10, 13, 31⟩ [] (by rw [htab]; rfl) (fun z hz => nomatch hz) (by decide) (by decide) (hg _ mw610 rfl) (va_Nw.use rfl (I.2.2.2.2.2.2.2.1 _ (List.mem_of_getElem? (i := 2) rfl))) hcell hcv hcl ?_
    refine lv_astore (lv' := [(4, .ref q1), (0, .ref h0), (1, .int p0), (2, .int p1), (3, .ref o)]) hx hb dL_lowerAt_13 hl (by decide) rfl (fun ls hl => ?_)
    refine lv_iconst (v := 1) hx hb dL_lowerAt_15 (by decide) ?_
    have I := I.subT (t' := []) [] rfl
    refine W.widen (k := 1) (n := 6) (Nat.le_of_ble_eq_true rfl) (Nat.le_of_ble_eq_true rfl) ?_
    refine vx_ret ?_
    exact z_iret hx hb hr hlocks I ⟨fo, rfl, rfl, (fun h => absurd h (by decide))⟩ dL_lowerAt_16
  · skip
    obtain ⟨hu1, hp1⟩ := hw1
    exact hp1.elim
set_option maxHeartbeats 4000000 in
set_option maxRecDepth 100000 in
theorem z_L_meanDepth (l : Launch) (hst : l.stackTraces = false) (dC : Nat → ClassId) (dI : Nat → Nat → Nat) (xq1 : Nat) (xq2 : Nat) (xq3 : Nat) (xq4 : Nat) (xq5 : Nat) (xq6 : Nat) (xq7 : Nat) (xq8 : Nat) (h0 : Nat) (o : Nat) (co : ClassId) (fo : Nat → UInt64) (sz : Nat) : vx_Met l yL_meanDepth (z_wh yL_meanDepth cL_meanDepth 3 (some .int) [(0, 7, 10, 125)]) ({ frames := 10, cells := 1, slots := 6, locals := 200 }) (z_P dC dI [(h0, .inr (8, [.ref xq1, .ref xq2])), (xq1, .inr (7, [.ref xq2, .ref xq3, .ref xq4, .ref xq5, .ref xq6, .ref xq7, .ref xq8, .int 0, .int 0, .int 0, .int 0, .int 0])), (o, .inl (co, 1, .inr (.inr (.inr (.inl fo)))))] [(co, .double)] sz [.ref h0, .ref o]) (va_Qi (fun (r : Int32) (u : va_W × List (ClassId × FieldType)) => ∃ (xf1 : Nat → UInt64), u = ([(o, .inl (co, 1, .inr (.inr (.inr (.inl xf1)))))], []) ∧ r = 1 ∧ True) (z_B dC dI (va_A [(h0, .inr (8, [.ref xq1, .ref xq2])), (xq1, .inr (7, [.ref xq2, .ref xq3, .ref xq4, .ref xq5, .ref xq6, .ref xq7, .ref xq8, .int 0, .int 0, .int 0, .int 0, .int 0])), (o, .inl (co, 1, .inr (.inr (.inr (.inl fo)))))] sz)) (va_A [(h0, .inr (8, [.ref xq1, .ref xq2])), (xq1, .inr (7, [.ref xq2, .ref xq3, .ref xq4, .ref xq5, .ref xq6, .ref xq7, .ref xq8, .int 0, .int 0, .int 0, .int 0, .int 0])), (o, .inl (co, 1, .inr (.inr (.inr (.inl fo)))))] sz)) (z_XC (fun _ : String => False) (va_A [(h0, .inr (8, [.ref xq1, .ref xq2])), (xq1, .inr (7, [.ref xq2, .ref xq3, .ref xq4, .ref xq5, .ref xq6, .ref xq7, .ref xq8, .int 0, .int 0, .int 0, .int 0, .int 0])), (o, .inl (co, 1, .inr (.inr (.inr (.inl fo)))))] sz)) 1 6 (va_A [(h0, .inr (8, [.ref xq1, .ref xq2])), (xq1, .inr (7, [.ref xq2, .ref xq3, .ref xq4, .ref xq5, .ref xq6, .ref xq7, .ref xq8, .int 0, .int 0, .int 0, .int 0, .int 0])), (o, .inl (co, 1, .inr (.inr (.inr (.inl fo)))))] sz) := by
  refine vx_ofWH (cc := cL_meanDepth) (maxL := 3) (ret := (some .int)) (by decide) rfl ?_
  intro p e s m args below meth c s₁ B hml hv
  obtain ⟨rfl, rfl, I⟩ := z_open hv
  have hx := B.exec
  have hb := B.bytes
  have hr := B.returns
  have hts := atoms_spec (ws := z_wh yL_meanDepth cL_meanDepth 3 (some .int) [(0, 7, 10, 125)]) B.pre
  have hg : z_G _ s := z_G.of hts
  have hown : s.vm.findClass RL = some m.cls := findClass_of_methodNamed B.named
  have hlocks := B.notSynchronized
  have htab : c.exceptionTable.toList = tableOf [(0, 7, 10, 125)] := vx_table (x := yL_meanDepth) B (hts _ List.mem_cons_self)
  generalize va_A [(h0, .inr (8, [.ref xq1, .ref xq2])), (xq1, .inr (7, [.ref xq2, .ref xq3, .ref xq4, .ref xq5, .ref xq6, .ref xq7, .ref xq8, .int 0, .int 0, .int 0, .int 0, .int 0])), (o, .inl (co, 1, .inr (.inr (.inr (.inl fo)))))] s.heap.size = A at I ⊢
  have hl := lv_entry ([.ref h0, .ref o]) (n := 3) (Nat.le_of_ble_eq_true rfl)
  rw [lg_entry_eq]
  generalize (lg_sl ([.ref h0, .ref o]) ++ List.replicate (3 - (lg_sl ([.ref h0, .ref o])).length) Slot.unset).toArray = ls at hl ⊢
  have hl : lv_has ls 3 [(0, .ref h0), (1, .ref o)] := hl
  refine lv_aload_n hx hb dL_meanDepth_0 rfl (lv_at hl 1 rfl) ?_
  refine lv_iconst (v := 0) hx hb dL_meanDepth_1 (by decide) ?_
  refine lv_aload_n hx hb dL_meanDepth_2 rfl (lv_at hl 0 rfl) ?_
  refine z_xcalld (wr := [(o, .inl (co, 1, .inr (.inr (.inr (.inl fo)))))]) (vx_runV (As := []) (rest := [.int 0, .ref o]) ⟨hx, hb, hml, hown, hts⟩ (z_RX8_meanDepth l hst dC dI xq1 xq2 xq3 xq4 xq5 xq6 xq7 xq8 h0  s.heap.size) (cwV 0 hts (z_gV z_T.wh mw1240 mw1241 mw1242 mw1 mw1243) rfl rfl rfl (by decide +kernel) ⟨Nat.le_of_ble_eq_true rfl, Nat.le_of_ble_eq_true rfl⟩) (z_preV I [0, 1] [] rfl rfl rfl rfl (ci := 8) (q0 := 0) rfl rfl) rfl rfl hl.1 rfl (lv_room (Nat.le_of_ble_eq_true rfl)) dL_meanDepth_3 ⟨Nat.le_of_ble_eq_true rfl, Nat.le_of_ble_eq_true rfl⟩) I [0, 1] [2] rfl rfl (by decide) (by decide) (fun E1 ce1 q1 H locs hE1 I hcell hcv hcl => ?_) (fun r1 u1 H locs hw1 I => ?_)
  · skip
    have I : z_I A dC dI [(o, .inl (co, 1, .inr (.inr (.inr (.inl fo)))))] [(co, .double)] s H _ := I
    subst hE1
    refine vx_widen (Nat.le_refl _) (Nat.le_refl _) ?_
    refine vx_catch (own := RL) (name := "java/lang/ArithmeticException") (E := "java/lang/ArithmeticException") hown [] ⟨0, 7, 10, 125⟩ [] (by rw [htab]; rfl) (fun z hz => nomatch hz) (by decide) (by decide) (hg _ mw1212 rfl) (va_Nw.use rfl (I.2.2.2.2.2.2.2.1 _ (List.mem_of_getElem? (i := 4) rfl))) hcell hcv hcl ?_
    refine lv_astore_n (lv' := [(2, .ref q1), (0, .ref h0), (1, .ref o)]) hx hb dL_meanDepth_10 rfl hl (by decide) rfl (fun ls hl => ?_)
    refine lv_iconst (v := 1) hx hb dL_meanDepth_11 (by decide) ?_
    have I := I.subT (t' := []) [] rfl
    refine W.widen (k := 1) (n := 6) (Nat.le_of_ble_eq_true rfl) (Nat.le_of_ble_eq_true rfl) ?_
    refine vx_ret ?_
    exact z_iret hx hb hr hlocks I ⟨fo, rfl, rfl, trivial⟩ dL_meanDepth_12
  · skip
    obtain ⟨hu1, hp1⟩ := hw1
    exact hp1.elim
set_option maxHeartbeats 4000000 in
set_option maxRecDepth 100000 in
theorem z_L_offer (l : Launch) (hst : l.stackTraces = false) (dC : Nat → ClassId) (dI : Nat → Nat → Nat) (xq1 : Nat) (xq2 : Nat) (xq3 : Nat) (xq4 : Nat) (xq5 : Nat) (xq6 : Nat) (xq7 : Nat) (xq8 : Nat) (h0 : Nat) (o : Nat) (co : ClassId) (fo : Nat → Int64) (p0 : Int32) (p1 : Int32) (p2 : Int32) (p3 : Int32) (sz : Nat) : vx_Met l yL_offer (z_wh yL_offer cL_offer 7 (some .int) [(0, 21, 24, 15)]) ({ frames := 12, cells := 1, slots := 6, locals := 260 }) (z_P dC dI [(h0, .inr (8, [.ref xq1, .ref xq2])), (xq1, .inr (7, [.ref xq2, .ref xq3, .ref xq4, .ref xq5, .ref xq6, .ref xq7, .ref xq8, .int 0, .int 0, .int 0, .int 0, .int 0])), (o, .inl (co, 1, .inr (.inl fo)))] [(co, .long)] sz [.ref h0, .int p0, .int p1, .int p2, .int p3, .ref o]) (va_Qi (fun (r : Int32) (u : va_W × List (ClassId × FieldType)) => ∃ (xf1 : Nat → Int64), u = ([(o, .inl (co, 1, .inr (.inl xf1)))], []) ∧ r = 1 ∧ (r = 0 → xf1 0 = 0)) (z_B dC dI (va_A [(h0, .inr (8, [.ref xq1, .ref xq2])), (xq1, .inr (7, [.ref xq2, .ref xq3, .ref xq4, .ref xq5, .ref xq6, .ref xq7, .ref xq8, .int 0, .int 0, .int 0, .int 0, .int 0])), (o, .inl (co, 1, .inr (.inl fo)))] sz)) (va_A [(h0, .inr (8, [.ref xq1, .ref xq2])), (xq1, .inr (7, [.ref xq2, .ref xq3, .ref xq4, .ref xq5, .ref xq6, .ref xq7, .ref xq8, .int 0, .int 0, .int 0, .int 0, .int 0])), (o, .inl (co, 1, .inr (.inl fo)))] sz)) (z_XC (fun _ : String => False) (va_A [(h0, .inr (8, [.ref xq1, .ref xq2])), (xq1, .inr (7, [.ref xq2, .ref xq3, .ref xq4, .ref xq5, .ref xq6, .ref xq7, .ref xq8, .int 0, .int 0, .int 0, .int 0, .int 0])), (o, .inl (co, 1, .inr (.inl fo)))] sz)) 1 6 (va_A [(h0, .inr (8, [.ref xq1, .ref xq2])), (xq1, .inr (7, [.ref xq2, .ref xq3, .ref xq4, .ref xq5, .ref xq6, .ref xq7, .ref xq8, .int 0, .int 0, .int 0, .int 0, .int 0])), (o, .inl (co, 1, .inr (.inl fo)))] sz) := by
  refine vx_ofWH (cc := cL_offer) (maxL := 7) (ret := (some .int)) (by decide) rfl ?_
  intro p e s m args below meth c s₁ B hml hv
  obtain ⟨rfl, rfl, I⟩ := z_open hv
  have hx := B.exec
  have hb := B.bytes
  have hr := B.returns
  have hts := atoms_spec (ws := z_wh yL_offer cL_offer 7 (some .int) [(0, 21, 24, 15)]) B.pre
  have hg : z_G _ s := z_G.of hts
  have hown : s.vm.findClass RL = some m.cls := findClass_of_methodNamed B.named
  have hlocks := B.notSynchronized
  have htab : c.exceptionTable.toList = tableOf [(0, 21, 24, 15)] := vx_table (x := yL_offer) B (hts _ List.mem_cons_self)
  generalize va_A [(h0, .inr (8, [.ref xq1, .ref xq2])), (xq1, .inr (7, [.ref xq2, .ref xq3, .ref xq4, .ref xq5, .ref xq6, .ref xq7, .ref xq8, .int 0, .int 0, .int 0, .int 0, .int 0])), (o, .inl (co, 1, .inr (.inl fo)))] s.heap.size = A at I ⊢
  have hl := lv_entry ([.ref h0, .int p0, .int p1, .int p2, .int p3, .ref o]) (n := 7) (Nat.le_of_ble_eq_true rfl)
  rw [lg_entry_eq]
  generalize (lg_sl ([.ref h0, .int p0, .int p1, .int p2, .int p3, .ref o]) ++ List.replicate (7 - (lg_sl ([.ref h0, .int p0, .int p1, .int p2, .int p3, .ref o])).length) Slot.unset).toArray = ls at hl ⊢
  have hl : lv_has ls 7 [(0, .ref h0), (1, .int p0), (2, .int p1), (3, .int p2), (4, .int p3), (5, .ref o)] := hl
  refine lv_aload hx hb dL_offer_0 (lv_at hl 5 rfl) ?_
  refine lv_iconst (v := 0) hx hb dL_offer_2 (by decide) ?_
  refine lv_aload_n hx hb dL_offer_3 rfl (lv_at hl 0 rfl) ?_
  refine lv_iload_n hx hb dL_offer_4 rfl (lv_at hl 1 rfl) ?_
  refine lv_iload_n hx hb dL_offer_5 rfl (lv_at hl 2 rfl) ?_
  refine lv_iload_n hx hb dL_offer_6 rfl (lv_at hl 3 rfl) ?_
  refine lv_iload hx hb dL_offer_7 (lv_at hl 4 rfl) ?_
  refine z_xcalli (wr := [(o, .inl (co, 1, .inr (.inl fo)))]) (vx_runV (As := [.int p0, .int p1, .int p2, .int p3]) (rest := [.int 0, .ref o]) ⟨hx, hb, hml, hown, hts⟩ (z_RX8_offer l hst dC dI xq1 xq2 xq3 xq4 xq5 xq6 xq7 xq8 h0 p0 p1 p2 p3  s.heap.size) (cwV 4 hts (z_gV z_T.wh mw991 mw992 mw993 mw1 mw994) rfl rfl rfl (by decide +kernel) ⟨Nat.le_of_ble_eq_true rfl, Nat.le_of_ble_eq_true rfl⟩) (z_preV I [0, 1] [] rfl rfl rfl rfl (ci := 8) (q0 := 0) rfl rfl) rfl rfl hl.1 rfl (lv_room (Nat.le_of_ble_eq_true rfl)) dL_offer_9 ⟨Nat.le_of_ble_eq_true rfl, Nat.le_of_ble_eq_true rfl⟩) I [0, 1] [2] rfl rfl (by decide) (by decide) (fun E1 ce1 q1 H locs hE1 I hcell hcv hcl => ?_) (fun r1 u1 H locs hw1 I => ?_)
  · skip
    have I : z_I A dC dI [(o, .inl (co, 1, .inr (.inl fo)))] [(co, .long)] s H _ := I
    subst hE1
    refine vx_widen (Nat.le_refl _) (Nat.le_refl _) ?_
    refine vx_catch (own := RL) (name := "java/lang/IllegalStateException") (E := "java/lang/IllegalStateException") hown [] ⟨0, 21, 24, 15⟩ [] (by rw [htab]; rfl) (fun z hz => nomatch hz) (by decide) (by decide) (hg _ mw384 rfl) (va_Nw.use rfl (I.2.2.2.2.2.2.2.1 _ (List.mem_of_getElem? (i := 1) rfl))) hcell hcv hcl ?_
    refine lv_astore (lv' := [(6, .ref q1), (0, .ref h0), (1, .int p0), (2, .int p1), (3, .int p2), (4, .int p3), (5, .ref o)]) hx hb dL_offer_24 hl (by decide) rfl (fun ls hl => ?_)
    refine lv_iconst (v := 1) hx hb dL_offer_26 (by decide) ?_
    have I := I.subT (t' := []) [] rfl
    refine W.widen (k := 1) (n := 6) (Nat.le_of_ble_eq_true rfl) (Nat.le_of_ble_eq_true rfl) ?_
    refine vx_ret ?_
    exact z_iret hx hb hr hlocks I ⟨fo, rfl, rfl, (fun h => absurd h (by decide))⟩ dL_offer_27
  · skip
    obtain ⟨hu1, hp1⟩ := hw1
    exact hp1.elim
set_option maxHeartbeats 4000000 in
set_option maxRecDepth 100000 in
theorem z_L_parent (l : Launch) (hst : l.stackTraces = false) (dC : Nat → ClassId) (dI : Nat → Nat → Nat) (xq1 : Nat) (xq2 : Nat) (xq3 : Nat) (xq4 : Nat) (xq5 : Nat) (xq6 : Nat) (xq7 : Nat) (xq8 : Nat) (h0 : Nat) (o : Nat) (co : ClassId) (fo : Nat → Int64) (p0 : Int32) (sz : Nat) : vx_Met l yL_parent (z_wh yL_parent cL_parent 4 (some .int) [(0, 9, 12, 31), (0, 9, 15, 43)]) ({ frames := 12, cells := 1, slots := 6, locals := 260 }) (z_P dC dI [(h0, .inr (8, [.ref xq1, .ref xq2])), (xq1, .inr (7, [.ref xq2, .ref xq3, .ref xq4, .ref xq5, .ref xq6, .ref xq7, .ref xq8, .int 0, .int 0, .int 0, .int 0, .int 0])), (o, .inl (co, 1, .inr (.inl fo)))] [(co, .long)] sz [.ref h0, .int p0, .ref o]) (va_Qi (fun (r : Int32) (u : va_W × List (ClassId × FieldType)) => ∃ (xf1 : Nat → Int64), u = ([(o, .inl (co, 1, .inr (.inl xf1)))], []) ∧ r = 1 ∧ (r = 0 → xf1 0 = 0)) (z_B dC dI (va_A [(h0, .inr (8, [.ref xq1, .ref xq2])), (xq1, .inr (7, [.ref xq2, .ref xq3, .ref xq4, .ref xq5, .ref xq6, .ref xq7, .ref xq8, .int 0, .int 0, .int 0, .int 0, .int 0])), (o, .inl (co, 1, .inr (.inl fo)))] sz)) (va_A [(h0, .inr (8, [.ref xq1, .ref xq2])), (xq1, .inr (7, [.ref xq2, .ref xq3, .ref xq4, .ref xq5, .ref xq6, .ref xq7, .ref xq8, .int 0, .int 0, .int 0, .int 0, .int 0])), (o, .inl (co, 1, .inr (.inl fo)))] sz)) (z_XC (fun _ : String => False) (va_A [(h0, .inr (8, [.ref xq1, .ref xq2])), (xq1, .inr (7, [.ref xq2, .ref xq3, .ref xq4, .ref xq5, .ref xq6, .ref xq7, .ref xq8, .int 0, .int 0, .int 0, .int 0, .int 0])), (o, .inl (co, 1, .inr (.inl fo)))] sz)) 1 6 (va_A [(h0, .inr (8, [.ref xq1, .ref xq2])), (xq1, .inr (7, [.ref xq2, .ref xq3, .ref xq4, .ref xq5, .ref xq6, .ref xq7, .ref xq8, .int 0, .int 0, .int 0, .int 0, .int 0])), (o, .inl (co, 1, .inr (.inl fo)))] sz) := by
  refine vx_ofWH (cc := cL_parent) (maxL := 4) (ret := (some .int)) (by decide) rfl ?_
  intro p e s m args below meth c s₁ B hml hv
  obtain ⟨rfl, rfl, I⟩ := z_open hv
  have hx := B.exec
  have hb := B.bytes
  have hr := B.returns
  have hts := atoms_spec (ws := z_wh yL_parent cL_parent 4 (some .int) [(0, 9, 12, 31), (0, 9, 15, 43)]) B.pre
  have hg : z_G _ s := z_G.of hts
  have hown : s.vm.findClass RL = some m.cls := findClass_of_methodNamed B.named
  have hlocks := B.notSynchronized
  have htab : c.exceptionTable.toList = tableOf [(0, 9, 12, 31), (0, 9, 15, 43)] := vx_table (x := yL_parent) B (hts _ List.mem_cons_self)
  generalize va_A [(h0, .inr (8, [.ref xq1, .ref xq2])), (xq1, .inr (7, [.ref xq2, .ref xq3, .ref xq4, .ref xq5, .ref xq6, .ref xq7, .ref xq8, .int 0, .int 0, .int 0, .int 0, .int 0])), (o, .inl (co, 1, .inr (.inl fo)))] s.heap.size = A at I ⊢
  have hl := lv_entry ([.ref h0, .int p0, .ref o]) (n := 4) (Nat.le_of_ble_eq_true rfl)
  rw [lg_entry_eq]
  generalize (lg_sl ([.ref h0, .int p0, .ref o]) ++ List.replicate (4 - (lg_sl ([.ref h0, .int p0, .ref o])).length) Slot.unset).toArray = ls at hl ⊢
  have hl : lv_has ls 4 [(0, .ref h0), (1, .int p0), (2, .ref o)] := hl
  refine lv_aload_n hx hb dL_parent_0 rfl (lv_at hl 2 rfl) ?_
  refine lv_iconst (v := 0) hx hb dL_parent_1 (by decide) ?_
  refine lv_aload_n hx hb dL_parent_2 rfl (lv_at hl 0 rfl) ?_
  refine lv_iload_n hx hb dL_parent_3 rfl (lv_at hl 1 rfl) ?_
  refine z_xcalli (wr := [(o, .inl (co, 1, .inr (.inl fo)))]) (vx_runV (As := [.int p0]) (rest := [.int 0, .ref o]) ⟨hx, hb, hml, hown, hts⟩ (z_RX8_parent l hst dC dI xq1 xq2 xq3 xq4 xq5 xq6 xq7 xq8 h0 p0  s.heap.size) (cwV 1 hts (z_gV z_T.wh mw922 mw923 mw924 mw1 mw925) rfl rfl rfl (by decide +kernel) ⟨Nat.le_of_ble_eq_true rfl, Nat.le_of_ble_eq_true rfl⟩) (z_preV I [0, 1] [] rfl rfl rfl rfl (ci := 8) (q0 := 0) rfl rfl) rfl rfl hl.1 rfl (lv_room (Nat.le_of_ble_eq_true rfl)) dL_parent_4 ⟨Nat.le_of_ble_eq_true rfl, Nat.le_of_ble_eq_true rfl⟩) I [0, 1] [2] rfl rfl (by decide) (by decide) (fun E1 ce1 q1 H locs hE1 I hcell hcv hcl => ?_) (fun r1 u1 H locs hw1 I => ?_)
  · skip
    have I : z_I A dC dI [(o, .inl (co, 1, .inr (.inl fo)))] [(co, .long)] s H _ := I
    subst hE1
    refine vx_widen (Nat.le_refl _) (Nat.le_refl _) ?_
    refine vx_catch (own := RL) (name := "java/lang/IndexOutOfBoundsException") (E := "java/lang/IndexOutOfBoundsException") hown [] ⟨0, 9, 12, 31⟩ [⟨0, 9, 15, 43⟩] (by rw [htab]; rfl) (fun z hz => nomatch hz) (by decide) (by decide) (hg _ mw610 rfl) (va_Nw.use rfl (I.2.2.2.2.2.2.2.1 _ (List.mem_of_getElem? (i := 2) rfl))) hcell hcv hcl ?_
    refine lv_astore_n (lv' := [(3, .ref q1), (0, .ref h0), (1, .int p0), (2, .ref o)]) hx hb dL_parent_12 rfl hl (by decide) rfl (fun ls hl => ?_)
    refine lv_iconst (v := 1) hx hb dL_parent_13 (by decide) ?_
    have I := I.subT (t' := []) [] rfl
    refine W.widen (k := 1) (n := 6) (Nat.le_of_ble_eq_true rfl) (Nat.le_of_ble_eq_true rfl) ?_
    refine vx_ret ?_
    exact z_iret hx hb hr hlocks I ⟨fo, rfl, rfl, (fun h => absurd h (by decide))⟩ dL_parent_14
  · skip
    obtain ⟨hu1, hp1⟩ := hw1
    exact hp1.elim
set_option maxHeartbeats 4000000 in
set_option maxRecDepth 100000 in
theorem z_L_point (l : Launch) (hst : l.stackTraces = false) (dC : Nat → ClassId) (dI : Nat → Nat → Nat) (xq1 : Nat) (xq2 : Nat) (xq3 : Nat) (xq4 : Nat) (xq5 : Nat) (xq6 : Nat) (xq7 : Nat) (xq8 : Nat) (h0 : Nat) (o : Nat) (co : ClassId) (fo : Nat → Int64) (p0 : Int32) (p1 : Int32) (sz : Nat) : vx_Met l yL_point (z_wh yL_point cL_point 5 (some .int) [(0, 9, 12, 31), (0, 9, 16, 43)]) ({ frames := 12, cells := 1, slots := 6, locals := 260 }) (z_P dC dI [(h0, .inr (8, [.ref xq1, .ref xq2])), (xq1, .inr (7, [.ref xq2, .ref xq3, .ref xq4, .ref xq5, .ref xq6, .ref xq7, .ref xq8, .int 0, .int 0, .int 0, .int 0, .int 0])), (o, .inl (co, 1, .inr (.inl fo)))] [(co, .long)] sz [.ref h0, .int p0, .int p1, .ref o]) (va_Qi (fun (r : Int32) (u : va_W × List (ClassId × FieldType)) => ∃ (xf1 : Nat → Int64), u = ([(o, .inl (co, 1, .inr (.inl xf1)))], []) ∧ r = 1 ∧ (r = 0 → xf1 0 = 0)) (z_B dC dI (va_A [(h0, .inr (8, [.ref xq1, .ref xq2])), (xq1, .inr (7, [.ref xq2, .ref xq3, .ref xq4, .ref xq5, .ref xq6, .ref xq7, .ref xq8, .int 0, .int 0, .int 0, .int 0, .int 0])), (o, .inl (co, 1, .inr (.inl fo)))] sz)) (va_A [(h0, .inr (8, [.ref xq1, .ref xq2])), (xq1, .inr (7, [.ref xq2, .ref xq3, .ref xq4, .ref xq5, .ref xq6, .ref xq7, .ref xq8, .int 0, .int 0, .int 0, .int 0, .int 0])), (o, .inl (co, 1, .inr (.inl fo)))] sz)) (z_XC (fun _ : String => False) (va_A [(h0, .inr (8, [.ref xq1, .ref xq2])), (xq1, .inr (7, [.ref xq2, .ref xq3, .ref xq4, .ref xq5, .ref xq6, .ref xq7, .ref xq8, .int 0, .int 0, .int 0, .int 0, .int 0])), (o, .inl (co, 1, .inr (.inl fo)))] sz)) 1 6 (va_A [(h0, .inr (8, [.ref xq1, .ref xq2])), (xq1, .inr (7, [.ref xq2, .ref xq3, .ref xq4, .ref xq5, .ref xq6, .ref xq7, .ref xq8, .int 0, .int 0, .int 0, .int 0, .int 0])), (o, .inl (co, 1, .inr (.inl fo)))] sz) := by
  refine vx_ofWH (cc := cL_point) (maxL := 5) (ret := (some .int)) (by decide) rfl ?_
  intro p e s m args below meth c s₁ B hml hv
  obtain ⟨rfl, rfl, I⟩ := z_open hv
  have hx := B.exec
  have hb := B.bytes
  have hr := B.returns
  have hts := atoms_spec (ws := z_wh yL_point cL_point 5 (some .int) [(0, 9, 12, 31), (0, 9, 16, 43)]) B.pre
  have hg : z_G _ s := z_G.of hts
  have hown : s.vm.findClass RL = some m.cls := findClass_of_methodNamed B.named
  have hlocks := B.notSynchronized
  have htab : c.exceptionTable.toList = tableOf [(0, 9, 12, 31), (0, 9, 16, 43)] := vx_table (x := yL_point) B (hts _ List.mem_cons_self)
  generalize va_A [(h0, .inr (8, [.ref xq1, .ref xq2])), (xq1, .inr (7, [.ref xq2, .ref xq3, .ref xq4, .ref xq5, .ref xq6, .ref xq7, .ref xq8, .int 0, .int 0, .int 0, .int 0, .int 0])), (o, .inl (co, 1, .inr (.inl fo)))] s.heap.size = A at I ⊢
  have hl := lv_entry ([.ref h0, .int p0, .int p1, .ref o]) (n := 5) (Nat.le_of_ble_eq_true rfl)
  rw [lg_entry_eq]
  generalize (lg_sl ([.ref h0, .int p0, .int p1, .ref o]) ++ List.replicate (5 - (lg_sl ([.ref h0, .int p0, .int p1, .ref o])).length) Slot.unset).toArray = ls at hl ⊢
  have hl : lv_has ls 5 [(0, .ref h0), (1, .int p0), (2, .int p1), (3, .ref o)] := hl
  refine lv_aload_n hx hb dL_point_0 rfl (lv_at hl 3 rfl) ?_
  refine lv_iconst (v := 0) hx hb dL_point_1 (by decide) ?_
  refine lv_aload_n hx hb dL_point_2 rfl (lv_at hl 0 rfl) ?_
  refine lv_iload_n hx hb dL_point_3 rfl (lv_at hl 1 rfl) ?_
  refine lv_iload_n hx hb dL_point_4 rfl (lv_at hl 2 rfl) ?_
  refine z_xcalll (wr := [(o, .inl (co, 1, .inr (.inl fo)))]) (vx_runV (As := [.int p0, .int p1]) (rest := [.int 0, .ref o]) ⟨hx, hb, hml, hown, hts⟩ (z_RX8_point l hst dC dI xq1 xq2 xq3 xq4 xq5 xq6 xq7 xq8 h0 p0 p1  s.heap.size) (cwV 2 hts (z_gV z_T.wh mw968 mw969 mw970 mw1 mw971) rfl rfl rfl (by decide +kernel) ⟨Nat.le_of_ble_eq_true rfl, Nat.le_of_ble_eq_true rfl⟩) (z_preV I [0, 1] [] rfl rfl rfl rfl (ci := 8) (q0 := 0) rfl rfl) rfl rfl hl.1 rfl (lv_room (Nat.le_of_ble_eq_true rfl)) dL_point_5 ⟨Nat.le_of_ble_eq_true rfl, Nat.le_of_ble_eq_true rfl⟩) I [0, 1] [2] rfl rfl (by decide) (by decide) (fun E1 ce1 q1 H locs hE1 I hcell hcv hcl => ?_) (fun r1 u1 H locs hw1 I => ?_)
  · skip
    have I : z_I A dC dI [(o, .inl (co, 1, .inr (.inl fo)))] [(co, .long)] s H _ := I
    subst hE1
    refine vx_widen (Nat.le_refl _) (Nat.le_refl _) ?_
    refine vx_catch (own := RL) (name := "java/lang/IndexOutOfBoundsException") (E := "java/lang/IndexOutOfBoundsException") hown [] ⟨0, 9, 12, 31⟩ [⟨0, 9, 16, 43⟩] (by rw [htab]; rfl) (fun z hz => nomatch hz) (by decide) (by decide) (hg _ mw610 rfl) (va_Nw.use rfl (I.2.2.2.2.2.2.2.1 _ (List.mem_of_getElem? (i := 2) rfl))) hcell hcv hcl ?_
    refine lv_astore (lv' := [(4, .ref q1), (0, .ref h0), (1, .int p0), (2, .int p1), (3, .ref o)]) hx hb dL_point_12 hl (by decide) rfl (fun ls hl => ?_)
    refine lv_iconst (v := 1) hx hb dL_point_14 (by decide) ?_
    have I := I.subT (t' := []) [] rfl
    refine W.widen (k := 1) (n := 6) (Nat.le_of_ble_eq_true rfl) (Nat.le_of_ble_eq_true rfl) ?_
    refine vx_ret ?_
    exact z_iret hx hb hr hlocks I ⟨fo, rfl, rfl, (fun h => absurd h (by decide))⟩ dL_point_15
  · skip
    obtain ⟨hu1, hp1⟩ := hw1
    exact hp1.elim
set_option maxHeartbeats 4000000 in
set_option maxRecDepth 100000 in
theorem z_L_round (l : Launch) (hst : l.stackTraces = false) (dC : Nat → ClassId) (dI : Nat → Nat → Nat) (xq1 : Nat) (xq2 : Nat) (xq3 : Nat) (xq4 : Nat) (xq5 : Nat) (xq6 : Nat) (xq7 : Nat) (xq8 : Nat) (h0 : Nat) (o : Nat) (co : ClassId) (fo : Nat → Int64) (p0 : Int32) (sz : Nat) : vx_Met l yL_round (z_wh yL_round cL_round 4 (some .int) [(0, 16, 19, 31), (0, 16, 22, 43)]) ({ frames := 12, cells := 1, slots := 6, locals := 260 }) (z_P dC dI [(h0, .inr (8, [.ref xq1, .ref xq2])), (xq1, .inr (7, [.ref xq2, .ref xq3, .ref xq4, .ref xq5, .ref xq6, .ref xq7, .ref xq8, .int 0, .int 0, .int 0, .int 0, .int 0])), (o, .inl (co, 1, .inr (.inl fo)))] [(co, .long)] sz [.ref h0, .int p0, .ref o]) (va_Qi (fun (r : Int32) (u : va_W × List (ClassId × FieldType)) => ∃ (xf1 : Nat → Int64), u = ([(o, .inl (co, 1, .inr (.inl xf1)))], []) ∧ r = 1 ∧ (r = 0 → xf1 0 = 0)) (z_B dC dI (va_A [(h0, .inr (8, [.ref xq1, .ref xq2])), (xq1, .inr (7, [.ref xq2, .ref xq3, .ref xq4, .ref xq5, .ref xq6, .ref xq7, .ref xq8, .int 0, .int 0, .int 0, .int 0, .int 0])), (o, .inl (co, 1, .inr (.inl fo)))] sz)) (va_A [(h0, .inr (8, [.ref xq1, .ref xq2])), (xq1, .inr (7, [.ref xq2, .ref xq3, .ref xq4, .ref xq5, .ref xq6, .ref xq7, .ref xq8, .int 0, .int 0, .int 0, .int 0, .int 0])), (o, .inl (co, 1, .inr (.inl fo)))] sz)) (z_XC (fun _ : String => False) (va_A [(h0, .inr (8, [.ref xq1, .ref xq2])), (xq1, .inr (7, [.ref xq2, .ref xq3, .ref xq4, .ref xq5, .ref xq6, .ref xq7, .ref xq8, .int 0, .int 0, .int 0, .int 0, .int 0])), (o, .inl (co, 1, .inr (.inl fo)))] sz)) 1 6 (va_A [(h0, .inr (8, [.ref xq1, .ref xq2])), (xq1, .inr (7, [.ref xq2, .ref xq3, .ref xq4, .ref xq5, .ref xq6, .ref xq7, .ref xq8, .int 0, .int 0, .int 0, .int 0, .int 0])), (o, .inl (co, 1, .inr (.inl fo)))] sz) := by
  refine vx_ofWH (cc := cL_round) (maxL := 4) (ret := (some .int)) (by decide) rfl ?_
  intro p e s m args below meth c s₁ B hml hv
  obtain ⟨rfl, rfl, I⟩ := z_open hv
  have hx := B.exec
  have hb := B.bytes
  have hr := B.returns
  have hts := atoms_spec (ws := z_wh yL_round cL_round 4 (some .int) [(0, 16, 19, 31), (0, 16, 22, 43)]) B.pre
  have hg : z_G _ s := z_G.of hts
  have hown : s.vm.findClass RL = some m.cls := findClass_of_methodNamed B.named
  have hlocks := B.notSynchronized
  have htab : c.exceptionTable.toList = tableOf [(0, 16, 19, 31), (0, 16, 22, 43)] := vx_table (x := yL_round) B (hts _ List.mem_cons_self)
  generalize va_A [(h0, .inr (8, [.ref xq1, .ref xq2])), (xq1, .inr (7, [.ref xq2, .ref xq3, .ref xq4, .ref xq5, .ref xq6, .ref xq7, .ref xq8, .int 0, .int 0, .int 0, .int 0, .int 0])), (o, .inl (co, 1, .inr (.inl fo)))] s.heap.size = A at I ⊢
  have hl := lv_entry ([.ref h0, .int p0, .ref o]) (n := 4) (Nat.le_of_ble_eq_true rfl)
  rw [lg_entry_eq]
  generalize (lg_sl ([.ref h0, .int p0, .ref o]) ++ List.replicate (4 - (lg_sl ([.ref h0, .int p0, .ref o])).length) Slot.unset).toArray = ls at hl ⊢
  have hl : lv_has ls 4 [(0, .ref h0), (1, .int p0), (2, .ref o)] := hl
  refine lv_aload_n hx hb dL_round_0 rfl (lv_at hl 2 rfl) ?_
  refine lv_iconst (v := 0) hx hb dL_round_1 (by decide) ?_
  refine lv_aload_n hx hb dL_round_2 rfl (lv_at hl 0 rfl) ?_
  refine lv_iload_n hx hb dL_round_3 rfl (lv_at hl 1 rfl) ?_
  refine z_xcalli (wr := [(o, .inl (co, 1, .inr (.inl fo)))]) (vx_runV (As := [.int p0]) (rest := [.int 0, .ref o]) ⟨hx, hb, hml, hown, hts⟩ (z_RX8_round l hst dC dI xq1 xq2 xq3 xq4 xq5 xq6 xq7 xq8 h0 p0  s.heap.size) (cwV 1 hts (z_gV z_T.wh mw1016 mw1017 mw1018 mw1 mw1019) rfl rfl rfl (by decide +kernel) ⟨Nat.le_of_ble_eq_true rfl, Nat.le_of_ble_eq_true rfl⟩) (z_preV I [0, 1] [] rfl rfl rfl rfl (ci := 8) (q0 := 0) rfl rfl) rfl rfl hl.1 rfl (lv_room (Nat.le_of_ble_eq_true rfl)) dL_round_4 ⟨Nat.le_of_ble_eq_true rfl, Nat.le_of_ble_eq_true rfl⟩) I [0, 1] [2] rfl rfl (by decide) (by decide) (fun E1 ce1 q1 H locs hE1 I hcell hcv hcl => ?_) (fun r1 u1 H locs hw1 I => ?_)
  · skip
    have I : z_I A dC dI [(o, .inl (co, 1, .inr (.inl fo)))] [(co, .long)] s H _ := I
    subst hE1
    refine vx_widen (Nat.le_refl _) (Nat.le_refl _) ?_
    refine vx_catch (own := RL) (name := "java/lang/IndexOutOfBoundsException") (E := "java/lang/IndexOutOfBoundsException") hown [] ⟨0, 16, 19, 31⟩ [⟨0, 16, 22, 43⟩] (by rw [htab]; rfl) (fun z hz => nomatch hz) (by decide) (by decide) (hg _ mw610 rfl) (va_Nw.use rfl (I.2.2.2.2.2.2.2.1 _ (List.mem_of_getElem? (i := 2) rfl))) hcell hcv hcl ?_
    refine lv_astore_n (lv' := [(3, .ref q1), (0, .ref h0), (1, .int p0), (2, .ref o)]) hx hb dL_round_19 rfl hl (by decide) rfl (fun ls hl => ?_)
    refine lv_iconst (v := 1) hx hb dL_round_20 (by decide) ?_
    have I := I.subT (t' := []) [] rfl
    refine W.widen (k := 1) (n := 6) (Nat.le_of_ble_eq_true rfl) (Nat.le_of_ble_eq_true rfl) ?_
    refine vx_ret ?_
    exact z_iret hx hb hr hlocks I ⟨fo, rfl, rfl, (fun h => absurd h (by decide))⟩ dL_round_21
  · skip
    obtain ⟨hu1, hp1⟩ := hw1
    exact hp1.elim
set_option maxHeartbeats 4000000 in
set_option maxRecDepth 100000 in
theorem z_L_side (l : Launch) (hst : l.stackTraces = false) (dC : Nat → ClassId) (dI : Nat → Nat → Nat) (xq1 : Nat) (xq2 : Nat) (xq3 : Nat) (xq4 : Nat) (xq5 : Nat) (xq6 : Nat) (xq7 : Nat) (xq8 : Nat) (h0 : Nat) (o : Nat) (co : ClassId) (fo : Nat → Int64) (p0 : Int32) (sz : Nat) : vx_Met l yL_side (z_wh yL_side cL_side 4 (some .int) [(0, 9, 12, 31)]) ({ frames := 12, cells := 1, slots := 6, locals := 260 }) (z_P dC dI [(h0, .inr (8, [.ref xq1, .ref xq2])), (xq1, .inr (7, [.ref xq2, .ref xq3, .ref xq4, .ref xq5, .ref xq6, .ref xq7, .ref xq8, .int 0, .int 0, .int 0, .int 0, .int 0])), (o, .inl (co, 1, .inr (.inl fo)))] [(co, .long)] sz [.ref h0, .int p0, .ref o]) (va_Qi (fun (r : Int32) (u : va_W × List (ClassId × FieldType)) => ∃ (xf1 : Nat → Int64), u = ([(o, .inl (co, 1, .inr (.inl xf1)))], []) ∧ r = 1 ∧ (r = 0 → xf1 0 = 0)) (z_B dC dI (va_A [(h0, .inr (8, [.ref xq1, .ref xq2])), (xq1, .inr (7, [.ref xq2, .ref xq3, .ref xq4, .ref xq5, .ref xq6, .ref xq7, .ref xq8, .int 0, .int 0, .int 0, .int 0, .int 0])), (o, .inl (co, 1, .inr (.inl fo)))] sz)) (va_A [(h0, .inr (8, [.ref xq1, .ref xq2])), (xq1, .inr (7, [.ref xq2, .ref xq3, .ref xq4, .ref xq5, .ref xq6, .ref xq7, .ref xq8, .int 0, .int 0, .int 0, .int 0, .int 0])), (o, .inl (co, 1, .inr (.inl fo)))] sz)) (z_XC (fun _ : String => False) (va_A [(h0, .inr (8, [.ref xq1, .ref xq2])), (xq1, .inr (7, [.ref xq2, .ref xq3, .ref xq4, .ref xq5, .ref xq6, .ref xq7, .ref xq8, .int 0, .int 0, .int 0, .int 0, .int 0])), (o, .inl (co, 1, .inr (.inl fo)))] sz)) 1 6 (va_A [(h0, .inr (8, [.ref xq1, .ref xq2])), (xq1, .inr (7, [.ref xq2, .ref xq3, .ref xq4, .ref xq5, .ref xq6, .ref xq7, .ref xq8, .int 0, .int 0, .int 0, .int 0, .int 0])), (o, .inl (co, 1, .inr (.inl fo)))] sz) := by
  refine vx_ofWH (cc := cL_side) (maxL := 4) (ret := (some .int)) (by decide) rfl ?_
  intro p e s m args below meth c s₁ B hml hv
  obtain ⟨rfl, rfl, I⟩ := z_open hv
  have hx := B.exec
  have hb := B.bytes
  have hr := B.returns
  have hts := atoms_spec (ws := z_wh yL_side cL_side 4 (some .int) [(0, 9, 12, 31)]) B.pre
  have hg : z_G _ s := z_G.of hts
  have hown : s.vm.findClass RL = some m.cls := findClass_of_methodNamed B.named
  have hlocks := B.notSynchronized
  have htab : c.exceptionTable.toList = tableOf [(0, 9, 12, 31)] := vx_table (x := yL_side) B (hts _ List.mem_cons_self)
  generalize va_A [(h0, .inr (8, [.ref xq1, .ref xq2])), (xq1, .inr (7, [.ref xq2, .ref xq3, .ref xq4, .ref xq5, .ref xq6, .ref xq7, .ref xq8, .int 0, .int 0, .int 0, .int 0, .int 0])), (o, .inl (co, 1, .inr (.inl fo)))] s.heap.size = A at I ⊢
  have hl := lv_entry ([.ref h0, .int p0, .ref o]) (n := 4) (Nat.le_of_ble_eq_true rfl)
  rw [lg_entry_eq]
  generalize (lg_sl ([.ref h0, .int p0, .ref o]) ++ List.replicate (4 - (lg_sl ([.ref h0, .int p0, .ref o])).length) Slot.unset).toArray = ls at hl ⊢
  have hl : lv_has ls 4 [(0, .ref h0), (1, .int p0), (2, .ref o)] := hl
  refine lv_aload_n hx hb dL_side_0 rfl (lv_at hl 2 rfl) ?_
  refine lv_iconst (v := 0) hx hb dL_side_1 (by decide) ?_
  refine lv_aload_n hx hb dL_side_2 rfl (lv_at hl 0 rfl) ?_
  refine lv_iload_n hx hb dL_side_3 rfl (lv_at hl 1 rfl) ?_
  refine z_xcalli (wr := [(o, .inl (co, 1, .inr (.inl fo)))]) (vx_runV (As := [.int p0]) (rest := [.int 0, .ref o]) ⟨hx, hb, hml, hown, hts⟩ (z_RX8_side l hst dC dI xq1 xq2 xq3 xq4 xq5 xq6 xq7 xq8 h0 p0  s.heap.size) (cwV 1 hts (z_gV z_T.wh mw1190 mw1191 mw1192 mw1 mw1193) rfl rfl rfl (by decide +kernel) ⟨Nat.le_of_ble_eq_true rfl, Nat.le_of_ble_eq_true rfl⟩) (z_preV I [0, 1] [] rfl rfl rfl rfl (ci := 8) (q0 := 0) rfl rfl) rfl rfl hl.1 rfl (lv_room (Nat.le_of_ble_eq_true rfl)) dL_side_4 ⟨Nat.le_of_ble_eq_true rfl, Nat.le_of_ble_eq_true rfl⟩) I [0, 1] [2] rfl rfl (by decide) (by decide) (fun E1 ce1 q1 H locs hE1 I hcell hcv hcl => ?_) (fun r1 u1 H locs hw1 I => ?_)
  · skip
    have I : z_I A dC dI [(o, .inl (co, 1, .inr (.inl fo)))] [(co, .long)] s H _ := I
    subst hE1
    refine vx_widen (Nat.le_refl _) (Nat.le_refl _) ?_
    refine vx_catch (own := RL) (name := "java/lang/IndexOutOfBoundsException") (E := "java/lang/IndexOutOfBoundsException") hown [] ⟨0, 9, 12, 31⟩ [] (by rw [htab]; rfl) (fun z hz => nomatch hz) (by decide) (by decide) (hg _ mw610 rfl) (va_Nw.use rfl (I.2.2.2.2.2.2.2.1 _ (List.mem_of_getElem? (i := 2) rfl))) hcell hcv hcl ?_
    refine lv_astore_n (lv' := [(3, .ref q1), (0, .ref h0), (1, .int p0), (2, .ref o)]) hx hb dL_side_12 rfl hl (by decide) rfl (fun ls hl => ?_)
    refine lv_iconst (v := 1) hx hb dL_side_13 (by decide) ?_
    have I := I.subT (t' := []) [] rfl
    refine W.widen (k := 1) (n := 6) (Nat.le_of_ble_eq_true rfl) (Nat.le_of_ble_eq_true rfl) ?_
    refine vx_ret ?_
    exact z_iret hx hb hr hlocks I ⟨fo, rfl, rfl, (fun h => absurd h (by decide))⟩ dL_side_14
  · skip
    obtain ⟨hu1, hp1⟩ := hw1
    exact hp1.elim
set_option maxHeartbeats 4000000 in
set_option maxRecDepth 100000 in
theorem z_L_solution (l : Launch) (hst : l.stackTraces = false) (dC : Nat → ClassId) (dI : Nat → Nat → Nat) (xq1 : Nat) (xq2 : Nat) (xq9 : Nat) (xq10 : Nat) (xq11 : Nat) (xq12 : Nat) (xq13 : Nat) (xq14 : Nat) (xq15 : Nat) (xq16 : Nat) (xq17 : Nat) (xq18 : Nat) (xq19 : Nat) (h0 : Nat) (o : Nat) (co : ClassId) (fo : Nat → Int64) (p0 : Int32) (sz : Nat) : vx_Met l yL_solution (z_wh yL_solution cL_solution 4 (some .int) [(0, 8, 11, 31), (0, 8, 14, 43)]) ({ frames := 12, cells := 1, slots := 6, locals := 260 }) (z_P dC dI [(h0, .inr (8, [.ref xq1, .ref xq2])), (xq2, .inr (5, [.ref xq9, .ref xq10, .ref xq11, .ref xq12, .ref xq13, .ref xq14, .ref xq15, .ref xq16, .ref xq17, .ref xq18, .ref xq19, .int 0, .int 0])), (o, .inl (co, 1, .inr (.inl fo)))] [(co, .long)] sz [.ref h0, .int p0, .ref o]) (va_Qi (fun (r : Int32) (u : va_W × List (ClassId × FieldType)) => ∃ (xf1 : Nat → Int64), u = ([(o, .inl (co, 1, .inr (.inl xf1)))], []) ∧ r = 1 ∧ (r = 0 → xf1 0 = 0)) (z_B dC dI (va_A [(h0, .inr (8, [.ref xq1, .ref xq2])), (xq2, .inr (5, [.ref xq9, .ref xq10, .ref xq11, .ref xq12, .ref xq13, .ref xq14, .ref xq15, .ref xq16, .ref xq17, .ref xq18, .ref xq19, .int 0, .int 0])), (o, .inl (co, 1, .inr (.inl fo)))] sz)) (va_A [(h0, .inr (8, [.ref xq1, .ref xq2])), (xq2, .inr (5, [.ref xq9, .ref xq10, .ref xq11, .ref xq12, .ref xq13, .ref xq14, .ref xq15, .ref xq16, .ref xq17, .ref xq18, .ref xq19, .int 0, .int 0])), (o, .inl (co, 1, .inr (.inl fo)))] sz)) (z_XC (fun _ : String => False) (va_A [(h0, .inr (8, [.ref xq1, .ref xq2])), (xq2, .inr (5, [.ref xq9, .ref xq10, .ref xq11, .ref xq12, .ref xq13, .ref xq14, .ref xq15, .ref xq16, .ref xq17, .ref xq18, .ref xq19, .int 0, .int 0])), (o, .inl (co, 1, .inr (.inl fo)))] sz)) 1 6 (va_A [(h0, .inr (8, [.ref xq1, .ref xq2])), (xq2, .inr (5, [.ref xq9, .ref xq10, .ref xq11, .ref xq12, .ref xq13, .ref xq14, .ref xq15, .ref xq16, .ref xq17, .ref xq18, .ref xq19, .int 0, .int 0])), (o, .inl (co, 1, .inr (.inl fo)))] sz) := by
  refine vx_ofWH (cc := cL_solution) (maxL := 4) (ret := (some .int)) (by decide) rfl ?_
  intro p e s m args below meth c s₁ B hml hv
  obtain ⟨rfl, rfl, I⟩ := z_open hv
  have hx := B.exec
  have hb := B.bytes
  have hr := B.returns
  have hts := atoms_spec (ws := z_wh yL_solution cL_solution 4 (some .int) [(0, 8, 11, 31), (0, 8, 14, 43)]) B.pre
  have hg : z_G _ s := z_G.of hts
  have hown : s.vm.findClass RL = some m.cls := findClass_of_methodNamed B.named
  have hlocks := B.notSynchronized
  have htab : c.exceptionTable.toList = tableOf [(0, 8, 11, 31), (0, 8, 14, 43)] := vx_table (x := yL_solution) B (hts _ List.mem_cons_self)
  generalize va_A [(h0, .inr (8, [.ref xq1, .ref xq2])), (xq2, .inr (5, [.ref xq9, .ref xq10, .ref xq11, .ref xq12, .ref xq13, .ref xq14, .ref xq15, .ref xq16, .ref xq17, .ref xq18, .ref xq19, .int 0, .int 0])), (o, .inl (co, 1, .inr (.inl fo)))] s.heap.size = A at I ⊢
  have hl := lv_entry ([.ref h0, .int p0, .ref o]) (n := 4) (Nat.le_of_ble_eq_true rfl)
  rw [lg_entry_eq]
  generalize (lg_sl ([.ref h0, .int p0, .ref o]) ++ List.replicate (4 - (lg_sl ([.ref h0, .int p0, .ref o])).length) Slot.unset).toArray = ls at hl ⊢
  have hl : lv_has ls 4 [(0, .ref h0), (1, .int p0), (2, .ref o)] := hl
  refine lv_aload_n hx hb dL_solution_0 rfl (lv_at hl 2 rfl) ?_
  refine lv_iconst (v := 0) hx hb dL_solution_1 (by decide) ?_
  refine lv_aload_n hx hb dL_solution_2 rfl (lv_at hl 0 rfl) ?_
  refine lv_iload_n hx hb dL_solution_3 rfl (lv_at hl 1 rfl) ?_
  refine z_xcalll (wr := [(o, .inl (co, 1, .inr (.inl fo)))]) (vx_runV (As := [.int p0]) (rest := [.int 0, .ref o]) ⟨hx, hb, hml, hown, hts⟩ (z_RX8_solution l hst dC dI xq1 xq2 xq9 xq10 xq11 xq12 xq13 xq14 xq15 xq16 xq17 xq18 xq19 h0 p0  s.heap.size) (cwV 1 hts (z_gV z_T.wh mw1040 mw1041 mw1042 mw1 mw1043) rfl rfl rfl (by decide +kernel) ⟨Nat.le_of_ble_eq_true rfl, Nat.le_of_ble_eq_true rfl⟩) (z_preV I [0, 1] [] rfl rfl rfl rfl (ci := 8) (q0 := 0) rfl rfl) rfl rfl hl.1 rfl (lv_room (Nat.le_of_ble_eq_true rfl)) dL_solution_4 ⟨Nat.le_of_ble_eq_true rfl, Nat.le_of_ble_eq_true rfl⟩) I [0, 1] [2] rfl rfl (by decide) (by decide) (fun E1 ce1 q1 H locs hE1 I hcell hcv hcl => ?_) (fun r1 u1 H locs hw1 I => ?_)
  · skip
    have I : z_I A dC dI [(o, .inl (co, 1, .inr (.inl fo)))] [(co, .long)] s H _ := I
    subst hE1
    refine vx_widen (Nat.le_refl _) (Nat.le_refl _) ?_
    refine vx_catch (own := RL) (name := "java/lang/IndexOutOfBoundsException") (E := "java/lang/IndexOutOfBoundsException") hown [] ⟨0, 8, 11, 31⟩ [⟨0, 8, 14, 43⟩] (by rw [htab]; rfl) (fun z hz => nomatch hz) (by decide) (by decide) (hg _ mw610 rfl) (va_Nw.use rfl (I.2.2.2.2.2.2.2.1 _ (List.mem_of_getElem? (i := 2) rfl))) hcell hcv hcl ?_
    refine lv_astore_n (lv' := [(3, .ref q1), (0, .ref h0), (1, .int p0), (2, .ref o)]) hx hb dL_solution_11 rfl hl (by decide) rfl (fun ls hl => ?_)
    refine lv_iconst (v := 1) hx hb dL_solution_12 (by decide) ?_
    have I := I.subT (t' := []) [] rfl
    refine W.widen (k := 1) (n := 6) (Nat.le_of_ble_eq_true rfl) (Nat.le_of_ble_eq_true rfl) ?_
    refine vx_ret ?_
    exact z_iret hx hb hr hlocks I ⟨fo, rfl, rfl, (fun h => absurd h (by decide))⟩ dL_solution_13
  · skip
    obtain ⟨hu1, hp1⟩ := hw1
    exact hp1.elim
set_option maxHeartbeats 4000000 in
set_option maxRecDepth 100000 in
theorem z_L_solve (l : Launch) (hst : l.stackTraces = false) (dC : Nat → ClassId) (dI : Nat → Nat → Nat) (xq1 : Nat) (xq2 : Nat) (xq3 : Nat) (xq4 : Nat) (xq5 : Nat) (xq6 : Nat) (xq7 : Nat) (xq8 : Nat) (h0 : Nat) (o : Nat) (co : ClassId) (fo : Nat → Int64) (p0 : Int32) (sz : Nat) : vx_Met l yL_solve (z_wh yL_solve cL_solve 4 (some .int) [(0, 9, 12, 13), (0, 9, 15, 15)]) ({ frames := 12, cells := 1, slots := 6, locals := 260 }) (z_P dC dI [(h0, .inr (8, [.ref xq1, .ref xq2])), (xq1, .inr (7, [.ref xq2, .ref xq3, .ref xq4, .ref xq5, .ref xq6, .ref xq7, .ref xq8, .int 0, .int 0, .int 0, .int 0, .int 0])), (o, .inl (co, 1, .inr (.inl fo)))] [(co, .long)] sz [.ref h0, .int p0, .ref o]) (va_Qi (fun (r : Int32) (u : va_W × List (ClassId × FieldType)) => ∃ (xf1 : Nat → Int64), u = ([(o, .inl (co, 1, .inr (.inl xf1)))], []) ∧ r = z_cS p0 ∧ (r = 0 → xf1 0 = 0)) (z_B dC dI (va_A [(h0, .inr (8, [.ref xq1, .ref xq2])), (xq1, .inr (7, [.ref xq2, .ref xq3, .ref xq4, .ref xq5, .ref xq6, .ref xq7, .ref xq8, .int 0, .int 0, .int 0, .int 0, .int 0])), (o, .inl (co, 1, .inr (.inl fo)))] sz)) (va_A [(h0, .inr (8, [.ref xq1, .ref xq2])), (xq1, .inr (7, [.ref xq2, .ref xq3, .ref xq4, .ref xq5, .ref xq6, .ref xq7, .ref xq8, .int 0, .int 0, .int 0, .int 0, .int 0])), (o, .inl (co, 1, .inr (.inl fo)))] sz)) (z_XC (fun _ : String => False) (va_A [(h0, .inr (8, [.ref xq1, .ref xq2])), (xq1, .inr (7, [.ref xq2, .ref xq3, .ref xq4, .ref xq5, .ref xq6, .ref xq7, .ref xq8, .int 0, .int 0, .int 0, .int 0, .int 0])), (o, .inl (co, 1, .inr (.inl fo)))] sz)) 1 6 (va_A [(h0, .inr (8, [.ref xq1, .ref xq2])), (xq1, .inr (7, [.ref xq2, .ref xq3, .ref xq4, .ref xq5, .ref xq6, .ref xq7, .ref xq8, .int 0, .int 0, .int 0, .int 0, .int 0])), (o, .inl (co, 1, .inr (.inl fo)))] sz) := by
  refine vx_ofWH (cc := cL_solve) (maxL := 4) (ret := (some .int)) (by decide) rfl ?_
  intro p e s m args below meth c s₁ B hml hv
  obtain ⟨rfl, rfl, I⟩ := z_open hv
  have hx := B.exec
  have hb := B.bytes
  have hr := B.returns
  have hts := atoms_spec (ws := z_wh yL_solve cL_solve 4 (some .int) [(0, 9, 12, 13), (0, 9, 15, 15)]) B.pre
  have hg : z_G _ s := z_G.of hts
  have hown : s.vm.findClass RL = some m.cls := findClass_of_methodNamed B.named
  have hlocks := B.notSynchronized
  have htab : c.exceptionTable.toList = tableOf [(0, 9, 12, 13), (0, 9, 15, 15)] := vx_table (x := yL_solve) B (hts _ List.mem_cons_self)
  generalize va_A [(h0, .inr (8, [.ref xq1, .ref xq2])), (xq1, .inr (7, [.ref xq2, .ref xq3, .ref xq4, .ref xq5, .ref xq6, .ref xq7, .ref xq8, .int 0, .int 0, .int 0, .int 0, .int 0])), (o, .inl (co, 1, .inr (.inl fo)))] s.heap.size = A at I ⊢
  have hl := lv_entry ([.ref h0, .int p0, .ref o]) (n := 4) (Nat.le_of_ble_eq_true rfl)
  rw [lg_entry_eq]
  generalize (lg_sl ([.ref h0, .int p0, .ref o]) ++ List.replicate (4 - (lg_sl ([.ref h0, .int p0, .ref o])).length) Slot.unset).toArray = ls at hl ⊢
  have hl : lv_has ls 4 [(0, .ref h0), (1, .int p0), (2, .ref o)] := hl
  refine lv_aload_n hx hb dL_solve_0 rfl (lv_at hl 2 rfl) ?_
  refine lv_iconst (v := 0) hx hb dL_solve_1 (by decide) ?_
  refine lv_aload_n hx hb dL_solve_2 rfl (lv_at hl 0 rfl) ?_
  refine lv_iload_n hx hb dL_solve_3 rfl (lv_at hl 1 rfl) ?_
  refine z_xcalli (wr := [(o, .inl (co, 1, .inr (.inl fo)))]) (vx_runV (As := [.int p0]) (rest := [.int 0, .ref o]) ⟨hx, hb, hml, hown, hts⟩ (z_RX8_solve l hst dC dI xq1 xq2 xq3 xq4 xq5 xq6 xq7 xq8 h0 p0  s.heap.size) (cwV 1 hts (z_gV z_T.wh mw770 mw771 mw772 mw1 mw773) rfl rfl rfl (by decide +kernel) ⟨Nat.le_of_ble_eq_true rfl, Nat.le_of_ble_eq_true rfl⟩) (z_preV I [0, 1] [] rfl rfl rfl rfl (ci := 8) (q0 := 0) rfl rfl) rfl rfl hl.1 rfl (lv_room (Nat.le_of_ble_eq_true rfl)) dL_solve_4 ⟨Nat.le_of_ble_eq_true rfl, Nat.le_of_ble_eq_true rfl⟩) I [0, 1] [2] rfl rfl (by decide) (by decide) (fun E1 ce1 q1 H locs hE1 I hcell hcv hcl => ?_) (fun r1 u1 H locs hw1 I => ?_)
  · skip
    have I : z_I A dC dI [(o, .inl (co, 1, .inr (.inl fo)))] [(co, .long)] s H _ := I
    rcases hE1 with hE1 | hE1
    · skip
      obtain ⟨rfl, hc1⟩ := hE1
      refine vx_widen (Nat.le_refl _) (Nat.le_refl _) ?_
      refine vx_catch (own := RL) (name := "java/lang/IllegalArgumentException") (E := "java/lang/IllegalArgumentException") hown [] ⟨0, 9, 12, 13⟩ [⟨0, 9, 15, 15⟩] (by rw [htab]; rfl) (fun z hz => nomatch hz) (by decide) (by decide) (hg _ mw383 rfl) (va_Nw.use rfl (I.2.2.2.2.2.2.2.1 _ (List.mem_of_getElem? (i := 0) rfl))) hcell hcv hcl ?_
      refine lv_astore_n (lv' := [(3, .ref q1), (0, .ref h0), (1, .int p0), (2, .ref o)]) hx hb dL_solve_12 rfl hl (by decide) rfl (fun ls hl => ?_)
      refine lv_iconst (v := 1) hx hb dL_solve_13 (by decide) ?_
      have I := I.subT (t' := []) [] rfl
      refine W.widen (k := 1) (n := 6) (Nat.le_of_ble_eq_true rfl) (Nat.le_of_ble_eq_true rfl) ?_
      refine vx_ret ?_
      exact z_iret hx hb hr hlocks I ⟨fo, rfl, hc1.symm, (fun h => absurd h (by decide))⟩ dL_solve_14
    · skip
      obtain ⟨rfl, hc1⟩ := hE1
      refine vx_widen (Nat.le_refl _) (Nat.le_refl _) ?_
      refine vx_catch (own := RL) (name := "java/lang/IllegalStateException") (E := "java/lang/IllegalStateException") hown [⟨0, 9, 12, 13⟩] ⟨0, 9, 15, 15⟩ [] (by rw [htab]; rfl) (fun z hz => by rw [List.mem_singleton.mp hz]; exact Or.inr ⟨by decide, "java/lang/IllegalArgumentException", hg _ mw383 rfl, I.2.2.2.2.2.2.2.2.2.2.1⟩) (by decide) (by decide) (hg _ mw384 rfl) (va_Nw.use rfl (I.2.2.2.2.2.2.2.1 _ (List.mem_of_getElem? (i := 1) rfl))) hcell hcv hcl ?_
      refine lv_astore_n (lv' := [(3, .ref q1), (0, .ref h0), (1, .int p0), (2, .ref o)]) hx hb dL_solve_15 rfl hl (by decide) rfl (fun ls hl => ?_)
      refine lv_iconst (v := 2) hx hb dL_solve_16 (by decide) ?_
      have I := I.subT (t' := []) [] rfl
      refine W.widen (k := 1) (n := 6) (Nat.le_of_ble_eq_true rfl) (Nat.le_of_ble_eq_true rfl) ?_
      refine vx_ret ?_
      exact z_iret hx hb hr hlocks I ⟨fo, rfl, hc1.symm, (fun h => absurd h (by decide))⟩ dL_solve_17
  · skip
    obtain ⟨hu1, hp1⟩ := hw1
    exact hp1.elim
set_option maxHeartbeats 4000000 in
set_option maxRecDepth 100000 in
theorem z_L_state (l : Launch) (hst : l.stackTraces = false) (dC : Nat → ClassId) (dI : Nat → Nat → Nat) (xq1 : Nat) (xq2 : Nat) (xq3 : Nat) (xq4 : Nat) (xq5 : Nat) (xq6 : Nat) (xq7 : Nat) (xq8 : Nat) (h0 : Nat) (o : Nat) (co : ClassId) (fo : Nat → Int64) (p0 : Int32) (sz : Nat) : vx_Met l yL_state (z_wh yL_state cL_state 4 (some .int) [(0, 9, 12, 31)]) ({ frames := 12, cells := 1, slots := 6, locals := 260 }) (z_P dC dI [(h0, .inr (8, [.ref xq1, .ref xq2])), (xq1, .inr (7, [.ref xq2, .ref xq3, .ref xq4, .ref xq5, .ref xq6, .ref xq7, .ref xq8, .int 0, .int 0, .int 0, .int 0, .int 0])), (o, .inl (co, 1, .inr (.inl fo)))] [(co, .long)] sz [.ref h0, .int p0, .ref o]) (va_Qi (fun (r : Int32) (u : va_W × List (ClassId × FieldType)) => ∃ (xf1 : Nat → Int64), u = ([(o, .inl (co, 1, .inr (.inl xf1)))], []) ∧ r = 1 ∧ (r = 0 → xf1 0 = 0)) (z_B dC dI (va_A [(h0, .inr (8, [.ref xq1, .ref xq2])), (xq1, .inr (7, [.ref xq2, .ref xq3, .ref xq4, .ref xq5, .ref xq6, .ref xq7, .ref xq8, .int 0, .int 0, .int 0, .int 0, .int 0])), (o, .inl (co, 1, .inr (.inl fo)))] sz)) (va_A [(h0, .inr (8, [.ref xq1, .ref xq2])), (xq1, .inr (7, [.ref xq2, .ref xq3, .ref xq4, .ref xq5, .ref xq6, .ref xq7, .ref xq8, .int 0, .int 0, .int 0, .int 0, .int 0])), (o, .inl (co, 1, .inr (.inl fo)))] sz)) (z_XC (fun _ : String => False) (va_A [(h0, .inr (8, [.ref xq1, .ref xq2])), (xq1, .inr (7, [.ref xq2, .ref xq3, .ref xq4, .ref xq5, .ref xq6, .ref xq7, .ref xq8, .int 0, .int 0, .int 0, .int 0, .int 0])), (o, .inl (co, 1, .inr (.inl fo)))] sz)) 1 6 (va_A [(h0, .inr (8, [.ref xq1, .ref xq2])), (xq1, .inr (7, [.ref xq2, .ref xq3, .ref xq4, .ref xq5, .ref xq6, .ref xq7, .ref xq8, .int 0, .int 0, .int 0, .int 0, .int 0])), (o, .inl (co, 1, .inr (.inl fo)))] sz) := by
  refine vx_ofWH (cc := cL_state) (maxL := 4) (ret := (some .int)) (by decide) rfl ?_
  intro p e s m args below meth c s₁ B hml hv
  obtain ⟨rfl, rfl, I⟩ := z_open hv
  have hx := B.exec
  have hb := B.bytes
  have hr := B.returns
  have hts := atoms_spec (ws := z_wh yL_state cL_state 4 (some .int) [(0, 9, 12, 31)]) B.pre
  have hg : z_G _ s := z_G.of hts
  have hown : s.vm.findClass RL = some m.cls := findClass_of_methodNamed B.named
  have hlocks := B.notSynchronized
  have htab : c.exceptionTable.toList = tableOf [(0, 9, 12, 31)] := vx_table (x := yL_state) B (hts _ List.mem_cons_self)
  generalize va_A [(h0, .inr (8, [.ref xq1, .ref xq2])), (xq1, .inr (7, [.ref xq2, .ref xq3, .ref xq4, .ref xq5, .ref xq6, .ref xq7, .ref xq8, .int 0, .int 0, .int 0, .int 0, .int 0])), (o, .inl (co, 1, .inr (.inl fo)))] s.heap.size = A at I ⊢
  have hl := lv_entry ([.ref h0, .int p0, .ref o]) (n := 4) (Nat.le_of_ble_eq_true rfl)
  rw [lg_entry_eq]
  generalize (lg_sl ([.ref h0, .int p0, .ref o]) ++ List.replicate (4 - (lg_sl ([.ref h0, .int p0, .ref o])).length) Slot.unset).toArray = ls at hl ⊢
  have hl : lv_has ls 4 [(0, .ref h0), (1, .int p0), (2, .ref o)] := hl
  refine lv_aload_n hx hb dL_state_0 rfl (lv_at hl 2 rfl) ?_
  refine lv_iconst (v := 0) hx hb dL_state_1 (by decide) ?_
  refine lv_aload_n hx hb dL_state_2 rfl (lv_at hl 0 rfl) ?_
  refine lv_iload_n hx hb dL_state_3 rfl (lv_at hl 1 rfl) ?_
  refine z_xcalli (wr := [(o, .inl (co, 1, .inr (.inl fo)))]) (vx_runV (As := [.int p0]) (rest := [.int 0, .ref o]) ⟨hx, hb, hml, hown, hts⟩ (z_RX8_state l hst dC dI xq1 xq2 xq3 xq4 xq5 xq6 xq7 xq8 h0 p0  s.heap.size) (cwV 1 hts (z_gV z_T.wh mw910 mw911 mw912 mw1 mw913) rfl rfl rfl (by decide +kernel) ⟨Nat.le_of_ble_eq_true rfl, Nat.le_of_ble_eq_true rfl⟩) (z_preV I [0, 1] [] rfl rfl rfl rfl (ci := 8) (q0 := 0) rfl rfl) rfl rfl hl.1 rfl (lv_room (Nat.le_of_ble_eq_true rfl)) dL_state_4 ⟨Nat.le_of_ble_eq_true rfl, Nat.le_of_ble_eq_true rfl⟩) I [0, 1] [2] rfl rfl (by decide) (by decide) (fun E1 ce1 q1 H locs hE1 I hcell hcv hcl => ?_) (fun r1 u1 H locs hw1 I => ?_)
  · skip
    have I : z_I A dC dI [(o, .inl (co, 1, .inr (.inl fo)))] [(co, .long)] s H _ := I
    subst hE1
    refine vx_widen (Nat.le_refl _) (Nat.le_refl _) ?_
    refine vx_catch (own := RL) (name := "java/lang/IndexOutOfBoundsException") (E := "java/lang/IndexOutOfBoundsException") hown [] ⟨0, 9, 12, 31⟩ [] (by rw [htab]; rfl) (fun z hz => nomatch hz) (by decide) (by decide) (hg _ mw610 rfl) (va_Nw.use rfl (I.2.2.2.2.2.2.2.1 _ (List.mem_of_getElem? (i := 2) rfl))) hcell hcv hcl ?_
    refine lv_astore_n (lv' := [(3, .ref q1), (0, .ref h0), (1, .int p0), (2, .ref o)]) hx hb dL_state_12 rfl hl (by decide) rfl (fun ls hl => ?_)
    refine lv_iconst (v := 1) hx hb dL_state_13 (by decide) ?_
    have I := I.subT (t' := []) [] rfl
    refine W.widen (k := 1) (n := 6) (Nat.le_of_ble_eq_true rfl) (Nat.le_of_ble_eq_true rfl) ?_
    refine vx_ret ?_
    exact z_iret hx hb hr hlocks I ⟨fo, rfl, rfl, (fun h => absurd h (by decide))⟩ dL_state_14
  · skip
    obtain ⟨hu1, hp1⟩ := hw1
    exact hp1.elim
set_option maxHeartbeats 4000000 in
set_option maxRecDepth 100000 in
theorem z_L_tighten (l : Launch) (hst : l.stackTraces = false) (dC : Nat → ClassId) (dI : Nat → Nat → Nat) (xq1 : Nat) (xq2 : Nat) (xq3 : Nat) (xq4 : Nat) (xq5 : Nat) (xq6 : Nat) (xq7 : Nat) (xq8 : Nat) (xq9 : Nat) (xq10 : Nat) (xq11 : Nat) (xq12 : Nat) (xq13 : Nat) (xq14 : Nat) (xq15 : Nat) (xq16 : Nat) (xq17 : Nat) (xq18 : Nat) (xq19 : Nat) (xf21 : Nat → Int32) (xc25 : ClassId) (xc26 : ClassId) (xc27 : ClassId) (xc28 : ClassId) (h0 : Nat) (o : Nat) (co : ClassId) (fo : Nat → Int64) (sz : Nat) : vx_Met l yL_tighten (z_wh yL_tighten cL_tighten 3 (some .int) [(0, 8, 11, 15), (0, 8, 14, 25)]) ({ frames := 14, cells := 0, slots := 0, locals := 320 }) (z_P dC dI [(h0, .inr (8, [.ref xq1, .ref xq2])), (xq1, .inr (7, [.ref xq2, .ref xq3, .ref xq4, .ref xq5, .ref xq6, .ref xq7, .ref xq8, .int 0, .int 0, .int 0, .int 0, .int 0])), (xq2, .inr (5, [.ref xq9, .ref xq10, .ref xq11, .ref xq12, .ref xq13, .ref xq14, .ref xq15, .ref xq16, .ref xq17, .ref xq18, .ref xq19, .int 0, .int 0])), (xq13, .inl (xc25, 4, .inl xf21)), (xq14, .inl (xc26, 4, .inl xf21)), (xq15, .inl (xc27, 4, .inl xf21)), (xq16, .inl (xc28, 4, .inl xf21)), (o, .inl (co, 1, .inr (.inl fo)))] [(xc25, .int), (xc26, .int), (xc27, .int), (xc28, .int), (co, .long)] sz [.ref h0, .ref o]) (va_Qi (fun (r : Int32) (u : va_W × List (ClassId × FieldType)) => ∃ (xf1 : Nat → Int64), u = ([(o, .inl (co, 1, .inr (.inl xf1)))], []) ∧ r = 0 ∧ (r = 0 → xf1 0 = 0)) (z_B dC dI (va_A [(h0, .inr (8, [.ref xq1, .ref xq2])), (xq1, .inr (7, [.ref xq2, .ref xq3, .ref xq4, .ref xq5, .ref xq6, .ref xq7, .ref xq8, .int 0, .int 0, .int 0, .int 0, .int 0])), (xq2, .inr (5, [.ref xq9, .ref xq10, .ref xq11, .ref xq12, .ref xq13, .ref xq14, .ref xq15, .ref xq16, .ref xq17, .ref xq18, .ref xq19, .int 0, .int 0])), (xq13, .inl (xc25, 4, .inl xf21)), (xq14, .inl (xc26, 4, .inl xf21)), (xq15, .inl (xc27, 4, .inl xf21)), (xq16, .inl (xc28, 4, .inl xf21)), (o, .inl (co, 1, .inr (.inl fo)))] sz)) (va_A [(h0, .inr (8, [.ref xq1, .ref xq2])), (xq1, .inr (7, [.ref xq2, .ref xq3, .ref xq4, .ref xq5, .ref xq6, .ref xq7, .ref xq8, .int 0, .int 0, .int 0, .int 0, .int 0])), (xq2, .inr (5, [.ref xq9, .ref xq10, .ref xq11, .ref xq12, .ref xq13, .ref xq14, .ref xq15, .ref xq16, .ref xq17, .ref xq18, .ref xq19, .int 0, .int 0])), (xq13, .inl (xc25, 4, .inl xf21)), (xq14, .inl (xc26, 4, .inl xf21)), (xq15, .inl (xc27, 4, .inl xf21)), (xq16, .inl (xc28, 4, .inl xf21)), (o, .inl (co, 1, .inr (.inl fo)))] sz)) (z_XC (fun _ : String => False) (va_A [(h0, .inr (8, [.ref xq1, .ref xq2])), (xq1, .inr (7, [.ref xq2, .ref xq3, .ref xq4, .ref xq5, .ref xq6, .ref xq7, .ref xq8, .int 0, .int 0, .int 0, .int 0, .int 0])), (xq2, .inr (5, [.ref xq9, .ref xq10, .ref xq11, .ref xq12, .ref xq13, .ref xq14, .ref xq15, .ref xq16, .ref xq17, .ref xq18, .ref xq19, .int 0, .int 0])), (xq13, .inl (xc25, 4, .inl xf21)), (xq14, .inl (xc26, 4, .inl xf21)), (xq15, .inl (xc27, 4, .inl xf21)), (xq16, .inl (xc28, 4, .inl xf21)), (o, .inl (co, 1, .inr (.inl fo)))] sz)) 0 0 (va_A [(h0, .inr (8, [.ref xq1, .ref xq2])), (xq1, .inr (7, [.ref xq2, .ref xq3, .ref xq4, .ref xq5, .ref xq6, .ref xq7, .ref xq8, .int 0, .int 0, .int 0, .int 0, .int 0])), (xq2, .inr (5, [.ref xq9, .ref xq10, .ref xq11, .ref xq12, .ref xq13, .ref xq14, .ref xq15, .ref xq16, .ref xq17, .ref xq18, .ref xq19, .int 0, .int 0])), (xq13, .inl (xc25, 4, .inl xf21)), (xq14, .inl (xc26, 4, .inl xf21)), (xq15, .inl (xc27, 4, .inl xf21)), (xq16, .inl (xc28, 4, .inl xf21)), (o, .inl (co, 1, .inr (.inl fo)))] sz) := by
  refine vx_ofWH (cc := cL_tighten) (maxL := 3) (ret := (some .int)) (by decide) rfl ?_
  intro p e s m args below meth c s₁ B hml hv
  obtain ⟨rfl, rfl, I⟩ := z_open hv
  have hx := B.exec
  have hb := B.bytes
  have hr := B.returns
  have hts := atoms_spec (ws := z_wh yL_tighten cL_tighten 3 (some .int) [(0, 8, 11, 15), (0, 8, 14, 25)]) B.pre
  have hg : z_G _ s := z_G.of hts
  have hown : s.vm.findClass RL = some m.cls := findClass_of_methodNamed B.named
  have hlocks := B.notSynchronized
  have htab : c.exceptionTable.toList = tableOf [(0, 8, 11, 15), (0, 8, 14, 25)] := vx_table (x := yL_tighten) B (hts _ List.mem_cons_self)
  generalize va_A [(h0, .inr (8, [.ref xq1, .ref xq2])), (xq1, .inr (7, [.ref xq2, .ref xq3, .ref xq4, .ref xq5, .ref xq6, .ref xq7, .ref xq8, .int 0, .int 0, .int 0, .int 0, .int 0])), (xq2, .inr (5, [.ref xq9, .ref xq10, .ref xq11, .ref xq12, .ref xq13, .ref xq14, .ref xq15, .ref xq16, .ref xq17, .ref xq18, .ref xq19, .int 0, .int 0])), (xq13, .inl (xc25, 4, .inl xf21)), (xq14, .inl (xc26, 4, .inl xf21)), (xq15, .inl (xc27, 4, .inl xf21)), (xq16, .inl (xc28, 4, .inl xf21)), (o, .inl (co, 1, .inr (.inl fo)))] s.heap.size = A at I ⊢
  have hl := lv_entry ([.ref h0, .ref o]) (n := 3) (Nat.le_of_ble_eq_true rfl)
  rw [lg_entry_eq]
  generalize (lg_sl ([.ref h0, .ref o]) ++ List.replicate (3 - (lg_sl ([.ref h0, .ref o])).length) Slot.unset).toArray = ls at hl ⊢
  have hl : lv_has ls 3 [(0, .ref h0), (1, .ref o)] := hl
  refine lv_aload_n hx hb dL_tighten_0 rfl (lv_at hl 1 rfl) ?_
  refine lv_iconst (v := 0) hx hb dL_tighten_1 (by decide) ?_
  refine lv_aload_n hx hb dL_tighten_2 rfl (lv_at hl 0 rfl) ?_
  refine z_xcalli (wr := [(o, .inl (co, 1, .inr (.inl fo)))]) (vx_runV (As := []) (rest := [.int 0, .ref o]) ⟨hx, hb, hml, hown, hts⟩ (z_RX8_tighten l hst dC dI xq1 xq2 xq3 xq4 xq5 xq6 xq7 xq8 xq9 xq10 xq11 xq12 xq13 xq14 xq15 xq16 xq17 xq18 xq19 xf21 xc25 xc26 xc27 xc28 h0  s.heap.size) (cwV 0 hts (z_gV z_T.wh mw551 mw552 mw553 mw1 mw554) rfl rfl rfl (by decide +kernel) ⟨Nat.le_of_ble_eq_true rfl, Nat.le_of_ble_eq_true rfl⟩) (z_preV I [0, 1, 2, 3, 4, 5, 6] [0, 1, 2, 3] rfl rfl rfl rfl (ci := 8) (q0 := 0) rfl rfl) rfl rfl hl.1 rfl (lv_room (Nat.le_of_ble_eq_true rfl)) dL_tighten_3 ⟨Nat.le_of_ble_eq_true rfl, Nat.le_of_ble_eq_true rfl⟩) I [0, 1, 2, 3, 4, 5, 6] [7] rfl rfl (by decide) (by decide) (fun E1 ce1 q1 H locs hE1 I hcell hcv hcl => ?_) (fun r1 u1 H locs hw1 I => ?_)
  · skip
    have I : z_I A dC dI [(o, .inl (co, 1, .inr (.inl fo)))] [(xc25, .int), (xc26, .int), (xc27, .int), (xc28, .int), (co, .long)] s H _ := I
    exact False.elim hE1
  · skip
    obtain ⟨hu1, hp1⟩ := hw1
    subst hu1
    have I : z_I A dC dI [(o, .inl (co, 1, .inr (.inl fo)))] [(xc25, .int), (xc26, .int), (xc27, .int), (xc28, .int), (co, .long)] s H _ := I
    obtain rfl : r1 = 0 := hp1
    refine lv_i2l (v := 0) hx hb dL_tighten_6 (by decide) ?_
    refine z_last hx hb I 0 4 rfl rfl (by unfold vp_in; decide) dL_tighten_7 (fun g2 H locs eg2 I => ?_)
    have I : z_I A dC dI [(o, .inl (co, 1, .inr (.inl g2)))] [(xc25, .int), (xc26, .int), (xc27, .int), (xc28, .int), (co, .long)] s H _ := I
    have kg2_0 : g2 0 = 0 := by rw [eg2]; rfl
    refine lv_goto (tgt := 17) hx hb dL_tighten_8 (by decide) ?_
    refine lv_iconst (v := 0) hx hb dL_tighten_17 (by decide) ?_
    have I := I.subT (t' := []) [] rfl
    refine W.widen (k := 0) (n := 0) (Nat.le_of_ble_eq_true rfl) (Nat.le_of_ble_eq_true rfl) ?_
    refine vx_ret ?_
    exact z_iret hx hb hr hlocks I ⟨g2, rfl, rfl, (fun _ => kg2_0)⟩ dL_tighten_18
set_option maxHeartbeats 4000000 in
set_option maxRecDepth 100000 in
theorem z_L_unkept (l : Launch) (hst : l.stackTraces = false) (dC : Nat → ClassId) (dI : Nat → Nat → Nat) (xq1 : Nat) (xq2 : Nat) (xq9 : Nat) (xq10 : Nat) (xq11 : Nat) (xq12 : Nat) (xq13 : Nat) (xq14 : Nat) (xq15 : Nat) (xq16 : Nat) (xq17 : Nat) (xq18 : Nat) (xq19 : Nat) (xq35 : Nat) (xq36 : Nat) (xq37 : Nat) (xq38 : Nat) (xq39 : Nat) (xq40 : Nat) (xq41 : Nat) (xq42 : Nat) (h0 : Nat) (o : Nat) (co : ClassId) (fo : Nat → Int64) (sz : Nat) : vx_Met l yL_unkept (z_wh yL_unkept cL_unkept 3 (some .int) [(0, 8, 11, 43)]) ({ frames := 18, cells := 1, slots := 6, locals := 440 }) (z_P dC dI [(h0, .inr (8, [.ref xq1, .ref xq2])), (xq2, .inr (5, [.ref xq9, .ref xq10, .ref xq11, .ref xq12, .ref xq13, .ref xq14, .ref xq15, .ref xq16, .ref xq17, .ref xq18, .ref xq19, .int 0, .int 0])), (xq19, .inr (0, [.ref xq35, .ref xq36, .ref xq37, .ref xq38, .ref xq39, .ref xq40, .ref xq41, .int 0, .int 0])), (xq35, .inr (4, [.ref xq42, .long 1, .long 0])), (o, .inl (co, 1, .inr (.inl fo)))] [(co, .long)] sz [.ref h0, .ref o]) (va_Qi (fun (r : Int32) (u : va_W × List (ClassId × FieldType)) => ∃ (xf1 : Nat → Int64), u = ([(o, .inl (co, 1, .inr (.inl xf1)))], []) ∧ r = 1 ∧ (r = 0 → xf1 0 = 0)) (z_B dC dI (va_A [(h0, .inr (8, [.ref xq1, .ref xq2])), (xq2, .inr (5, [.ref xq9, .ref xq10, .ref xq11, .ref xq12, .ref xq13, .ref xq14, .ref xq15, .ref xq16, .ref xq17, .ref xq18, .ref xq19, .int 0, .int 0])), (xq19, .inr (0, [.ref xq35, .ref xq36, .ref xq37, .ref xq38, .ref xq39, .ref xq40, .ref xq41, .int 0, .int 0])), (xq35, .inr (4, [.ref xq42, .long 1, .long 0])), (o, .inl (co, 1, .inr (.inl fo)))] sz)) (va_A [(h0, .inr (8, [.ref xq1, .ref xq2])), (xq2, .inr (5, [.ref xq9, .ref xq10, .ref xq11, .ref xq12, .ref xq13, .ref xq14, .ref xq15, .ref xq16, .ref xq17, .ref xq18, .ref xq19, .int 0, .int 0])), (xq19, .inr (0, [.ref xq35, .ref xq36, .ref xq37, .ref xq38, .ref xq39, .ref xq40, .ref xq41, .int 0, .int 0])), (xq35, .inr (4, [.ref xq42, .long 1, .long 0])), (o, .inl (co, 1, .inr (.inl fo)))] sz)) (z_XC (fun _ : String => False) (va_A [(h0, .inr (8, [.ref xq1, .ref xq2])), (xq2, .inr (5, [.ref xq9, .ref xq10, .ref xq11, .ref xq12, .ref xq13, .ref xq14, .ref xq15, .ref xq16, .ref xq17, .ref xq18, .ref xq19, .int 0, .int 0])), (xq19, .inr (0, [.ref xq35, .ref xq36, .ref xq37, .ref xq38, .ref xq39, .ref xq40, .ref xq41, .int 0, .int 0])), (xq35, .inr (4, [.ref xq42, .long 1, .long 0])), (o, .inl (co, 1, .inr (.inl fo)))] sz)) 1 6 (va_A [(h0, .inr (8, [.ref xq1, .ref xq2])), (xq2, .inr (5, [.ref xq9, .ref xq10, .ref xq11, .ref xq12, .ref xq13, .ref xq14, .ref xq15, .ref xq16, .ref xq17, .ref xq18, .ref xq19, .int 0, .int 0])), (xq19, .inr (0, [.ref xq35, .ref xq36, .ref xq37, .ref xq38, .ref xq39, .ref xq40, .ref xq41, .int 0, .int 0])), (xq35, .inr (4, [.ref xq42, .long 1, .long 0])), (o, .inl (co, 1, .inr (.inl fo)))] sz) := by
  refine vx_ofWH (cc := cL_unkept) (maxL := 3) (ret := (some .int)) (by decide) rfl ?_
  intro p e s m args below meth c s₁ B hml hv
  obtain ⟨rfl, rfl, I⟩ := z_open hv
  have hx := B.exec
  have hb := B.bytes
  have hr := B.returns
  have hts := atoms_spec (ws := z_wh yL_unkept cL_unkept 3 (some .int) [(0, 8, 11, 43)]) B.pre
  have hg : z_G _ s := z_G.of hts
  have hown : s.vm.findClass RL = some m.cls := findClass_of_methodNamed B.named
  have hlocks := B.notSynchronized
  have htab : c.exceptionTable.toList = tableOf [(0, 8, 11, 43)] := vx_table (x := yL_unkept) B (hts _ List.mem_cons_self)
  generalize va_A [(h0, .inr (8, [.ref xq1, .ref xq2])), (xq2, .inr (5, [.ref xq9, .ref xq10, .ref xq11, .ref xq12, .ref xq13, .ref xq14, .ref xq15, .ref xq16, .ref xq17, .ref xq18, .ref xq19, .int 0, .int 0])), (xq19, .inr (0, [.ref xq35, .ref xq36, .ref xq37, .ref xq38, .ref xq39, .ref xq40, .ref xq41, .int 0, .int 0])), (xq35, .inr (4, [.ref xq42, .long 1, .long 0])), (o, .inl (co, 1, .inr (.inl fo)))] s.heap.size = A at I ⊢
  have hl := lv_entry ([.ref h0, .ref o]) (n := 3) (Nat.le_of_ble_eq_true rfl)
  rw [lg_entry_eq]
  generalize (lg_sl ([.ref h0, .ref o]) ++ List.replicate (3 - (lg_sl ([.ref h0, .ref o])).length) Slot.unset).toArray = ls at hl ⊢
  have hl : lv_has ls 3 [(0, .ref h0), (1, .ref o)] := hl
  refine lv_aload_n hx hb dL_unkept_0 rfl (lv_at hl 1 rfl) ?_
  refine lv_iconst (v := 0) hx hb dL_unkept_1 (by decide) ?_
  refine lv_aload_n hx hb dL_unkept_2 rfl (lv_at hl 0 rfl) ?_
  refine z_xcalli (wr := [(o, .inl (co, 1, .inr (.inl fo)))]) (vx_runV (As := []) (rest := [.int 0, .ref o]) ⟨hx, hb, hml, hown, hts⟩ (z_RX8_unkept l hst dC dI xq1 xq2 xq9 xq10 xq11 xq12 xq13 xq14 xq15 xq16 xq17 xq18 xq19 xq35 xq36 xq37 xq38 xq39 xq40 xq41 xq42 h0  s.heap.size) (cwV 0 hts (z_gV z_T.wh mw674 mw675 mw676 mw1 mw677) rfl rfl rfl (by decide +kernel) ⟨Nat.le_of_ble_eq_true rfl, Nat.le_of_ble_eq_true rfl⟩) (z_preV I [0, 1, 2, 3] [] rfl rfl rfl rfl (ci := 8) (q0 := 0) rfl rfl) rfl rfl hl.1 rfl (lv_room (Nat.le_of_ble_eq_true rfl)) dL_unkept_3 ⟨Nat.le_of_ble_eq_true rfl, Nat.le_of_ble_eq_true rfl⟩) I [0, 1, 2, 3] [4] rfl rfl (by decide) (by decide) (fun E1 ce1 q1 H locs hE1 I hcell hcv hcl => ?_) (fun r1 u1 H locs hw1 I => ?_)
  · skip
    have I : z_I A dC dI [(o, .inl (co, 1, .inr (.inl fo)))] [(co, .long)] s H _ := I
    subst hE1
    refine vx_widen (Nat.le_refl _) (Nat.le_refl _) ?_
    refine vx_catch (own := RL) (name := "java/util/NoSuchElementException") (E := "java/util/NoSuchElementException") hown [] ⟨0, 8, 11, 43⟩ [] (by rw [htab]; rfl) (fun z hz => nomatch hz) (by decide) (by decide) (hg _ mw673 rfl) (va_Nw.use rfl (I.2.2.2.2.2.2.2.1 _ (List.mem_of_getElem? (i := 3) rfl))) hcell hcv hcl ?_
    refine lv_astore_n (lv' := [(2, .ref q1), (0, .ref h0), (1, .ref o)]) hx hb dL_unkept_11 rfl hl (by decide) rfl (fun ls hl => ?_)
    refine lv_iconst (v := 1) hx hb dL_unkept_12 (by decide) ?_
    have I := I.subT (t' := []) [] rfl
    refine W.widen (k := 1) (n := 6) (Nat.le_of_ble_eq_true rfl) (Nat.le_of_ble_eq_true rfl) ?_
    refine vx_ret ?_
    exact z_iret hx hb hr hlocks I ⟨fo, rfl, rfl, (fun h => absurd h (by decide))⟩ dL_unkept_13
  · skip
    obtain ⟨hu1, hp1⟩ := hw1
    exact hp1.elim
set_option maxHeartbeats 4000000 in
set_option maxRecDepth 100000 in
theorem z_L_upper (l : Launch) (hst : l.stackTraces = false) (dC : Nat → ClassId) (dI : Nat → Nat → Nat) (xq1 : Nat) (xq2 : Nat) (xq9 : Nat) (xq10 : Nat) (xq11 : Nat) (xq12 : Nat) (xq13 : Nat) (xq14 : Nat) (xq15 : Nat) (xq16 : Nat) (xq17 : Nat) (xq18 : Nat) (xq19 : Nat) (h0 : Nat) (o : Nat) (co : ClassId) (fo : Nat → Int64) (p0 : Int32) (sz : Nat) : vx_Met l yL_upper (z_wh yL_upper cL_upper 4 (some .int) [(0, 9, 12, 31)]) ({ frames := 12, cells := 1, slots := 6, locals := 260 }) (z_P dC dI [(h0, .inr (8, [.ref xq1, .ref xq2])), (xq2, .inr (5, [.ref xq9, .ref xq10, .ref xq11, .ref xq12, .ref xq13, .ref xq14, .ref xq15, .ref xq16, .ref xq17, .ref xq18, .ref xq19, .int 0, .int 0])), (o, .inl (co, 1, .inr (.inl fo)))] [(co, .long)] sz [.ref h0, .int p0, .ref o]) (va_Qi (fun (r : Int32) (u : va_W × List (ClassId × FieldType)) => ∃ (xf1 : Nat → Int64), u = ([(o, .inl (co, 1, .inr (.inl xf1)))], []) ∧ r = 1 ∧ (r = 0 → xf1 0 = 0)) (z_B dC dI (va_A [(h0, .inr (8, [.ref xq1, .ref xq2])), (xq2, .inr (5, [.ref xq9, .ref xq10, .ref xq11, .ref xq12, .ref xq13, .ref xq14, .ref xq15, .ref xq16, .ref xq17, .ref xq18, .ref xq19, .int 0, .int 0])), (o, .inl (co, 1, .inr (.inl fo)))] sz)) (va_A [(h0, .inr (8, [.ref xq1, .ref xq2])), (xq2, .inr (5, [.ref xq9, .ref xq10, .ref xq11, .ref xq12, .ref xq13, .ref xq14, .ref xq15, .ref xq16, .ref xq17, .ref xq18, .ref xq19, .int 0, .int 0])), (o, .inl (co, 1, .inr (.inl fo)))] sz)) (z_XC (fun _ : String => False) (va_A [(h0, .inr (8, [.ref xq1, .ref xq2])), (xq2, .inr (5, [.ref xq9, .ref xq10, .ref xq11, .ref xq12, .ref xq13, .ref xq14, .ref xq15, .ref xq16, .ref xq17, .ref xq18, .ref xq19, .int 0, .int 0])), (o, .inl (co, 1, .inr (.inl fo)))] sz)) 1 6 (va_A [(h0, .inr (8, [.ref xq1, .ref xq2])), (xq2, .inr (5, [.ref xq9, .ref xq10, .ref xq11, .ref xq12, .ref xq13, .ref xq14, .ref xq15, .ref xq16, .ref xq17, .ref xq18, .ref xq19, .int 0, .int 0])), (o, .inl (co, 1, .inr (.inl fo)))] sz) := by
  refine vx_ofWH (cc := cL_upper) (maxL := 4) (ret := (some .int)) (by decide) rfl ?_
  intro p e s m args below meth c s₁ B hml hv
  obtain ⟨rfl, rfl, I⟩ := z_open hv
  have hx := B.exec
  have hb := B.bytes
  have hr := B.returns
  have hts := atoms_spec (ws := z_wh yL_upper cL_upper 4 (some .int) [(0, 9, 12, 31)]) B.pre
  have hg : z_G _ s := z_G.of hts
  have hown : s.vm.findClass RL = some m.cls := findClass_of_methodNamed B.named
  have hlocks := B.notSynchronized
  have htab : c.exceptionTable.toList = tableOf [(0, 9, 12, 31)] := vx_table (x := yL_upper) B (hts _ List.mem_cons_self)
  generalize va_A [(h0, .inr (8, [.ref xq1, .ref xq2])), (xq2, .inr (5, [.ref xq9, .ref xq10, .ref xq11, .ref xq12, .ref xq13, .ref xq14, .ref xq15, .ref xq16, .ref xq17, .ref xq18, .ref xq19, .int 0, .int 0])), (o, .inl (co, 1, .inr (.inl fo)))] s.heap.size = A at I ⊢
  have hl := lv_entry ([.ref h0, .int p0, .ref o]) (n := 4) (Nat.le_of_ble_eq_true rfl)
  rw [lg_entry_eq]
  generalize (lg_sl ([.ref h0, .int p0, .ref o]) ++ List.replicate (4 - (lg_sl ([.ref h0, .int p0, .ref o])).length) Slot.unset).toArray = ls at hl ⊢
  have hl : lv_has ls 4 [(0, .ref h0), (1, .int p0), (2, .ref o)] := hl
  refine lv_aload_n hx hb dL_upper_0 rfl (lv_at hl 2 rfl) ?_
  refine lv_iconst (v := 0) hx hb dL_upper_1 (by decide) ?_
  refine lv_aload_n hx hb dL_upper_2 rfl (lv_at hl 0 rfl) ?_
  refine lv_iload_n hx hb dL_upper_3 rfl (lv_at hl 1 rfl) ?_
  refine z_xcalli (wr := [(o, .inl (co, 1, .inr (.inl fo)))]) (vx_runV (As := [.int p0]) (rest := [.int 0, .ref o]) ⟨hx, hb, hml, hown, hts⟩ (z_RX8_upper l hst dC dI xq1 xq2 xq9 xq10 xq11 xq12 xq13 xq14 xq15 xq16 xq17 xq18 xq19 h0 p0  s.heap.size) (cwV 1 hts (z_gV z_T.wh mw658 mw659 mw660 mw1 mw661) rfl rfl rfl (by decide +kernel) ⟨Nat.le_of_ble_eq_true rfl, Nat.le_of_ble_eq_true rfl⟩) (z_preV I [0, 1] [] rfl rfl rfl rfl (ci := 8) (q0 := 0) rfl rfl) rfl rfl hl.1 rfl (lv_room (Nat.le_of_ble_eq_true rfl)) dL_upper_4 ⟨Nat.le_of_ble_eq_true rfl, Nat.le_of_ble_eq_true rfl⟩) I [0, 1] [2] rfl rfl (by decide) (by decide) (fun E1 ce1 q1 H locs hE1 I hcell hcv hcl => ?_) (fun r1 u1 H locs hw1 I => ?_)
  · skip
    have I : z_I A dC dI [(o, .inl (co, 1, .inr (.inl fo)))] [(co, .long)] s H _ := I
    subst hE1
    refine vx_widen (Nat.le_refl _) (Nat.le_refl _) ?_
    refine vx_catch (own := RL) (name := "java/lang/IndexOutOfBoundsException") (E := "java/lang/IndexOutOfBoundsException") hown [] ⟨0, 9, 12, 31⟩ [] (by rw [htab]; rfl) (fun z hz => nomatch hz) (by decide) (by decide) (hg _ mw610 rfl) (va_Nw.use rfl (I.2.2.2.2.2.2.2.1 _ (List.mem_of_getElem? (i := 2) rfl))) hcell hcv hcl ?_
    refine lv_astore_n (lv' := [(3, .ref q1), (0, .ref h0), (1, .int p0), (2, .ref o)]) hx hb dL_upper_12 rfl hl (by decide) rfl (fun ls hl => ?_)
    refine lv_iconst (v := 1) hx hb dL_upper_13 (by decide) ?_
    have I := I.subT (t' := []) [] rfl
    refine W.widen (k := 1) (n := 6) (Nat.le_of_ble_eq_true rfl) (Nat.le_of_ble_eq_true rfl) ?_
    refine vx_ret ?_
    exact z_iret hx hb hr hlocks I ⟨fo, rfl, rfl, (fun h => absurd h (by decide))⟩ dL_upper_14
  · skip
    obtain ⟨hu1, hp1⟩ := hw1
    exact hp1.elim
set_option maxHeartbeats 4000000 in
set_option maxRecDepth 100000 in
theorem z_L_upperAt (l : Launch) (hst : l.stackTraces = false) (dC : Nat → ClassId) (dI : Nat → Nat → Nat) (xq1 : Nat) (xq2 : Nat) (xq3 : Nat) (xq4 : Nat) (xq5 : Nat) (xq6 : Nat) (xq7 : Nat) (xq8 : Nat) (h0 : Nat) (o : Nat) (co : ClassId) (fo : Nat → Int64) (p0 : Int32) (p1 : Int32) (sz : Nat) : vx_Met l yL_upperAt (z_wh yL_upperAt cL_upperAt 5 (some .int) [(0, 10, 13, 31)]) ({ frames := 12, cells := 1, slots := 6, locals := 260 }) (z_P dC dI [(h0, .inr (8, [.ref xq1, .ref xq2])), (xq1, .inr (7, [.ref xq2, .ref xq3, .ref xq4, .ref xq5, .ref xq6, .ref xq7, .ref xq8, .int 0, .int 0, .int 0, .int 0, .int 0])), (o, .inl (co, 1, .inr (.inl fo)))] [(co, .long)] sz [.ref h0, .int p0, .int p1, .ref o]) (va_Qi (fun (r : Int32) (u : va_W × List (ClassId × FieldType)) => ∃ (xf1 : Nat → Int64), u = ([(o, .inl (co, 1, .inr (.inl xf1)))], []) ∧ r = 1 ∧ (r = 0 → xf1 0 = 0)) (z_B dC dI (va_A [(h0, .inr (8, [.ref xq1, .ref xq2])), (xq1, .inr (7, [.ref xq2, .ref xq3, .ref xq4, .ref xq5, .ref xq6, .ref xq7, .ref xq8, .int 0, .int 0, .int 0, .int 0, .int 0])), (o, .inl (co, 1, .inr (.inl fo)))] sz)) (va_A [(h0, .inr (8, [.ref xq1, .ref xq2])), (xq1, .inr (7, [.ref xq2, .ref xq3, .ref xq4, .ref xq5, .ref xq6, .ref xq7, .ref xq8, .int 0, .int 0, .int 0, .int 0, .int 0])), (o, .inl (co, 1, .inr (.inl fo)))] sz)) (z_XC (fun _ : String => False) (va_A [(h0, .inr (8, [.ref xq1, .ref xq2])), (xq1, .inr (7, [.ref xq2, .ref xq3, .ref xq4, .ref xq5, .ref xq6, .ref xq7, .ref xq8, .int 0, .int 0, .int 0, .int 0, .int 0])), (o, .inl (co, 1, .inr (.inl fo)))] sz)) 1 6 (va_A [(h0, .inr (8, [.ref xq1, .ref xq2])), (xq1, .inr (7, [.ref xq2, .ref xq3, .ref xq4, .ref xq5, .ref xq6, .ref xq7, .ref xq8, .int 0, .int 0, .int 0, .int 0, .int 0])), (o, .inl (co, 1, .inr (.inl fo)))] sz) := by
  refine vx_ofWH (cc := cL_upperAt) (maxL := 5) (ret := (some .int)) (by decide) rfl ?_
  intro p e s m args below meth c s₁ B hml hv
  obtain ⟨rfl, rfl, I⟩ := z_open hv
  have hx := B.exec
  have hb := B.bytes
  have hr := B.returns
  have hts := atoms_spec (ws := z_wh yL_upperAt cL_upperAt 5 (some .int) [(0, 10, 13, 31)]) B.pre
  have hg : z_G _ s := z_G.of hts
  have hown : s.vm.findClass RL = some m.cls := findClass_of_methodNamed B.named
  have hlocks := B.notSynchronized
  have htab : c.exceptionTable.toList = tableOf [(0, 10, 13, 31)] := vx_table (x := yL_upperAt) B (hts _ List.mem_cons_self)
  generalize va_A [(h0, .inr (8, [.ref xq1, .ref xq2])), (xq1, .inr (7, [.ref xq2, .ref xq3, .ref xq4, .ref xq5, .ref xq6, .ref xq7, .ref xq8, .int 0, .int 0, .int 0, .int 0, .int 0])), (o, .inl (co, 1, .inr (.inl fo)))] s.heap.size = A at I ⊢
  have hl := lv_entry ([.ref h0, .int p0, .int p1, .ref o]) (n := 5) (Nat.le_of_ble_eq_true rfl)
  rw [lg_entry_eq]
  generalize (lg_sl ([.ref h0, .int p0, .int p1, .ref o]) ++ List.replicate (5 - (lg_sl ([.ref h0, .int p0, .int p1, .ref o])).length) Slot.unset).toArray = ls at hl ⊢
  have hl : lv_has ls 5 [(0, .ref h0), (1, .int p0), (2, .int p1), (3, .ref o)] := hl
  refine lv_aload_n hx hb dL_upperAt_0 rfl (lv_at hl 3 rfl) ?_
  refine lv_iconst (v := 0) hx hb dL_upperAt_1 (by decide) ?_
  refine lv_aload_n hx hb dL_upperAt_2 rfl (lv_at hl 0 rfl) ?_
  refine lv_iload_n hx hb dL_upperAt_3 rfl (lv_at hl 1 rfl) ?_
  refine lv_iload_n hx hb dL_upperAt_4 rfl (lv_at hl 2 rfl) ?_
  refine z_xcalli (wr := [(o, .inl (co, 1, .inr (.inl fo)))]) (vx_runV (As := [.int p0, .int p1]) (rest := [.int 0, .ref o]) ⟨hx, hb, hml, hown, hts⟩ (z_RX8_upperAt l hst dC dI xq1 xq2 xq3 xq4 xq5 xq6 xq7 xq8 h0 p0 p1  s.heap.size) (cwV 2 hts (z_gV z_T.wh mw938 mw939 mw940 mw1 mw941) rfl rfl rfl (by decide +kernel) ⟨Nat.le_of_ble_eq_true rfl, Nat.le_of_ble_eq_true rfl⟩) (z_preV I [0, 1] [] rfl rfl rfl rfl (ci := 8) (q0 := 0) rfl rfl) rfl rfl hl.1 rfl (lv_room (Nat.le_of_ble_eq_true rfl)) dL_upperAt_5 ⟨Nat.le_of_ble_eq_true rfl, Nat.le_of_ble_eq_true rfl⟩) I [0, 1] [2] rfl rfl (by decide) (by decide) (fun E1 ce1 q1 H locs hE1 I hcell hcv hcl => ?_) (fun r1 u1 H locs hw1 I => ?_)
  · skip
    have I : z_I A dC dI [(o, .inl (co, 1, .inr (.inl fo)))] [(co, .long)] s H _ := I
    subst hE1
    refine vx_widen (Nat.le_refl _) (Nat.le_refl _) ?_
    refine vx_catch (own := RL) (name := "java/lang/IndexOutOfBoundsException") (E := "java/lang/IndexOutOfBoundsException") hown [] ⟨0, 10, 13, 31⟩ [] (by rw [htab]; rfl) (fun z hz => nomatch hz) (by decide) (by decide) (hg _ mw610 rfl) (va_Nw.use rfl (I.2.2.2.2.2.2.2.1 _ (List.mem_of_getElem? (i := 2) rfl))) hcell hcv hcl ?_
    refine lv_astore (lv' := [(4, .ref q1), (0, .ref h0), (1, .int p0), (2, .int p1), (3, .ref o)]) hx hb dL_upperAt_13 hl (by decide) rfl (fun ls hl => ?_)
    refine lv_iconst (v := 1) hx hb dL_upperAt_15 (by decide) ?_
    have I := I.subT (t' := []) [] rfl
    refine W.widen (k := 1) (n := 6) (Nat.le_of_ble_eq_true rfl) (Nat.le_of_ble_eq_true rfl) ?_
    refine vx_ret ?_
    exact z_iret hx hb hr hlocks I ⟨fo, rfl, rfl, (fun h => absurd h (by decide))⟩ dL_upperAt_16
  · skip
    obtain ⟨hu1, hp1⟩ := hw1
    exact hp1.elim
set_option maxHeartbeats 4000000 in
set_option maxRecDepth 100000 in
theorem z_L_value (l : Launch) (hst : l.stackTraces = false) (dC : Nat → ClassId) (dI : Nat → Nat → Nat) (xq1 : Nat) (xq2 : Nat) (xq3 : Nat) (xq4 : Nat) (xq5 : Nat) (xq6 : Nat) (xq7 : Nat) (xq8 : Nat) (h0 : Nat) (o : Nat) (co : ClassId) (fo : Nat → Int64) (p0 : Int32) (sz : Nat) : vx_Met l yL_value (z_wh yL_value cL_value 4 (some .int) [(0, 8, 11, 31), (0, 8, 14, 43)]) ({ frames := 12, cells := 1, slots := 6, locals := 260 }) (z_P dC dI [(h0, .inr (8, [.ref xq1, .ref xq2])), (xq1, .inr (7, [.ref xq2, .ref xq3, .ref xq4, .ref xq5, .ref xq6, .ref xq7, .ref xq8, .int 0, .int 0, .int 0, .int 0, .int 0])), (o, .inl (co, 1, .inr (.inl fo)))] [(co, .long)] sz [.ref h0, .int p0, .ref o]) (va_Qi (fun (r : Int32) (u : va_W × List (ClassId × FieldType)) => ∃ (xf1 : Nat → Int64), u = ([(o, .inl (co, 1, .inr (.inl xf1)))], []) ∧ r = 1 ∧ (r = 0 → xf1 0 = 0)) (z_B dC dI (va_A [(h0, .inr (8, [.ref xq1, .ref xq2])), (xq1, .inr (7, [.ref xq2, .ref xq3, .ref xq4, .ref xq5, .ref xq6, .ref xq7, .ref xq8, .int 0, .int 0, .int 0, .int 0, .int 0])), (o, .inl (co, 1, .inr (.inl fo)))] sz)) (va_A [(h0, .inr (8, [.ref xq1, .ref xq2])), (xq1, .inr (7, [.ref xq2, .ref xq3, .ref xq4, .ref xq5, .ref xq6, .ref xq7, .ref xq8, .int 0, .int 0, .int 0, .int 0, .int 0])), (o, .inl (co, 1, .inr (.inl fo)))] sz)) (z_XC (fun _ : String => False) (va_A [(h0, .inr (8, [.ref xq1, .ref xq2])), (xq1, .inr (7, [.ref xq2, .ref xq3, .ref xq4, .ref xq5, .ref xq6, .ref xq7, .ref xq8, .int 0, .int 0, .int 0, .int 0, .int 0])), (o, .inl (co, 1, .inr (.inl fo)))] sz)) 1 6 (va_A [(h0, .inr (8, [.ref xq1, .ref xq2])), (xq1, .inr (7, [.ref xq2, .ref xq3, .ref xq4, .ref xq5, .ref xq6, .ref xq7, .ref xq8, .int 0, .int 0, .int 0, .int 0, .int 0])), (o, .inl (co, 1, .inr (.inl fo)))] sz) := by
  refine vx_ofWH (cc := cL_value) (maxL := 4) (ret := (some .int)) (by decide) rfl ?_
  intro p e s m args below meth c s₁ B hml hv
  obtain ⟨rfl, rfl, I⟩ := z_open hv
  have hx := B.exec
  have hb := B.bytes
  have hr := B.returns
  have hts := atoms_spec (ws := z_wh yL_value cL_value 4 (some .int) [(0, 8, 11, 31), (0, 8, 14, 43)]) B.pre
  have hg : z_G _ s := z_G.of hts
  have hown : s.vm.findClass RL = some m.cls := findClass_of_methodNamed B.named
  have hlocks := B.notSynchronized
  have htab : c.exceptionTable.toList = tableOf [(0, 8, 11, 31), (0, 8, 14, 43)] := vx_table (x := yL_value) B (hts _ List.mem_cons_self)
  generalize va_A [(h0, .inr (8, [.ref xq1, .ref xq2])), (xq1, .inr (7, [.ref xq2, .ref xq3, .ref xq4, .ref xq5, .ref xq6, .ref xq7, .ref xq8, .int 0, .int 0, .int 0, .int 0, .int 0])), (o, .inl (co, 1, .inr (.inl fo)))] s.heap.size = A at I ⊢
  have hl := lv_entry ([.ref h0, .int p0, .ref o]) (n := 4) (Nat.le_of_ble_eq_true rfl)
  rw [lg_entry_eq]
  generalize (lg_sl ([.ref h0, .int p0, .ref o]) ++ List.replicate (4 - (lg_sl ([.ref h0, .int p0, .ref o])).length) Slot.unset).toArray = ls at hl ⊢
  have hl : lv_has ls 4 [(0, .ref h0), (1, .int p0), (2, .ref o)] := hl
  refine lv_aload_n hx hb dL_value_0 rfl (lv_at hl 2 rfl) ?_
  refine lv_iconst (v := 0) hx hb dL_value_1 (by decide) ?_
  refine lv_aload_n hx hb dL_value_2 rfl (lv_at hl 0 rfl) ?_
  refine lv_iload_n hx hb dL_value_3 rfl (lv_at hl 1 rfl) ?_
  refine z_xcalll (wr := [(o, .inl (co, 1, .inr (.inl fo)))]) (vx_runV (As := [.int p0]) (rest := [.int 0, .ref o]) ⟨hx, hb, hml, hown, hts⟩ (z_RX8_value l hst dC dI xq1 xq2 xq3 xq4 xq5 xq6 xq7 xq8 h0 p0  s.heap.size) (cwV 1 hts (z_gV z_T.wh mw945 mw946 mw947 mw1 mw948) rfl rfl rfl (by decide +kernel) ⟨Nat.le_of_ble_eq_true rfl, Nat.le_of_ble_eq_true rfl⟩) (z_preV I [0, 1] [] rfl rfl rfl rfl (ci := 8) (q0 := 0) rfl rfl) rfl rfl hl.1 rfl (lv_room (Nat.le_of_ble_eq_true rfl)) dL_value_4 ⟨Nat.le_of_ble_eq_true rfl, Nat.le_of_ble_eq_true rfl⟩) I [0, 1] [2] rfl rfl (by decide) (by decide) (fun E1 ce1 q1 H locs hE1 I hcell hcv hcl => ?_) (fun r1 u1 H locs hw1 I => ?_)
  · skip
    have I : z_I A dC dI [(o, .inl (co, 1, .inr (.inl fo)))] [(co, .long)] s H _ := I
    subst hE1
    refine vx_widen (Nat.le_refl _) (Nat.le_refl _) ?_
    refine vx_catch (own := RL) (name := "java/lang/IndexOutOfBoundsException") (E := "java/lang/IndexOutOfBoundsException") hown [] ⟨0, 8, 11, 31⟩ [⟨0, 8, 14, 43⟩] (by rw [htab]; rfl) (fun z hz => nomatch hz) (by decide) (by decide) (hg _ mw610 rfl) (va_Nw.use rfl (I.2.2.2.2.2.2.2.1 _ (List.mem_of_getElem? (i := 2) rfl))) hcell hcv hcl ?_
    refine lv_astore_n (lv' := [(3, .ref q1), (0, .ref h0), (1, .int p0), (2, .ref o)]) hx hb dL_value_11 rfl hl (by decide) rfl (fun ls hl => ?_)
    refine lv_iconst (v := 1) hx hb dL_value_12 (by decide) ?_
    have I := I.subT (t' := []) [] rfl
    refine W.widen (k := 1) (n := 6) (Nat.le_of_ble_eq_true rfl) (Nat.le_of_ble_eq_true rfl) ?_
    refine vx_ret ?_
    exact z_iret hx hb hr hlocks I ⟨fo, rfl, rfl, (fun h => absurd h (by decide))⟩ dL_value_13
  · skip
    obtain ⟨hu1, hp1⟩ := hw1
    exact hp1.elim
