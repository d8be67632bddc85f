/-! methods of the face that throw on a fresh object -/
set_option maxHeartbeats 4000000 in
set_option maxRecDepth 100000 in
theorem z_RX8_lower (l : Launch) (hst : l.stackTraces = false) (dC : Nat → ClassId) (dI : Nat → Nat → Nat) (xq1 : Nat) (xq2 : Nat) (xq9 : Nat) (xq10 : Nat) (xq11 : Nat) (xq12 : Nat) (xq13 : Nat) (xq14 : Nat) (xq15 : Nat) (xq16 : Nat) (xq17 : Nat) (xq18 : Nat) (xq19 : Nat) (h0 : Nat) (p0 : Int32) (sz : Nat) : vx_Met l yX8_lower (z_w yX8_lower cX8_lower 2 (some .int)) ({ frames := 10, cells := 1, slots := 6, locals := 200 }) (z_P dC dI [(h0, .inr (8, [.ref xq1, .ref xq2])), (xq2, .inr (5, [.ref xq9, .ref xq10, .ref xq11, .ref xq12, .ref xq13, .ref xq14, .ref xq15, .ref xq16, .ref xq17, .ref xq18, .ref xq19, .int 0, .int 0]))] [] sz [.ref h0, .int p0]) (va_Qi (fun (r : Int32) (u : va_W × List (ClassId × FieldType)) => u = ([], []) ∧ False) (z_B dC dI (va_A [(h0, .inr (8, [.ref xq1, .ref xq2])), (xq2, .inr (5, [.ref xq9, .ref xq10, .ref xq11, .ref xq12, .ref xq13, .ref xq14, .ref xq15, .ref xq16, .ref xq17, .ref xq18, .ref xq19, .int 0, .int 0]))] sz)) (va_A [(h0, .inr (8, [.ref xq1, .ref xq2])), (xq2, .inr (5, [.ref xq9, .ref xq10, .ref xq11, .ref xq12, .ref xq13, .ref xq14, .ref xq15, .ref xq16, .ref xq17, .ref xq18, .ref xq19, .int 0, .int 0]))] sz)) (z_XC (fun E : String => E = "java/lang/IndexOutOfBoundsException") (va_A [(h0, .inr (8, [.ref xq1, .ref xq2])), (xq2, .inr (5, [.ref xq9, .ref xq10, .ref xq11, .ref xq12, .ref xq13, .ref xq14, .ref xq15, .ref xq16, .ref xq17, .ref xq18, .ref xq19, .int 0, .int 0]))] sz)) 1 6 (va_A [(h0, .inr (8, [.ref xq1, .ref xq2])), (xq2, .inr (5, [.ref xq9, .ref xq10, .ref xq11, .ref xq12, .ref xq13, .ref xq14, .ref xq15, .ref xq16, .ref xq17, .ref xq18, .ref xq19, .int 0, .int 0]))] sz) := by
  refine vx_ofW (cc := cX8_lower) (maxL := 2) (ret := (some .int)) (by decide) rfl ?_
  intro p e s m args below meth c s₁ B hml htab hv
  obtain ⟨rfl, rfl, I⟩ := z_open hv
  have hx := B.exec
  have hb := B.bytes
  have hr := B.returns
  have hts := atoms_spec (ws := z_w yX8_lower cX8_lower 2 (some .int)) B.pre
  have hg : z_G _ s := z_G.of hts
  have hown : s.vm.findClass RX8 = some m.cls := findClass_of_methodNamed B.named
  have hlocks := B.notSynchronized
  generalize va_A [(h0, .inr (8, [.ref xq1, .ref xq2])), (xq2, .inr (5, [.ref xq9, .ref xq10, .ref xq11, .ref xq12, .ref xq13, .ref xq14, .ref xq15, .ref xq16, .ref xq17, .ref xq18, .ref xq19, .int 0, .int 0]))] s.heap.size = A at I ⊢
  have hl := lv_entry ([.ref h0, .int p0]) (n := 2) (Nat.le_of_ble_eq_true rfl)
  rw [lg_entry_eq]
  generalize (lg_sl ([.ref h0, .int p0]) ++ List.replicate (2 - (lg_sl ([.ref h0, .int p0])).length) Slot.unset).toArray = ls at hl ⊢
  have hl : lv_has ls 2 [(0, .ref h0), (1, .int p0)] := hl
  refine lv_aload_n hx hb dX8_lower_0 rfl (lv_at hl 0 rfl) ?_
  refine z_get (C := RX8) (T := TX8) (N := 2) (ci := 8) (v := .ref xq2) hx hb hg hown I iw_8 0 rfl rfl 1 (by decide) mw358 rfl dX8_lower_1 ?_
  refine lv_iload_n hx hb dX8_lower_4 rfl (lv_at hl 1 rfl) ?_
  refine z_calli (wr := [(h0, .inr (8, [.ref xq1, .ref xq2]))]) (va_runV (As := [.int p0]) (rest := []) ⟨hx, hb, hml, hown, hts⟩ (z_RX5_hasColumn l dC dI xq2 xq9 xq10 xq11 xq12 xq13 xq14 xq15 xq16 xq17 xq18 xq19 p0  s.heap.size) (cwV 1 hts (z_gV z_T.w mw638 mw639 mw640 mw3 mw641) rfl rfl rfl (by decide +kernel) ⟨Nat.le_of_ble_eq_true rfl, Nat.le_of_ble_eq_true rfl⟩) (z_preV I [1] [] rfl rfl rfl rfl (ci := 5) (q0 := 1) rfl rfl) rfl rfl hl.1 rfl (lv_room (Nat.le_of_ble_eq_true rfl)) dX8_lower_5 ⟨Nat.le_of_ble_eq_true rfl, Nat.le_of_ble_eq_true rfl⟩) I [1] [0] rfl rfl (by decide) (by decide) (fun r1 u1 H locs hw1 I => ?_)
  obtain ⟨hu1, hp1⟩ := hw1
  subst hu1
  have I : z_I A dC dI [(h0, .inr (8, [.ref xq1, .ref xq2])), (xq2, .inr (5, [.ref xq9, .ref xq10, .ref xq11, .ref xq12, .ref xq13, .ref xq14, .ref xq15, .ref xq16, .ref xq17, .ref xq18, .ref xq19, .int 0, .int 0]))] [] s H _ := I
  obtain rfl : r1 = 0 := hp1
  refine lv_if_ne (tgt := 21) hx hb dX8_lower_8 (by decide) (fun c9 => absurd c9 (by decide)) (fun _ => ?_)
  exact z_throwS hx hb hst hml hl.1 hlocks htab hg hown I rfl mw642 mw19 (List.mem_of_getElem? (i := 2) rfl) h1_IndexOutOfBoundsException_104 h2_IndexOutOfBoundsException_104 h3_IndexOutOfBoundsException_104 h4_IndexOutOfBoundsException_104 (List.mem_of_getElem? (i := 7) rfl) dX8_lower_11 dX8_lower_14 dX8_lower_15 dX8_lower_17 dX8_lower_20 (Nat.le_of_ble_eq_true rfl) (Nat.le_of_ble_eq_true rfl) (Nat.le_of_ble_eq_true rfl) (Nat.le_of_ble_eq_true rfl) (Nat.le_of_ble_eq_true rfl) (Nat.le_of_ble_eq_true rfl)
set_option maxHeartbeats 4000000 in
set_option maxRecDepth 100000 in
theorem z_RX8_upper (l : Launch) (hst : l.stackTraces = false) (dC : Nat → ClassId) (dI : Nat → Nat → Nat) (xq1 : Nat) (xq2 : Nat) (xq9 : Nat) (xq10 : Nat) (xq11 : Nat) (xq12 : Nat) (xq13 : Nat) (xq14 : Nat) (xq15 : Nat) (xq16 : Nat) (xq17 : Nat) (xq18 : Nat) (xq19 : Nat) (h0 : Nat) (p0 : Int32) (sz : Nat) : vx_Met l yX8_upper (z_w yX8_upper cX8_upper 2 (some .int)) ({ frames := 10, cells := 1, slots := 6, locals := 200 }) (z_P dC dI [(h0, .inr (8, [.ref xq1, .ref xq2])), (xq2, .inr (5, [.ref xq9, .ref xq10, .ref xq11, .ref xq12, .ref xq13, .ref xq14, .ref xq15, .ref xq16, .ref xq17, .ref xq18, .ref xq19, .int 0, .int 0]))] [] sz [.ref h0, .int p0]) (va_Qi (fun (r : Int32) (u : va_W × List (ClassId × FieldType)) => u = ([], []) ∧ False) (z_B dC dI (va_A [(h0, .inr (8, [.ref xq1, .ref xq2])), (xq2, .inr (5, [.ref xq9, .ref xq10, .ref xq11, .ref xq12, .ref xq13, .ref xq14, .ref xq15, .ref xq16, .ref xq17, .ref xq18, .ref xq19, .int 0, .int 0]))] sz)) (va_A [(h0, .inr (8, [.ref xq1, .ref xq2])), (xq2, .inr (5, [.ref xq9, .ref xq10, .ref xq11, .ref xq12, .ref xq13, .ref xq14, .ref xq15, .ref xq16, .ref xq17, .ref xq18, .ref xq19, .int 0, .int 0]))] sz)) (z_XC (fun E : String => E = "java/lang/IndexOutOfBoundsException") (va_A [(h0, .inr (8, [.ref xq1, .ref xq2])), (xq2, .inr (5, [.ref xq9, .ref xq10, .ref xq11, .ref xq12, .ref xq13, .ref xq14, .ref xq15, .ref xq16, .ref xq17, .ref xq18, .ref xq19, .int 0, .int 0]))] sz)) 1 6 (va_A [(h0, .inr (8, [.ref xq1, .ref xq2])), (xq2, .inr (5, [.ref xq9, .ref xq10, .ref xq11, .ref xq12, .ref xq13, .ref xq14, .ref xq15, .ref xq16, .ref xq17, .ref xq18, .ref xq19, .int 0, .int 0]))] sz) := by
  refine vx_ofW (cc := cX8_upper) (maxL := 2) (ret := (some .int)) (by decide) rfl ?_
  intro p e s m args below meth c s₁ B hml htab hv
  obtain ⟨rfl, rfl, I⟩ := z_open hv
  have hx := B.exec
  have hb := B.bytes
  have hr := B.returns
  have hts := atoms_spec (ws := z_w yX8_upper cX8_upper 2 (some .int)) B.pre
  have hg : z_G _ s := z_G.of hts
  have hown : s.vm.findClass RX8 = some m.cls := findClass_of_methodNamed B.named
  have hlocks := B.notSynchronized
  generalize va_A [(h0, .inr (8, [.ref xq1, .ref xq2])), (xq2, .inr (5, [.ref xq9, .ref xq10, .ref xq11, .ref xq12, .ref xq13, .ref xq14, .ref xq15, .ref xq16, .ref xq17, .ref xq18, .ref xq19, .int 0, .int 0]))] s.heap.size = A at I ⊢
  have hl := lv_entry ([.ref h0, .int p0]) (n := 2) (Nat.le_of_ble_eq_true rfl)
  rw [lg_entry_eq]
  generalize (lg_sl ([.ref h0, .int p0]) ++ List.replicate (2 - (lg_sl ([.ref h0, .int p0])).length) Slot.unset).toArray = ls at hl ⊢
  have hl : lv_has ls 2 [(0, .ref h0), (1, .int p0)] := hl
  refine lv_aload_n hx hb dX8_upper_0 rfl (lv_at hl 0 rfl) ?_
  refine z_get (C := RX8) (T := TX8) (N := 2) (ci := 8) (v := .ref xq2) hx hb hg hown I iw_8 0 rfl rfl 1 (by decide) mw358 rfl dX8_upper_1 ?_
  refine lv_iload_n hx hb dX8_upper_4 rfl (lv_at hl 1 rfl) ?_
  refine z_calli (wr := [(h0, .inr (8, [.ref xq1, .ref xq2]))]) (va_runV (As := [.int p0]) (rest := []) ⟨hx, hb, hml, hown, hts⟩ (z_RX5_hasColumn l dC dI xq2 xq9 xq10 xq11 xq12 xq13 xq14 xq15 xq16 xq17 xq18 xq19 p0  s.heap.size) (cwV 1 hts (z_gV z_T.w mw638 mw639 mw640 mw3 mw641) rfl rfl rfl (by decide +kernel) ⟨Nat.le_of_ble_eq_true rfl, Nat.le_of_ble_eq_true rfl⟩) (z_preV I [1] [] rfl rfl rfl rfl (ci := 5) (q0 := 1) rfl rfl) rfl rfl hl.1 rfl (lv_room (Nat.le_of_ble_eq_true rfl)) dX8_upper_5 ⟨Nat.le_of_ble_eq_true rfl, Nat.le_of_ble_eq_true rfl⟩) I [1] [0] rfl rfl (by decide) (by decide) (fun r1 u1 H locs hw1 I => ?_)
  obtain ⟨hu1, hp1⟩ := hw1
  subst hu1
  have I : z_I A dC dI [(h0, .inr (8, [.ref xq1, .ref xq2])), (xq2, .inr (5, [.ref xq9, .ref xq10, .ref xq11, .ref xq12, .ref xq13, .ref xq14, .ref xq15, .ref xq16, .ref xq17, .ref xq18, .ref xq19, .int 0, .int 0]))] [] s H _ := I
  obtain rfl : r1 = 0 := hp1
  refine lv_if_ne (tgt := 21) hx hb dX8_upper_8 (by decide) (fun c9 => absurd c9 (by decide)) (fun _ => ?_)
  exact z_throwS hx hb hst hml hl.1 hlocks htab hg hown I rfl mw642 mw19 (List.mem_of_getElem? (i := 2) rfl) h1_IndexOutOfBoundsException_104 h2_IndexOutOfBoundsException_104 h3_IndexOutOfBoundsException_104 h4_IndexOutOfBoundsException_104 (List.mem_of_getElem? (i := 7) rfl) dX8_upper_11 dX8_upper_14 dX8_upper_15 dX8_upper_17 dX8_upper_20 (Nat.le_of_ble_eq_true rfl) (Nat.le_of_ble_eq_true rfl) (Nat.le_of_ble_eq_true rfl) (Nat.le_of_ble_eq_true rfl) (Nat.le_of_ble_eq_true rfl) (Nat.le_of_ble_eq_true rfl)
set_option maxHeartbeats 4000000 in
set_option maxRecDepth 100000 in
theorem z_RX8_areAlike (l : Launch) (hst : l.stackTraces = false) (dC : Nat → ClassId) (dI : Nat → Nat → Nat) (xq1 : Nat) (xq2 : Nat) (xq9 : Nat) (xq10 : Nat) (xq11 : Nat) (xq12 : Nat) (xq13 : Nat) (xq14 : Nat) (xq15 : Nat) (xq16 : Nat) (xq17 : Nat) (xq18 : Nat) (xq19 : Nat) (h0 : Nat) (p0 : Int32) (p1 : Int32) (sz : Nat) : vx_Met l yX8_areAlike (z_w yX8_areAlike cX8_areAlike 3 (some .boolean)) ({ frames := 10, cells := 1, slots := 6, locals := 200 }) (z_P dC dI [(h0, .inr (8, [.ref xq1, .ref xq2])), (xq2, .inr (5, [.ref xq9, .ref xq10, .ref xq11, .ref xq12, .ref xq13, .ref xq14, .ref xq15, .ref xq16, .ref xq17, .ref xq18, .ref xq19, .int 0, .int 0]))] [] sz [.ref h0, .int p0, .int p1]) (va_Qi (fun (r : Int32) (u : va_W × List (ClassId × FieldType)) => u = ([], []) ∧ False) (z_B dC dI (va_A [(h0, .inr (8, [.ref xq1, .ref xq2])), (xq2, .inr (5, [.ref xq9, .ref xq10, .ref xq11, .ref xq12, .ref xq13, .ref xq14, .ref xq15, .ref xq16, .ref xq17, .ref xq18, .ref xq19, .int 0, .int 0]))] sz)) (va_A [(h0, .inr (8, [.ref xq1, .ref xq2])), (xq2, .inr (5, [.ref xq9, .ref xq10, .ref xq11, .ref xq12, .ref xq13, .ref xq14, .ref xq15, .ref xq16, .ref xq17, .ref xq18, .ref xq19, .int 0, .int 0]))] sz)) (z_XC (fun E : String => E = "java/lang/IndexOutOfBoundsException") (va_A [(h0, .inr (8, [.ref xq1, .ref xq2])), (xq2, .inr (5, [.ref xq9, .ref xq10, .ref xq11, .ref xq12, .ref xq13, .ref xq14, .ref xq15, .ref xq16, .ref xq17, .ref xq18, .ref xq19, .int 0, .int 0]))] sz)) 1 6 (va_A [(h0, .inr (8, [.ref xq1, .ref xq2])), (xq2, .inr (5, [.ref xq9, .ref xq10, .ref xq11, .ref xq12, .ref xq13, .ref xq14, .ref xq15, .ref xq16, .ref xq17, .ref xq18, .ref xq19, .int 0, .int 0]))] sz) := by
  refine vx_ofW (cc := cX8_areAlike) (maxL := 3) (ret := (some .boolean)) (by decide) rfl ?_
  intro p e s m args below meth c s₁ B hml htab hv
  obtain ⟨rfl, rfl, I⟩ := z_open hv
  have hx := B.exec
  have hb := B.bytes
  have hr := B.returns
  have hts := atoms_spec (ws := z_w yX8_areAlike cX8_areAlike 3 (some .boolean)) B.pre
  have hg : z_G _ s := z_G.of hts
  have hown : s.vm.findClass RX8 = some m.cls := findClass_of_methodNamed B.named
  have hlocks := B.notSynchronized
  generalize va_A [(h0, .inr (8, [.ref xq1, .ref xq2])), (xq2, .inr (5, [.ref xq9, .ref xq10, .ref xq11, .ref xq12, .ref xq13, .ref xq14, .ref xq15, .ref xq16, .ref xq17, .ref xq18, .ref xq19, .int 0, .int 0]))] s.heap.size = A at I ⊢
  have hl := lv_entry ([.ref h0, .int p0, .int p1]) (n := 3) (Nat.le_of_ble_eq_true rfl)
  rw [lg_entry_eq]
  generalize (lg_sl ([.ref h0, .int p0, .int p1]) ++ List.replicate (3 - (lg_sl ([.ref h0, .int p0, .int p1])).length) Slot.unset).toArray = ls at hl ⊢
  have hl : lv_has ls 3 [(0, .ref h0), (1, .int p0), (2, .int p1)] := hl
  refine lv_aload_n hx hb dX8_areAlike_0 rfl (lv_at hl 0 rfl) ?_
  refine z_get (C := RX8) (T := TX8) (N := 2) (ci := 8) (v := .ref xq2) hx hb hg hown I iw_8 0 rfl rfl 1 (by decide) mw358 rfl dX8_areAlike_1 ?_
  refine lv_iload_n hx hb dX8_areAlike_4 rfl (lv_at hl 1 rfl) ?_
  refine z_calli (wr := [(h0, .inr (8, [.ref xq1, .ref xq2]))]) (va_runV (As := [.int p0]) (rest := []) ⟨hx, hb, hml, hown, hts⟩ (z_RX5_hasColumn l dC dI xq2 xq9 xq10 xq11 xq12 xq13 xq14 xq15 xq16 xq17 xq18 xq19 p0  s.heap.size) (cwV 1 hts (z_gV z_T.w mw638 mw639 mw640 mw3 mw641) rfl rfl rfl (by decide +kernel) ⟨Nat.le_of_ble_eq_true rfl, Nat.le_of_ble_eq_true rfl⟩) (z_preV I [1] [] rfl rfl rfl rfl (ci := 5) (q0 := 1) rfl rfl) rfl rfl hl.1 rfl (lv_room (Nat.le_of_ble_eq_true rfl)) dX8_areAlike_5 ⟨Nat.le_of_ble_eq_true rfl, Nat.le_of_ble_eq_true rfl⟩) I [1] [0] rfl rfl (by decide) (by decide) (fun r1 u1 H locs hw1 I => ?_)
  obtain ⟨hu1, hp1⟩ := hw1
  subst hu1
  have I : z_I A dC dI [(h0, .inr (8, [.ref xq1, .ref xq2])), (xq2, .inr (5, [.ref xq9, .ref xq10, .ref xq11, .ref xq12, .ref xq13, .ref xq14, .ref xq15, .ref xq16, .ref xq17, .ref xq18, .ref xq19, .int 0, .int 0]))] [] s H _ := I
  obtain rfl : r1 = 0 := hp1
  refine lv_if_eq (tgt := 22) hx hb dX8_areAlike_8 (by decide) (fun _ => ?_) (fun c9 => absurd c9 (by decide))
  exact z_throwS hx hb hst hml hl.1 hlocks htab hg hown I rfl mw642 mw19 (List.mem_of_getElem? (i := 2) rfl) h1_IndexOutOfBoundsException_104 h2_IndexOutOfBoundsException_104 h3_IndexOutOfBoundsException_104 h4_IndexOutOfBoundsException_104 (List.mem_of_getElem? (i := 7) rfl) dX8_areAlike_22 dX8_areAlike_25 dX8_areAlike_26 dX8_areAlike_28 dX8_areAlike_31 (Nat.le_of_ble_eq_true rfl) (Nat.le_of_ble_eq_true rfl) (Nat.le_of_ble_eq_true rfl) (Nat.le_of_ble_eq_true rfl) (Nat.le_of_ble_eq_true rfl) (Nat.le_of_ble_eq_true rfl)
set_option maxHeartbeats 4000000 in
set_option maxRecDepth 100000 in
theorem z_RX8_state (l : Launch) (hst : l.stackTraces = false) (dC : Nat → ClassId) (dI : Nat → Nat → Nat) (xq1 : Nat) (xq2 : Nat) (xq3 : Nat) (xq4 : Nat) (xq5 : Nat) (xq6 : Nat) (xq7 : Nat) (xq8 : Nat) (h0 : Nat) (p0 : Int32) (sz : Nat) : vx_Met l yX8_state (z_w yX8_state cX8_state 2 (some .char)) ({ frames := 10, cells := 1, slots := 6, locals := 200 }) (z_P dC dI [(h0, .inr (8, [.ref xq1, .ref xq2])), (xq1, .inr (7, [.ref xq2, .ref xq3, .ref xq4, .ref xq5, .ref xq6, .ref xq7, .ref xq8, .int 0, .int 0, .int 0, .int 0, .int 0]))] [] sz [.ref h0, .int p0]) (va_Qi (fun (r : Int32) (u : va_W × List (ClassId × FieldType)) => u = ([], []) ∧ False) (z_B dC dI (va_A [(h0, .inr (8, [.ref xq1, .ref xq2])), (xq1, .inr (7, [.ref xq2, .ref xq3, .ref xq4, .ref xq5, .ref xq6, .ref xq7, .ref xq8, .int 0, .int 0, .int 0, .int 0, .int 0]))] sz)) (va_A [(h0, .inr (8, [.ref xq1, .ref xq2])), (xq1, .inr (7, [.ref xq2, .ref xq3, .ref xq4, .ref xq5, .ref xq6, .ref xq7, .ref xq8, .int 0, .int 0, .int 0, .int 0, .int 0]))] sz)) (z_XC (fun E : String => E = "java/lang/IndexOutOfBoundsException") (va_A [(h0, .inr (8, [.ref xq1, .ref xq2])), (xq1, .inr (7, [.ref xq2, .ref xq3, .ref xq4, .ref xq5, .ref xq6, .ref xq7, .ref xq8, .int 0, .int 0, .int 0, .int 0, .int 0]))] sz)) 1 6 (va_A [(h0, .inr (8, [.ref xq1, .ref xq2])), (xq1, .inr (7, [.ref xq2, .ref xq3, .ref xq4, .ref xq5, .ref xq6, .ref xq7, .ref xq8, .int 0, .int 0, .int 0, .int 0, .int 0]))] sz) := by
  refine vx_ofW (cc := cX8_state) (maxL := 2) (ret := (some .char)) (by decide) rfl ?_
  intro p e s m args below meth c s₁ B hml htab hv
  obtain ⟨rfl, rfl, I⟩ := z_open hv
  have hx := B.exec
  have hb := B.bytes
  have hr := B.returns
  have hts := atoms_spec (ws := z_w yX8_state cX8_state 2 (some .char)) B.pre
  have hg : z_G _ s := z_G.of hts
  have hown : s.vm.findClass RX8 = some m.cls := findClass_of_methodNamed B.named
  have hlocks := B.notSynchronized
  generalize va_A [(h0, .inr (8, [.ref xq1, .ref xq2])), (xq1, .inr (7, [.ref xq2, .ref xq3, .ref xq4, .ref xq5, .ref xq6, .ref xq7, .ref xq8, .int 0, .int 0, .int 0, .int 0, .int 0]))] s.heap.size = A at I ⊢
  have hl := lv_entry ([.ref h0, .int p0]) (n := 2) (Nat.le_of_ble_eq_true rfl)
  rw [lg_entry_eq]
  generalize (lg_sl ([.ref h0, .int p0]) ++ List.replicate (2 - (lg_sl ([.ref h0, .int p0])).length) Slot.unset).toArray = ls at hl ⊢
  have hl : lv_has ls 2 [(0, .ref h0), (1, .int p0)] := hl
  refine lv_aload_n hx hb dX8_state_0 rfl (lv_at hl 0 rfl) ?_
  refine z_get (C := RX8) (T := TX8) (N := 2) (ci := 8) (v := .ref xq1) hx hb hg hown I iw_8 0 rfl rfl 0 (by decide) mw357 rfl dX8_state_1 ?_
  refine lv_iload_n hx hb dX8_state_4 rfl (lv_at hl 1 rfl) ?_
  refine z_calli (wr := [(h0, .inr (8, [.ref xq1, .ref xq2]))]) (va_runV (As := [.int p0]) (rest := []) ⟨hx, hb, hml, hown, hts⟩ (z_RX7_hasNode l dC dI xq1 xq2 xq3 xq4 xq5 xq6 xq7 xq8 p0  s.heap.size) (cwV 1 hts (z_gV z_T.w mw914 mw915 mw916 mw2 mw917) rfl rfl rfl (by decide +kernel) ⟨Nat.le_of_ble_eq_true rfl, Nat.le_of_ble_eq_true rfl⟩) (z_preV I [1] [] rfl rfl rfl rfl (ci := 7) (q0 := 1) rfl rfl) rfl rfl hl.1 rfl (lv_room (Nat.le_of_ble_eq_true rfl)) dX8_state_5 ⟨Nat.le_of_ble_eq_true rfl, Nat.le_of_ble_eq_true rfl⟩) I [1] [0] rfl rfl (by decide) (by decide) (fun r1 u1 H locs hw1 I => ?_)
  obtain ⟨hu1, hp1⟩ := hw1
  subst hu1
  have I : z_I A dC dI [(h0, .inr (8, [.ref xq1, .ref xq2])), (xq1, .inr (7, [.ref xq2, .ref xq3, .ref xq4, .ref xq5, .ref xq6, .ref xq7, .ref xq8, .int 0, .int 0, .int 0, .int 0, .int 0]))] [] s H _ := I
  obtain rfl : r1 = 0 := hp1
  refine lv_if_ne (tgt := 21) hx hb dX8_state_8 (by decide) (fun c9 => absurd c9 (by decide)) (fun _ => ?_)
  exact z_throwS hx hb hst hml hl.1 hlocks htab hg hown I rfl mw642 mw19 (List.mem_of_getElem? (i := 2) rfl) h1_IndexOutOfBoundsException_104 h2_IndexOutOfBoundsException_104 h3_IndexOutOfBoundsException_104 h4_IndexOutOfBoundsException_104 (List.mem_of_getElem? (i := 14) rfl) dX8_state_11 dX8_state_14 dX8_state_15 dX8_state_17 dX8_state_20 (Nat.le_of_ble_eq_true rfl) (Nat.le_of_ble_eq_true rfl) (Nat.le_of_ble_eq_true rfl) (Nat.le_of_ble_eq_true rfl) (Nat.le_of_ble_eq_true rfl) (Nat.le_of_ble_eq_true rfl)
set_option maxHeartbeats 4000000 in
set_option maxRecDepth 100000 in
theorem z_RX8_parent (l : Launch) (hst : l.stackTraces = false) (dC : Nat → ClassId) (dI : Nat → Nat → Nat) (xq1 : Nat) (xq2 : Nat) (xq3 : Nat) (xq4 : Nat) (xq5 : Nat) (xq6 : Nat) (xq7 : Nat) (xq8 : Nat) (h0 : Nat) (p0 : Int32) (sz : Nat) : vx_Met l yX8_parent (z_w yX8_parent cX8_parent 3 (some .int)) ({ frames := 10, cells := 1, slots := 6, locals := 200 }) (z_P dC dI [(h0, .inr (8, [.ref xq1, .ref xq2])), (xq1, .inr (7, [.ref xq2, .ref xq3, .ref xq4, .ref xq5, .ref xq6, .ref xq7, .ref xq8, .int 0, .int 0, .int 0, .int 0, .int 0]))] [] sz [.ref h0, .int p0]) (va_Qi (fun (r : Int32) (u : va_W × List (ClassId × FieldType)) => u = ([], []) ∧ False) (z_B dC dI (va_A [(h0, .inr (8, [.ref xq1, .ref xq2])), (xq1, .inr (7, [.ref xq2, .ref xq3, .ref xq4, .ref xq5, .ref xq6, .ref xq7, .ref xq8, .int 0, .int 0, .int 0, .int 0, .int 0]))] sz)) (va_A [(h0, .inr (8, [.ref xq1, .ref xq2])), (xq1, .inr (7, [.ref xq2, .ref xq3, .ref xq4, .ref xq5, .ref xq6, .ref xq7, .ref xq8, .int 0, .int 0, .int 0, .int 0, .int 0]))] sz)) (z_XC (fun E : String => E = "java/lang/IndexOutOfBoundsException") (va_A [(h0, .inr (8, [.ref xq1, .ref xq2])), (xq1, .inr (7, [.ref xq2, .ref xq3, .ref xq4, .ref xq5, .ref xq6, .ref xq7, .ref xq8, .int 0, .int 0, .int 0, .int 0, .int 0]))] sz)) 1 6 (va_A [(h0, .inr (8, [.ref xq1, .ref xq2])), (xq1, .inr (7, [.ref xq2, .ref xq3, .ref xq4, .ref xq5, .ref xq6, .ref xq7, .ref xq8, .int 0, .int 0, .int 0, .int 0, .int 0]))] sz) := by
  refine vx_ofW (cc := cX8_parent) (maxL := 3) (ret := (some .int)) (by decide) rfl ?_
  intro p e s m args below meth c s₁ B hml htab hv
  obtain ⟨rfl, rfl, I⟩ := z_open hv
  have hx := B.exec
  have hb := B.bytes
  have hr := B.returns
  have hts := atoms_spec (ws := z_w yX8_parent cX8_parent 3 (some .int)) B.pre
  have hg : z_G _ s := z_G.of hts
  have hown : s.vm.findClass RX8 = some m.cls := findClass_of_methodNamed B.named
  have hlocks := B.notSynchronized
  generalize va_A [(h0, .inr (8, [.ref xq1, .ref xq2])), (xq1, .inr (7, [.ref xq2, .ref xq3, .ref xq4, .ref xq5, .ref xq6, .ref xq7, .ref xq8, .int 0, .int 0, .int 0, .int 0, .int 0]))] s.heap.size = A at I ⊢
  have hl := lv_entry ([.ref h0, .int p0]) (n := 3) (Nat.le_of_ble_eq_true rfl)
  rw [lg_entry_eq]
  generalize (lg_sl ([.ref h0, .int p0]) ++ List.replicate (3 - (lg_sl ([.ref h0, .int p0])).length) Slot.unset).toArray = ls at hl ⊢
  have hl : lv_has ls 3 [(0, .ref h0), (1, .int p0)] := hl
  refine lv_aload_n hx hb dX8_parent_0 rfl (lv_at hl 0 rfl) ?_
  refine z_get (C := RX8) (T := TX8) (N := 2) (ci := 8) (v := .ref xq1) hx hb hg hown I iw_8 0 rfl rfl 0 (by decide) mw357 rfl dX8_parent_1 ?_
  refine lv_iload_n hx hb dX8_parent_4 rfl (lv_at hl 1 rfl) ?_
  refine z_calli (wr := [(h0, .inr (8, [.ref xq1, .ref xq2]))]) (va_runV (As := [.int p0]) (rest := []) ⟨hx, hb, hml, hown, hts⟩ (z_RX7_hasNode l dC dI xq1 xq2 xq3 xq4 xq5 xq6 xq7 xq8 p0  s.heap.size) (cwV 1 hts (z_gV z_T.w mw914 mw915 mw916 mw2 mw917) rfl rfl rfl (by decide +kernel) ⟨Nat.le_of_ble_eq_true rfl, Nat.le_of_ble_eq_true rfl⟩) (z_preV I [1] [] rfl rfl rfl rfl (ci := 7) (q0 := 1) rfl rfl) rfl rfl hl.1 rfl (lv_room (Nat.le_of_ble_eq_true rfl)) dX8_parent_5 ⟨Nat.le_of_ble_eq_true rfl, Nat.le_of_ble_eq_true rfl⟩) I [1] [0] rfl rfl (by decide) (by decide) (fun r1 u1 H locs hw1 I => ?_)
  obtain ⟨hu1, hp1⟩ := hw1
  subst hu1
  have I : z_I A dC dI [(h0, .inr (8, [.ref xq1, .ref xq2])), (xq1, .inr (7, [.ref xq2, .ref xq3, .ref xq4, .ref xq5, .ref xq6, .ref xq7, .ref xq8, .int 0, .int 0, .int 0, .int 0, .int 0]))] [] s H _ := I
  obtain rfl : r1 = 0 := hp1
  refine lv_if_ne (tgt := 21) hx hb dX8_parent_8 (by decide) (fun c9 => absurd c9 (by decide)) (fun _ => ?_)
  exact z_throwS hx hb hst hml hl.1 hlocks htab hg hown I rfl mw642 mw19 (List.mem_of_getElem? (i := 2) rfl) h1_IndexOutOfBoundsException_104 h2_IndexOutOfBoundsException_104 h3_IndexOutOfBoundsException_104 h4_IndexOutOfBoundsException_104 (List.mem_of_getElem? (i := 14) rfl) dX8_parent_11 dX8_parent_14 dX8_parent_15 dX8_parent_17 dX8_parent_20 (Nat.le_of_ble_eq_true rfl) (Nat.le_of_ble_eq_true rfl) (Nat.le_of_ble_eq_true rfl) (Nat.le_of_ble_eq_true rfl) (Nat.le_of_ble_eq_true rfl) (Nat.le_of_ble_eq_true rfl)
set_option maxHeartbeats 4000000 in
set_option maxRecDepth 100000 in
theorem z_RX8_lowerAt (l : Launch) (hst : l.stackTraces = false) (dC : Nat → ClassId) (dI : Nat → Nat → Nat) (xq1 : Nat) (xq2 : Nat) (xq3 : Nat) (xq4 : Nat) (xq5 : Nat) (xq6 : Nat) (xq7 : Nat) (xq8 : Nat) (h0 : Nat) (p0 : Int32) (p1 : Int32) (sz : Nat) : vx_Met l yX8_lowerAt (z_w yX8_lowerAt cX8_lowerAt 3 (some .int)) ({ frames := 10, cells := 1, slots := 6, locals := 200 }) (z_P dC dI [(h0, .inr (8, [.ref xq1, .ref xq2])), (xq1, .inr (7, [.ref xq2, .ref xq3, .ref xq4, .ref xq5, .ref xq6, .ref xq7, .ref xq8, .int 0, .int 0, .int 0, .int 0, .int 0]))] [] sz [.ref h0, .int p0, .int p1]) (va_Qi (fun (r : Int32) (u : va_W × List (ClassId × FieldType)) => u = ([], []) ∧ False) (z_B dC dI (va_A [(h0, .inr (8, [.ref xq1, .ref xq2])), (xq1, .inr (7, [.ref xq2, .ref xq3, .ref xq4, .ref xq5, .ref xq6, .ref xq7, .ref xq8, .int 0, .int 0, .int 0, .int 0, .int 0]))] sz)) (va_A [(h0, .inr (8, [.ref xq1, .ref xq2])), (xq1, .inr (7, [.ref xq2, .ref xq3, .ref xq4, .ref xq5, .ref xq6, .ref xq7, .ref xq8, .int 0, .int 0, .int 0, .int 0, .int 0]))] sz)) (z_XC (fun E : String => E = "java/lang/IndexOutOfBoundsException") (va_A [(h0, .inr (8, [.ref xq1, .ref xq2])), (xq1, .inr (7, [.ref xq2, .ref xq3, .ref xq4, .ref xq5, .ref xq6, .ref xq7, .ref xq8, .int 0, .int 0, .int 0, .int 0, .int 0]))] sz)) 1 6 (va_A [(h0, .inr (8, [.ref xq1, .ref xq2])), (xq1, .inr (7, [.ref xq2, .ref xq3, .ref xq4, .ref xq5, .ref xq6, .ref xq7, .ref xq8, .int 0, .int 0, .int 0, .int 0, .int 0]))] sz) := by
  refine vx_ofW (cc := cX8_lowerAt) (maxL := 3) (ret := (some .int)) (by decide) rfl ?_
  intro p e s m args below meth c s₁ B hml htab hv
  obtain ⟨rfl, rfl, I⟩ := z_open hv
  have hx := B.exec
  have hb := B.bytes
  have hr := B.returns
  have hts := atoms_spec (ws := z_w yX8_lowerAt cX8_lowerAt 3 (some .int)) B.pre
  have hg : z_G _ s := z_G.of hts
  have hown : s.vm.findClass RX8 = some m.cls := findClass_of_methodNamed B.named
  have hlocks := B.notSynchronized
  generalize va_A [(h0, .inr (8, [.ref xq1, .ref xq2])), (xq1, .inr (7, [.ref xq2, .ref xq3, .ref xq4, .ref xq5, .ref xq6, .ref xq7, .ref xq8, .int 0, .int 0, .int 0, .int 0, .int 0]))] s.heap.size = A at I ⊢
  have hl := lv_entry ([.ref h0, .int p0, .int p1]) (n := 3) (Nat.le_of_ble_eq_true rfl)
  rw [lg_entry_eq]
  generalize (lg_sl ([.ref h0, .int p0, .int p1]) ++ List.replicate (3 - (lg_sl ([.ref h0, .int p0, .int p1])).length) Slot.unset).toArray = ls at hl ⊢
  have hl : lv_has ls 3 [(0, .ref h0), (1, .int p0), (2, .int p1)] := hl
  refine lv_aload_n hx hb dX8_lowerAt_0 rfl (lv_at hl 0 rfl) ?_
  refine z_get (C := RX8) (T := TX8) (N := 2) (ci := 8) (v := .ref xq1) hx hb hg hown I iw_8 0 rfl rfl 0 (by decide) mw357 rfl dX8_lowerAt_1 ?_
  refine lv_iload_n hx hb dX8_lowerAt_4 rfl (lv_at hl 1 rfl) ?_
  refine z_calli (wr := [(h0, .inr (8, [.ref xq1, .ref xq2]))]) (va_runV (As := [.int p0]) (rest := []) ⟨hx, hb, hml, hown, hts⟩ (z_RX7_hasNode l dC dI xq1 xq2 xq3 xq4 xq5 xq6 xq7 xq8 p0  s.heap.size) (cwV 1 hts (z_gV z_T.w mw914 mw915 mw916 mw2 mw917) rfl rfl rfl (by decide +kernel) ⟨Nat.le_of_ble_eq_true rfl, Nat.le_of_ble_eq_true rfl⟩) (z_preV I [1] [] rfl rfl rfl rfl (ci := 7) (q0 := 1) rfl rfl) rfl rfl hl.1 rfl (lv_room (Nat.le_of_ble_eq_true rfl)) dX8_lowerAt_5 ⟨Nat.le_of_ble_eq_true rfl, Nat.le_of_ble_eq_true rfl⟩) I [1] [0] rfl rfl (by decide) (by decide) (fun r1 u1 H locs hw1 I => ?_)
  obtain ⟨hu1, hp1⟩ := hw1
  subst hu1
  have I : z_I A dC dI [(h0, .inr (8, [.ref xq1, .ref xq2])), (xq1, .inr (7, [.ref xq2, .ref xq3, .ref xq4, .ref xq5, .ref xq6, .ref xq7, .ref xq8, .int 0, .int 0, .int 0, .int 0, .int 0]))] [] s H _ := I
  obtain rfl : r1 = 0 := hp1
  refine lv_if_eq (tgt := 22) hx hb dX8_lowerAt_8 (by decide) (fun _ => ?_) (fun c9 => absurd c9 (by decide))
  exact z_throwS hx hb hst hml hl.1 hlocks htab hg hown I rfl mw642 mw19 (List.mem_of_getElem? (i := 2) rfl) h1_IndexOutOfBoundsException_104 h2_IndexOutOfBoundsException_104 h3_IndexOutOfBoundsException_104 h4_IndexOutOfBoundsException_104 (List.mem_of_getElem? (i := 16) rfl) dX8_lowerAt_22 dX8_lowerAt_25 dX8_lowerAt_26 dX8_lowerAt_28 dX8_lowerAt_31 (Nat.le_of_ble_eq_true rfl) (Nat.le_of_ble_eq_true rfl) (Nat.le_of_ble_eq_true rfl) (Nat.le_of_ble_eq_true rfl) (Nat.le_of_ble_eq_true rfl) (Nat.le_of_ble_eq_true rfl)
set_option maxHeartbeats 4000000 in
set_option maxRecDepth 100000 in
theorem z_RX8_upperAt (l : Launch) (hst : l.stackTraces = false) (dC : Nat → ClassId) (dI : Nat → Nat → Nat) (xq1 : Nat) (xq2 : Nat) (xq3 : Nat) (xq4 : Nat) (xq5 : Nat) (xq6 : Nat) (xq7 : Nat) (xq8 : Nat) (h0 : Nat) (p0 : Int32) (p1 : Int32) (sz : Nat) : vx_Met l yX8_upperAt (z_w yX8_upperAt cX8_upperAt 3 (some .int)) ({ frames := 10, cells := 1, slots := 6, locals := 200 }) (z_P dC dI [(h0, .inr (8, [.ref xq1, .ref xq2])), (xq1, .inr (7, [.ref xq2, .ref xq3, .ref xq4, .ref xq5, .ref xq6, .ref xq7, .ref xq8, .int 0, .int 0, .int 0, .int 0, .int 0]))] [] sz [.ref h0, .int p0, .int p1]) (va_Qi (fun (r : Int32) (u : va_W × List (ClassId × FieldType)) => u = ([], []) ∧ False) (z_B dC dI (va_A [(h0, .inr (8, [.ref xq1, .ref xq2])), (xq1, .inr (7, [.ref xq2, .ref xq3, .ref xq4, .ref xq5, .ref xq6, .ref xq7, .ref xq8, .int 0, .int 0, .int 0, .int 0, .int 0]))] sz)) (va_A [(h0, .inr (8, [.ref xq1, .ref xq2])), (xq1, .inr (7, [.ref xq2, .ref xq3, .ref xq4, .ref xq5, .ref xq6, .ref xq7, .ref xq8, .int 0, .int 0, .int 0, .int 0, .int 0]))] sz)) (z_XC (fun E : String => E = "java/lang/IndexOutOfBoundsException") (va_A [(h0, .inr (8, [.ref xq1, .ref xq2])), (xq1, .inr (7, [.ref xq2, .ref xq3, .ref xq4, .ref xq5, .ref xq6, .ref xq7, .ref xq8, .int 0, .int 0, .int 0, .int 0, .int 0]))] sz)) 1 6 (va_A [(h0, .inr (8, [.ref xq1, .ref xq2])), (xq1, .inr (7, [.ref xq2, .ref xq3, .ref xq4, .ref xq5, .ref xq6, .ref xq7, .ref xq8, .int 0, .int 0, .int 0, .int 0, .int 0]))] sz) := by
  refine vx_ofW (cc := cX8_upperAt) (maxL := 3) (ret := (some .int)) (by decide) rfl ?_
  intro p e s m args below meth c s₁ B hml htab hv
  obtain ⟨rfl, rfl, I⟩ := z_open hv
  have hx := B.exec
  have hb := B.bytes
  have hr := B.returns
  have hts := atoms_spec (ws := z_w yX8_upperAt cX8_upperAt 3 (some .int)) B.pre
  have hg : z_G _ s := z_G.of hts
  have hown : s.vm.findClass RX8 = some m.cls := findClass_of_methodNamed B.named
  have hlocks := B.notSynchronized
  generalize va_A [(h0, .inr (8, [.ref xq1, .ref xq2])), (xq1, .inr (7, [.ref xq2, .ref xq3, .ref xq4, .ref xq5, .ref xq6, .ref xq7, .ref xq8, .int 0, .int 0, .int 0, .int 0, .int 0]))] s.heap.size = A at I ⊢
  have hl := lv_entry ([.ref h0, .int p0, .int p1]) (n := 3) (Nat.le_of_ble_eq_true rfl)
  rw [lg_entry_eq]
  generalize (lg_sl ([.ref h0, .int p0, .int p1]) ++ List.replicate (3 - (lg_sl ([.ref h0, .int p0, .int p1])).length) Slot.unset).toArray = ls at hl ⊢
  have hl : lv_has ls 3 [(0, .ref h0), (1, .int p0), (2, .int p1)] := hl
  refine lv_aload_n hx hb dX8_upperAt_0 rfl (lv_at hl 0 rfl) ?_
  refine z_get (C := RX8) (T := TX8) (N := 2) (ci := 8) (v := .ref xq1) hx hb hg hown I iw_8 0 rfl rfl 0 (by decide) mw357 rfl dX8_upperAt_1 ?_
  refine lv_iload_n hx hb dX8_upperAt_4 rfl (lv_at hl 1 rfl) ?_
  refine z_calli (wr := [(h0, .inr (8, [.ref xq1, .ref xq2]))]) (va_runV (As := [.int p0]) (rest := []) ⟨hx, hb, hml, hown, hts⟩ (z_RX7_hasNode l dC dI xq1 xq2 xq3 xq4 xq5 xq6 xq7 xq8 p0  s.heap.size) (cwV 1 hts (z_gV z_T.w mw914 mw915 mw916 mw2 mw917) rfl rfl rfl (by decide +kernel) ⟨Nat.le_of_ble_eq_true rfl, Nat.le_of_ble_eq_true rfl⟩) (z_preV I [1] [] rfl rfl rfl rfl (ci := 7) (q0 := 1) rfl rfl) rfl rfl hl.1 rfl (lv_room (Nat.le_of_ble_eq_true rfl)) dX8_upperAt_5 ⟨Nat.le_of_ble_eq_true rfl, Nat.le_of_ble_eq_true rfl⟩) I [1] [0] rfl rfl (by decide) (by decide) (fun r1 u1 H locs hw1 I => ?_)
  obtain ⟨hu1, hp1⟩ := hw1
  subst hu1
  have I : z_I A dC dI [(h0, .inr (8, [.ref xq1, .ref xq2])), (xq1, .inr (7, [.ref xq2, .ref xq3, .ref xq4, .ref xq5, .ref xq6, .ref xq7, .ref xq8, .int 0, .int 0, .int 0, .int 0, .int 0]))] [] s H _ := I
  obtain rfl : r1 = 0 := hp1
  refine lv_if_eq (tgt := 22) hx hb dX8_upperAt_8 (by decide) (fun _ => ?_) (fun c9 => absurd c9 (by decide))
  exact z_throwS hx hb hst hml hl.1 hlocks htab hg hown I rfl mw642 mw19 (List.mem_of_getElem? (i := 2) rfl) h1_IndexOutOfBoundsException_104 h2_IndexOutOfBoundsException_104 h3_IndexOutOfBoundsException_104 h4_IndexOutOfBoundsException_104 (List.mem_of_getElem? (i := 16) rfl) dX8_upperAt_22 dX8_upperAt_25 dX8_upperAt_26 dX8_upperAt_28 dX8_upperAt_31 (Nat.le_of_ble_eq_true rfl) (Nat.le_of_ble_eq_true rfl) (Nat.le_of_ble_eq_true rfl) (Nat.le_of_ble_eq_true rfl) (Nat.le_of_ble_eq_true rfl) (Nat.le_of_ble_eq_true rfl)
set_option maxHeartbeats 4000000 in
set_option maxRecDepth 100000 in
theorem z_RX8_value (l : Launch) (hst : l.stackTraces = false) (dC : Nat → ClassId) (dI : Nat → Nat → Nat) (xq1 : Nat) (xq2 : Nat) (xq3 : Nat) (xq4 : Nat) (xq5 : Nat) (xq6 : Nat) (xq7 : Nat) (xq8 : Nat) (h0 : Nat) (p0 : Int32) (sz : Nat) : vx_Met l yX8_value (z_w yX8_value cX8_value 2 (some .long)) ({ frames := 10, cells := 1, slots := 6, locals := 200 }) (z_P dC dI [(h0, .inr (8, [.ref xq1, .ref xq2])), (xq1, .inr (7, [.ref xq2, .ref xq3, .ref xq4, .ref xq5, .ref xq6, .ref xq7, .ref xq8, .int 0, .int 0, .int 0, .int 0, .int 0]))] [] sz [.ref h0, .int p0]) (va_Ql (fun (r : Int64) (u : va_W × List (ClassId × FieldType)) => u = ([], []) ∧ False) (z_B dC dI (va_A [(h0, .inr (8, [.ref xq1, .ref xq2])), (xq1, .inr (7, [.ref xq2, .ref xq3, .ref xq4, .ref xq5, .ref xq6, .ref xq7, .ref xq8, .int 0, .int 0, .int 0, .int 0, .int 0]))] sz)) (va_A [(h0, .inr (8, [.ref xq1, .ref xq2])), (xq1, .inr (7, [.ref xq2, .ref xq3, .ref xq4, .ref xq5, .ref xq6, .ref xq7, .ref xq8, .int 0, .int 0, .int 0, .int 0, .int 0]))] sz)) (z_XC (fun E : String => E = "java/lang/IndexOutOfBoundsException") (va_A [(h0, .inr (8, [.ref xq1, .ref xq2])), (xq1, .inr (7, [.ref xq2, .ref xq3, .ref xq4, .ref xq5, .ref xq6, .ref xq7, .ref xq8, .int 0, .int 0, .int 0, .int 0, .int 0]))] sz)) 1 6 (va_A [(h0, .inr (8, [.ref xq1, .ref xq2])), (xq1, .inr (7, [.ref xq2, .ref xq3, .ref xq4, .ref xq5, .ref xq6, .ref xq7, .ref xq8, .int 0, .int 0, .int 0, .int 0, .int 0]))] sz) := by
  refine vx_ofW (cc := cX8_value) (maxL := 2) (ret := (some .long)) (by decide) rfl ?_
  intro p e s m args below meth c s₁ B hml htab hv
  obtain ⟨rfl, rfl, I⟩ := z_open hv
  have hx := B.exec
  have hb := B.bytes
  have hr := B.returns
  have hts := atoms_spec (ws := z_w yX8_value cX8_value 2 (some .long)) B.pre
  have hg : z_G _ s := z_G.of hts
  have hown : s.vm.findClass RX8 = some m.cls := findClass_of_methodNamed B.named
  have hlocks := B.notSynchronized
  generalize va_A [(h0, .inr (8, [.ref xq1, .ref xq2])), (xq1, .inr (7, [.ref xq2, .ref xq3, .ref xq4, .ref xq5, .ref xq6, .ref xq7, .ref xq8, .int 0, .int 0, .int 0, .int 0, .int 0]))] s.heap.size = A at I ⊢
  have hl := lv_entry ([.ref h0, .int p0]) (n := 2) (Nat.le_of_ble_eq_true rfl)
  rw [lg_entry_eq]
  generalize (lg_sl ([.ref h0, .int p0]) ++ List.replicate (2 - (lg_sl ([.ref h0, .int p0])).length) Slot.unset).toArray = ls at hl ⊢
  have hl : lv_has ls 2 [(0, .ref h0), (1, .int p0)] := hl
  refine lv_aload_n hx hb dX8_value_0 rfl (lv_at hl 0 rfl) ?_
  refine z_get (C := RX8) (T := TX8) (N := 2) (ci := 8) (v := .ref xq1) hx hb hg hown I iw_8 0 rfl rfl 0 (by decide) mw357 rfl dX8_value_1 ?_
  refine lv_iload_n hx hb dX8_value_4 rfl (lv_at hl 1 rfl) ?_
  refine z_calli (wr := [(h0, .inr (8, [.ref xq1, .ref xq2]))]) (va_runV (As := [.int p0]) (rest := []) ⟨hx, hb, hml, hown, hts⟩ (z_RX7_hasNode l dC dI xq1 xq2 xq3 xq4 xq5 xq6 xq7 xq8 p0  s.heap.size) (cwV 1 hts (z_gV z_T.w mw914 mw915 mw916 mw2 mw917) rfl rfl rfl (by decide +kernel) ⟨Nat.le_of_ble_eq_true rfl, Nat.le_of_ble_eq_true rfl⟩) (z_preV I [1] [] rfl rfl rfl rfl (ci := 7) (q0 := 1) rfl rfl) rfl rfl hl.1 rfl (lv_room (Nat.le_of_ble_eq_true rfl)) dX8_value_5 ⟨Nat.le_of_ble_eq_true rfl, Nat.le_of_ble_eq_true rfl⟩) I [1] [0] rfl rfl (by decide) (by decide) (fun r1 u1 H locs hw1 I => ?_)
  obtain ⟨hu1, hp1⟩ := hw1
  subst hu1
  have I : z_I A dC dI [(h0, .inr (8, [.ref xq1, .ref xq2])), (xq1, .inr (7, [.ref xq2, .ref xq3, .ref xq4, .ref xq5, .ref xq6, .ref xq7, .ref xq8, .int 0, .int 0, .int 0, .int 0, .int 0]))] [] s H _ := I
  obtain rfl : r1 = 0 := hp1
  refine lv_if_ne (tgt := 21) hx hb dX8_value_8 (by decide) (fun c9 => absurd c9 (by decide)) (fun _ => ?_)
  exact z_throwS hx hb hst hml hl.1 hlocks htab hg hown I rfl mw642 mw19 (List.mem_of_getElem? (i := 2) rfl) h1_IndexOutOfBoundsException_104 h2_IndexOutOfBoundsException_104 h3_IndexOutOfBoundsException_104 h4_IndexOutOfBoundsException_104 (List.mem_of_getElem? (i := 14) rfl) dX8_value_11 dX8_value_14 dX8_value_15 dX8_value_17 dX8_value_20 (Nat.le_of_ble_eq_true rfl) (Nat.le_of_ble_eq_true rfl) (Nat.le_of_ble_eq_true rfl) (Nat.le_of_ble_eq_true rfl) (Nat.le_of_ble_eq_true rfl) (Nat.le_of_ble_eq_true rfl)
set_option maxHeartbeats 4000000 in
set_option maxRecDepth 100000 in
theorem z_RX8_point (l : Launch) (hst : l.stackTraces = false) (dC : Nat → ClassId) (dI : Nat → Nat → Nat) (xq1 : Nat) (xq2 : Nat) (xq3 : Nat) (xq4 : Nat) (xq5 : Nat) (xq6 : Nat) (xq7 : Nat) (xq8 : Nat) (h0 : Nat) (p0 : Int32) (p1 : Int32) (sz : Nat) : vx_Met l yX8_point (z_w yX8_point cX8_point 3 (some .long)) ({ frames := 10, cells := 1, slots := 6, locals := 200 }) (z_P dC dI [(h0, .inr (8, [.ref xq1, .ref xq2])), (xq1, .inr (7, [.ref xq2, .ref xq3, .ref xq4, .ref xq5, .ref xq6, .ref xq7, .ref xq8, .int 0, .int 0, .int 0, .int 0, .int 0]))] [] sz [.ref h0, .int p0, .int p1]) (va_Ql (fun (r : Int64) (u : va_W × List (ClassId × FieldType)) => u = ([], []) ∧ False) (z_B dC dI (va_A [(h0, .inr (8, [.ref xq1, .ref xq2])), (xq1, .inr (7, [.ref xq2, .ref xq3, .ref xq4, .ref xq5, .ref xq6, .ref xq7, .ref xq8, .int 0, .int 0, .int 0, .int 0, .int 0]))] sz)) (va_A [(h0, .inr (8, [.ref xq1, .ref xq2])), (xq1, .inr (7, [.ref xq2, .ref xq3, .ref xq4, .ref xq5, .ref xq6, .ref xq7, .ref xq8, .int 0, .int 0, .int 0, .int 0, .int 0]))] sz)) (z_XC (fun E : String => E = "java/lang/IndexOutOfBoundsException") (va_A [(h0, .inr (8, [.ref xq1, .ref xq2])), (xq1, .inr (7, [.ref xq2, .ref xq3, .ref xq4, .ref xq5, .ref xq6, .ref xq7, .ref xq8, .int 0, .int 0, .int 0, .int 0, .int 0]))] sz)) 1 6 (va_A [(h0, .inr (8, [.ref xq1, .ref xq2])), (xq1, .inr (7, [.ref xq2, .ref xq3, .ref xq4, .ref xq5, .ref xq6, .ref xq7, .ref xq8, .int 0, .int 0, .int 0, .int 0, .int 0]))] sz) := by
  refine vx_ofW (cc := cX8_point) (maxL := 3) (ret := (some .long)) (by decide) rfl ?_
  intro p e s m args below meth c s₁ B hml htab hv
  obtain ⟨rfl, rfl, I⟩ := z_open hv
  have hx := B.exec
  have hb := B.bytes
  have hr := B.returns
  have hts := atoms_spec (ws := z_w yX8_point cX8_point 3 (some .long)) B.pre
  have hg : z_G _ s := z_G.of hts
  have hown : s.vm.findClass RX8 = some m.cls := findClass_of_methodNamed B.named
  have hlocks := B.notSynchronized
  generalize va_A [(h0, .inr (8, [.ref xq1, .ref xq2])), (xq1, .inr (7, [.ref xq2, .ref xq3, .ref xq4, .ref xq5, .ref xq6, .ref xq7, .ref xq8, .int 0, .int 0, .int 0, .int 0, .int 0]))] s.heap.size = A at I ⊢
  have hl := lv_entry ([.ref h0, .int p0, .int p1]) (n := 3) (Nat.le_of_ble_eq_true rfl)
  rw [lg_entry_eq]
  generalize (lg_sl ([.ref h0, .int p0, .int p1]) ++ List.replicate (3 - (lg_sl ([.ref h0, .int p0, .int p1])).length) Slot.unset).toArray = ls at hl ⊢
  have hl : lv_has ls 3 [(0, .ref h0), (1, .int p0), (2, .int p1)] := hl
  refine lv_aload_n hx hb dX8_point_0 rfl (lv_at hl 0 rfl) ?_
  refine z_get (C := RX8) (T := TX8) (N := 2) (ci := 8) (v := .ref xq1) hx hb hg hown I iw_8 0 rfl rfl 0 (by decide) mw357 rfl dX8_point_1 ?_
  refine lv_iload_n hx hb dX8_point_4 rfl (lv_at hl 1 rfl) ?_
  refine z_calli (wr := [(h0, .inr (8, [.ref xq1, .ref xq2]))]) (va_runV (As := [.int p0]) (rest := []) ⟨hx, hb, hml, hown, hts⟩ (z_RX7_hasNode l dC dI xq1 xq2 xq3 xq4 xq5 xq6 xq7 xq8 p0  s.heap.size) (cwV 1 hts (z_gV z_T.w mw914 mw915 mw916 mw2 mw917) rfl rfl rfl (by decide +kernel) ⟨Nat.le_of_ble_eq_true rfl, Nat.le_of_ble_eq_true rfl⟩) (z_preV I [1] [] rfl rfl rfl rfl (ci := 7) (q0 := 1) rfl rfl) rfl rfl hl.1 rfl (lv_room (Nat.le_of_ble_eq_true rfl)) dX8_point_5 ⟨Nat.le_of_ble_eq_true rfl, Nat.le_of_ble_eq_true rfl⟩) I [1] [0] rfl rfl (by decide) (by decide) (fun r1 u1 H locs hw1 I => ?_)
  obtain ⟨hu1, hp1⟩ := hw1
  subst hu1
  have I : z_I A dC dI [(h0, .inr (8, [.ref xq1, .ref xq2])), (xq1, .inr (7, [.ref xq2, .ref xq3, .ref xq4, .ref xq5, .ref xq6, .ref xq7, .ref xq8, .int 0, .int 0, .int 0, .int 0, .int 0]))] [] s H _ := I
  obtain rfl : r1 = 0 := hp1
  refine lv_if_eq (tgt := 22) hx hb dX8_point_8 (by decide) (fun _ => ?_) (fun c9 => absurd c9 (by decide))
  exact z_throwS hx hb hst hml hl.1 hlocks htab hg hown I rfl mw642 mw19 (List.mem_of_getElem? (i := 2) rfl) h1_IndexOutOfBoundsException_104 h2_IndexOutOfBoundsException_104 h3_IndexOutOfBoundsException_104 h4_IndexOutOfBoundsException_104 (List.mem_of_getElem? (i := 16) rfl) dX8_point_22 dX8_point_25 dX8_point_26 dX8_point_28 dX8_point_31 (Nat.le_of_ble_eq_true rfl) (Nat.le_of_ble_eq_true rfl) (Nat.le_of_ble_eq_true rfl) (Nat.le_of_ble_eq_true rfl) (Nat.le_of_ble_eq_true rfl) (Nat.le_of_ble_eq_true rfl)
set_option maxHeartbeats 4000000 in
set_option maxRecDepth 100000 in
theorem z_RX8_round (l : Launch) (hst : l.stackTraces = false) (dC : Nat → ClassId) (dI : Nat → Nat → Nat) (xq1 : Nat) (xq2 : Nat) (xq3 : Nat) (xq4 : Nat) (xq5 : Nat) (xq6 : Nat) (xq7 : Nat) (xq8 : Nat) (h0 : Nat) (p0 : Int32) (sz : Nat) : vx_Met l yX8_round (z_w yX8_round cX8_round 2 (some .boolean)) ({ frames := 10, cells := 1, slots := 6, locals := 200 }) (z_P dC dI [(h0, .inr (8, [.ref xq1, .ref xq2])), (xq1, .inr (7, [.ref xq2, .ref xq3, .ref xq4, .ref xq5, .ref xq6, .ref xq7, .ref xq8, .int 0, .int 0, .int 0, .int 0, .int 0]))] [] sz [.ref h0, .int p0]) (va_Qi (fun (r : Int32) (u : va_W × List (ClassId × FieldType)) => u = ([], []) ∧ False) (z_B dC dI (va_A [(h0, .inr (8, [.ref xq1, .ref xq2])), (xq1, .inr (7, [.ref xq2, .ref xq3, .ref xq4, .ref xq5, .ref xq6, .ref xq7, .ref xq8, .int 0, .int 0, .int 0, .int 0, .int 0]))] sz)) (va_A [(h0, .inr (8, [.ref xq1, .ref xq2])), (xq1, .inr (7, [.ref xq2, .ref xq3, .ref xq4, .ref xq5, .ref xq6, .ref xq7, .ref xq8, .int 0, .int 0, .int 0, .int 0, .int 0]))] sz)) (z_XC (fun E : String => E = "java/lang/IndexOutOfBoundsException") (va_A [(h0, .inr (8, [.ref xq1, .ref xq2])), (xq1, .inr (7, [.ref xq2, .ref xq3, .ref xq4, .ref xq5, .ref xq6, .ref xq7, .ref xq8, .int 0, .int 0, .int 0, .int 0, .int 0]))] sz)) 1 6 (va_A [(h0, .inr (8, [.ref xq1, .ref xq2])), (xq1, .inr (7, [.ref xq2, .ref xq3, .ref xq4, .ref xq5, .ref xq6, .ref xq7, .ref xq8, .int 0, .int 0, .int 0, .int 0, .int 0]))] sz) := by
  refine vx_ofW (cc := cX8_round) (maxL := 2) (ret := (some .boolean)) (by decide) rfl ?_
  intro p e s m args below meth c s₁ B hml htab hv
  obtain ⟨rfl, rfl, I⟩ := z_open hv
  have hx := B.exec
  have hb := B.bytes
  have hr := B.returns
  have hts := atoms_spec (ws := z_w yX8_round cX8_round 2 (some .boolean)) B.pre
  have hg : z_G _ s := z_G.of hts
  have hown : s.vm.findClass RX8 = some m.cls := findClass_of_methodNamed B.named
  have hlocks := B.notSynchronized
  generalize va_A [(h0, .inr (8, [.ref xq1, .ref xq2])), (xq1, .inr (7, [.ref xq2, .ref xq3, .ref xq4, .ref xq5, .ref xq6, .ref xq7, .ref xq8, .int 0, .int 0, .int 0, .int 0, .int 0]))] s.heap.size = A at I ⊢
  have hl := lv_entry ([.ref h0, .int p0]) (n := 2) (Nat.le_of_ble_eq_true rfl)
  rw [lg_entry_eq]
  generalize (lg_sl ([.ref h0, .int p0]) ++ List.replicate (2 - (lg_sl ([.ref h0, .int p0])).length) Slot.unset).toArray = ls at hl ⊢
  have hl : lv_has ls 2 [(0, .ref h0), (1, .int p0)] := hl
  refine lv_aload_n hx hb dX8_round_0 rfl (lv_at hl 0 rfl) ?_
  refine z_get (C := RX8) (T := TX8) (N := 2) (ci := 8) (v := .ref xq1) hx hb hg hown I iw_8 0 rfl rfl 0 (by decide) mw357 rfl dX8_round_1 ?_
  refine lv_iload_n hx hb dX8_round_4 rfl (lv_at hl 1 rfl) ?_
  refine z_calli (wr := [(h0, .inr (8, [.ref xq1, .ref xq2]))]) (va_runV (As := [.int p0]) (rest := []) ⟨hx, hb, hml, hown, hts⟩ (z_RX7_hasNode l dC dI xq1 xq2 xq3 xq4 xq5 xq6 xq7 xq8 p0  s.heap.size) (cwV 1 hts (z_gV z_T.w mw914 mw915 mw916 mw2 mw917) rfl rfl rfl (by decide +kernel) ⟨Nat.le_of_ble_eq_true rfl, Nat.le_of_ble_eq_true rfl⟩) (z_preV I [1] [] rfl rfl rfl rfl (ci := 7) (q0 := 1) rfl rfl) rfl rfl hl.1 rfl (lv_room (Nat.le_of_ble_eq_true rfl)) dX8_round_5 ⟨Nat.le_of_ble_eq_true rfl, Nat.le_of_ble_eq_true rfl⟩) I [1] [0] rfl rfl (by decide) (by decide) (fun r1 u1 H locs hw1 I => ?_)
  obtain ⟨hu1, hp1⟩ := hw1
  subst hu1
  have I : z_I A dC dI [(h0, .inr (8, [.ref xq1, .ref xq2])), (xq1, .inr (7, [.ref xq2, .ref xq3, .ref xq4, .ref xq5, .ref xq6, .ref xq7, .ref xq8, .int 0, .int 0, .int 0, .int 0, .int 0]))] [] s H _ := I
  obtain rfl : r1 = 0 := hp1
  refine lv_if_ne (tgt := 21) hx hb dX8_round_8 (by decide) (fun c9 => absurd c9 (by decide)) (fun _ => ?_)
  exact z_throwS hx hb hst hml hl.1 hlocks htab hg hown I rfl mw642 mw19 (List.mem_of_getElem? (i := 2) rfl) h1_IndexOutOfBoundsException_104 h2_IndexOutOfBoundsException_104 h3_IndexOutOfBoundsException_104 h4_IndexOutOfBoundsException_104 (List.mem_of_getElem? (i := 14) rfl) dX8_round_11 dX8_round_14 dX8_round_15 dX8_round_17 dX8_round_20 (Nat.le_of_ble_eq_true rfl) (Nat.le_of_ble_eq_true rfl) (Nat.le_of_ble_eq_true rfl) (Nat.le_of_ble_eq_true rfl) (Nat.le_of_ble_eq_true rfl) (Nat.le_of_ble_eq_true rfl)
set_option maxHeartbeats 4000000 in
set_option maxRecDepth 100000 in
theorem z_RX8_solution (l : Launch) (hst : l.stackTraces = false) (dC : Nat → ClassId) (dI : Nat → Nat → Nat) (xq1 : Nat) (xq2 : Nat) (xq9 : Nat) (xq10 : Nat) (xq11 : Nat) (xq12 : Nat) (xq13 : Nat) (xq14 : Nat) (xq15 : Nat) (xq16 : Nat) (xq17 : Nat) (xq18 : Nat) (xq19 : Nat) (h0 : Nat) (p0 : Int32) (sz : Nat) : vx_Met l yX8_solution (z_w yX8_solution cX8_solution 2 (some .long)) ({ frames := 10, cells := 1, slots := 6, locals := 200 }) (z_P dC dI [(h0, .inr (8, [.ref xq1, .ref xq2])), (xq2, .inr (5, [.ref xq9, .ref xq10, .ref xq11, .ref xq12, .ref xq13, .ref xq14, .ref xq15, .ref xq16, .ref xq17, .ref xq18, .ref xq19, .int 0, .int 0]))] [] sz [.ref h0, .int p0]) (va_Ql (fun (r : Int64) (u : va_W × List (ClassId × FieldType)) => u = ([], []) ∧ False) (z_B dC dI (va_A [(h0, .inr (8, [.ref xq1, .ref xq2])), (xq2, .inr (5, [.ref xq9, .ref xq10, .ref xq11, .ref xq12, .ref xq13, .ref xq14, .ref xq15, .ref xq16, .ref xq17, .ref xq18, .ref xq19, .int 0, .int 0]))] sz)) (va_A [(h0, .inr (8, [.ref xq1, .ref xq2])), (xq2, .inr (5, [.ref xq9, .ref xq10, .ref xq11, .ref xq12, .ref xq13, .ref xq14, .ref xq15, .ref xq16, .ref xq17, .ref xq18, .ref xq19, .int 0, .int 0]))] sz)) (z_XC (fun E : String => E = "java/lang/IndexOutOfBoundsException") (va_A [(h0, .inr (8, [.ref xq1, .ref xq2])), (xq2, .inr (5, [.ref xq9, .ref xq10, .ref xq11, .ref xq12, .ref xq13, .ref xq14, .ref xq15, .ref xq16, .ref xq17, .ref xq18, .ref xq19, .int 0, .int 0]))] sz)) 1 6 (va_A [(h0, .inr (8, [.ref xq1, .ref xq2])), (xq2, .inr (5, [.ref xq9, .ref xq10, .ref xq11, .ref xq12, .ref xq13, .ref xq14, .ref xq15, .ref xq16, .ref xq17, .ref xq18, .ref xq19, .int 0, .int 0]))] sz) := by
  refine vx_ofW (cc := cX8_solution) (maxL := 2) (ret := (some .long)) (by decide) rfl ?_
  intro p e s m args below meth c s₁ B hml htab hv
  obtain ⟨rfl, rfl, I⟩ := z_open hv
  have hx := B.exec
  have hb := B.bytes
  have hr := B.returns
  have hts := atoms_spec (ws := z_w yX8_solution cX8_solution 2 (some .long)) B.pre
  have hg : z_G _ s := z_G.of hts
  have hown : s.vm.findClass RX8 = some m.cls := findClass_of_methodNamed B.named
  have hlocks := B.notSynchronized
  generalize va_A [(h0, .inr (8, [.ref xq1, .ref xq2])), (xq2, .inr (5, [.ref xq9, .ref xq10, .ref xq11, .ref xq12, .ref xq13, .ref xq14, .ref xq15, .ref xq16, .ref xq17, .ref xq18, .ref xq19, .int 0, .int 0]))] s.heap.size = A at I ⊢
  have hl := lv_entry ([.ref h0, .int p0]) (n := 2) (Nat.le_of_ble_eq_true rfl)
  rw [lg_entry_eq]
  generalize (lg_sl ([.ref h0, .int p0]) ++ List.replicate (2 - (lg_sl ([.ref h0, .int p0])).length) Slot.unset).toArray = ls at hl ⊢
  have hl : lv_has ls 2 [(0, .ref h0), (1, .int p0)] := hl
  refine lv_aload_n hx hb dX8_solution_0 rfl (lv_at hl 0 rfl) ?_
  refine z_get (C := RX8) (T := TX8) (N := 2) (ci := 8) (v := .ref xq2) hx hb hg hown I iw_8 0 rfl rfl 1 (by decide) mw358 rfl dX8_solution_1 ?_
  refine lv_iload_n hx hb dX8_solution_4 rfl (lv_at hl 1 rfl) ?_
  refine z_calli (wr := [(h0, .inr (8, [.ref xq1, .ref xq2]))]) (va_runV (As := [.int p0]) (rest := []) ⟨hx, hb, hml, hown, hts⟩ (z_RX5_hasColumn l dC dI xq2 xq9 xq10 xq11 xq12 xq13 xq14 xq15 xq16 xq17 xq18 xq19 p0  s.heap.size) (cwV 1 hts (z_gV z_T.w mw638 mw639 mw640 mw3 mw641) rfl rfl rfl (by decide +kernel) ⟨Nat.le_of_ble_eq_true rfl, Nat.le_of_ble_eq_true rfl⟩) (z_preV I [1] [] rfl rfl rfl rfl (ci := 5) (q0 := 1) rfl rfl) rfl rfl hl.1 rfl (lv_room (Nat.le_of_ble_eq_true rfl)) dX8_solution_5 ⟨Nat.le_of_ble_eq_true rfl, Nat.le_of_ble_eq_true rfl⟩) I [1] [0] rfl rfl (by decide) (by decide) (fun r1 u1 H locs hw1 I => ?_)
  obtain ⟨hu1, hp1⟩ := hw1
  subst hu1
  have I : z_I A dC dI [(h0, .inr (8, [.ref xq1, .ref xq2])), (xq2, .inr (5, [.ref xq9, .ref xq10, .ref xq11, .ref xq12, .ref xq13, .ref xq14, .ref xq15, .ref xq16, .ref xq17, .ref xq18, .ref xq19, .int 0, .int 0]))] [] s H _ := I
  obtain rfl : r1 = 0 := hp1
  refine lv_if_ne (tgt := 21) hx hb dX8_solution_8 (by decide) (fun c9 => absurd c9 (by decide)) (fun _ => ?_)
  exact z_throwS hx hb hst hml hl.1 hlocks htab hg hown I rfl mw642 mw19 (List.mem_of_getElem? (i := 2) rfl) h1_IndexOutOfBoundsException_104 h2_IndexOutOfBoundsException_104 h3_IndexOutOfBoundsException_104 h4_IndexOutOfBoundsException_104 (List.mem_of_getElem? (i := 7) rfl) dX8_solution_11 dX8_solution_14 dX8_solution_15 dX8_solution_17 dX8_solution_20 (Nat.le_of_ble_eq_true rfl) (Nat.le_of_ble_eq_true rfl) (Nat.le_of_ble_eq_true rfl) (Nat.le_of_ble_eq_true rfl) (Nat.le_of_ble_eq_true rfl) (Nat.le_of_ble_eq_true rfl)
set_option maxHeartbeats 4000000 in
set_option maxRecDepth 100000 in
theorem z_RX8_cutByRounding (l : Launch) (hst : l.stackTraces = false) (dC : Nat → ClassId) (dI : Nat → Nat → Nat) (xq1 : Nat) (xq2 : Nat) (xq3 : Nat) (xq4 : Nat) (xq5 : Nat) (xq6 : Nat) (xq7 : Nat) (xq8 : Nat) (h0 : Nat) (p0 : Int32) (p1 : Int32) (p2 : Int32) (sz : Nat) : vx_Met l yX8_cutByRounding (z_w yX8_cutByRounding cX8_cutByRounding 4 (some .int)) ({ frames := 10, cells := 1, slots := 6, locals := 200 }) (z_P dC dI [(h0, .inr (8, [.ref xq1, .ref xq2])), (xq1, .inr (7, [.ref xq2, .ref xq3, .ref xq4, .ref xq5, .ref xq6, .ref xq7, .ref xq8, .int 0, .int 0, .int 0, .int 0, .int 0]))] [] sz [.ref h0, .int p0, .int p1, .int p2]) (va_Qi (fun (r : Int32) (u : va_W × List (ClassId × FieldType)) => u = ([], []) ∧ False) (z_B dC dI (va_A [(h0, .inr (8, [.ref xq1, .ref xq2])), (xq1, .inr (7, [.ref xq2, .ref xq3, .ref xq4, .ref xq5, .ref xq6, .ref xq7, .ref xq8, .int 0, .int 0, .int 0, .int 0, .int 0]))] sz)) (va_A [(h0, .inr (8, [.ref xq1, .ref xq2])), (xq1, .inr (7, [.ref xq2, .ref xq3, .ref xq4, .ref xq5, .ref xq6, .ref xq7, .ref xq8, .int 0, .int 0, .int 0, .int 0, .int 0]))] sz)) (z_XC (fun E : String => E = "java/lang/IndexOutOfBoundsException") (va_A [(h0, .inr (8, [.ref xq1, .ref xq2])), (xq1, .inr (7, [.ref xq2, .ref xq3, .ref xq4, .ref xq5, .ref xq6, .ref xq7, .ref xq8, .int 0, .int 0, .int 0, .int 0, .int 0]))] sz)) 1 6 (va_A [(h0, .inr (8, [.ref xq1, .ref xq2])), (xq1, .inr (7, [.ref xq2, .ref xq3, .ref xq4, .ref xq5, .ref xq6, .ref xq7, .ref xq8, .int 0, .int 0, .int 0, .int 0, .int 0]))] sz) := by
  refine vx_ofW (cc := cX8_cutByRounding) (maxL := 4) (ret := (some .int)) (by decide) rfl ?_
  intro p e s m args below meth c s₁ B hml htab hv
  obtain ⟨rfl, rfl, I⟩ := z_open hv
  have hx := B.exec
  have hb := B.bytes
  have hr := B.returns
  have hts := atoms_spec (ws := z_w yX8_cutByRounding cX8_cutByRounding 4 (some .int)) B.pre
  have hg : z_G _ s := z_G.of hts
  have hown : s.vm.findClass RX8 = some m.cls := findClass_of_methodNamed B.named
  have hlocks := B.notSynchronized
  generalize va_A [(h0, .inr (8, [.ref xq1, .ref xq2])), (xq1, .inr (7, [.ref xq2, .ref xq3, .ref xq4, .ref xq5, .ref xq6, .ref xq7, .ref xq8, .int 0, .int 0, .int 0, .int 0, .int 0]))] s.heap.size = A at I ⊢
  have hl := lv_entry ([.ref h0, .int p0, .int p1, .int p2]) (n := 4) (Nat.le_of_ble_eq_true rfl)
  rw [lg_entry_eq]
  generalize (lg_sl ([.ref h0, .int p0, .int p1, .int p2]) ++ List.replicate (4 - (lg_sl ([.ref h0, .int p0, .int p1, .int p2])).length) Slot.unset).toArray = ls at hl ⊢
  have hl : lv_has ls 4 [(0, .ref h0), (1, .int p0), (2, .int p1), (3, .int p2)] := hl
  refine lv_aload_n hx hb dX8_cutByRounding_0 rfl (lv_at hl 0 rfl) ?_
  refine z_get (C := RX8) (T := TX8) (N := 2) (ci := 8) (v := .ref xq1) hx hb hg hown I iw_8 0 rfl rfl 0 (by decide) mw357 rfl dX8_cutByRounding_1 ?_
  refine lv_iload_n hx hb dX8_cutByRounding_4 rfl (lv_at hl 1 rfl) ?_
  refine z_calli (wr := [(h0, .inr (8, [.ref xq1, .ref xq2]))]) (va_runV (As := [.int p0]) (rest := []) ⟨hx, hb, hml, hown, hts⟩ (z_RX7_hasNode l dC dI xq1 xq2 xq3 xq4 xq5 xq6 xq7 xq8 p0  s.heap.size) (cwV 1 hts (z_gV z_T.w mw914 mw915 mw916 mw2 mw917) rfl rfl rfl (by decide +kernel) ⟨Nat.le_of_ble_eq_true rfl, Nat.le_of_ble_eq_true rfl⟩) (z_preV I [1] [] rfl rfl rfl rfl (ci := 7) (q0 := 1) rfl rfl) rfl rfl hl.1 rfl (lv_room (Nat.le_of_ble_eq_true rfl)) dX8_cutByRounding_5 ⟨Nat.le_of_ble_eq_true rfl, Nat.le_of_ble_eq_true rfl⟩) I [1] [0] rfl rfl (by decide) (by decide) (fun r1 u1 H locs hw1 I => ?_)
  obtain ⟨hu1, hp1⟩ := hw1
  subst hu1
  have I : z_I A dC dI [(h0, .inr (8, [.ref xq1, .ref xq2])), (xq1, .inr (7, [.ref xq2, .ref xq3, .ref xq4, .ref xq5, .ref xq6, .ref xq7, .ref xq8, .int 0, .int 0, .int 0, .int 0, .int 0]))] [] s H _ := I
  obtain rfl : r1 = 0 := hp1
  refine lv_if_eq (tgt := 22) hx hb dX8_cutByRounding_8 (by decide) (fun _ => ?_) (fun c9 => absurd c9 (by decide))
  exact z_throwS hx hb hst hml hl.1 hlocks htab hg hown I rfl mw642 mw19 (List.mem_of_getElem? (i := 2) rfl) h1_IndexOutOfBoundsException_104 h2_IndexOutOfBoundsException_104 h3_IndexOutOfBoundsException_104 h4_IndexOutOfBoundsException_104 (List.mem_of_getElem? (i := 22) rfl) dX8_cutByRounding_22 dX8_cutByRounding_25 dX8_cutByRounding_26 dX8_cutByRounding_28 dX8_cutByRounding_31 (Nat.le_of_ble_eq_true rfl) (Nat.le_of_ble_eq_true rfl) (Nat.le_of_ble_eq_true rfl) (Nat.le_of_ble_eq_true rfl) (Nat.le_of_ble_eq_true rfl) (Nat.le_of_ble_eq_true rfl)
set_option maxHeartbeats 4000000 in
set_option maxRecDepth 100000 in
theorem z_RX8_cutByCover (l : Launch) (hst : l.stackTraces = false) (dC : Nat → ClassId) (dI : Nat → Nat → Nat) (xq1 : Nat) (xq2 : Nat) (xq9 : Nat) (xq10 : Nat) (xq11 : Nat) (xq12 : Nat) (xq13 : Nat) (xq14 : Nat) (xq15 : Nat) (xq16 : Nat) (xq17 : Nat) (xq18 : Nat) (xq19 : Nat) (h0 : Nat) (p0 : Int32) (sz : Nat) : vx_Met l yX8_cutByCover (z_w yX8_cutByCover cX8_cutByCover 3 (some .int)) ({ frames := 10, cells := 1, slots := 6, locals := 200 }) (z_P dC dI [(h0, .inr (8, [.ref xq1, .ref xq2])), (xq2, .inr (5, [.ref xq9, .ref xq10, .ref xq11, .ref xq12, .ref xq13, .ref xq14, .ref xq15, .ref xq16, .ref xq17, .ref xq18, .ref xq19, .int 0, .int 0]))] [] sz [.ref h0, .int p0]) (va_Qi (fun (r : Int32) (u : va_W × List (ClassId × FieldType)) => u = ([], []) ∧ False) (z_B dC dI (va_A [(h0, .inr (8, [.ref xq1, .ref xq2])), (xq2, .inr (5, [.ref xq9, .ref xq10, .ref xq11, .ref xq12, .ref xq13, .ref xq14, .ref xq15, .ref xq16, .ref xq17, .ref xq18, .ref xq19, .int 0, .int 0]))] sz)) (va_A [(h0, .inr (8, [.ref xq1, .ref xq2])), (xq2, .inr (5, [.ref xq9, .ref xq10, .ref xq11, .ref xq12, .ref xq13, .ref xq14, .ref xq15, .ref xq16, .ref xq17, .ref xq18, .ref xq19, .int 0, .int 0]))] sz)) (z_XC (fun E : String => E = "java/lang/IndexOutOfBoundsException") (va_A [(h0, .inr (8, [.ref xq1, .ref xq2])), (xq2, .inr (5, [.ref xq9, .ref xq10, .ref xq11, .ref xq12, .ref xq13, .ref xq14, .ref xq15, .ref xq16, .ref xq17, .ref xq18, .ref xq19, .int 0, .int 0]))] sz)) 1 6 (va_A [(h0, .inr (8, [.ref xq1, .ref xq2])), (xq2, .inr (5, [.ref xq9, .ref xq10, .ref xq11, .ref xq12, .ref xq13, .ref xq14, .ref xq15, .ref xq16, .ref xq17, .ref xq18, .ref xq19, .int 0, .int 0]))] sz) := by
  refine vx_ofW (cc := cX8_cutByCover) (maxL := 3) (ret := (some .int)) (by decide) rfl ?_
  intro p e s m args below meth c s₁ B hml htab hv
  obtain ⟨rfl, rfl, I⟩ := z_open hv
  have hx := B.exec
  have hb := B.bytes
  have hr := B.returns
  have hts := atoms_spec (ws := z_w yX8_cutByCover cX8_cutByCover 3 (some .int)) B.pre
  have hg : z_G _ s := z_G.of hts
  have hown : s.vm.findClass RX8 = some m.cls := findClass_of_methodNamed B.named
  have hlocks := B.notSynchronized
  generalize va_A [(h0, .inr (8, [.ref xq1, .ref xq2])), (xq2, .inr (5, [.ref xq9, .ref xq10, .ref xq11, .ref xq12, .ref xq13, .ref xq14, .ref xq15, .ref xq16, .ref xq17, .ref xq18, .ref xq19, .int 0, .int 0]))] s.heap.size = A at I ⊢
  have hl := lv_entry ([.ref h0, .int p0]) (n := 3) (Nat.le_of_ble_eq_true rfl)
  rw [lg_entry_eq]
  generalize (lg_sl ([.ref h0, .int p0]) ++ List.replicate (3 - (lg_sl ([.ref h0, .int p0])).length) Slot.unset).toArray = ls at hl ⊢
  have hl : lv_has ls 3 [(0, .ref h0), (1, .int p0)] := hl
  refine lv_aload_n hx hb dX8_cutByCover_0 rfl (lv_at hl 0 rfl) ?_
  refine z_get (C := RX8) (T := TX8) (N := 2) (ci := 8) (v := .ref xq2) hx hb hg hown I iw_8 0 rfl rfl 1 (by decide) mw358 rfl dX8_cutByCover_1 ?_
  refine lv_iload_n hx hb dX8_cutByCover_4 rfl (lv_at hl 1 rfl) ?_
  refine z_calli (wr := [(h0, .inr (8, [.ref xq1, .ref xq2]))]) (va_runV (As := [.int p0]) (rest := []) ⟨hx, hb, hml, hown, hts⟩ (z_RX5_hasRow l dC dI xq2 xq9 xq10 xq11 xq12 xq13 xq14 xq15 xq16 xq17 xq18 xq19 p0  s.heap.size) (cwV 1 hts (z_gV z_T.w mw1075 mw1076 mw1077 mw3 mw1078) rfl rfl rfl (by decide +kernel) ⟨Nat.le_of_ble_eq_true rfl, Nat.le_of_ble_eq_true rfl⟩) (z_preV I [1] [] rfl rfl rfl rfl (ci := 5) (q0 := 1) rfl rfl) rfl rfl hl.1 rfl (lv_room (Nat.le_of_ble_eq_true rfl)) dX8_cutByCover_5 ⟨Nat.le_of_ble_eq_true rfl, Nat.le_of_ble_eq_true rfl⟩) I [1] [0] rfl rfl (by decide) (by decide) (fun r1 u1 H locs hw1 I => ?_)
  obtain ⟨hu1, hp1⟩ := hw1
  subst hu1
  have I : z_I A dC dI [(h0, .inr (8, [.ref xq1, .ref xq2])), (xq2, .inr (5, [.ref xq9, .ref xq10, .ref xq11, .ref xq12, .ref xq13, .ref xq14, .ref xq15, .ref xq16, .ref xq17, .ref xq18, .ref xq19, .int 0, .int 0]))] [] s H _ := I
  obtain rfl : r1 = 0 := hp1
  refine lv_if_ne (tgt := 22) hx hb dX8_cutByCover_8 (by decide) (fun c9 => absurd c9 (by decide)) (fun _ => ?_)
  exact z_throwSW hx hb hst hml hl.1 hlocks htab hg hown I rfl mw642 mw19 (List.mem_of_getElem? (i := 2) rfl) h1_IndexOutOfBoundsException_104 h2_IndexOutOfBoundsException_104 h3_IndexOutOfBoundsException_104 h4_IndexOutOfBoundsException_104 (List.mem_of_getElem? (i := 26) rfl) dX8_cutByCover_11 dX8_cutByCover_14 dX8_cutByCover_15 dX8_cutByCover_18 dX8_cutByCover_21 (Nat.le_of_ble_eq_true rfl) (Nat.le_of_ble_eq_true rfl) (Nat.le_of_ble_eq_true rfl) (Nat.le_of_ble_eq_true rfl) (Nat.le_of_ble_eq_true rfl) (Nat.le_of_ble_eq_true rfl)
set_option maxHeartbeats 4000000 in
set_option maxRecDepth 100000 in
theorem z_RX8_cutByLikeness (l : Launch) (hst : l.stackTraces = false) (dC : Nat → ClassId) (dI : Nat → Nat → Nat) (xq1 : Nat) (xq2 : Nat) (xq9 : Nat) (xq10 : Nat) (xq11 : Nat) (xq12 : Nat) (xq13 : Nat) (xq14 : Nat) (xq15 : Nat) (xq16 : Nat) (xq17 : Nat) (xq18 : Nat) (xq19 : Nat) (h0 : Nat) (p0 : Int32) (p1 : Int32) (sz : Nat) : vx_Met l yX8_cutByLikeness (z_w yX8_cutByLikeness cX8_cutByLikeness 3 (some .int)) ({ frames := 10, cells := 1, slots := 6, locals := 200 }) (z_P dC dI [(h0, .inr (8, [.ref xq1, .ref xq2])), (xq2, .inr (5, [.ref xq9, .ref xq10, .ref xq11, .ref xq12, .ref xq13, .ref xq14, .ref xq15, .ref xq16, .ref xq17, .ref xq18, .ref xq19, .int 0, .int 0]))] [] sz [.ref h0, .int p0, .int p1]) (va_Qi (fun (r : Int32) (u : va_W × List (ClassId × FieldType)) => u = ([], []) ∧ False) (z_B dC dI (va_A [(h0, .inr (8, [.ref xq1, .ref xq2])), (xq2, .inr (5, [.ref xq9, .ref xq10, .ref xq11, .ref xq12, .ref xq13, .ref xq14, .ref xq15, .ref xq16, .ref xq17, .ref xq18, .ref xq19, .int 0, .int 0]))] sz)) (va_A [(h0, .inr (8, [.ref xq1, .ref xq2])), (xq2, .inr (5, [.ref xq9, .ref xq10, .ref xq11, .ref xq12, .ref xq13, .ref xq14, .ref xq15, .ref xq16, .ref xq17, .ref xq18, .ref xq19, .int 0, .int 0]))] sz)) (z_XC (fun E : String => E = "java/lang/IndexOutOfBoundsException") (va_A [(h0, .inr (8, [.ref xq1, .ref xq2])), (xq2, .inr (5, [.ref xq9, .ref xq10, .ref xq11, .ref xq12, .ref xq13, .ref xq14, .ref xq15, .ref xq16, .ref xq17, .ref xq18, .ref xq19, .int 0, .int 0]))] sz)) 1 6 (va_A [(h0, .inr (8, [.ref xq1, .ref xq2])), (xq2, .inr (5, [.ref xq9, .ref xq10, .ref xq11, .ref xq12, .ref xq13, .ref xq14, .ref xq15, .ref xq16, .ref xq17, .ref xq18, .ref xq19, .int 0, .int 0]))] sz) := by
  refine vx_ofW (cc := cX8_cutByLikeness) (maxL := 3) (ret := (some .int)) (by decide) rfl ?_
  intro p e s m args below meth c s₁ B hml htab hv
  obtain ⟨rfl, rfl, I⟩ := z_open hv
  have hx := B.exec
  have hb := B.bytes
  have hr := B.returns
  have hts := atoms_spec (ws := z_w yX8_cutByLikeness cX8_cutByLikeness 3 (some .int)) B.pre
  have hg : z_G _ s := z_G.of hts
  have hown : s.vm.findClass RX8 = some m.cls := findClass_of_methodNamed B.named
  have hlocks := B.notSynchronized
  generalize va_A [(h0, .inr (8, [.ref xq1, .ref xq2])), (xq2, .inr (5, [.ref xq9, .ref xq10, .ref xq11, .ref xq12, .ref xq13, .ref xq14, .ref xq15, .ref xq16, .ref xq17, .ref xq18, .ref xq19, .int 0, .int 0]))] s.heap.size = A at I ⊢
  have hl := lv_entry ([.ref h0, .int p0, .int p1]) (n := 3) (Nat.le_of_ble_eq_true rfl)
  rw [lg_entry_eq]
  generalize (lg_sl ([.ref h0, .int p0, .int p1]) ++ List.replicate (3 - (lg_sl ([.ref h0, .int p0, .int p1])).length) Slot.unset).toArray = ls at hl ⊢
  have hl : lv_has ls 3 [(0, .ref h0), (1, .int p0), (2, .int p1)] := hl
  refine lv_aload_n hx hb dX8_cutByLikeness_0 rfl (lv_at hl 0 rfl) ?_
  refine z_get (C := RX8) (T := TX8) (N := 2) (ci := 8) (v := .ref xq2) hx hb hg hown I iw_8 0 rfl rfl 1 (by decide) mw358 rfl dX8_cutByLikeness_1 ?_
  refine lv_iload_n hx hb dX8_cutByLikeness_4 rfl (lv_at hl 1 rfl) ?_
  refine z_calli (wr := [(h0, .inr (8, [.ref xq1, .ref xq2]))]) (va_runV (As := [.int p0]) (rest := []) ⟨hx, hb, hml, hown, hts⟩ (z_RX5_hasColumn l dC dI xq2 xq9 xq10 xq11 xq12 xq13 xq14 xq15 xq16 xq17 xq18 xq19 p0  s.heap.size) (cwV 1 hts (z_gV z_T.w mw638 mw639 mw640 mw3 mw641) rfl rfl rfl (by decide +kernel) ⟨Nat.le_of_ble_eq_true rfl, Nat.le_of_ble_eq_true rfl⟩) (z_preV I [1] [] rfl rfl rfl rfl (ci := 5) (q0 := 1) rfl rfl) rfl rfl hl.1 rfl (lv_room (Nat.le_of_ble_eq_true rfl)) dX8_cutByLikeness_5 ⟨Nat.le_of_ble_eq_true rfl, Nat.le_of_ble_eq_true rfl⟩) I [1] [0] rfl rfl (by decide) (by decide) (fun r1 u1 H locs hw1 I => ?_)
  obtain ⟨hu1, hp1⟩ := hw1
  subst hu1
  have I : z_I A dC dI [(h0, .inr (8, [.ref xq1, .ref xq2])), (xq2, .inr (5, [.ref xq9, .ref xq10, .ref xq11, .ref xq12, .ref xq13, .ref xq14, .ref xq15, .ref xq16, .ref xq17, .ref xq18, .ref xq19, .int 0, .int 0]))] [] s H _ := I
  obtain rfl : r1 = 0 := hp1
  refine lv_if_eq (tgt := 22) hx hb dX8_cutByLikeness_8 (by decide) (fun _ => ?_) (fun c9 => absurd c9 (by decide))
  exact z_throwS hx hb hst hml hl.1 hlocks htab hg hown I rfl mw642 mw19 (List.mem_of_getElem? (i := 2) rfl) h1_IndexOutOfBoundsException_104 h2_IndexOutOfBoundsException_104 h3_IndexOutOfBoundsException_104 h4_IndexOutOfBoundsException_104 (List.mem_of_getElem? (i := 7) rfl) dX8_cutByLikeness_22 dX8_cutByLikeness_25 dX8_cutByLikeness_26 dX8_cutByLikeness_28 dX8_cutByLikeness_31 (Nat.le_of_ble_eq_true rfl) (Nat.le_of_ble_eq_true rfl) (Nat.le_of_ble_eq_true rfl) (Nat.le_of_ble_eq_true rfl) (Nat.le_of_ble_eq_true rfl) (Nat.le_of_ble_eq_true rfl)
set_option maxHeartbeats 4000000 in
set_option maxRecDepth 100000 in
theorem z_RX8_kind (l : Launch) (hst : l.stackTraces = false) (dC : Nat → ClassId) (dI : Nat → Nat → Nat) (xq1 : Nat) (xq2 : Nat) (xq3 : Nat) (xq4 : Nat) (xq5 : Nat) (xq6 : Nat) (xq7 : Nat) (xq8 : Nat) (h0 : Nat) (p0 : Int32) (sz : Nat) : vx_Met l yX8_kind (z_w yX8_kind cX8_kind 2 (some .char)) ({ frames := 10, cells := 1, slots := 6, locals := 200 }) (z_P dC dI [(h0, .inr (8, [.ref xq1, .ref xq2])), (xq1, .inr (7, [.ref xq2, .ref xq3, .ref xq4, .ref xq5, .ref xq6, .ref xq7, .ref xq8, .int 0, .int 0, .int 0, .int 0, .int 0]))] [] sz [.ref h0, .int p0]) (va_Qi (fun (r : Int32) (u : va_W × List (ClassId × FieldType)) => u = ([], []) ∧ False) (z_B dC dI (va_A [(h0, .inr (8, [.ref xq1, .ref xq2])), (xq1, .inr (7, [.ref xq2, .ref xq3, .ref xq4, .ref xq5, .ref xq6, .ref xq7, .ref xq8, .int 0, .int 0, .int 0, .int 0, .int 0]))] sz)) (va_A [(h0, .inr (8, [.ref xq1, .ref xq2])), (xq1, .inr (7, [.ref xq2, .ref xq3, .ref xq4, .ref xq5, .ref xq6, .ref xq7, .ref xq8, .int 0, .int 0, .int 0, .int 0, .int 0]))] sz)) (z_XC (fun E : String => E = "java/lang/IndexOutOfBoundsException") (va_A [(h0, .inr (8, [.ref xq1, .ref xq2])), (xq1, .inr (7, [.ref xq2, .ref xq3, .ref xq4, .ref xq5, .ref xq6, .ref xq7, .ref xq8, .int 0, .int 0, .int 0, .int 0, .int 0]))] sz)) 1 6 (va_A [(h0, .inr (8, [.ref xq1, .ref xq2])), (xq1, .inr (7, [.ref xq2, .ref xq3, .ref xq4, .ref xq5, .ref xq6, .ref xq7, .ref xq8, .int 0, .int 0, .int 0, .int 0, .int 0]))] sz) := by
  refine vx_ofW (cc := cX8_kind) (maxL := 2) (ret := (some .char)) (by decide) rfl ?_
  intro p e s m args below meth c s₁ B hml htab hv
  obtain ⟨rfl, rfl, I⟩ := z_open hv
  have hx := B.exec
  have hb := B.bytes
  have hr := B.returns
  have hts := atoms_spec (ws := z_w yX8_kind cX8_kind 2 (some .char)) B.pre
  have hg : z_G _ s := z_G.of hts
  have hown : s.vm.findClass RX8 = some m.cls := findClass_of_methodNamed B.named
  have hlocks := B.notSynchronized
  generalize va_A [(h0, .inr (8, [.ref xq1, .ref xq2])), (xq1, .inr (7, [.ref xq2, .ref xq3, .ref xq4, .ref xq5, .ref xq6, .ref xq7, .ref xq8, .int 0, .int 0, .int 0, .int 0, .int 0]))] s.heap.size = A at I ⊢
  have hl := lv_entry ([.ref h0, .int p0]) (n := 2) (Nat.le_of_ble_eq_true rfl)
  rw [lg_entry_eq]
  generalize (lg_sl ([.ref h0, .int p0]) ++ List.replicate (2 - (lg_sl ([.ref h0, .int p0])).length) Slot.unset).toArray = ls at hl ⊢
  have hl : lv_has ls 2 [(0, .ref h0), (1, .int p0)] := hl
  refine lv_aload_n hx hb dX8_kind_0 rfl (lv_at hl 0 rfl) ?_
  refine z_get (C := RX8) (T := TX8) (N := 2) (ci := 8) (v := .ref xq1) hx hb hg hown I iw_8 0 rfl rfl 0 (by decide) mw357 rfl dX8_kind_1 ?_
  refine lv_iload_n hx hb dX8_kind_4 rfl (lv_at hl 1 rfl) ?_
  refine z_calli (wr := [(h0, .inr (8, [.ref xq1, .ref xq2]))]) (va_runV (As := [.int p0]) (rest := []) ⟨hx, hb, hml, hown, hts⟩ (z_RX7_hasCut l dC dI xq1 xq2 xq3 xq4 xq5 xq6 xq7 xq8 p0  s.heap.size) (cwV 1 hts (z_gV z_T.w mw1174 mw1175 mw1176 mw2 mw1177) rfl rfl rfl (by decide +kernel) ⟨Nat.le_of_ble_eq_true rfl, Nat.le_of_ble_eq_true rfl⟩) (z_preV I [1] [] rfl rfl rfl rfl (ci := 7) (q0 := 1) rfl rfl) rfl rfl hl.1 rfl (lv_room (Nat.le_of_ble_eq_true rfl)) dX8_kind_5 ⟨Nat.le_of_ble_eq_true rfl, Nat.le_of_ble_eq_true rfl⟩) I [1] [0] rfl rfl (by decide) (by decide) (fun r1 u1 H locs hw1 I => ?_)
  obtain ⟨hu1, hp1⟩ := hw1
  subst hu1
  have I : z_I A dC dI [(h0, .inr (8, [.ref xq1, .ref xq2])), (xq1, .inr (7, [.ref xq2, .ref xq3, .ref xq4, .ref xq5, .ref xq6, .ref xq7, .ref xq8, .int 0, .int 0, .int 0, .int 0, .int 0]))] [] s H _ := I
  obtain rfl : r1 = 0 := hp1
  refine lv_if_ne (tgt := 22) hx hb dX8_kind_8 (by decide) (fun c9 => absurd c9 (by decide)) (fun _ => ?_)
  exact z_throwSW hx hb hst hml hl.1 hlocks htab hg hown I rfl mw642 mw19 (List.mem_of_getElem? (i := 2) rfl) h1_IndexOutOfBoundsException_104 h2_IndexOutOfBoundsException_104 h3_IndexOutOfBoundsException_104 h4_IndexOutOfBoundsException_104 (List.mem_of_getElem? (i := 32) rfl) dX8_kind_11 dX8_kind_14 dX8_kind_15 dX8_kind_18 dX8_kind_21 (Nat.le_of_ble_eq_true rfl) (Nat.le_of_ble_eq_true rfl) (Nat.le_of_ble_eq_true rfl) (Nat.le_of_ble_eq_true rfl) (Nat.le_of_ble_eq_true rfl) (Nat.le_of_ble_eq_true rfl)
set_option maxHeartbeats 4000000 in
set_option maxRecDepth 100000 in
theorem z_RX8_coefficient (l : Launch) (hst : l.stackTraces = false) (dC : Nat → ClassId) (dI : Nat → Nat → Nat) (xq1 : Nat) (xq2 : Nat) (xq3 : Nat) (xq4 : Nat) (xq5 : Nat) (xq6 : Nat) (xq7 : Nat) (xq8 : Nat) (h0 : Nat) (p0 : Int32) (p1 : Int32) (sz : Nat) : vx_Met l yX8_coefficient (z_w yX8_coefficient cX8_coefficient 3 (some .int)) ({ frames := 10, cells := 1, slots := 6, locals := 200 }) (z_P dC dI [(h0, .inr (8, [.ref xq1, .ref xq2])), (xq1, .inr (7, [.ref xq2, .ref xq3, .ref xq4, .ref xq5, .ref xq6, .ref xq7, .ref xq8, .int 0, .int 0, .int 0, .int 0, .int 0]))] [] sz [.ref h0, .int p0, .int p1]) (va_Qi (fun (r : Int32) (u : va_W × List (ClassId × FieldType)) => u = ([], []) ∧ False) (z_B dC dI (va_A [(h0, .inr (8, [.ref xq1, .ref xq2])), (xq1, .inr (7, [.ref xq2, .ref xq3, .ref xq4, .ref xq5, .ref xq6, .ref xq7, .ref xq8, .int 0, .int 0, .int 0, .int 0, .int 0]))] sz)) (va_A [(h0, .inr (8, [.ref xq1, .ref xq2])), (xq1, .inr (7, [.ref xq2, .ref xq3, .ref xq4, .ref xq5, .ref xq6, .ref xq7, .ref xq8, .int 0, .int 0, .int 0, .int 0, .int 0]))] sz)) (z_XC (fun E : String => E = "java/lang/IndexOutOfBoundsException") (va_A [(h0, .inr (8, [.ref xq1, .ref xq2])), (xq1, .inr (7, [.ref xq2, .ref xq3, .ref xq4, .ref xq5, .ref xq6, .ref xq7, .ref xq8, .int 0, .int 0, .int 0, .int 0, .int 0]))] sz)) 1 6 (va_A [(h0, .inr (8, [.ref xq1, .ref xq2])), (xq1, .inr (7, [.ref xq2, .ref xq3, .ref xq4, .ref xq5, .ref xq6, .ref xq7, .ref xq8, .int 0, .int 0, .int 0, .int 0, .int 0]))] sz) := by
  refine vx_ofW (cc := cX8_coefficient) (maxL := 3) (ret := (some .int)) (by decide) rfl ?_
  intro p e s m args below meth c s₁ B hml htab hv
  obtain ⟨rfl, rfl, I⟩ := z_open hv
  have hx := B.exec
  have hb := B.bytes
  have hr := B.returns
  have hts := atoms_spec (ws := z_w yX8_coefficient cX8_coefficient 3 (some .int)) B.pre
  have hg : z_G _ s := z_G.of hts
  have hown : s.vm.findClass RX8 = some m.cls := findClass_of_methodNamed B.named
  have hlocks := B.notSynchronized
  generalize va_A [(h0, .inr (8, [.ref xq1, .ref xq2])), (xq1, .inr (7, [.ref xq2, .ref xq3, .ref xq4, .ref xq5, .ref xq6, .ref xq7, .ref xq8, .int 0, .int 0, .int 0, .int 0, .int 0]))] s.heap.size = A at I ⊢
  have hl := lv_entry ([.ref h0, .int p0, .int p1]) (n := 3) (Nat.le_of_ble_eq_true rfl)
  rw [lg_entry_eq]
  generalize (lg_sl ([.ref h0, .int p0, .int p1]) ++ List.replicate (3 - (lg_sl ([.ref h0, .int p0, .int p1])).length) Slot.unset).toArray = ls at hl ⊢
  have hl : lv_has ls 3 [(0, .ref h0), (1, .int p0), (2, .int p1)] := hl
  refine lv_aload_n hx hb dX8_coefficient_0 rfl (lv_at hl 0 rfl) ?_
  refine z_get (C := RX8) (T := TX8) (N := 2) (ci := 8) (v := .ref xq1) hx hb hg hown I iw_8 0 rfl rfl 0 (by decide) mw357 rfl dX8_coefficient_1 ?_
  refine lv_iload_n hx hb dX8_coefficient_4 rfl (lv_at hl 1 rfl) ?_
  refine z_calli (wr := [(h0, .inr (8, [.ref xq1, .ref xq2]))]) (va_runV (As := [.int p0]) (rest := []) ⟨hx, hb, hml, hown, hts⟩ (z_RX7_hasCut l dC dI xq1 xq2 xq3 xq4 xq5 xq6 xq7 xq8 p0  s.heap.size) (cwV 1 hts (z_gV z_T.w mw1174 mw1175 mw1176 mw2 mw1177) rfl rfl rfl (by decide +kernel) ⟨Nat.le_of_ble_eq_true rfl, Nat.le_of_ble_eq_true rfl⟩) (z_preV I [1] [] rfl rfl rfl rfl (ci := 7) (q0 := 1) rfl rfl) rfl rfl hl.1 rfl (lv_room (Nat.le_of_ble_eq_true rfl)) dX8_coefficient_5 ⟨Nat.le_of_ble_eq_true rfl, Nat.le_of_ble_eq_true rfl⟩) I [1] [0] rfl rfl (by decide) (by decide) (fun r1 u1 H locs hw1 I => ?_)
  obtain ⟨hu1, hp1⟩ := hw1
  subst hu1
  have I : z_I A dC dI [(h0, .inr (8, [.ref xq1, .ref xq2])), (xq1, .inr (7, [.ref xq2, .ref xq3, .ref xq4, .ref xq5, .ref xq6, .ref xq7, .ref xq8, .int 0, .int 0, .int 0, .int 0, .int 0]))] [] s H _ := I
  obtain rfl : r1 = 0 := hp1
  refine lv_if_eq (tgt := 22) hx hb dX8_coefficient_8 (by decide) (fun _ => ?_) (fun c9 => absurd c9 (by decide))
  exact z_throwSW hx hb hst hml hl.1 hlocks htab hg hown I rfl mw642 mw19 (List.mem_of_getElem? (i := 2) rfl) h1_IndexOutOfBoundsException_104 h2_IndexOutOfBoundsException_104 h3_IndexOutOfBoundsException_104 h4_IndexOutOfBoundsException_104 (List.mem_of_getElem? (i := 33) rfl) dX8_coefficient_22 dX8_coefficient_25 dX8_coefficient_26 dX8_coefficient_29 dX8_coefficient_32 (Nat.le_of_ble_eq_true rfl) (Nat.le_of_ble_eq_true rfl) (Nat.le_of_ble_eq_true rfl) (Nat.le_of_ble_eq_true rfl) (Nat.le_of_ble_eq_true rfl) (Nat.le_of_ble_eq_true rfl)
set_option maxHeartbeats 4000000 in
set_option maxRecDepth 100000 in
theorem z_RX8_side (l : Launch) (hst : l.stackTraces = false) (dC : Nat → ClassId) (dI : Nat → Nat → Nat) (xq1 : Nat) (xq2 : Nat) (xq3 : Nat) (xq4 : Nat) (xq5 : Nat) (xq6 : Nat) (xq7 : Nat) (xq8 : Nat) (h0 : Nat) (p0 : Int32) (sz : Nat) : vx_Met l yX8_side (z_w yX8_side cX8_side 2 (some .int)) ({ frames := 10, cells := 1, slots := 6, locals := 200 }) (z_P dC dI [(h0, .inr (8, [.ref xq1, .ref xq2])), (xq1, .inr (7, [.ref xq2, .ref xq3, .ref xq4, .ref xq5, .ref xq6, .ref xq7, .ref xq8, .int 0, .int 0, .int 0, .int 0, .int 0]))] [] sz [.ref h0, .int p0]) (va_Qi (fun (r : Int32) (u : va_W × List (ClassId × FieldType)) => u = ([], []) ∧ False) (z_B dC dI (va_A [(h0, .inr (8, [.ref xq1, .ref xq2])), (xq1, .inr (7, [.ref xq2, .ref xq3, .ref xq4, .ref xq5, .ref xq6, .ref xq7, .ref xq8, .int 0, .int 0, .int 0, .int 0, .int 0]))] sz)) (va_A [(h0, .inr (8, [.ref xq1, .ref xq2])), (xq1, .inr (7, [.ref xq2, .ref xq3, .ref xq4, .ref xq5, .ref xq6, .ref xq7, .ref xq8, .int 0, .int 0, .int 0, .int 0, .int 0]))] sz)) (z_XC (fun E : String => E = "java/lang/IndexOutOfBoundsException") (va_A [(h0, .inr (8, [.ref xq1, .ref xq2])), (xq1, .inr (7, [.ref xq2, .ref xq3, .ref xq4, .ref xq5, .ref xq6, .ref xq7, .ref xq8, .int 0, .int 0, .int 0, .int 0, .int 0]))] sz)) 1 6 (va_A [(h0, .inr (8, [.ref xq1, .ref xq2])), (xq1, .inr (7, [.ref xq2, .ref xq3, .ref xq4, .ref xq5, .ref xq6, .ref xq7, .ref xq8, .int 0, .int 0, .int 0, .int 0, .int 0]))] sz) := by
  refine vx_ofW (cc := cX8_side) (maxL := 2) (ret := (some .int)) (by decide) rfl ?_
  intro p e s m args below meth c s₁ B hml htab hv
  obtain ⟨rfl, rfl, I⟩ := z_open hv
  have hx := B.exec
  have hb := B.bytes
  have hr := B.returns
  have hts := atoms_spec (ws := z_w yX8_side cX8_side 2 (some .int)) B.pre
  have hg : z_G _ s := z_G.of hts
  have hown : s.vm.findClass RX8 = some m.cls := findClass_of_methodNamed B.named
  have hlocks := B.notSynchronized
  generalize va_A [(h0, .inr (8, [.ref xq1, .ref xq2])), (xq1, .inr (7, [.ref xq2, .ref xq3, .ref xq4, .ref xq5, .ref xq6, .ref xq7, .ref xq8, .int 0, .int 0, .int 0, .int 0, .int 0]))] s.heap.size = A at I ⊢
  have hl := lv_entry ([.ref h0, .int p0]) (n := 2) (Nat.le_of_ble_eq_true rfl)
  rw [lg_entry_eq]
  generalize (lg_sl ([.ref h0, .int p0]) ++ List.replicate (2 - (lg_sl ([.ref h0, .int p0])).length) Slot.unset).toArray = ls at hl ⊢
  have hl : lv_has ls 2 [(0, .ref h0), (1, .int p0)] := hl
  refine lv_aload_n hx hb dX8_side_0 rfl (lv_at hl 0 rfl) ?_
  refine z_get (C := RX8) (T := TX8) (N := 2) (ci := 8) (v := .ref xq1) hx hb hg hown I iw_8 0 rfl rfl 0 (by decide) mw357 rfl dX8_side_1 ?_
  refine lv_iload_n hx hb dX8_side_4 rfl (lv_at hl 1 rfl) ?_
  refine z_calli (wr := [(h0, .inr (8, [.ref xq1, .ref xq2]))]) (va_runV (As := [.int p0]) (rest := []) ⟨hx, hb, hml, hown, hts⟩ (z_RX7_hasCut l dC dI xq1 xq2 xq3 xq4 xq5 xq6 xq7 xq8 p0  s.heap.size) (cwV 1 hts (z_gV z_T.w mw1174 mw1175 mw1176 mw2 mw1177) rfl rfl rfl (by decide +kernel) ⟨Nat.le_of_ble_eq_true rfl, Nat.le_of_ble_eq_true rfl⟩) (z_preV I [1] [] rfl rfl rfl rfl (ci := 7) (q0 := 1) rfl rfl) rfl rfl hl.1 rfl (lv_room (Nat.le_of_ble_eq_true rfl)) dX8_side_5 ⟨Nat.le_of_ble_eq_true rfl, Nat.le_of_ble_eq_true rfl⟩) I [1] [0] rfl rfl (by decide) (by decide) (fun r1 u1 H locs hw1 I => ?_)
  obtain ⟨hu1, hp1⟩ := hw1
  subst hu1
  have I : z_I A dC dI [(h0, .inr (8, [.ref xq1, .ref xq2])), (xq1, .inr (7, [.ref xq2, .ref xq3, .ref xq4, .ref xq5, .ref xq6, .ref xq7, .ref xq8, .int 0, .int 0, .int 0, .int 0, .int 0]))] [] s H _ := I
  obtain rfl : r1 = 0 := hp1
  refine lv_if_ne (tgt := 22) hx hb dX8_side_8 (by decide) (fun c9 => absurd c9 (by decide)) (fun _ => ?_)
  exact z_throwSW hx hb hst hml hl.1 hlocks htab hg hown I rfl mw642 mw19 (List.mem_of_getElem? (i := 2) rfl) h1_IndexOutOfBoundsException_104 h2_IndexOutOfBoundsException_104 h3_IndexOutOfBoundsException_104 h4_IndexOutOfBoundsException_104 (List.mem_of_getElem? (i := 32) rfl) dX8_side_11 dX8_side_14 dX8_side_15 dX8_side_18 dX8_side_21 (Nat.le_of_ble_eq_true rfl) (Nat.le_of_ble_eq_true rfl) (Nat.le_of_ble_eq_true rfl) (Nat.le_of_ble_eq_true rfl) (Nat.le_of_ble_eq_true rfl) (Nat.le_of_ble_eq_true rfl)
set_option maxHeartbeats 4000000 in
set_option maxRecDepth 100000 in
theorem z_RX8_age (l : Launch) (hst : l.stackTraces = false) (dC : Nat → ClassId) (dI : Nat → Nat → Nat) (xq1 : Nat) (xq2 : Nat) (xq3 : Nat) (xq4 : Nat) (xq5 : Nat) (xq6 : Nat) (xq7 : Nat) (xq8 : Nat) (h0 : Nat) (p0 : Int32) (sz : Nat) : vx_Met l yX8_age (z_w yX8_age cX8_age 2 (some .int)) ({ frames := 10, cells := 1, slots := 6, locals := 200 }) (z_P dC dI [(h0, .inr (8, [.ref xq1, .ref xq2])), (xq1, .inr (7, [.ref xq2, .ref xq3, .ref xq4, .ref xq5, .ref xq6, .ref xq7, .ref xq8, .int 0, .int 0, .int 0, .int 0, .int 0]))] [] sz [.ref h0, .int p0]) (va_Qi (fun (r : Int32) (u : va_W × List (ClassId × FieldType)) => u = ([], []) ∧ False) (z_B dC dI (va_A [(h0, .inr (8, [.ref xq1, .ref xq2])), (xq1, .inr (7, [.ref xq2, .ref xq3, .ref xq4, .ref xq5, .ref xq6, .ref xq7, .ref xq8, .int 0, .int 0, .int 0, .int 0, .int 0]))] sz)) (va_A [(h0, .inr (8, [.ref xq1, .ref xq2])), (xq1, .inr (7, [.ref xq2, .ref xq3, .ref xq4, .ref xq5, .ref xq6, .ref xq7, .ref xq8, .int 0, .int 0, .int 0, .int 0, .int 0]))] sz)) (z_XC (fun E : String => E = "java/lang/IndexOutOfBoundsException") (va_A [(h0, .inr (8, [.ref xq1, .ref xq2])), (xq1, .inr (7, [.ref xq2, .ref xq3, .ref xq4, .ref xq5, .ref xq6, .ref xq7, .ref xq8, .int 0, .int 0, .int 0, .int 0, .int 0]))] sz)) 1 6 (va_A [(h0, .inr (8, [.ref xq1, .ref xq2])), (xq1, .inr (7, [.ref xq2, .ref xq3, .ref xq4, .ref xq5, .ref xq6, .ref xq7, .ref xq8, .int 0, .int 0, .int 0, .int 0, .int 0]))] sz) := by
  refine vx_ofW (cc := cX8_age) (maxL := 2) (ret := (some .int)) (by decide) rfl ?_
  intro p e s m args below meth c s₁ B hml htab hv
  obtain ⟨rfl, rfl, I⟩ := z_open hv
  have hx := B.exec
  have hb := B.bytes
  have hr := B.returns
  have hts := atoms_spec (ws := z_w yX8_age cX8_age 2 (some .int)) B.pre
  have hg : z_G _ s := z_G.of hts
  have hown : s.vm.findClass RX8 = some m.cls := findClass_of_methodNamed B.named
  have hlocks := B.notSynchronized
  generalize va_A [(h0, .inr (8, [.ref xq1, .ref xq2])), (xq1, .inr (7, [.ref xq2, .ref xq3, .ref xq4, .ref xq5, .ref xq6, .ref xq7, .ref xq8, .int 0, .int 0, .int 0, .int 0, .int 0]))] s.heap.size = A at I ⊢
  have hl := lv_entry ([.ref h0, .int p0]) (n := 2) (Nat.le_of_ble_eq_true rfl)
  rw [lg_entry_eq]
  generalize (lg_sl ([.ref h0, .int p0]) ++ List.replicate (2 - (lg_sl ([.ref h0, .int p0])).length) Slot.unset).toArray = ls at hl ⊢
  have hl : lv_has ls 2 [(0, .ref h0), (1, .int p0)] := hl
  refine lv_aload_n hx hb dX8_age_0 rfl (lv_at hl 0 rfl) ?_
  refine z_get (C := RX8) (T := TX8) (N := 2) (ci := 8) (v := .ref xq1) hx hb hg hown I iw_8 0 rfl rfl 0 (by decide) mw357 rfl dX8_age_1 ?_
  refine lv_iload_n hx hb dX8_age_4 rfl (lv_at hl 1 rfl) ?_
  refine z_calli (wr := [(h0, .inr (8, [.ref xq1, .ref xq2]))]) (va_runV (As := [.int p0]) (rest := []) ⟨hx, hb, hml, hown, hts⟩ (z_RX7_hasCut l dC dI xq1 xq2 xq3 xq4 xq5 xq6 xq7 xq8 p0  s.heap.size) (cwV 1 hts (z_gV z_T.w mw1174 mw1175 mw1176 mw2 mw1177) rfl rfl rfl (by decide +kernel) ⟨Nat.le_of_ble_eq_true rfl, Nat.le_of_ble_eq_true rfl⟩) (z_preV I [1] [] rfl rfl rfl rfl (ci := 7) (q0 := 1) rfl rfl) rfl rfl hl.1 rfl (lv_room (Nat.le_of_ble_eq_true rfl)) dX8_age_5 ⟨Nat.le_of_ble_eq_true rfl, Nat.le_of_ble_eq_true rfl⟩) I [1] [0] rfl rfl (by decide) (by decide) (fun r1 u1 H locs hw1 I => ?_)
  obtain ⟨hu1, hp1⟩ := hw1
  subst hu1
  have I : z_I A dC dI [(h0, .inr (8, [.ref xq1, .ref xq2])), (xq1, .inr (7, [.ref xq2, .ref xq3, .ref xq4, .ref xq5, .ref xq6, .ref xq7, .ref xq8, .int 0, .int 0, .int 0, .int 0, .int 0]))] [] s H _ := I
  obtain rfl : r1 = 0 := hp1
  refine lv_if_ne (tgt := 22) hx hb dX8_age_8 (by decide) (fun c9 => absurd c9 (by decide)) (fun _ => ?_)
  exact z_throwSW hx hb hst hml hl.1 hlocks htab hg hown I rfl mw642 mw19 (List.mem_of_getElem? (i := 2) rfl) h1_IndexOutOfBoundsException_104 h2_IndexOutOfBoundsException_104 h3_IndexOutOfBoundsException_104 h4_IndexOutOfBoundsException_104 (List.mem_of_getElem? (i := 32) rfl) dX8_age_11 dX8_age_14 dX8_age_15 dX8_age_18 dX8_age_21 (Nat.le_of_ble_eq_true rfl) (Nat.le_of_ble_eq_true rfl) (Nat.le_of_ble_eq_true rfl) (Nat.le_of_ble_eq_true rfl) (Nat.le_of_ble_eq_true rfl) (Nat.le_of_ble_eq_true rfl)
set_option maxHeartbeats 4000000 in
set_option maxRecDepth 100000 in
theorem z_RX8_gain (l : Launch) (hst : l.stackTraces = false) (dC : Nat → ClassId) (dI : Nat → Nat → Nat) (xq1 : Nat) (xq2 : Nat) (xq9 : Nat) (xq10 : Nat) (xq11 : Nat) (xq12 : Nat) (xq13 : Nat) (xq14 : Nat) (xq15 : Nat) (xq16 : Nat) (xq17 : Nat) (xq18 : Nat) (xq19 : Nat) (h0 : Nat) (p0 : Int32) (p1 : Int32) (sz : Nat) : vx_Met l yX8_gain (z_w yX8_gain cX8_gain 3 (some .int)) ({ frames := 10, cells := 1, slots := 6, locals := 200 }) (z_P dC dI [(h0, .inr (8, [.ref xq1, .ref xq2])), (xq2, .inr (5, [.ref xq9, .ref xq10, .ref xq11, .ref xq12, .ref xq13, .ref xq14, .ref xq15, .ref xq16, .ref xq17, .ref xq18, .ref xq19, .int 0, .int 0]))] [] sz [.ref h0, .int p0, .int p1]) (va_Qi (fun (r : Int32) (u : va_W × List (ClassId × FieldType)) => u = ([], []) ∧ False) (z_B dC dI (va_A [(h0, .inr (8, [.ref xq1, .ref xq2])), (xq2, .inr (5, [.ref xq9, .ref xq10, .ref xq11, .ref xq12, .ref xq13, .ref xq14, .ref xq15, .ref xq16, .ref xq17, .ref xq18, .ref xq19, .int 0, .int 0]))] sz)) (va_A [(h0, .inr (8, [.ref xq1, .ref xq2])), (xq2, .inr (5, [.ref xq9, .ref xq10, .ref xq11, .ref xq12, .ref xq13, .ref xq14, .ref xq15, .ref xq16, .ref xq17, .ref xq18, .ref xq19, .int 0, .int 0]))] sz)) (z_XC (fun E : String => E = "java/lang/IndexOutOfBoundsException") (va_A [(h0, .inr (8, [.ref xq1, .ref xq2])), (xq2, .inr (5, [.ref xq9, .ref xq10, .ref xq11, .ref xq12, .ref xq13, .ref xq14, .ref xq15, .ref xq16, .ref xq17, .ref xq18, .ref xq19, .int 0, .int 0]))] sz)) 1 6 (va_A [(h0, .inr (8, [.ref xq1, .ref xq2])), (xq2, .inr (5, [.ref xq9, .ref xq10, .ref xq11, .ref xq12, .ref xq13, .ref xq14, .ref xq15, .ref xq16, .ref xq17, .ref xq18, .ref xq19, .int 0, .int 0]))] sz) := by
  refine vx_ofW (cc := cX8_gain) (maxL := 3) (ret := (some .int)) (by decide) rfl ?_
  intro p e s m args below meth c s₁ B hml htab hv
  obtain ⟨rfl, rfl, I⟩ := z_open hv
  have hx := B.exec
  have hb := B.bytes
  have hr := B.returns
  have hts := atoms_spec (ws := z_w yX8_gain cX8_gain 3 (some .int)) B.pre
  have hg : z_G _ s := z_G.of hts
  have hown : s.vm.findClass RX8 = some m.cls := findClass_of_methodNamed B.named
  have hlocks := B.notSynchronized
  generalize va_A [(h0, .inr (8, [.ref xq1, .ref xq2])), (xq2, .inr (5, [.ref xq9, .ref xq10, .ref xq11, .ref xq12, .ref xq13, .ref xq14, .ref xq15, .ref xq16, .ref xq17, .ref xq18, .ref xq19, .int 0, .int 0]))] s.heap.size = A at I ⊢
  have hl := lv_entry ([.ref h0, .int p0, .int p1]) (n := 3) (Nat.le_of_ble_eq_true rfl)
  rw [lg_entry_eq]
  generalize (lg_sl ([.ref h0, .int p0, .int p1]) ++ List.replicate (3 - (lg_sl ([.ref h0, .int p0, .int p1])).length) Slot.unset).toArray = ls at hl ⊢
  have hl : lv_has ls 3 [(0, .ref h0), (1, .int p0), (2, .int p1)] := hl
  refine lv_aload_n hx hb dX8_gain_0 rfl (lv_at hl 0 rfl) ?_
  refine z_get (C := RX8) (T := TX8) (N := 2) (ci := 8) (v := .ref xq2) hx hb hg hown I iw_8 0 rfl rfl 1 (by decide) mw358 rfl dX8_gain_1 ?_
  refine lv_iload_n hx hb dX8_gain_4 rfl (lv_at hl 1 rfl) ?_
  refine z_calli (wr := [(h0, .inr (8, [.ref xq1, .ref xq2]))]) (va_runV (As := [.int p0]) (rest := []) ⟨hx, hb, hml, hown, hts⟩ (z_RX5_hasColumn l dC dI xq2 xq9 xq10 xq11 xq12 xq13 xq14 xq15 xq16 xq17 xq18 xq19 p0  s.heap.size) (cwV 1 hts (z_gV z_T.w mw638 mw639 mw640 mw3 mw641) rfl rfl rfl (by decide +kernel) ⟨Nat.le_of_ble_eq_true rfl, Nat.le_of_ble_eq_true rfl⟩) (z_preV I [1] [] rfl rfl rfl rfl (ci := 5) (q0 := 1) rfl rfl) rfl rfl hl.1 rfl (lv_room (Nat.le_of_ble_eq_true rfl)) dX8_gain_5 ⟨Nat.le_of_ble_eq_true rfl, Nat.le_of_ble_eq_true rfl⟩) I [1] [0] rfl rfl (by decide) (by decide) (fun r1 u1 H locs hw1 I => ?_)
  obtain ⟨hu1, hp1⟩ := hw1
  subst hu1
  have I : z_I A dC dI [(h0, .inr (8, [.ref xq1, .ref xq2])), (xq2, .inr (5, [.ref xq9, .ref xq10, .ref xq11, .ref xq12, .ref xq13, .ref xq14, .ref xq15, .ref xq16, .ref xq17, .ref xq18, .ref xq19, .int 0, .int 0]))] [] s H _ := I
  obtain rfl : r1 = 0 := hp1
  refine lv_if_ne (tgt := 21) hx hb dX8_gain_8 (by decide) (fun c9 => absurd c9 (by decide)) (fun _ => ?_)
  exact z_throwS hx hb hst hml hl.1 hlocks htab hg hown I rfl mw642 mw19 (List.mem_of_getElem? (i := 2) rfl) h1_IndexOutOfBoundsException_104 h2_IndexOutOfBoundsException_104 h3_IndexOutOfBoundsException_104 h4_IndexOutOfBoundsException_104 (List.mem_of_getElem? (i := 7) rfl) dX8_gain_11 dX8_gain_14 dX8_gain_15 dX8_gain_17 dX8_gain_20 (Nat.le_of_ble_eq_true rfl) (Nat.le_of_ble_eq_true rfl) (Nat.le_of_ble_eq_true rfl) (Nat.le_of_ble_eq_true rfl) (Nat.le_of_ble_eq_true rfl) (Nat.le_of_ble_eq_true rfl)
set_option maxHeartbeats 4000000 in
set_option maxRecDepth 100000 in
theorem z_RX8_unkept (l : Launch) (hst : l.stackTraces = false) (dC : Nat → ClassId) (dI : Nat → Nat → Nat) (xq1 : Nat) (xq2 : Nat) (xq9 : Nat) (xq10 : Nat) (xq11 : Nat) (xq12 : Nat) (xq13 : Nat) (xq14 : Nat) (xq15 : Nat) (xq16 : Nat) (xq17 : Nat) (xq18 : Nat) (xq19 : Nat) (xq35 : Nat) (xq36 : Nat) (xq37 : Nat) (xq38 : Nat) (xq39 : Nat) (xq40 : Nat) (xq41 : Nat) (xq42 : Nat) (h0 : Nat) (sz : Nat) : vx_Met l yX8_unkept (z_w yX8_unkept cX8_unkept 2 (some .int)) ({ frames := 16, cells := 1, slots := 6, locals := 380 }) (z_P dC dI [(h0, .inr (8, [.ref xq1, .ref xq2])), (xq2, .inr (5, [.ref xq9, .ref xq10, .ref xq11, .ref xq12, .ref xq13, .ref xq14, .ref xq15, .ref xq16, .ref xq17, .ref xq18, .ref xq19, .int 0, .int 0])), (xq19, .inr (0, [.ref xq35, .ref xq36, .ref xq37, .ref xq38, .ref xq39, .ref xq40, .ref xq41, .int 0, .int 0])), (xq35, .inr (4, [.ref xq42, .long 1, .long 0]))] [] sz [.ref h0]) (va_Qi (fun (r : Int32) (u : va_W × List (ClassId × FieldType)) => u = ([], []) ∧ False) (z_B dC dI (va_A [(h0, .inr (8, [.ref xq1, .ref xq2])), (xq2, .inr (5, [.ref xq9, .ref xq10, .ref xq11, .ref xq12, .ref xq13, .ref xq14, .ref xq15, .ref xq16, .ref xq17, .ref xq18, .ref xq19, .int 0, .int 0])), (xq19, .inr (0, [.ref xq35, .ref xq36, .ref xq37, .ref xq38, .ref xq39, .ref xq40, .ref xq41, .int 0, .int 0])), (xq35, .inr (4, [.ref xq42, .long 1, .long 0]))] sz)) (va_A [(h0, .inr (8, [.ref xq1, .ref xq2])), (xq2, .inr (5, [.ref xq9, .ref xq10, .ref xq11, .ref xq12, .ref xq13, .ref xq14, .ref xq15, .ref xq16, .ref xq17, .ref xq18, .ref xq19, .int 0, .int 0])), (xq19, .inr (0, [.ref xq35, .ref xq36, .ref xq37, .ref xq38, .ref xq39, .ref xq40, .ref xq41, .int 0, .int 0])), (xq35, .inr (4, [.ref xq42, .long 1, .long 0]))] sz)) (z_XC (fun E : String => E = "java/util/NoSuchElementException") (va_A [(h0, .inr (8, [.ref xq1, .ref xq2])), (xq2, .inr (5, [.ref xq9, .ref xq10, .ref xq11, .ref xq12, .ref xq13, .ref xq14, .ref xq15, .ref xq16, .ref xq17, .ref xq18, .ref xq19, .int 0, .int 0])), (xq19, .inr (0, [.ref xq35, .ref xq36, .ref xq37, .ref xq38, .ref xq39, .ref xq40, .ref xq41, .int 0, .int 0])), (xq35, .inr (4, [.ref xq42, .long 1, .long 0]))] sz)) 1 6 (va_A [(h0, .inr (8, [.ref xq1, .ref xq2])), (xq2, .inr (5, [.ref xq9, .ref xq10, .ref xq11, .ref xq12, .ref xq13, .ref xq14, .ref xq15, .ref xq16, .ref xq17, .ref xq18, .ref xq19, .int 0, .int 0])), (xq19, .inr (0, [.ref xq35, .ref xq36, .ref xq37, .ref xq38, .ref xq39, .ref xq40, .ref xq41, .int 0, .int 0])), (xq35, .inr (4, [.ref xq42, .long 1, .long 0]))] sz) := by
  refine vx_ofW (cc := cX8_unkept) (maxL := 2) (ret := (some .int)) (by decide) rfl ?_
  intro p e s m args below meth c s₁ B hml htab hv
  obtain ⟨rfl, rfl, I⟩ := z_open hv
  have hx := B.exec
  have hb := B.bytes
  have hr := B.returns
  have hts := atoms_spec (ws := z_w yX8_unkept cX8_unkept 2 (some .int)) B.pre
  have hg : z_G _ s := z_G.of hts
  have hown : s.vm.findClass RX8 = some m.cls := findClass_of_methodNamed B.named
  have hlocks := B.notSynchronized
  generalize va_A [(h0, .inr (8, [.ref xq1, .ref xq2])), (xq2, .inr (5, [.ref xq9, .ref xq10, .ref xq11, .ref xq12, .ref xq13, .ref xq14, .ref xq15, .ref xq16, .ref xq17, .ref xq18, .ref xq19, .int 0, .int 0])), (xq19, .inr (0, [.ref xq35, .ref xq36, .ref xq37, .ref xq38, .ref xq39, .ref xq40, .ref xq41, .int 0, .int 0])), (xq35, .inr (4, [.ref xq42, .long 1, .long 0]))] s.heap.size = A at I ⊢
  have hl := lv_entry ([.ref h0]) (n := 2) (Nat.le_of_ble_eq_true rfl)
  rw [lg_entry_eq]
  generalize (lg_sl ([.ref h0]) ++ List.replicate (2 - (lg_sl ([.ref h0])).length) Slot.unset).toArray = ls at hl ⊢
  have hl : lv_has ls 2 [(0, .ref h0)] := hl
  refine lv_aload_n hx hb dX8_unkept_0 rfl (lv_at hl 0 rfl) ?_
  refine z_get (C := RX8) (T := TX8) (N := 2) (ci := 8) (v := .ref xq2) hx hb hg hown I iw_8 0 rfl rfl 1 (by decide) mw358 rfl dX8_unkept_1 ?_
  refine z_calli (wr := [(h0, .inr (8, [.ref xq1, .ref xq2]))]) (va_runV (As := []) (rest := []) ⟨hx, hb, hml, hown, hts⟩ (z_RX5_clashingRows l dC dI xq2 xq9 xq10 xq11 xq12 xq13 xq14 xq15 xq16 xq17 xq18 xq19 xq35 xq36 xq37 xq38 xq39 xq40 xq41 xq42  s.heap.size) (cwV 0 hts (z_gV z_T.w mw678 mw679 mw680 mw3 mw681) rfl rfl rfl (by decide +kernel) ⟨Nat.le_of_ble_eq_true rfl, Nat.le_of_ble_eq_true rfl⟩) (z_preV I [1, 2, 3] [] rfl rfl rfl rfl (ci := 5) (q0 := 1) rfl rfl) rfl rfl hl.1 rfl (lv_room (Nat.le_of_ble_eq_true rfl)) dX8_unkept_4 ⟨Nat.le_of_ble_eq_true rfl, Nat.le_of_ble_eq_true rfl⟩) I [1, 2, 3] [0] rfl rfl (by decide) (by decide) (fun r1 u1 H locs hw1 I => ?_)
  obtain ⟨hu1, hp1⟩ := hw1
  subst hu1
  have I : z_I A dC dI [(h0, .inr (8, [.ref xq1, .ref xq2])), (xq2, .inr (5, [.ref xq9, .ref xq10, .ref xq11, .ref xq12, .ref xq13, .ref xq14, .ref xq15, .ref xq16, .ref xq17, .ref xq18, .ref xq19, .int 0, .int 0])), (xq35, .inr (4, [.ref xq42, .long 1, .long 0])), (xq19, .inr (0, [.ref xq35, .ref xq36, .ref xq37, .ref xq38, .ref xq39, .ref xq40, .ref xq41, .int 0, .int 0]))] [] s H _ := I
  obtain rfl : r1 = 0 := hp1
  refine lv_istore_n (lv' := [(1, .int 0), (0, .ref h0)]) hx hb dX8_unkept_7 rfl hl (by decide) rfl (fun ls hl => ?_)
  refine lv_iload_n hx hb dX8_unkept_8 rfl (lv_at hl 0 rfl) ?_
  refine lv_if_ne (tgt := 22) hx hb dX8_unkept_9 (by decide) (fun c9 => absurd c9 (by decide)) (fun _ => ?_)
  exact z_throwN hx hb hst hml hl.1 hlocks htab hg hown I rfl mw733 mw22 h1_NoSuchElementException_122 h2_NoSuchElementException_122 h3_NoSuchElementException_122 (List.mem_of_getElem? (i := 8) rfl) dX8_unkept_12 dX8_unkept_15 dX8_unkept_16 dX8_unkept_18 dX8_unkept_21 (Nat.le_of_ble_eq_true rfl) (Nat.le_of_ble_eq_true rfl) (Nat.le_of_ble_eq_true rfl) (Nat.le_of_ble_eq_true rfl) (Nat.le_of_ble_eq_true rfl) (Nat.le_of_ble_eq_true rfl)
set_option maxHeartbeats 4000000 in
set_option maxRecDepth 100000 in
theorem z_RX8_bound (l : Launch) (hst : l.stackTraces = false) (dC : Nat → ClassId) (dI : Nat → Nat → Nat) (xq1 : Nat) (xq2 : Nat) (xq3 : Nat) (xq4 : Nat) (xq5 : Nat) (xq6 : Nat) (xq7 : Nat) (xq8 : Nat) (h0 : Nat) (sz : Nat) : vx_Met l yX8_bound (z_w yX8_bound cX8_bound 2 (some .long)) ({ frames := 12, cells := 1, slots := 6, locals := 260 }) (z_P dC dI [(h0, .inr (8, [.ref xq1, .ref xq2])), (xq1, .inr (7, [.ref xq2, .ref xq3, .ref xq4, .ref xq5, .ref xq6, .ref xq7, .ref xq8, .int 0, .int 0, .int 0, .int 0, .int 0]))] [] sz [.ref h0]) (va_Ql (fun (r : Int64) (u : va_W × List (ClassId × FieldType)) => u = ([], []) ∧ False) (z_B dC dI (va_A [(h0, .inr (8, [.ref xq1, .ref xq2])), (xq1, .inr (7, [.ref xq2, .ref xq3, .ref xq4, .ref xq5, .ref xq6, .ref xq7, .ref xq8, .int 0, .int 0, .int 0, .int 0, .int 0]))] sz)) (va_A [(h0, .inr (8, [.ref xq1, .ref xq2])), (xq1, .inr (7, [.ref xq2, .ref xq3, .ref xq4, .ref xq5, .ref xq6, .ref xq7, .ref xq8, .int 0, .int 0, .int 0, .int 0, .int 0]))] sz)) (z_XC (fun E : String => E = "java/util/NoSuchElementException") (va_A [(h0, .inr (8, [.ref xq1, .ref xq2])), (xq1, .inr (7, [.ref xq2, .ref xq3, .ref xq4, .ref xq5, .ref xq6, .ref xq7, .ref xq8, .int 0, .int 0, .int 0, .int 0, .int 0]))] sz)) 1 6 (va_A [(h0, .inr (8, [.ref xq1, .ref xq2])), (xq1, .inr (7, [.ref xq2, .ref xq3, .ref xq4, .ref xq5, .ref xq6, .ref xq7, .ref xq8, .int 0, .int 0, .int 0, .int 0, .int 0]))] sz) := by
  refine vx_ofW (cc := cX8_bound) (maxL := 2) (ret := (some .long)) (by decide) rfl ?_
  intro p e s m args below meth c s₁ B hml htab hv
  obtain ⟨rfl, rfl, I⟩ := z_open hv
  have hx := B.exec
  have hb := B.bytes
  have hr := B.returns
  have hts := atoms_spec (ws := z_w yX8_bound cX8_bound 2 (some .long)) B.pre
  have hg : z_G _ s := z_G.of hts
  have hown : s.vm.findClass RX8 = some m.cls := findClass_of_methodNamed B.named
  have hlocks := B.notSynchronized
  generalize va_A [(h0, .inr (8, [.ref xq1, .ref xq2])), (xq1, .inr (7, [.ref xq2, .ref xq3, .ref xq4, .ref xq5, .ref xq6, .ref xq7, .ref xq8, .int 0, .int 0, .int 0, .int 0, .int 0]))] s.heap.size = A at I ⊢
  have hl := lv_entry ([.ref h0]) (n := 2) (Nat.le_of_ble_eq_true rfl)
  rw [lg_entry_eq]
  generalize (lg_sl ([.ref h0]) ++ List.replicate (2 - (lg_sl ([.ref h0])).length) Slot.unset).toArray = ls at hl ⊢
  have hl : lv_has ls 2 [(0, .ref h0)] := hl
  refine lv_aload_n hx hb dX8_bound_0 rfl (lv_at hl 0 rfl) ?_
  refine z_get (C := RX8) (T := TX8) (N := 2) (ci := 8) (v := .ref xq1) hx hb hg hown I iw_8 0 rfl rfl 0 (by decide) mw357 rfl dX8_bound_1 ?_
  refine z_callq (wr := [(h0, .inr (8, [.ref xq1, .ref xq2]))]) (va_runV (As := []) (rest := []) ⟨hx, hb, hml, hown, hts⟩ (z_RX7_boundPoint l dC dI xq1 xq2 xq3 xq4 xq5 xq6 xq7 xq8  s.heap.size) (cwV 0 hts (z_gV z_T.w mw983 mw984 mw985 mw2 mw986) rfl rfl rfl (by decide +kernel) ⟨Nat.le_of_ble_eq_true rfl, Nat.le_of_ble_eq_true rfl⟩) (z_preV I [1] [] rfl rfl rfl rfl (ci := 7) (q0 := 1) rfl rfl) rfl rfl hl.1 rfl (lv_room (Nat.le_of_ble_eq_true rfl)) dX8_bound_4 ⟨Nat.le_of_ble_eq_true rfl, Nat.le_of_ble_eq_true rfl⟩) I [1] [0] rfl rfl (by decide) (by decide) (fun r1 u1 H locs hw1 I => ?_)
  obtain ⟨hu1, hp1⟩ := hw1
  subst hu1
  have I : z_I A dC dI [(h0, .inr (8, [.ref xq1, .ref xq2])), (xq1, .inr (7, [.ref xq2, .ref xq3, .ref xq4, .ref xq5, .ref xq6, .ref xq7, .ref xq8, .int 0, .int 0, .int 0, .int 0, .int 0]))] [] s H _ := I
  subst hp1
  refine lv_astore_nN (lv' := [(1, .null), (0, .ref h0)]) hx hb dX8_bound_7 rfl hl (by decide) rfl (fun ls hl => ?_)
  refine lv_aload_nN hx hb dX8_bound_8 rfl (lv_at hl 0 rfl) ?_
  refine lv_ifnonnullN hx hb dX8_bound_9 ?_
  exact z_throwN hx hb hst hml hl.1 hlocks htab hg hown I rfl mw733 mw22 h1_NoSuchElementException_122 h2_NoSuchElementException_122 h3_NoSuchElementException_122 (List.mem_of_getElem? (i := 18) rfl) dX8_bound_12 dX8_bound_15 dX8_bound_16 dX8_bound_18 dX8_bound_21 (Nat.le_of_ble_eq_true rfl) (Nat.le_of_ble_eq_true rfl) (Nat.le_of_ble_eq_true rfl) (Nat.le_of_ble_eq_true rfl) (Nat.le_of_ble_eq_true rfl) (Nat.le_of_ble_eq_true rfl)
set_option maxHeartbeats 4000000 in
set_option maxRecDepth 100000 in
theorem z_RX8_best (l : Launch) (hst : l.stackTraces = false) (dC : Nat → ClassId) (dI : Nat → Nat → Nat) (xq1 : Nat) (xq2 : Nat) (xq3 : Nat) (xq4 : Nat) (xq5 : Nat) (xq6 : Nat) (xq7 : Nat) (xq8 : Nat) (h0 : Nat) (sz : Nat) : vx_Met l yX8_best (z_w yX8_best cX8_best 1 (some .long)) ({ frames := 8, cells := 1, slots := 6, locals := 140 }) (z_P dC dI [(h0, .inr (8, [.ref xq1, .ref xq2])), (xq1, .inr (7, [.ref xq2, .ref xq3, .ref xq4, .ref xq5, .ref xq6, .ref xq7, .ref xq8, .int 0, .int 0, .int 0, .int 0, .int 0]))] [] sz [.ref h0]) (va_Ql (fun (r : Int64) (u : va_W × List (ClassId × FieldType)) => u = ([], []) ∧ False) (z_B dC dI (va_A [(h0, .inr (8, [.ref xq1, .ref xq2])), (xq1, .inr (7, [.ref xq2, .ref xq3, .ref xq4, .ref xq5, .ref xq6, .ref xq7, .ref xq8, .int 0, .int 0, .int 0, .int 0, .int 0]))] sz)) (va_A [(h0, .inr (8, [.ref xq1, .ref xq2])), (xq1, .inr (7, [.ref xq2, .ref xq3, .ref xq4, .ref xq5, .ref xq6, .ref xq7, .ref xq8, .int 0, .int 0, .int 0, .int 0, .int 0]))] sz)) (z_XC (fun E : String => E = "java/util/NoSuchElementException") (va_A [(h0, .inr (8, [.ref xq1, .ref xq2])), (xq1, .inr (7, [.ref xq2, .ref xq3, .ref xq4, .ref xq5, .ref xq6, .ref xq7, .ref xq8, .int 0, .int 0, .int 0, .int 0, .int 0]))] sz)) 1 6 (va_A [(h0, .inr (8, [.ref xq1, .ref xq2])), (xq1, .inr (7, [.ref xq2, .ref xq3, .ref xq4, .ref xq5, .ref xq6, .ref xq7, .ref xq8, .int 0, .int 0, .int 0, .int 0, .int 0]))] sz) := by
  refine vx_ofW (cc := cX8_best) (maxL := 1) (ret := (some .long)) (by decide) rfl ?_
  intro p e s m args below meth c s₁ B hml htab hv
  obtain ⟨rfl, rfl, I⟩ := z_open hv
  have hx := B.exec
  have hb := B.bytes
  have hr := B.returns
  have hts := atoms_spec (ws := z_w yX8_best cX8_best 1 (some .long)) B.pre
  have hg : z_G _ s := z_G.of hts
  have hown : s.vm.findClass RX8 = some m.cls := findClass_of_methodNamed B.named
  have hlocks := B.notSynchronized
  generalize va_A [(h0, .inr (8, [.ref xq1, .ref xq2])), (xq1, .inr (7, [.ref xq2, .ref xq3, .ref xq4, .ref xq5, .ref xq6, .ref xq7, .ref xq8, .int 0, .int 0, .int 0, .int 0, .int 0]))] s.heap.size = A at I ⊢
  have hl := lv_entry ([.ref h0]) (n := 1) (Nat.le_of_ble_eq_true rfl)
  rw [lg_entry_eq]
  generalize (lg_sl ([.ref h0]) ++ List.replicate (1 - (lg_sl ([.ref h0])).length) Slot.unset).toArray = ls at hl ⊢
  have hl : lv_has ls 1 [(0, .ref h0)] := hl
  refine lv_aload_n hx hb dX8_best_0 rfl (lv_at hl 0 rfl) ?_
  refine z_get (C := RX8) (T := TX8) (N := 2) (ci := 8) (v := .ref xq1) hx hb hg hown I iw_8 0 rfl rfl 0 (by decide) mw357 rfl dX8_best_1 ?_
  refine z_get (C := RX7) (T := TX7) (N := 12) (ci := 7) (v := .int 0) hx hb hg hown I iw_7 1 rfl rfl 9 (by decide) mw329 rfl dX8_best_4 ?_
  refine lv_if_ne (tgt := 20) hx hb dX8_best_7 (by decide) (fun c9 => absurd c9 (by decide)) (fun _ => ?_)
  exact z_throwN hx hb hst hml hl.1 hlocks htab hg hown I rfl mw733 mw22 h1_NoSuchElementException_122 h2_NoSuchElementException_122 h3_NoSuchElementException_122 (List.mem_of_getElem? (i := 19) rfl) dX8_best_10 dX8_best_13 dX8_best_14 dX8_best_16 dX8_best_19 (Nat.le_of_ble_eq_true rfl) (Nat.le_of_ble_eq_true rfl) (Nat.le_of_ble_eq_true rfl) (Nat.le_of_ble_eq_true rfl) (Nat.le_of_ble_eq_true rfl) (Nat.le_of_ble_eq_true rfl)
set_option maxHeartbeats 4000000 in
set_option maxRecDepth 100000 in
theorem z_RX8_offer (l : Launch) (hst : l.stackTraces = false) (dC : Nat → ClassId) (dI : Nat → Nat → Nat) (xq1 : Nat) (xq2 : Nat) (xq3 : Nat) (xq4 : Nat) (xq5 : Nat) (xq6 : Nat) (xq7 : Nat) (xq8 : Nat) (h0 : Nat) (p0 : Int32) (p1 : Int32) (p2 : Int32) (p3 : Int32) (sz : Nat) : vx_Met l yX8_offer (z_w yX8_offer cX8_offer 5 (some .boolean)) ({ frames := 10, cells := 1, slots := 6, locals := 200 }) (z_P dC dI [(h0, .inr (8, [.ref xq1, .ref xq2])), (xq1, .inr (7, [.ref xq2, .ref xq3, .ref xq4, .ref xq5, .ref xq6, .ref xq7, .ref xq8, .int 0, .int 0, .int 0, .int 0, .int 0]))] [] sz [.ref h0, .int p0, .int p1, .int p2, .int p3]) (va_Qi (fun (r : Int32) (u : va_W × List (ClassId × FieldType)) => u = ([], []) ∧ False) (z_B dC dI (va_A [(h0, .inr (8, [.ref xq1, .ref xq2])), (xq1, .inr (7, [.ref xq2, .ref xq3, .ref xq4, .ref xq5, .ref xq6, .ref xq7, .ref xq8, .int 0, .int 0, .int 0, .int 0, .int 0]))] sz)) (va_A [(h0, .inr (8, [.ref xq1, .ref xq2])), (xq1, .inr (7, [.ref xq2, .ref xq3, .ref xq4, .ref xq5, .ref xq6, .ref xq7, .ref xq8, .int 0, .int 0, .int 0, .int 0, .int 0]))] sz)) (z_XC (fun E : String => E = "java/lang/IllegalStateException") (va_A [(h0, .inr (8, [.ref xq1, .ref xq2])), (xq1, .inr (7, [.ref xq2, .ref xq3, .ref xq4, .ref xq5, .ref xq6, .ref xq7, .ref xq8, .int 0, .int 0, .int 0, .int 0, .int 0]))] sz)) 1 6 (va_A [(h0, .inr (8, [.ref xq1, .ref xq2])), (xq1, .inr (7, [.ref xq2, .ref xq3, .ref xq4, .ref xq5, .ref xq6, .ref xq7, .ref xq8, .int 0, .int 0, .int 0, .int 0, .int 0]))] sz) := by
  refine vx_ofW (cc := cX8_offer) (maxL := 5) (ret := (some .boolean)) (by decide) rfl ?_
  intro p e s m args below meth c s₁ B hml htab hv
  obtain ⟨rfl, rfl, I⟩ := z_open hv
  have hx := B.exec
  have hb := B.bytes
  have hr := B.returns
  have hts := atoms_spec (ws := z_w yX8_offer cX8_offer 5 (some .boolean)) B.pre
  have hg : z_G _ s := z_G.of hts
  have hown : s.vm.findClass RX8 = some m.cls := findClass_of_methodNamed B.named
  have hlocks := B.notSynchronized
  generalize va_A [(h0, .inr (8, [.ref xq1, .ref xq2])), (xq1, .inr (7, [.ref xq2, .ref xq3, .ref xq4, .ref xq5, .ref xq6, .ref xq7, .ref xq8, .int 0, .int 0, .int 0, .int 0, .int 0]))] s.heap.size = A at I ⊢
  have hl := lv_entry ([.ref h0, .int p0, .int p1, .int p2, .int p3]) (n := 5) (Nat.le_of_ble_eq_true rfl)
  rw [lg_entry_eq]
  generalize (lg_sl ([.ref h0, .int p0, .int p1, .int p2, .int p3]) ++ List.replicate (5 - (lg_sl ([.ref h0, .int p0, .int p1, .int p2, .int p3])).length) Slot.unset).toArray = ls at hl ⊢
  have hl : lv_has ls 5 [(0, .ref h0), (1, .int p0), (2, .int p1), (3, .int p2), (4, .int p3)] := hl
  refine lv_aload_n hx hb dX8_offer_0 rfl (lv_at hl 0 rfl) ?_
  refine z_get (C := RX8) (T := TX8) (N := 2) (ci := 8) (v := .ref xq1) hx hb hg hown I iw_8 0 rfl rfl 0 (by decide) mw357 rfl dX8_offer_1 ?_
  refine z_calli (wr := [(h0, .inr (8, [.ref xq1, .ref xq2]))]) (va_runV (As := []) (rest := []) ⟨hx, hb, hml, hown, hts⟩ (z_RX7_isPlanted l dC dI xq1 xq2 xq3 xq4 xq5 xq6 xq7 xq8  s.heap.size) (cwV 0 hts (z_gV z_T.w mw464 mw465 mw466 mw2 mw467) rfl rfl rfl (by decide +kernel) ⟨Nat.le_of_ble_eq_true rfl, Nat.le_of_ble_eq_true rfl⟩) (z_preV I [1] [] rfl rfl rfl rfl (ci := 7) (q0 := 1) rfl rfl) rfl rfl hl.1 rfl (lv_room (Nat.le_of_ble_eq_true rfl)) dX8_offer_4 ⟨Nat.le_of_ble_eq_true rfl, Nat.le_of_ble_eq_true rfl⟩) I [1] [0] rfl rfl (by decide) (by decide) (fun r1 u1 H locs hw1 I => ?_)
  obtain ⟨hu1, hp1⟩ := hw1
  subst hu1
  have I : z_I A dC dI [(h0, .inr (8, [.ref xq1, .ref xq2])), (xq1, .inr (7, [.ref xq2, .ref xq3, .ref xq4, .ref xq5, .ref xq6, .ref xq7, .ref xq8, .int 0, .int 0, .int 0, .int 0, .int 0]))] [] s H _ := I
  obtain rfl : r1 = 0 := hp1
  refine lv_if_ne (tgt := 20) hx hb dX8_offer_7 (by decide) (fun c9 => absurd c9 (by decide)) (fun _ => ?_)
  exact z_throwS hx hb hst hml hl.1 hlocks htab hg hown I rfl mw468 mw15 (List.mem_of_getElem? (i := 1) rfl) h1_IllegalStateException_49 h2_IllegalStateException_49 h3_IllegalStateException_49 h4_IllegalStateException_49 (List.mem_of_getElem? (i := 13) rfl) dX8_offer_10 dX8_offer_13 dX8_offer_14 dX8_offer_16 dX8_offer_19 (Nat.le_of_ble_eq_true rfl) (Nat.le_of_ble_eq_true rfl) (Nat.le_of_ble_eq_true rfl) (Nat.le_of_ble_eq_true rfl) (Nat.le_of_ble_eq_true rfl) (Nat.le_of_ble_eq_true rfl)
set_option maxHeartbeats 4000000 in
set_option maxRecDepth 100000 in
theorem z_RX8_gap (l : Launch) (hst : l.stackTraces = false) (dC : Nat → ClassId) (dI : Nat → Nat → Nat) (xq1 : Nat) (xq2 : Nat) (xq3 : Nat) (xq4 : Nat) (xq5 : Nat) (xq6 : Nat) (xq7 : Nat) (xq8 : Nat) (h0 : Nat) (sz : Nat) : vx_Met l yX8_gap (z_w yX8_gap cX8_gap 6 (some .float)) ({ frames := 12, cells := 1, slots := 6, locals := 260 }) (z_P dC dI [(h0, .inr (8, [.ref xq1, .ref xq2])), (xq1, .inr (7, [.ref xq2, .ref xq3, .ref xq4, .ref xq5, .ref xq6, .ref xq7, .ref xq8, .int 0, .int 0, .int 0, .int 0, .int 0]))] [] sz [.ref h0]) (va_Qf (fun (r : UInt32) (u : va_W × List (ClassId × FieldType)) => u = ([], []) ∧ False) (z_B dC dI (va_A [(h0, .inr (8, [.ref xq1, .ref xq2])), (xq1, .inr (7, [.ref xq2, .ref xq3, .ref xq4, .ref xq5, .ref xq6, .ref xq7, .ref xq8, .int 0, .int 0, .int 0, .int 0, .int 0]))] sz)) (va_A [(h0, .inr (8, [.ref xq1, .ref xq2])), (xq1, .inr (7, [.ref xq2, .ref xq3, .ref xq4, .ref xq5, .ref xq6, .ref xq7, .ref xq8, .int 0, .int 0, .int 0, .int 0, .int 0]))] sz)) (z_XC (fun E : String => E = "java/lang/ArithmeticException") (va_A [(h0, .inr (8, [.ref xq1, .ref xq2])), (xq1, .inr (7, [.ref xq2, .ref xq3, .ref xq4, .ref xq5, .ref xq6, .ref xq7, .ref xq8, .int 0, .int 0, .int 0, .int 0, .int 0]))] sz)) 1 6 (va_A [(h0, .inr (8, [.ref xq1, .ref xq2])), (xq1, .inr (7, [.ref xq2, .ref xq3, .ref xq4, .ref xq5, .ref xq6, .ref xq7, .ref xq8, .int 0, .int 0, .int 0, .int 0, .int 0]))] sz) := by
  refine vx_ofW (cc := cX8_gap) (maxL := 6) (ret := (some .float)) (by decide) rfl ?_
  intro p e s m args below meth c s₁ B hml htab hv
  obtain ⟨rfl, rfl, I⟩ := z_open hv
  have hx := B.exec
  have hb := B.bytes
  have hr := B.returns
  have hts := atoms_spec (ws := z_w yX8_gap cX8_gap 6 (some .float)) B.pre
  have hg : z_G _ s := z_G.of hts
  have hown : s.vm.findClass RX8 = some m.cls := findClass_of_methodNamed B.named
  have hlocks := B.notSynchronized
  generalize va_A [(h0, .inr (8, [.ref xq1, .ref xq2])), (xq1, .inr (7, [.ref xq2, .ref xq3, .ref xq4, .ref xq5, .ref xq6, .ref xq7, .ref xq8, .int 0, .int 0, .int 0, .int 0, .int 0]))] s.heap.size = A at I ⊢
  have hl := lv_entry ([.ref h0]) (n := 6) (Nat.le_of_ble_eq_true rfl)
  rw [lg_entry_eq]
  generalize (lg_sl ([.ref h0]) ++ List.replicate (6 - (lg_sl ([.ref h0])).length) Slot.unset).toArray = ls at hl ⊢
  have hl : lv_has ls 6 [(0, .ref h0)] := hl
  refine lv_aload_n hx hb dX8_gap_0 rfl (lv_at hl 0 rfl) ?_
  refine z_get (C := RX8) (T := TX8) (N := 2) (ci := 8) (v := .ref xq1) hx hb hg hown I iw_8 0 rfl rfl 0 (by decide) mw357 rfl dX8_gap_1 ?_
  refine z_callq (wr := [(h0, .inr (8, [.ref xq1, .ref xq2]))]) (va_runV (As := []) (rest := []) ⟨hx, hb, hml, hown, hts⟩ (z_RX7_boundPoint l dC dI xq1 xq2 xq3 xq4 xq5 xq6 xq7 xq8  s.heap.size) (cwV 0 hts (z_gV z_T.w mw983 mw984 mw985 mw2 mw986) rfl rfl rfl (by decide +kernel) ⟨Nat.le_of_ble_eq_true rfl, Nat.le_of_ble_eq_true rfl⟩) (z_preV I [1] [] rfl rfl rfl rfl (ci := 7) (q0 := 1) rfl rfl) rfl rfl hl.1 rfl (lv_room (Nat.le_of_ble_eq_true rfl)) dX8_gap_4 ⟨Nat.le_of_ble_eq_true rfl, Nat.le_of_ble_eq_true rfl⟩) I [1] [0] rfl rfl (by decide) (by decide) (fun r1 u1 H locs hw1 I => ?_)
  obtain ⟨hu1, hp1⟩ := hw1
  subst hu1
  have I : z_I A dC dI [(h0, .inr (8, [.ref xq1, .ref xq2])), (xq1, .inr (7, [.ref xq2, .ref xq3, .ref xq4, .ref xq5, .ref xq6, .ref xq7, .ref xq8, .int 0, .int 0, .int 0, .int 0, .int 0]))] [] s H _ := I
  subst hp1
  refine lv_astore_nN (lv' := [(1, .null), (0, .ref h0)]) hx hb dX8_gap_7 rfl hl (by decide) rfl (fun ls hl => ?_)
  refine lv_aload_n hx hb dX8_gap_8 rfl (lv_at hl 1 rfl) ?_
  refine z_get (C := RX8) (T := TX8) (N := 2) (ci := 8) (v := .ref xq1) hx hb hg hown I iw_8 0 rfl rfl 0 (by decide) mw357 rfl dX8_gap_9 ?_
  refine z_get (C := RX7) (T := TX7) (N := 12) (ci := 7) (v := .int 0) hx hb hg hown I iw_7 1 rfl rfl 9 (by decide) mw329 rfl dX8_gap_12 ?_
  refine lv_if_eq (tgt := 22) hx hb dX8_gap_15 (by decide) (fun _ => ?_) (fun c9 => absurd c9 (by decide))
  exact z_throwSW hx hb hst hml hl.1 hlocks htab hg hown I rfl mw1230 mw26 (List.mem_of_getElem? (i := 4) rfl) h1_ArithmeticException_313 h2_ArithmeticException_313 h3_ArithmeticException_313 h4_ArithmeticException_313 (List.mem_of_getElem? (i := 34) rfl) dX8_gap_22 dX8_gap_25 dX8_gap_26 dX8_gap_29 dX8_gap_32 (Nat.le_of_ble_eq_true rfl) (Nat.le_of_ble_eq_true rfl) (Nat.le_of_ble_eq_true rfl) (Nat.le_of_ble_eq_true rfl) (Nat.le_of_ble_eq_true rfl) (Nat.le_of_ble_eq_true rfl)
set_option maxHeartbeats 4000000 in
set_option maxRecDepth 100000 in
theorem z_RX8_meanDepth (l : Launch) (hst : l.stackTraces = false) (dC : Nat → ClassId) (dI : Nat → Nat → Nat) (xq1 : Nat) (xq2 : Nat) (xq3 : Nat) (xq4 : Nat) (xq5 : Nat) (xq6 : Nat) (xq7 : Nat) (xq8 : Nat) (h0 : Nat) (sz : Nat) : vx_Met l yX8_meanDepth (z_w yX8_meanDepth cX8_meanDepth 2 (some .double)) ({ frames := 8, cells := 1, slots := 6, locals := 140 }) (z_P dC dI [(h0, .inr (8, [.ref xq1, .ref xq2])), (xq1, .inr (7, [.ref xq2, .ref xq3, .ref xq4, .ref xq5, .ref xq6, .ref xq7, .ref xq8, .int 0, .int 0, .int 0, .int 0, .int 0]))] [] sz [.ref h0]) (va_Qd (fun (r : UInt64) (u : va_W × List (ClassId × FieldType)) => u = ([], []) ∧ False) (z_B dC dI (va_A [(h0, .inr (8, [.ref xq1, .ref xq2])), (xq1, .inr (7, [.ref xq2, .ref xq3, .ref xq4, .ref xq5, .ref xq6, .ref xq7, .ref xq8, .int 0, .int 0, .int 0, .int 0, .int 0]))] sz)) (va_A [(h0, .inr (8, [.ref xq1, .ref xq2])), (xq1, .inr (7, [.ref xq2, .ref xq3, .ref xq4, .ref xq5, .ref xq6, .ref xq7, .ref xq8, .int 0, .int 0, .int 0, .int 0, .int 0]))] sz)) (z_XC (fun E : String => E = "java/lang/ArithmeticException") (va_A [(h0, .inr (8, [.ref xq1, .ref xq2])), (xq1, .inr (7, [.ref xq2, .ref xq3, .ref xq4, .ref xq5, .ref xq6, .ref xq7, .ref xq8, .int 0, .int 0, .int 0, .int 0, .int 0]))] sz)) 1 6 (va_A [(h0, .inr (8, [.ref xq1, .ref xq2])), (xq1, .inr (7, [.ref xq2, .ref xq3, .ref xq4, .ref xq5, .ref xq6, .ref xq7, .ref xq8, .int 0, .int 0, .int 0, .int 0, .int 0]))] sz) := by
  refine vx_ofW (cc := cX8_meanDepth) (maxL := 2) (ret := (some .double)) (by decide) rfl ?_
  intro p e s m args below meth c s₁ B hml htab hv
  obtain ⟨rfl, rfl, I⟩ := z_open hv
  have hx := B.exec
  have hb := B.bytes
  have hr := B.returns
  have hts := atoms_spec (ws := z_w yX8_meanDepth cX8_meanDepth 2 (some .double)) B.pre
  have hg : z_G _ s := z_G.of hts
  have hown : s.vm.findClass RX8 = some m.cls := findClass_of_methodNamed B.named
  have hlocks := B.notSynchronized
  generalize va_A [(h0, .inr (8, [.ref xq1, .ref xq2])), (xq1, .inr (7, [.ref xq2, .ref xq3, .ref xq4, .ref xq5, .ref xq6, .ref xq7, .ref xq8, .int 0, .int 0, .int 0, .int 0, .int 0]))] s.heap.size = A at I ⊢
  have hl := lv_entry ([.ref h0]) (n := 2) (Nat.le_of_ble_eq_true rfl)
  rw [lg_entry_eq]
  generalize (lg_sl ([.ref h0]) ++ List.replicate (2 - (lg_sl ([.ref h0])).length) Slot.unset).toArray = ls at hl ⊢
  have hl : lv_has ls 2 [(0, .ref h0)] := hl
  refine lv_aload_n hx hb dX8_meanDepth_0 rfl (lv_at hl 0 rfl) ?_
  refine z_get (C := RX8) (T := TX8) (N := 2) (ci := 8) (v := .ref xq1) hx hb hg hown I iw_8 0 rfl rfl 0 (by decide) mw357 rfl dX8_meanDepth_1 ?_
  refine z_get (C := RX7) (T := TX7) (N := 12) (ci := 7) (v := .int 0) hx hb hg hown I iw_7 1 rfl rfl 7 (by decide) mw325 rfl dX8_meanDepth_4 ?_
  refine lv_istore_n (lv' := [(1, .int 0), (0, .ref h0)]) hx hb dX8_meanDepth_7 rfl hl (by decide) rfl (fun ls hl => ?_)
  refine lv_iload_n hx hb dX8_meanDepth_8 rfl (lv_at hl 0 rfl) ?_
  refine lv_iconst (v := 1) hx hb dX8_meanDepth_9 (by decide) ?_
  refine lv_icmp_ge (tgt := 23) hx hb dX8_meanDepth_10 (by decide) (fun c9 => absurd c9 (by decide)) (fun _ => ?_)
  exact z_throwS hx hb hst hml hl.1 hlocks htab hg hown I rfl mw1230 mw26 (List.mem_of_getElem? (i := 4) rfl) h1_ArithmeticException_313 h2_ArithmeticException_313 h3_ArithmeticException_313 h4_ArithmeticException_313 (List.mem_of_getElem? (i := 13) rfl) dX8_meanDepth_13 dX8_meanDepth_16 dX8_meanDepth_17 dX8_meanDepth_19 dX8_meanDepth_22 (Nat.le_of_ble_eq_true rfl) (Nat.le_of_ble_eq_true rfl) (Nat.le_of_ble_eq_true rfl) (Nat.le_of_ble_eq_true rfl) (Nat.le_of_ble_eq_true rfl) (Nat.le_of_ble_eq_true rfl)
