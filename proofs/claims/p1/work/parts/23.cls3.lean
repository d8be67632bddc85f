/-! the other methods of the face -/
set_option maxHeartbeats 4000000 in
set_option maxRecDepth 100000 in
theorem z_RX8_tighten (l : Launch) (hst : l.stackTraces = false) (dC : Nat → ClassId) (dI : Nat → Nat → Nat) (xq1 : Nat) (xq2 : Nat) (xq3 : Nat) (xq4 : Nat) (xq5 : Nat) (xq6 : Nat) (xq7 : Nat) (xq8 : Nat) (xq9 : Nat) (xq10 : Nat) (xq11 : Nat) (xq12 : Nat) (xq13 : Nat) (xq14 : Nat) (xq15 : Nat) (xq16 : Nat) (xq17 : Nat) (xq18 : Nat) (xq19 : Nat) (xf21 : Nat → Int32) (xc25 : ClassId) (xc26 : ClassId) (xc27 : ClassId) (xc28 : ClassId) (h0 : Nat) (sz : Nat) : vx_Met l yX8_tighten (z_w yX8_tighten cX8_tighten 2 (some .int)) ({ frames := 12, cells := 0, slots := 0, locals := 260 }) (z_P dC dI [(h0, .inr (8, [.ref xq1, .ref xq2])), (xq1, .inr (7, [.ref xq2, .ref xq3, .ref xq4, .ref xq5, .ref xq6, .ref xq7, .ref xq8, .int 0, .int 0, .int 0, .int 0, .int 0])), (xq2, .inr (5, [.ref xq9, .ref xq10, .ref xq11, .ref xq12, .ref xq13, .ref xq14, .ref xq15, .ref xq16, .ref xq17, .ref xq18, .ref xq19, .int 0, .int 0])), (xq13, .inl (xc25, 4, .inl xf21)), (xq14, .inl (xc26, 4, .inl xf21)), (xq15, .inl (xc27, 4, .inl xf21)), (xq16, .inl (xc28, 4, .inl xf21))] [(xc25, .int), (xc26, .int), (xc27, .int), (xc28, .int)] sz [.ref h0]) (va_Qi (fun (r : Int32) (u : va_W × List (ClassId × FieldType)) => u = ([], []) ∧ r = 0) (z_B dC dI (va_A [(h0, .inr (8, [.ref xq1, .ref xq2])), (xq1, .inr (7, [.ref xq2, .ref xq3, .ref xq4, .ref xq5, .ref xq6, .ref xq7, .ref xq8, .int 0, .int 0, .int 0, .int 0, .int 0])), (xq2, .inr (5, [.ref xq9, .ref xq10, .ref xq11, .ref xq12, .ref xq13, .ref xq14, .ref xq15, .ref xq16, .ref xq17, .ref xq18, .ref xq19, .int 0, .int 0])), (xq13, .inl (xc25, 4, .inl xf21)), (xq14, .inl (xc26, 4, .inl xf21)), (xq15, .inl (xc27, 4, .inl xf21)), (xq16, .inl (xc28, 4, .inl xf21))] sz)) (va_A [(h0, .inr (8, [.ref xq1, .ref xq2])), (xq1, .inr (7, [.ref xq2, .ref xq3, .ref xq4, .ref xq5, .ref xq6, .ref xq7, .ref xq8, .int 0, .int 0, .int 0, .int 0, .int 0])), (xq2, .inr (5, [.ref xq9, .ref xq10, .ref xq11, .ref xq12, .ref xq13, .ref xq14, .ref xq15, .ref xq16, .ref xq17, .ref xq18, .ref xq19, .int 0, .int 0])), (xq13, .inl (xc25, 4, .inl xf21)), (xq14, .inl (xc26, 4, .inl xf21)), (xq15, .inl (xc27, 4, .inl xf21)), (xq16, .inl (xc28, 4, .inl xf21))] sz)) (z_XC (fun _ : String => False) (va_A [(h0, .inr (8, [.ref xq1, .ref xq2])), (xq1, .inr (7, [.ref xq2, .ref xq3, .ref xq4, .ref xq5, .ref xq6, .ref xq7, .ref xq8, .int 0, .int 0, .int 0, .int 0, .int 0])), (xq2, .inr (5, [.ref xq9, .ref xq10, .ref xq11, .ref xq12, .ref xq13, .ref xq14, .ref xq15, .ref xq16, .ref xq17, .ref xq18, .ref xq19, .int 0, .int 0])), (xq13, .inl (xc25, 4, .inl xf21)), (xq14, .inl (xc26, 4, .inl xf21)), (xq15, .inl (xc27, 4, .inl xf21)), (xq16, .inl (xc28, 4, .inl xf21))] sz)) 0 0 (va_A [(h0, .inr (8, [.ref xq1, .ref xq2])), (xq1, .inr (7, [.ref xq2, .ref xq3, .ref xq4, .ref xq5, .ref xq6, .ref xq7, .ref xq8, .int 0, .int 0, .int 0, .int 0, .int 0])), (xq2, .inr (5, [.ref xq9, .ref xq10, .ref xq11, .ref xq12, .ref xq13, .ref xq14, .ref xq15, .ref xq16, .ref xq17, .ref xq18, .ref xq19, .int 0, .int 0])), (xq13, .inl (xc25, 4, .inl xf21)), (xq14, .inl (xc26, 4, .inl xf21)), (xq15, .inl (xc27, 4, .inl xf21)), (xq16, .inl (xc28, 4, .inl xf21))] sz) := by
  refine vx_ofW (cc := cX8_tighten) (maxL := 2) (ret := (some .int)) (by decide) rfl ?_
  intro p e s m args below meth c s₁ B hml htab hv
  obtain ⟨rfl, rfl, I⟩ := z_open hv
  have hx := B.exec
  have hb := B.bytes
  have hr := B.returns
  have hts := atoms_spec (ws := z_w yX8_tighten cX8_tighten 2 (some .int)) B.pre
  have hg : z_G _ s := z_G.of hts
  have hown : s.vm.findClass RX8 = some m.cls := findClass_of_methodNamed B.named
  have hlocks := B.notSynchronized
  generalize va_A [(h0, .inr (8, [.ref xq1, .ref xq2])), (xq1, .inr (7, [.ref xq2, .ref xq3, .ref xq4, .ref xq5, .ref xq6, .ref xq7, .ref xq8, .int 0, .int 0, .int 0, .int 0, .int 0])), (xq2, .inr (5, [.ref xq9, .ref xq10, .ref xq11, .ref xq12, .ref xq13, .ref xq14, .ref xq15, .ref xq16, .ref xq17, .ref xq18, .ref xq19, .int 0, .int 0])), (xq13, .inl (xc25, 4, .inl xf21)), (xq14, .inl (xc26, 4, .inl xf21)), (xq15, .inl (xc27, 4, .inl xf21)), (xq16, .inl (xc28, 4, .inl xf21))] s.heap.size = A at I ⊢
  have hl := lv_entry ([.ref h0]) (n := 2) (Nat.le_of_ble_eq_true rfl)
  rw [lg_entry_eq]
  generalize (lg_sl ([.ref h0]) ++ List.replicate (2 - (lg_sl ([.ref h0])).length) Slot.unset).toArray = ls at hl ⊢
  have hl : lv_has ls 2 [(0, .ref h0)] := hl
  refine lv_aload_n hx hb dX8_tighten_0 rfl (lv_at hl 0 rfl) ?_
  refine z_get (C := RX8) (T := TX8) (N := 2) (ci := 8) (v := .ref xq1) hx hb hg hown I iw_8 0 rfl rfl 0 (by decide) mw357 rfl dX8_tighten_1 ?_
  refine z_calli (wr := [(h0, .inr (8, [.ref xq1, .ref xq2])), (xq2, .inr (5, [.ref xq9, .ref xq10, .ref xq11, .ref xq12, .ref xq13, .ref xq14, .ref xq15, .ref xq16, .ref xq17, .ref xq18, .ref xq19, .int 0, .int 0])), (xq13, .inl (xc25, 4, .inl xf21)), (xq14, .inl (xc26, 4, .inl xf21)), (xq15, .inl (xc27, 4, .inl xf21)), (xq16, .inl (xc28, 4, .inl xf21))]) (va_runV (As := []) (rest := []) ⟨hx, hb, hml, hown, hts⟩ (z_RX7_isPlanted l dC dI xq1 xq2 xq3 xq4 xq5 xq6 xq7 xq8  s.heap.size) (cwV 0 hts (z_gV z_T.w mw464 mw465 mw466 mw2 mw467) rfl rfl rfl (by decide +kernel) ⟨Nat.le_of_ble_eq_true rfl, Nat.le_of_ble_eq_true rfl⟩) (z_preV I [1] [] rfl rfl rfl rfl (ci := 7) (q0 := 1) rfl rfl) rfl rfl hl.1 rfl (lv_room (Nat.le_of_ble_eq_true rfl)) dX8_tighten_4 ⟨Nat.le_of_ble_eq_true rfl, Nat.le_of_ble_eq_true rfl⟩) I [1] [0, 2, 3, 4, 5, 6] rfl rfl (by decide) (by decide) (fun r1 u1 H locs hw1 I => ?_)
  obtain ⟨hu1, hp1⟩ := hw1
  subst hu1
  have I : z_I A dC dI [(h0, .inr (8, [.ref xq1, .ref xq2])), (xq2, .inr (5, [.ref xq9, .ref xq10, .ref xq11, .ref xq12, .ref xq13, .ref xq14, .ref xq15, .ref xq16, .ref xq17, .ref xq18, .ref xq19, .int 0, .int 0])), (xq13, .inl (xc25, 4, .inl xf21)), (xq14, .inl (xc26, 4, .inl xf21)), (xq15, .inl (xc27, 4, .inl xf21)), (xq16, .inl (xc28, 4, .inl xf21)), (xq1, .inr (7, [.ref xq2, .ref xq3, .ref xq4, .ref xq5, .ref xq6, .ref xq7, .ref xq8, .int 0, .int 0, .int 0, .int 0, .int 0]))] [(xc25, .int), (xc26, .int), (xc27, .int), (xc28, .int)] s H _ := I
  obtain rfl : r1 = 0 := hp1
  refine lv_if_eq (tgt := 20) hx hb dX8_tighten_7 (by decide) (fun _ => ?_) (fun c9 => absurd c9 (by decide))
  refine lv_aload_n hx hb dX8_tighten_20 rfl (lv_at hl 0 rfl) ?_
  refine z_get (C := RX8) (T := TX8) (N := 2) (ci := 8) (v := .ref xq2) hx hb hg hown I iw_8 0 rfl rfl 1 (by decide) mw358 rfl dX8_tighten_21 ?_
  refine z_calli (wr := [(h0, .inr (8, [.ref xq1, .ref xq2])), (xq1, .inr (7, [.ref xq2, .ref xq3, .ref xq4, .ref xq5, .ref xq6, .ref xq7, .ref xq8, .int 0, .int 0, .int 0, .int 0, .int 0]))]) (va_runV (As := []) (rest := []) ⟨hx, hb, hml, hown, hts⟩ (z_RX5_narrowBounds l dC dI xq2 xq9 xq10 xq11 xq12 xq13 xq14 xq15 xq16 xq17 xq18 xq19 xf21 xc25 xc26 xc27 xc28  H.size) (cwV 0 hts (z_gV z_T.w mw556 mw557 mw558 mw3 mw559) rfl rfl rfl (by decide +kernel) ⟨Nat.le_of_ble_eq_true rfl, Nat.le_of_ble_eq_true rfl⟩) (z_preV I [1, 2, 3, 4, 5] [0, 1, 2, 3] rfl rfl rfl rfl (ci := 5) (q0 := 1) rfl rfl) rfl rfl hl.1 rfl (lv_room (Nat.le_of_ble_eq_true rfl)) dX8_tighten_24 ⟨Nat.le_of_ble_eq_true rfl, Nat.le_of_ble_eq_true rfl⟩) I [1, 2, 3, 4, 5] [0, 6] rfl rfl (by decide) (by decide) (fun r2 u2 H locs hw2 I => ?_)
  obtain ⟨hu2, hp2⟩ := hw2
  subst hu2
  have I : z_I A dC dI [(h0, .inr (8, [.ref xq1, .ref xq2])), (xq1, .inr (7, [.ref xq2, .ref xq3, .ref xq4, .ref xq5, .ref xq6, .ref xq7, .ref xq8, .int 0, .int 0, .int 0, .int 0, .int 0]))] [(xc25, .int), (xc26, .int), (xc27, .int), (xc28, .int)] s H _ := I
  obtain rfl : r2 = 0 := hp2
  refine lv_istore_n (lv' := [(1, .int 0), (0, .ref h0)]) hx hb dX8_tighten_27 rfl hl (by decide) rfl (fun ls hl => ?_)
  refine lv_iload_n hx hb dX8_tighten_28 rfl (lv_at hl 0 rfl) ?_
  refine lv_if_ge (tgt := 42) hx hb dX8_tighten_29 (by decide) (fun _ => ?_) (fun c9 => absurd c9 (by decide))
  refine lv_iload_n hx hb dX8_tighten_42 rfl (lv_at hl 0 rfl) ?_
  have I := I.sub (ws' := []) [] rfl rfl rfl
  have I := I.subT (t' := []) [] rfl
  refine W.widen (k := 0) (n := 0) (Nat.le_of_ble_eq_true rfl) (Nat.le_of_ble_eq_true rfl) ?_
  refine vx_ret ?_
  exact z_iret hx hb hr hlocks I ⟨rfl, rfl⟩ dX8_tighten_43
set_option maxHeartbeats 4000000 in
set_option maxRecDepth 100000 in
theorem z_RX8_bestByAll (l : Launch) (hst : l.stackTraces = false) (dC : Nat → ClassId) (dI : Nat → Nat → Nat) (xq1 : Nat) (xq2 : Nat) (xq9 : Nat) (xq10 : Nat) (xq11 : Nat) (xq12 : Nat) (xq13 : Nat) (xq14 : Nat) (xq15 : Nat) (xq16 : Nat) (xq17 : Nat) (xq18 : Nat) (xq19 : Nat) (xf21 : Nat → Int32) (xc22 : ClassId) (xq32 : Nat) (xc33 : ClassId) (xf34 : Nat → Int64) (h0 : Nat) (sz : Nat) : vx_Met l yX8_bestByAll (z_w yX8_bestByAll cX8_bestByAll 2 (some .int)) ({ frames := 12, cells := 0, slots := 0, locals := 260 }) (z_P dC dI [(h0, .inr (8, [.ref xq1, .ref xq2])), (xq2, .inr (5, [.ref xq9, .ref xq10, .ref xq11, .ref xq12, .ref xq13, .ref xq14, .ref xq15, .ref xq16, .ref xq17, .ref xq18, .ref xq19, .int 0, .int 0])), (xq10, .inl (xc22, 4, .inl xf21)), (xq18, .inr (4, [.ref xq32, .long 1, .long 0])), (xq32, .inl (xc33, 4, .inr (.inl xf34)))] [(xc22, .int), (xc33, .long)] sz [.ref h0]) (va_Qi (fun (r : Int32) (u : va_W × List (ClassId × FieldType)) => u = ([], []) ∧ r = 0) (z_B dC dI (va_A [(h0, .inr (8, [.ref xq1, .ref xq2])), (xq2, .inr (5, [.ref xq9, .ref xq10, .ref xq11, .ref xq12, .ref xq13, .ref xq14, .ref xq15, .ref xq16, .ref xq17, .ref xq18, .ref xq19, .int 0, .int 0])), (xq10, .inl (xc22, 4, .inl xf21)), (xq18, .inr (4, [.ref xq32, .long 1, .long 0])), (xq32, .inl (xc33, 4, .inr (.inl xf34)))] sz)) (va_A [(h0, .inr (8, [.ref xq1, .ref xq2])), (xq2, .inr (5, [.ref xq9, .ref xq10, .ref xq11, .ref xq12, .ref xq13, .ref xq14, .ref xq15, .ref xq16, .ref xq17, .ref xq18, .ref xq19, .int 0, .int 0])), (xq10, .inl (xc22, 4, .inl xf21)), (xq18, .inr (4, [.ref xq32, .long 1, .long 0])), (xq32, .inl (xc33, 4, .inr (.inl xf34)))] sz)) (z_XC (fun _ : String => False) (va_A [(h0, .inr (8, [.ref xq1, .ref xq2])), (xq2, .inr (5, [.ref xq9, .ref xq10, .ref xq11, .ref xq12, .ref xq13, .ref xq14, .ref xq15, .ref xq16, .ref xq17, .ref xq18, .ref xq19, .int 0, .int 0])), (xq10, .inl (xc22, 4, .inl xf21)), (xq18, .inr (4, [.ref xq32, .long 1, .long 0])), (xq32, .inl (xc33, 4, .inr (.inl xf34)))] sz)) 0 0 (va_A [(h0, .inr (8, [.ref xq1, .ref xq2])), (xq2, .inr (5, [.ref xq9, .ref xq10, .ref xq11, .ref xq12, .ref xq13, .ref xq14, .ref xq15, .ref xq16, .ref xq17, .ref xq18, .ref xq19, .int 0, .int 0])), (xq10, .inl (xc22, 4, .inl xf21)), (xq18, .inr (4, [.ref xq32, .long 1, .long 0])), (xq32, .inl (xc33, 4, .inr (.inl xf34)))] sz) := by
  refine vx_ofW (cc := cX8_bestByAll) (maxL := 2) (ret := (some .int)) (by decide) rfl ?_
  intro p e s m args below meth c s₁ B hml htab hv
  obtain ⟨rfl, rfl, I⟩ := z_open hv
  have hx := B.exec
  have hb := B.bytes
  have hr := B.returns
  have hts := atoms_spec (ws := z_w yX8_bestByAll cX8_bestByAll 2 (some .int)) B.pre
  have hg : z_G _ s := z_G.of hts
  have hown : s.vm.findClass RX8 = some m.cls := findClass_of_methodNamed B.named
  have hlocks := B.notSynchronized
  generalize va_A [(h0, .inr (8, [.ref xq1, .ref xq2])), (xq2, .inr (5, [.ref xq9, .ref xq10, .ref xq11, .ref xq12, .ref xq13, .ref xq14, .ref xq15, .ref xq16, .ref xq17, .ref xq18, .ref xq19, .int 0, .int 0])), (xq10, .inl (xc22, 4, .inl xf21)), (xq18, .inr (4, [.ref xq32, .long 1, .long 0])), (xq32, .inl (xc33, 4, .inr (.inl xf34)))] s.heap.size = A at I ⊢
  have hl := lv_entry ([.ref h0]) (n := 2) (Nat.le_of_ble_eq_true rfl)
  rw [lg_entry_eq]
  generalize (lg_sl ([.ref h0]) ++ List.replicate (2 - (lg_sl ([.ref h0])).length) Slot.unset).toArray = ls at hl ⊢
  have hl : lv_has ls 2 [(0, .ref h0)] := hl
  refine lv_aload_n hx hb dX8_bestByAll_0 rfl (lv_at hl 0 rfl) ?_
  refine z_get (C := RX8) (T := TX8) (N := 2) (ci := 8) (v := .ref xq2) hx hb hg hown I iw_8 0 rfl rfl 1 (by decide) mw358 rfl dX8_bestByAll_1 ?_
  refine z_calli (wr := [(h0, .inr (8, [.ref xq1, .ref xq2])), (xq10, .inl (xc22, 4, .inl xf21)), (xq18, .inr (4, [.ref xq32, .long 1, .long 0])), (xq32, .inl (xc33, 4, .inr (.inl xf34)))]) (va_runV (As := []) (rest := []) ⟨hx, hb, hml, hown, hts⟩ (z_RX5_wholeCount l dC dI xq2 xq9 xq10 xq11 xq12 xq13 xq14 xq15 xq16 xq17 xq18 xq19  s.heap.size) (cwV 0 hts (z_gV z_T.w mw763 mw764 mw765 mw3 mw766) rfl rfl rfl (by decide +kernel) ⟨Nat.le_of_ble_eq_true rfl, Nat.le_of_ble_eq_true rfl⟩) (z_preV I [1] [] rfl rfl rfl rfl (ci := 5) (q0 := 1) rfl rfl) rfl rfl hl.1 rfl (lv_room (Nat.le_of_ble_eq_true rfl)) dX8_bestByAll_4 ⟨Nat.le_of_ble_eq_true rfl, Nat.le_of_ble_eq_true rfl⟩) I [1] [0, 2, 3, 4] rfl rfl (by decide) (by decide) (fun r1 u1 H locs hw1 I => ?_)
  obtain ⟨hu1, hp1⟩ := hw1
  subst hu1
  have I : z_I A dC dI [(h0, .inr (8, [.ref xq1, .ref xq2])), (xq10, .inl (xc22, 4, .inl xf21)), (xq18, .inr (4, [.ref xq32, .long 1, .long 0])), (xq32, .inl (xc33, 4, .inr (.inl xf34))), (xq2, .inr (5, [.ref xq9, .ref xq10, .ref xq11, .ref xq12, .ref xq13, .ref xq14, .ref xq15, .ref xq16, .ref xq17, .ref xq18, .ref xq19, .int 0, .int 0]))] [(xc22, .int), (xc33, .long)] s H _ := I
  obtain rfl : r1 = 0 := hp1
  refine lv_aload_n hx hb dX8_bestByAll_7 rfl (lv_at hl 0 rfl) ?_
  refine z_get (C := RX8) (T := TX8) (N := 2) (ci := 8) (v := .ref xq2) hx hb hg hown I iw_8 0 rfl rfl 1 (by decide) mw358 rfl dX8_bestByAll_8 ?_
  refine z_get (C := RX5) (T := TX5) (N := 13) (ci := 5) (v := .int 0) hx hb hg hown I iw_5 4 rfl rfl 11 (by decide) mw171 rfl dX8_bestByAll_11 ?_
  refine lv_icmp_lt (tgt := 30) hx hb dX8_bestByAll_14 (by decide) (fun c9 => absurd c9 (by decide)) (fun _ => ?_)
  refine lv_aload_n hx hb dX8_bestByAll_17 rfl (lv_at hl 0 rfl) ?_
  refine z_get (C := RX8) (T := TX8) (N := 2) (ci := 8) (v := .ref xq2) hx hb hg hown I iw_8 0 rfl rfl 1 (by decide) mw358 rfl dX8_bestByAll_18 ?_
  refine z_calli (wr := [(h0, .inr (8, [.ref xq1, .ref xq2])), (xq10, .inl (xc22, 4, .inl xf21)), (xq18, .inr (4, [.ref xq32, .long 1, .long 0])), (xq32, .inl (xc33, 4, .inr (.inl xf34)))]) (va_runV (As := []) (rest := []) ⟨hx, hb, hml, hown, hts⟩ (z_RX5_pointCount l dC dI xq2 xq9 xq10 xq11 xq12 xq13 xq14 xq15 xq16 xq17 xq18 xq19  H.size) (cwV 0 hts (z_gV z_T.w mw1051 mw1052 mw1053 mw3 mw1054) rfl rfl rfl (by decide +kernel) ⟨Nat.le_of_ble_eq_true rfl, Nat.le_of_ble_eq_true rfl⟩) (z_preV I [4] [] rfl rfl rfl rfl (ci := 5) (q0 := 4) rfl rfl) rfl rfl hl.1 rfl (lv_room (Nat.le_of_ble_eq_true rfl)) dX8_bestByAll_21 ⟨Nat.le_of_ble_eq_true rfl, Nat.le_of_ble_eq_true rfl⟩) I [4] [0, 1, 2, 3] rfl rfl (by decide) (by decide) (fun r2 u2 H locs hw2 I => ?_)
  obtain ⟨hu2, hp2⟩ := hw2
  subst hu2
  have I : z_I A dC dI [(h0, .inr (8, [.ref xq1, .ref xq2])), (xq10, .inl (xc22, 4, .inl xf21)), (xq18, .inr (4, [.ref xq32, .long 1, .long 0])), (xq32, .inl (xc33, 4, .inr (.inl xf34))), (xq2, .inr (5, [.ref xq9, .ref xq10, .ref xq11, .ref xq12, .ref xq13, .ref xq14, .ref xq15, .ref xq16, .ref xq17, .ref xq18, .ref xq19, .int 0, .int 0]))] [(xc22, .int), (xc33, .long)] s H _ := I
  obtain rfl : r2 = 1 := hp2
  refine lv_sipush (v := 6000) hx hb dX8_bestByAll_24 (by decide) ?_
  refine lv_icmp_le (tgt := 40) hx hb dX8_bestByAll_27 (by decide) (fun _ => ?_) (fun c9 => absurd c9 (by decide))
  refine lv_aload_n hx hb dX8_bestByAll_40 rfl (lv_at hl 0 rfl) ?_
  refine z_get (C := RX8) (T := TX8) (N := 2) (ci := 8) (v := .ref xq2) hx hb hg hown I iw_8 0 rfl rfl 1 (by decide) mw358 rfl dX8_bestByAll_41 ?_
  refine z_calli (wr := [(h0, .inr (8, [.ref xq1, .ref xq2]))]) (va_runV (As := []) (rest := []) ⟨hx, hb, hml, hown, hts⟩ (z_RX5_leastCost l dC dI xq2 xq9 xq10 xq11 xq12 xq13 xq14 xq15 xq16 xq17 xq18 xq19 xf21 xc22 xq32 xc33 xf34  H.size) (cwV 0 hts (z_gV z_T.w mw1056 mw1057 mw1058 mw3 mw1059) rfl rfl rfl (by decide +kernel) ⟨Nat.le_of_ble_eq_true rfl, Nat.le_of_ble_eq_true rfl⟩) (z_preV I [4, 1, 2, 3] [0, 1] rfl rfl rfl rfl (ci := 5) (q0 := 4) rfl rfl) rfl rfl hl.1 rfl (lv_room (Nat.le_of_ble_eq_true rfl)) dX8_bestByAll_44 ⟨Nat.le_of_ble_eq_true rfl, Nat.le_of_ble_eq_true rfl⟩) I [4, 1, 2, 3] [0] rfl rfl (by decide) (by decide) (fun r3 u3 H locs hw3 I => ?_)
  obtain ⟨hu3, hp3⟩ := hw3
  subst hu3
  have I : z_I A dC dI [(h0, .inr (8, [.ref xq1, .ref xq2]))] [(xc22, .int), (xc33, .long)] s H _ := I
  obtain rfl : r3 = 0 := hp3
  refine lv_istore_n (lv' := [(1, .int 0), (0, .ref h0)]) hx hb dX8_bestByAll_47 rfl hl (by decide) rfl (fun ls hl => ?_)
  refine lv_iload_n hx hb dX8_bestByAll_48 rfl (lv_at hl 0 rfl) ?_
  refine lv_sipush (v := 1000) hx hb dX8_bestByAll_49 (by decide) ?_
  refine lv_icmp_ne (tgt := 65) hx hb dX8_bestByAll_52 (by decide) (fun _ => ?_) (fun c9 => absurd c9 (by decide))
  refine lv_iload_n hx hb dX8_bestByAll_65 rfl (lv_at hl 0 rfl) ?_
  have I := I.sub (ws' := []) [] rfl rfl rfl
  have I := I.subT (t' := []) [] rfl
  refine W.widen (k := 0) (n := 0) (Nat.le_of_ble_eq_true rfl) (Nat.le_of_ble_eq_true rfl) ?_
  refine vx_ret ?_
  exact z_iret hx hb hr hlocks I ⟨rfl, rfl⟩ dX8_bestByAll_66
set_option maxHeartbeats 4000000 in
set_option maxRecDepth 100000 in
theorem z_RX8_nodes (l : Launch) (dC : Nat → ClassId) (dI : Nat → Nat → Nat) (xq1 : Nat) (xq2 : Nat) (xq3 : Nat) (xq4 : Nat) (xq5 : Nat) (xq6 : Nat) (xq7 : Nat) (xq8 : Nat) (h0 : Nat) (sz : Nat) : Met l yX8_nodes (z_w yX8_nodes cX8_nodes 1 (some .int)) ({ frames := 8, cells := 0, slots := 0, locals := 140 }) (z_P dC dI [(h0, .inr (8, [.ref xq1, .ref xq2])), (xq1, .inr (7, [.ref xq2, .ref xq3, .ref xq4, .ref xq5, .ref xq6, .ref xq7, .ref xq8, .int 0, .int 0, .int 0, .int 0, .int 0]))] [] sz [.ref h0]) (va_Qi (fun (r : Int32) (u : va_W × List (ClassId × FieldType)) => u = ([(h0, .inr (8, [.ref xq1, .ref xq2])), (xq1, .inr (7, [.ref xq2, .ref xq3, .ref xq4, .ref xq5, .ref xq6, .ref xq7, .ref xq8, .int 0, .int 0, .int 0, .int 0, .int 0]))], []) ∧ r = 0) (z_B dC dI (va_A [(h0, .inr (8, [.ref xq1, .ref xq2])), (xq1, .inr (7, [.ref xq2, .ref xq3, .ref xq4, .ref xq5, .ref xq6, .ref xq7, .ref xq8, .int 0, .int 0, .int 0, .int 0, .int 0]))] sz)) (va_A [(h0, .inr (8, [.ref xq1, .ref xq2])), (xq1, .inr (7, [.ref xq2, .ref xq3, .ref xq4, .ref xq5, .ref xq6, .ref xq7, .ref xq8, .int 0, .int 0, .int 0, .int 0, .int 0]))] sz)) 0 0 (va_A [(h0, .inr (8, [.ref xq1, .ref xq2])), (xq1, .inr (7, [.ref xq2, .ref xq3, .ref xq4, .ref xq5, .ref xq6, .ref xq7, .ref xq8, .int 0, .int 0, .int 0, .int 0, .int 0]))] sz) := by
  refine Met.ofW (cc := cX8_nodes) (maxL := 1) (ret := (some .int)) (by decide) rfl ?_
  intro p e s m args below meth c s₁ B hml hv
  obtain ⟨rfl, rfl, I⟩ := z_open hv
  have hx := B.exec
  have hb := B.bytes
  have hr := B.returns
  have hts := atoms_spec (ws := z_w yX8_nodes cX8_nodes 1 (some .int)) B.pre
  have hg : z_G _ s := z_G.of hts
  have hown : s.vm.findClass RX8 = some m.cls := findClass_of_methodNamed B.named
  have hlocks := B.notSynchronized
  generalize va_A [(h0, .inr (8, [.ref xq1, .ref xq2])), (xq1, .inr (7, [.ref xq2, .ref xq3, .ref xq4, .ref xq5, .ref xq6, .ref xq7, .ref xq8, .int 0, .int 0, .int 0, .int 0, .int 0]))] s.heap.size = A at I ⊢
  have hl := lv_entry ([.ref h0]) (n := 1) (Nat.le_of_ble_eq_true rfl)
  rw [lg_entry_eq]
  generalize (lg_sl ([.ref h0]) ++ List.replicate (1 - (lg_sl ([.ref h0])).length) Slot.unset).toArray = ls at hl ⊢
  have hl : lv_has ls 1 [(0, .ref h0)] := hl
  refine lv_aload_n hx hb dX8_nodes_0 rfl (lv_at hl 0 rfl) ?_
  refine z_get (C := RX8) (T := TX8) (N := 2) (ci := 8) (v := .ref xq1) hx hb hg hown I iw_8 0 rfl rfl 0 (by decide) mw357 rfl dX8_nodes_1 ?_
  refine z_get (C := RX7) (T := TX7) (N := 12) (ci := 7) (v := .int 0) hx hb hg hown I iw_7 1 rfl rfl 7 (by decide) mw325 rfl dX8_nodes_4 ?_
  have I := I.subT (t' := []) [] rfl
  refine W.widen (k := 0) (n := 0) (Nat.le_of_ble_eq_true rfl) (Nat.le_of_ble_eq_true rfl) ?_
  exact z_iret hx hb hr hlocks I ⟨rfl, rfl⟩ dX8_nodes_7
set_option maxHeartbeats 4000000 in
set_option maxRecDepth 100000 in
theorem z_RX8_open (l : Launch) (dC : Nat → ClassId) (dI : Nat → Nat → Nat) (xq1 : Nat) (xq2 : Nat) (xq3 : Nat) (xq4 : Nat) (xq5 : Nat) (xq6 : Nat) (xq7 : Nat) (xq8 : Nat) (h0 : Nat) (sz : Nat) : Met l yX8_open (z_w yX8_open cX8_open 1 (some .int)) ({ frames := 10, cells := 0, slots := 0, locals := 200 }) (z_P dC dI [(h0, .inr (8, [.ref xq1, .ref xq2])), (xq1, .inr (7, [.ref xq2, .ref xq3, .ref xq4, .ref xq5, .ref xq6, .ref xq7, .ref xq8, .int 0, .int 0, .int 0, .int 0, .int 0]))] [] sz [.ref h0]) (va_Qi (fun (r : Int32) (u : va_W × List (ClassId × FieldType)) => u = ([(h0, .inr (8, [.ref xq1, .ref xq2])), (xq1, .inr (7, [.ref xq2, .ref xq3, .ref xq4, .ref xq5, .ref xq6, .ref xq7, .ref xq8, .int 0, .int 0, .int 0, .int 0, .int 0]))], []) ∧ r = 0) (z_B dC dI (va_A [(h0, .inr (8, [.ref xq1, .ref xq2])), (xq1, .inr (7, [.ref xq2, .ref xq3, .ref xq4, .ref xq5, .ref xq6, .ref xq7, .ref xq8, .int 0, .int 0, .int 0, .int 0, .int 0]))] sz)) (va_A [(h0, .inr (8, [.ref xq1, .ref xq2])), (xq1, .inr (7, [.ref xq2, .ref xq3, .ref xq4, .ref xq5, .ref xq6, .ref xq7, .ref xq8, .int 0, .int 0, .int 0, .int 0, .int 0]))] sz)) 0 0 (va_A [(h0, .inr (8, [.ref xq1, .ref xq2])), (xq1, .inr (7, [.ref xq2, .ref xq3, .ref xq4, .ref xq5, .ref xq6, .ref xq7, .ref xq8, .int 0, .int 0, .int 0, .int 0, .int 0]))] sz) := by
  refine Met.ofW (cc := cX8_open) (maxL := 1) (ret := (some .int)) (by decide) rfl ?_
  intro p e s m args below meth c s₁ B hml hv
  obtain ⟨rfl, rfl, I⟩ := z_open hv
  have hx := B.exec
  have hb := B.bytes
  have hr := B.returns
  have hts := atoms_spec (ws := z_w yX8_open cX8_open 1 (some .int)) B.pre
  have hg : z_G _ s := z_G.of hts
  have hown : s.vm.findClass RX8 = some m.cls := findClass_of_methodNamed B.named
  have hlocks := B.notSynchronized
  generalize va_A [(h0, .inr (8, [.ref xq1, .ref xq2])), (xq1, .inr (7, [.ref xq2, .ref xq3, .ref xq4, .ref xq5, .ref xq6, .ref xq7, .ref xq8, .int 0, .int 0, .int 0, .int 0, .int 0]))] s.heap.size = A at I ⊢
  have hl := lv_entry ([.ref h0]) (n := 1) (Nat.le_of_ble_eq_true rfl)
  rw [lg_entry_eq]
  generalize (lg_sl ([.ref h0]) ++ List.replicate (1 - (lg_sl ([.ref h0])).length) Slot.unset).toArray = ls at hl ⊢
  have hl : lv_has ls 1 [(0, .ref h0)] := hl
  refine lv_aload_n hx hb dX8_open_0 rfl (lv_at hl 0 rfl) ?_
  refine z_get (C := RX8) (T := TX8) (N := 2) (ci := 8) (v := .ref xq1) hx hb hg hown I iw_8 0 rfl rfl 0 (by decide) mw357 rfl dX8_open_1 ?_
  refine z_calli (wr := [(h0, .inr (8, [.ref xq1, .ref xq2]))]) (va_runV (As := []) (rest := []) ⟨hx, hb, hml, hown, hts⟩ (z_RX7_openCount l dC dI xq1 xq2 xq3 xq4 xq5 xq6 xq7 xq8  s.heap.size) (cwV 0 hts (z_gV z_T.w mw372 mw373 mw374 mw2 mw375) rfl rfl rfl (by decide +kernel) ⟨Nat.le_of_ble_eq_true rfl, Nat.le_of_ble_eq_true rfl⟩) (z_preV I [1] [] rfl rfl rfl rfl (ci := 7) (q0 := 1) rfl rfl) rfl rfl hl.1 rfl (lv_room (Nat.le_of_ble_eq_true rfl)) dX8_open_4 ⟨Nat.le_of_ble_eq_true rfl, Nat.le_of_ble_eq_true rfl⟩) I [1] [0] rfl rfl (by decide) (by decide) (fun r1 u1 H locs hw1 I => ?_)
  obtain ⟨hu1, hp1⟩ := hw1
  subst hu1
  have I : z_I A dC dI [(h0, .inr (8, [.ref xq1, .ref xq2])), (xq1, .inr (7, [.ref xq2, .ref xq3, .ref xq4, .ref xq5, .ref xq6, .ref xq7, .ref xq8, .int 0, .int 0, .int 0, .int 0, .int 0]))] [] s H _ := I
  obtain rfl : r1 = 0 := hp1
  have I := I.subT (t' := []) [] rfl
  refine W.widen (k := 0) (n := 0) (Nat.le_of_ble_eq_true rfl) (Nat.le_of_ble_eq_true rfl) ?_
  exact z_iret hx hb hr hlocks I ⟨rfl, rfl⟩ dX8_open_7
set_option maxHeartbeats 4000000 in
set_option maxRecDepth 100000 in
theorem z_RX8_cuts (l : Launch) (dC : Nat → ClassId) (dI : Nat → Nat → Nat) (xq1 : Nat) (xq2 : Nat) (xq3 : Nat) (xq4 : Nat) (xq5 : Nat) (xq6 : Nat) (xq7 : Nat) (xq8 : Nat) (h0 : Nat) (sz : Nat) : Met l yX8_cuts (z_w yX8_cuts cX8_cuts 1 (some .int)) ({ frames := 8, cells := 0, slots := 0, locals := 140 }) (z_P dC dI [(h0, .inr (8, [.ref xq1, .ref xq2])), (xq1, .inr (7, [.ref xq2, .ref xq3, .ref xq4, .ref xq5, .ref xq6, .ref xq7, .ref xq8, .int 0, .int 0, .int 0, .int 0, .int 0]))] [] sz [.ref h0]) (va_Qi (fun (r : Int32) (u : va_W × List (ClassId × FieldType)) => u = ([(h0, .inr (8, [.ref xq1, .ref xq2])), (xq1, .inr (7, [.ref xq2, .ref xq3, .ref xq4, .ref xq5, .ref xq6, .ref xq7, .ref xq8, .int 0, .int 0, .int 0, .int 0, .int 0]))], []) ∧ r = 0) (z_B dC dI (va_A [(h0, .inr (8, [.ref xq1, .ref xq2])), (xq1, .inr (7, [.ref xq2, .ref xq3, .ref xq4, .ref xq5, .ref xq6, .ref xq7, .ref xq8, .int 0, .int 0, .int 0, .int 0, .int 0]))] sz)) (va_A [(h0, .inr (8, [.ref xq1, .ref xq2])), (xq1, .inr (7, [.ref xq2, .ref xq3, .ref xq4, .ref xq5, .ref xq6, .ref xq7, .ref xq8, .int 0, .int 0, .int 0, .int 0, .int 0]))] sz)) 0 0 (va_A [(h0, .inr (8, [.ref xq1, .ref xq2])), (xq1, .inr (7, [.ref xq2, .ref xq3, .ref xq4, .ref xq5, .ref xq6, .ref xq7, .ref xq8, .int 0, .int 0, .int 0, .int 0, .int 0]))] sz) := by
  refine Met.ofW (cc := cX8_cuts) (maxL := 1) (ret := (some .int)) (by decide) rfl ?_
  intro p e s m args below meth c s₁ B hml hv
  obtain ⟨rfl, rfl, I⟩ := z_open hv
  have hx := B.exec
  have hb := B.bytes
  have hr := B.returns
  have hts := atoms_spec (ws := z_w yX8_cuts cX8_cuts 1 (some .int)) B.pre
  have hg : z_G _ s := z_G.of hts
  have hown : s.vm.findClass RX8 = some m.cls := findClass_of_methodNamed B.named
  have hlocks := B.notSynchronized
  generalize va_A [(h0, .inr (8, [.ref xq1, .ref xq2])), (xq1, .inr (7, [.ref xq2, .ref xq3, .ref xq4, .ref xq5, .ref xq6, .ref xq7, .ref xq8, .int 0, .int 0, .int 0, .int 0, .int 0]))] s.heap.size = A at I ⊢
  have hl := lv_entry ([.ref h0]) (n := 1) (Nat.le_of_ble_eq_true rfl)
  rw [lg_entry_eq]
  generalize (lg_sl ([.ref h0]) ++ List.replicate (1 - (lg_sl ([.ref h0])).length) Slot.unset).toArray = ls at hl ⊢
  have hl : lv_has ls 1 [(0, .ref h0)] := hl
  refine lv_aload_n hx hb dX8_cuts_0 rfl (lv_at hl 0 rfl) ?_
  refine z_get (C := RX8) (T := TX8) (N := 2) (ci := 8) (v := .ref xq1) hx hb hg hown I iw_8 0 rfl rfl 0 (by decide) mw357 rfl dX8_cuts_1 ?_
  refine z_get (C := RX7) (T := TX7) (N := 12) (ci := 7) (v := .int 0) hx hb hg hown I iw_7 1 rfl rfl 8 (by decide) mw327 rfl dX8_cuts_4 ?_
  have I := I.subT (t' := []) [] rfl
  refine W.widen (k := 0) (n := 0) (Nat.le_of_ble_eq_true rfl) (Nat.le_of_ble_eq_true rfl) ?_
  exact z_iret hx hb hr hlocks I ⟨rfl, rfl⟩ dX8_cuts_7
set_option maxHeartbeats 4000000 in
set_option maxRecDepth 100000 in
theorem z_RX8_addColumn (l : Launch) (hst : l.stackTraces = false) (dC : Nat → ClassId) (dI : Nat → Nat → Nat) (xq1 : Nat) (xq2 : Nat) (xq3 : Nat) (xq4 : Nat) (xq5 : Nat) (xq6 : Nat) (xq7 : Nat) (xq8 : Nat) (xq9 : Nat) (xq10 : Nat) (xq11 : Nat) (xq12 : Nat) (xq13 : Nat) (xq14 : Nat) (xq15 : Nat) (xq16 : Nat) (xq17 : Nat) (xq18 : Nat) (xq19 : Nat) (xc20 : ClassId) (xf21 : Nat → Int32) (xc22 : ClassId) (xc23 : ClassId) (xc24 : ClassId) (xc25 : ClassId) (xc26 : ClassId) (h0 : Nat) (p0 : Int32) (p1 : Int32) (p2 : Int32) (p3 : Int32) (sz : Nat) : vx_Met l yX8_addColumn (z_w yX8_addColumn cX8_addColumn 5 (some .int)) ({ frames := 10, cells := 1, slots := 6, locals := 200 }) (z_P dC dI [(h0, .inr (8, [.ref xq1, .ref xq2])), (xq1, .inr (7, [.ref xq2, .ref xq3, .ref xq4, .ref xq5, .ref xq6, .ref xq7, .ref xq8, .int 0, .int 0, .int 0, .int 0, .int 0])), (xq2, .inr (5, [.ref xq9, .ref xq10, .ref xq11, .ref xq12, .ref xq13, .ref xq14, .ref xq15, .ref xq16, .ref xq17, .ref xq18, .ref xq19, .int 0, .int 0])), (xq9, .inl (xc20, 4, .inl xf21)), (xq10, .inl (xc22, 4, .inl xf21)), (xq11, .inl (xc23, 4, .inl xf21)), (xq12, .inl (xc24, 4, .inl xf21)), (xq13, .inl (xc25, 4, .inl xf21)), (xq14, .inl (xc26, 4, .inl xf21))] [(xc20, .int), (xc22, .int), (xc23, .int), (xc24, .boolean), (xc25, .int), (xc26, .int)] sz [.ref h0, .int p0, .int p1, .int p2, .int p3]) (va_Qi (fun (r : Int32) (u : va_W × List (ClassId × FieldType)) => u = ([], []) ∧ r = 0 ∧ z_cAC p0 p1 p2 = 0) (z_B dC dI (va_A [(h0, .inr (8, [.ref xq1, .ref xq2])), (xq1, .inr (7, [.ref xq2, .ref xq3, .ref xq4, .ref xq5, .ref xq6, .ref xq7, .ref xq8, .int 0, .int 0, .int 0, .int 0, .int 0])), (xq2, .inr (5, [.ref xq9, .ref xq10, .ref xq11, .ref xq12, .ref xq13, .ref xq14, .ref xq15, .ref xq16, .ref xq17, .ref xq18, .ref xq19, .int 0, .int 0])), (xq9, .inl (xc20, 4, .inl xf21)), (xq10, .inl (xc22, 4, .inl xf21)), (xq11, .inl (xc23, 4, .inl xf21)), (xq12, .inl (xc24, 4, .inl xf21)), (xq13, .inl (xc25, 4, .inl xf21)), (xq14, .inl (xc26, 4, .inl xf21))] sz)) (va_A [(h0, .inr (8, [.ref xq1, .ref xq2])), (xq1, .inr (7, [.ref xq2, .ref xq3, .ref xq4, .ref xq5, .ref xq6, .ref xq7, .ref xq8, .int 0, .int 0, .int 0, .int 0, .int 0])), (xq2, .inr (5, [.ref xq9, .ref xq10, .ref xq11, .ref xq12, .ref xq13, .ref xq14, .ref xq15, .ref xq16, .ref xq17, .ref xq18, .ref xq19, .int 0, .int 0])), (xq9, .inl (xc20, 4, .inl xf21)), (xq10, .inl (xc22, 4, .inl xf21)), (xq11, .inl (xc23, 4, .inl xf21)), (xq12, .inl (xc24, 4, .inl xf21)), (xq13, .inl (xc25, 4, .inl xf21)), (xq14, .inl (xc26, 4, .inl xf21))] sz)) (z_XC (fun E : String => E = "java/lang/IllegalArgumentException" ∧ z_cAC p0 p1 p2 = 1) (va_A [(h0, .inr (8, [.ref xq1, .ref xq2])), (xq1, .inr (7, [.ref xq2, .ref xq3, .ref xq4, .ref xq5, .ref xq6, .ref xq7, .ref xq8, .int 0, .int 0, .int 0, .int 0, .int 0])), (xq2, .inr (5, [.ref xq9, .ref xq10, .ref xq11, .ref xq12, .ref xq13, .ref xq14, .ref xq15, .ref xq16, .ref xq17, .ref xq18, .ref xq19, .int 0, .int 0])), (xq9, .inl (xc20, 4, .inl xf21)), (xq10, .inl (xc22, 4, .inl xf21)), (xq11, .inl (xc23, 4, .inl xf21)), (xq12, .inl (xc24, 4, .inl xf21)), (xq13, .inl (xc25, 4, .inl xf21)), (xq14, .inl (xc26, 4, .inl xf21))] sz)) 1 6 (va_A [(h0, .inr (8, [.ref xq1, .ref xq2])), (xq1, .inr (7, [.ref xq2, .ref xq3, .ref xq4, .ref xq5, .ref xq6, .ref xq7, .ref xq8, .int 0, .int 0, .int 0, .int 0, .int 0])), (xq2, .inr (5, [.ref xq9, .ref xq10, .ref xq11, .ref xq12, .ref xq13, .ref xq14, .ref xq15, .ref xq16, .ref xq17, .ref xq18, .ref xq19, .int 0, .int 0])), (xq9, .inl (xc20, 4, .inl xf21)), (xq10, .inl (xc22, 4, .inl xf21)), (xq11, .inl (xc23, 4, .inl xf21)), (xq12, .inl (xc24, 4, .inl xf21)), (xq13, .inl (xc25, 4, .inl xf21)), (xq14, .inl (xc26, 4, .inl xf21))] sz) := by
  refine vx_ofW (cc := cX8_addColumn) (maxL := 5) (ret := (some .int)) (by decide) rfl ?_
  intro p e s m args below meth c s₁ B hml htab hv
  obtain ⟨rfl, rfl, I⟩ := z_open hv
  have hx := B.exec
  have hb := B.bytes
  have hr := B.returns
  have hts := atoms_spec (ws := z_w yX8_addColumn cX8_addColumn 5 (some .int)) B.pre
  have hg : z_G _ s := z_G.of hts
  have hown : s.vm.findClass RX8 = some m.cls := findClass_of_methodNamed B.named
  have hlocks := B.notSynchronized
  generalize va_A [(h0, .inr (8, [.ref xq1, .ref xq2])), (xq1, .inr (7, [.ref xq2, .ref xq3, .ref xq4, .ref xq5, .ref xq6, .ref xq7, .ref xq8, .int 0, .int 0, .int 0, .int 0, .int 0])), (xq2, .inr (5, [.ref xq9, .ref xq10, .ref xq11, .ref xq12, .ref xq13, .ref xq14, .ref xq15, .ref xq16, .ref xq17, .ref xq18, .ref xq19, .int 0, .int 0])), (xq9, .inl (xc20, 4, .inl xf21)), (xq10, .inl (xc22, 4, .inl xf21)), (xq11, .inl (xc23, 4, .inl xf21)), (xq12, .inl (xc24, 4, .inl xf21)), (xq13, .inl (xc25, 4, .inl xf21)), (xq14, .inl (xc26, 4, .inl xf21))] s.heap.size = A at I ⊢
  have hl := lv_entry ([.ref h0, .int p0, .int p1, .int p2, .int p3]) (n := 5) (Nat.le_of_ble_eq_true rfl)
  rw [lg_entry_eq]
  generalize (lg_sl ([.ref h0, .int p0, .int p1, .int p2, .int p3]) ++ List.replicate (5 - (lg_sl ([.ref h0, .int p0, .int p1, .int p2, .int p3])).length) Slot.unset).toArray = ls at hl ⊢
  have hl : lv_has ls 5 [(0, .ref h0), (1, .int p0), (2, .int p1), (3, .int p2), (4, .int p3)] := hl
  refine lv_iload_n hx hb dX8_addColumn_0 rfl (lv_at hl 1 rfl) ?_
  refine lv_bipush (v := (-9)) hx hb dX8_addColumn_1 (by decide) ?_
  refine lv_bipush (v := 9) hx hb dX8_addColumn_3 (by decide) ?_
  refine z_calli (wr := [(h0, .inr (8, [.ref xq1, .ref xq2])), (xq1, .inr (7, [.ref xq2, .ref xq3, .ref xq4, .ref xq5, .ref xq6, .ref xq7, .ref xq8, .int 0, .int 0, .int 0, .int 0, .int 0])), (xq2, .inr (5, [.ref xq9, .ref xq10, .ref xq11, .ref xq12, .ref xq13, .ref xq14, .ref xq15, .ref xq16, .ref xq17, .ref xq18, .ref xq19, .int 0, .int 0])), (xq9, .inl (xc20, 4, .inl xf21)), (xq10, .inl (xc22, 4, .inl xf21)), (xq11, .inl (xc23, 4, .inl xf21)), (xq12, .inl (xc24, 4, .inl xf21)), (xq13, .inl (xc25, 4, .inl xf21)), (xq14, .inl (xc26, 4, .inl xf21))]) (va_runS (As := [.int p0, .int (-9), .int 9]) (rest := []) ⟨hx, hb, hml, hown, hts⟩ (z_RX8_isWithin l dC dI p0 (-9) 9  s.heap.size) (va_cwS 3 hts (z_gS z_T.w mw389 mw390 mw1 mw391) rfl rfl rfl (by decide +kernel) ⟨Nat.le_of_ble_eq_true rfl, Nat.le_of_ble_eq_true rfl⟩) (z_pre I [] [] rfl rfl rfl rfl) rfl rfl hl.1 rfl (lv_room (Nat.le_of_ble_eq_true rfl)) dX8_addColumn_5 ⟨Nat.le_of_ble_eq_true rfl, Nat.le_of_ble_eq_true rfl⟩) I [] [0, 1, 2, 3, 4, 5, 6, 7, 8] rfl rfl (by decide) (by decide) (fun r1 u1 H locs hw1 I => ?_)
  obtain ⟨hu1, hp1⟩ := hw1
  subst hu1
  have I : z_I A dC dI [(h0, .inr (8, [.ref xq1, .ref xq2])), (xq1, .inr (7, [.ref xq2, .ref xq3, .ref xq4, .ref xq5, .ref xq6, .ref xq7, .ref xq8, .int 0, .int 0, .int 0, .int 0, .int 0])), (xq2, .inr (5, [.ref xq9, .ref xq10, .ref xq11, .ref xq12, .ref xq13, .ref xq14, .ref xq15, .ref xq16, .ref xq17, .ref xq18, .ref xq19, .int 0, .int 0])), (xq9, .inl (xc20, 4, .inl xf21)), (xq10, .inl (xc22, 4, .inl xf21)), (xq11, .inl (xc23, 4, .inl xf21)), (xq12, .inl (xc24, 4, .inl xf21)), (xq13, .inl (xc25, 4, .inl xf21)), (xq14, .inl (xc26, 4, .inl xf21))] [(xc20, .int), (xc22, .int), (xc23, .int), (xc24, .boolean), (xc25, .int), (xc26, .int)] s H _ := I
  refine lv_if_eq (tgt := 32) hx hb dX8_addColumn_8 (by decide) (fun c2 => ?_) (fun c2 => ?_)
  · skip
    exact z_throwS hx hb hst hml hl.1 hlocks htab hg hown I (⟨rfl, (by simp [z_cAC, ← hp1, c2])⟩) mw392 mw14 (List.mem_of_getElem? (i := 0) rfl) h1_IllegalArgumentException_29 h2_IllegalArgumentException_29 h3_IllegalArgumentException_29 h4_IllegalArgumentException_29 (List.mem_of_getElem? (i := 0) rfl) dX8_addColumn_32 dX8_addColumn_35 dX8_addColumn_36 dX8_addColumn_38 dX8_addColumn_41 (Nat.le_of_ble_eq_true rfl) (Nat.le_of_ble_eq_true rfl) (Nat.le_of_ble_eq_true rfl) (Nat.le_of_ble_eq_true rfl) (Nat.le_of_ble_eq_true rfl) (Nat.le_of_ble_eq_true rfl)
  · skip
    refine lv_iload_n hx hb dX8_addColumn_11 rfl (lv_at hl 2 rfl) ?_
    refine lv_bipush (v := (-9)) hx hb dX8_addColumn_12 (by decide) ?_
    refine lv_bipush (v := 9) hx hb dX8_addColumn_14 (by decide) ?_
    refine z_calli (wr := [(h0, .inr (8, [.ref xq1, .ref xq2])), (xq1, .inr (7, [.ref xq2, .ref xq3, .ref xq4, .ref xq5, .ref xq6, .ref xq7, .ref xq8, .int 0, .int 0, .int 0, .int 0, .int 0])), (xq2, .inr (5, [.ref xq9, .ref xq10, .ref xq11, .ref xq12, .ref xq13, .ref xq14, .ref xq15, .ref xq16, .ref xq17, .ref xq18, .ref xq19, .int 0, .int 0])), (xq9, .inl (xc20, 4, .inl xf21)), (xq10, .inl (xc22, 4, .inl xf21)), (xq11, .inl (xc23, 4, .inl xf21)), (xq12, .inl (xc24, 4, .inl xf21)), (xq13, .inl (xc25, 4, .inl xf21)), (xq14, .inl (xc26, 4, .inl xf21))]) (va_runS (As := [.int p1, .int (-9), .int 9]) (rest := []) ⟨hx, hb, hml, hown, hts⟩ (z_RX8_isWithin l dC dI p1 (-9) 9  H.size) (va_cwS 3 hts (z_gS z_T.w mw389 mw390 mw1 mw391) rfl rfl rfl (by decide +kernel) ⟨Nat.le_of_ble_eq_true rfl, Nat.le_of_ble_eq_true rfl⟩) (z_pre I [] [] rfl rfl rfl rfl) rfl rfl hl.1 rfl (lv_room (Nat.le_of_ble_eq_true rfl)) dX8_addColumn_16 ⟨Nat.le_of_ble_eq_true rfl, Nat.le_of_ble_eq_true rfl⟩) I [] [0, 1, 2, 3, 4, 5, 6, 7, 8] rfl rfl (by decide) (by decide) (fun r3 u3 H locs hw3 I => ?_)
    obtain ⟨hu3, hp3⟩ := hw3
    subst hu3
    have I : z_I A dC dI [(h0, .inr (8, [.ref xq1, .ref xq2])), (xq1, .inr (7, [.ref xq2, .ref xq3, .ref xq4, .ref xq5, .ref xq6, .ref xq7, .ref xq8, .int 0, .int 0, .int 0, .int 0, .int 0])), (xq2, .inr (5, [.ref xq9, .ref xq10, .ref xq11, .ref xq12, .ref xq13, .ref xq14, .ref xq15, .ref xq16, .ref xq17, .ref xq18, .ref xq19, .int 0, .int 0])), (xq9, .inl (xc20, 4, .inl xf21)), (xq10, .inl (xc22, 4, .inl xf21)), (xq11, .inl (xc23, 4, .inl xf21)), (xq12, .inl (xc24, 4, .inl xf21)), (xq13, .inl (xc25, 4, .inl xf21)), (xq14, .inl (xc26, 4, .inl xf21))] [(xc20, .int), (xc22, .int), (xc23, .int), (xc24, .boolean), (xc25, .int), (xc26, .int)] s H _ := I
    refine lv_if_eq (tgt := 32) hx hb dX8_addColumn_19 (by decide) (fun c4 => ?_) (fun c4 => ?_)
    · skip
      exact z_throwS hx hb hst hml hl.1 hlocks htab hg hown I (⟨rfl, (by simp [z_cAC, ← hp1, c2, ← hp3, c4])⟩) mw392 mw14 (List.mem_of_getElem? (i := 0) rfl) h1_IllegalArgumentException_29 h2_IllegalArgumentException_29 h3_IllegalArgumentException_29 h4_IllegalArgumentException_29 (List.mem_of_getElem? (i := 0) rfl) dX8_addColumn_32 dX8_addColumn_35 dX8_addColumn_36 dX8_addColumn_38 dX8_addColumn_41 (Nat.le_of_ble_eq_true rfl) (Nat.le_of_ble_eq_true rfl) (Nat.le_of_ble_eq_true rfl) (Nat.le_of_ble_eq_true rfl) (Nat.le_of_ble_eq_true rfl) (Nat.le_of_ble_eq_true rfl)
    · skip
      refine lv_iload_n hx hb dX8_addColumn_22 rfl (lv_at hl 3 rfl) ?_
      refine lv_iload_n hx hb dX8_addColumn_23 rfl (lv_at hl 2 rfl) ?_
      refine lv_bipush (v := 9) hx hb dX8_addColumn_24 (by decide) ?_
      refine z_calli (wr := [(h0, .inr (8, [.ref xq1, .ref xq2])), (xq1, .inr (7, [.ref xq2, .ref xq3, .ref xq4, .ref xq5, .ref xq6, .ref xq7, .ref xq8, .int 0, .int 0, .int 0, .int 0, .int 0])), (xq2, .inr (5, [.ref xq9, .ref xq10, .ref xq11, .ref xq12, .ref xq13, .ref xq14, .ref xq15, .ref xq16, .ref xq17, .ref xq18, .ref xq19, .int 0, .int 0])), (xq9, .inl (xc20, 4, .inl xf21)), (xq10, .inl (xc22, 4, .inl xf21)), (xq11, .inl (xc23, 4, .inl xf21)), (xq12, .inl (xc24, 4, .inl xf21)), (xq13, .inl (xc25, 4, .inl xf21)), (xq14, .inl (xc26, 4, .inl xf21))]) (va_runS (As := [.int p2, .int p1, .int 9]) (rest := []) ⟨hx, hb, hml, hown, hts⟩ (z_RX8_isWithin l dC dI p2 p1 9  H.size) (va_cwS 3 hts (z_gS z_T.w mw389 mw390 mw1 mw391) rfl rfl rfl (by decide +kernel) ⟨Nat.le_of_ble_eq_true rfl, Nat.le_of_ble_eq_true rfl⟩) (z_pre I [] [] rfl rfl rfl rfl) rfl rfl hl.1 rfl (lv_room (Nat.le_of_ble_eq_true rfl)) dX8_addColumn_26 ⟨Nat.le_of_ble_eq_true rfl, Nat.le_of_ble_eq_true rfl⟩) I [] [0, 1, 2, 3, 4, 5, 6, 7, 8] rfl rfl (by decide) (by decide) (fun r5 u5 H locs hw5 I => ?_)
      obtain ⟨hu5, hp5⟩ := hw5
      subst hu5
      have I : z_I A dC dI [(h0, .inr (8, [.ref xq1, .ref xq2])), (xq1, .inr (7, [.ref xq2, .ref xq3, .ref xq4, .ref xq5, .ref xq6, .ref xq7, .ref xq8, .int 0, .int 0, .int 0, .int 0, .int 0])), (xq2, .inr (5, [.ref xq9, .ref xq10, .ref xq11, .ref xq12, .ref xq13, .ref xq14, .ref xq15, .ref xq16, .ref xq17, .ref xq18, .ref xq19, .int 0, .int 0])), (xq9, .inl (xc20, 4, .inl xf21)), (xq10, .inl (xc22, 4, .inl xf21)), (xq11, .inl (xc23, 4, .inl xf21)), (xq12, .inl (xc24, 4, .inl xf21)), (xq13, .inl (xc25, 4, .inl xf21)), (xq14, .inl (xc26, 4, .inl xf21))] [(xc20, .int), (xc22, .int), (xc23, .int), (xc24, .boolean), (xc25, .int), (xc26, .int)] s H _ := I
      refine lv_if_ne (tgt := 42) hx hb dX8_addColumn_29 (by decide) (fun c6 => ?_) (fun c6 => ?_)
      · skip
        refine lv_aload_n hx hb dX8_addColumn_42 rfl (lv_at hl 0 rfl) ?_
        refine z_get (C := RX8) (T := TX8) (N := 2) (ci := 8) (v := .ref xq2) hx hb hg hown I iw_8 0 rfl rfl 1 (by decide) mw358 rfl dX8_addColumn_43 ?_
        refine z_get (C := RX5) (T := TX5) (N := 13) (ci := 5) (v := .int 0) hx hb hg hown I iw_5 2 rfl rfl 11 (by decide) mw171 rfl dX8_addColumn_46 ?_
        refine lv_iconst (v := 4) hx hb dX8_addColumn_49 (by decide) ?_
        refine lv_icmp_ge (tgt := 73) hx hb dX8_addColumn_50 (by decide) (fun c9 => absurd c9 (by decide)) (fun _ => ?_)
        refine lv_aload_n hx hb dX8_addColumn_53 rfl (lv_at hl 0 rfl) ?_
        refine z_get (C := RX8) (T := TX8) (N := 2) (ci := 8) (v := .ref xq2) hx hb hg hown I iw_8 0 rfl rfl 1 (by decide) mw358 rfl dX8_addColumn_54 ?_
        refine z_get (C := RX5) (T := TX5) (N := 13) (ci := 5) (v := .int 0) hx hb hg hown I iw_5 2 rfl rfl 12 (by decide) mw173 rfl dX8_addColumn_57 ?_
        refine lv_if_gt (tgt := 73) hx hb dX8_addColumn_60 (by decide) (fun c9 => absurd c9 (by decide)) (fun _ => ?_)
        refine lv_aload_n hx hb dX8_addColumn_63 rfl (lv_at hl 0 rfl) ?_
        refine z_get (C := RX8) (T := TX8) (N := 2) (ci := 8) (v := .ref xq1) hx hb hg hown I iw_8 0 rfl rfl 0 (by decide) mw357 rfl dX8_addColumn_64 ?_
        refine z_calli (wr := [(h0, .inr (8, [.ref xq1, .ref xq2])), (xq2, .inr (5, [.ref xq9, .ref xq10, .ref xq11, .ref xq12, .ref xq13, .ref xq14, .ref xq15, .ref xq16, .ref xq17, .ref xq18, .ref xq19, .int 0, .int 0])), (xq9, .inl (xc20, 4, .inl xf21)), (xq10, .inl (xc22, 4, .inl xf21)), (xq11, .inl (xc23, 4, .inl xf21)), (xq12, .inl (xc24, 4, .inl xf21)), (xq13, .inl (xc25, 4, .inl xf21)), (xq14, .inl (xc26, 4, .inl xf21))]) (va_runV (As := []) (rest := []) ⟨hx, hb, hml, hown, hts⟩ (z_RX7_isPlanted l dC dI xq1 xq2 xq3 xq4 xq5 xq6 xq7 xq8  H.size) (cwV 0 hts (z_gV z_T.w mw464 mw465 mw466 mw2 mw467) rfl rfl rfl (by decide +kernel) ⟨Nat.le_of_ble_eq_true rfl, Nat.le_of_ble_eq_true rfl⟩) (z_preV I [1] [] rfl rfl rfl rfl (ci := 7) (q0 := 1) rfl rfl) rfl rfl hl.1 rfl (lv_room (Nat.le_of_ble_eq_true rfl)) dX8_addColumn_67 ⟨Nat.le_of_ble_eq_true rfl, Nat.le_of_ble_eq_true rfl⟩) I [1] [0, 2, 3, 4, 5, 6, 7, 8] rfl rfl (by decide) (by decide) (fun r7 u7 H locs hw7 I => ?_)
        obtain ⟨hu7, hp7⟩ := hw7
        subst hu7
        have I : z_I A dC dI [(h0, .inr (8, [.ref xq1, .ref xq2])), (xq2, .inr (5, [.ref xq9, .ref xq10, .ref xq11, .ref xq12, .ref xq13, .ref xq14, .ref xq15, .ref xq16, .ref xq17, .ref xq18, .ref xq19, .int 0, .int 0])), (xq9, .inl (xc20, 4, .inl xf21)), (xq10, .inl (xc22, 4, .inl xf21)), (xq11, .inl (xc23, 4, .inl xf21)), (xq12, .inl (xc24, 4, .inl xf21)), (xq13, .inl (xc25, 4, .inl xf21)), (xq14, .inl (xc26, 4, .inl xf21)), (xq1, .inr (7, [.ref xq2, .ref xq3, .ref xq4, .ref xq5, .ref xq6, .ref xq7, .ref xq8, .int 0, .int 0, .int 0, .int 0, .int 0]))] [(xc20, .int), (xc22, .int), (xc23, .int), (xc24, .boolean), (xc25, .int), (xc26, .int)] s H _ := I
        obtain rfl : r7 = 0 := hp7
        refine lv_if_eq (tgt := 83) hx hb dX8_addColumn_70 (by decide) (fun _ => ?_) (fun c9 => absurd c9 (by decide))
        refine lv_aload_n hx hb dX8_addColumn_83 rfl (lv_at hl 0 rfl) ?_
        refine z_get (C := RX8) (T := TX8) (N := 2) (ci := 8) (v := .ref xq2) hx hb hg hown I iw_8 0 rfl rfl 1 (by decide) mw358 rfl dX8_addColumn_84 ?_
        refine lv_iload_n hx hb dX8_addColumn_87 rfl (lv_at hl 1 rfl) ?_
        refine lv_iload_n hx hb dX8_addColumn_88 rfl (lv_at hl 2 rfl) ?_
        refine lv_iload_n hx hb dX8_addColumn_89 rfl (lv_at hl 3 rfl) ?_
        refine lv_iload hx hb dX8_addColumn_90 (lv_at hl 4 rfl) ?_
        refine z_calli (wr := [(h0, .inr (8, [.ref xq1, .ref xq2])), (xq1, .inr (7, [.ref xq2, .ref xq3, .ref xq4, .ref xq5, .ref xq6, .ref xq7, .ref xq8, .int 0, .int 0, .int 0, .int 0, .int 0]))]) (va_runV (As := [.int p0, .int p1, .int p2, .int p3]) (rest := []) ⟨hx, hb, hml, hown, hts⟩ (z_RX5_keepColumn l dC dI xq2 xq9 xq10 xq11 xq12 xq13 xq14 xq15 xq16 xq17 xq18 xq19 xc20 xf21 xc22 xc23 xc24 xc25 xc26 p0 p1 p2 p3  H.size) (cwV 4 hts (z_gV z_T.w mw484 mw485 mw486 mw3 mw487) rfl rfl rfl (by decide +kernel) ⟨Nat.le_of_ble_eq_true rfl, Nat.le_of_ble_eq_true rfl⟩) (z_preV I [1, 2, 3, 4, 5, 6, 7] [0, 1, 2, 3, 4, 5] rfl rfl rfl rfl (ci := 5) (q0 := 1) rfl rfl) rfl rfl hl.1 rfl (lv_room (Nat.le_of_ble_eq_true rfl)) dX8_addColumn_92 ⟨Nat.le_of_ble_eq_true rfl, Nat.le_of_ble_eq_true rfl⟩) I [1, 2, 3, 4, 5, 6, 7] [0, 8] rfl rfl (by decide) (by decide) (fun r8 u8 H locs hw8 I => ?_)
        obtain ⟨hu8, hp8⟩ := hw8
        subst hu8
        have I : z_I A dC dI [(h0, .inr (8, [.ref xq1, .ref xq2])), (xq1, .inr (7, [.ref xq2, .ref xq3, .ref xq4, .ref xq5, .ref xq6, .ref xq7, .ref xq8, .int 0, .int 0, .int 0, .int 0, .int 0]))] [(xc20, .int), (xc22, .int), (xc23, .int), (xc24, .boolean), (xc25, .int), (xc26, .int)] s H _ := I
        obtain rfl : r8 = 0 := hp8
        have I := I.sub (ws' := []) [] rfl rfl rfl
        have I := I.subT (t' := []) [] rfl
        refine W.widen (k := 1) (n := 6) (Nat.le_of_ble_eq_true rfl) (Nat.le_of_ble_eq_true rfl) ?_
        refine vx_ret ?_
        exact z_iret hx hb hr hlocks I ⟨rfl, rfl, (by simp [z_cAC, ← hp1, c2, ← hp3, c4, ← hp5, c6])⟩ dX8_addColumn_95
      · skip
        exact z_throwS hx hb hst hml hl.1 hlocks htab hg hown I (⟨rfl, (by simp [z_cAC, ← hp1, c2, ← hp3, c4, ← hp5, c6])⟩) mw392 mw14 (List.mem_of_getElem? (i := 0) rfl) h1_IllegalArgumentException_29 h2_IllegalArgumentException_29 h3_IllegalArgumentException_29 h4_IllegalArgumentException_29 (List.mem_of_getElem? (i := 0) rfl) dX8_addColumn_32 dX8_addColumn_35 dX8_addColumn_36 dX8_addColumn_38 dX8_addColumn_41 (Nat.le_of_ble_eq_true rfl) (Nat.le_of_ble_eq_true rfl) (Nat.le_of_ble_eq_true rfl) (Nat.le_of_ble_eq_true rfl) (Nat.le_of_ble_eq_true rfl) (Nat.le_of_ble_eq_true rfl)
set_option maxHeartbeats 4000000 in
set_option maxRecDepth 100000 in
theorem z_RX8_addRow (l : Launch) (hst : l.stackTraces = false) (dC : Nat → ClassId) (dI : Nat → Nat → Nat) (xq1 : Nat) (xq2 : Nat) (xq3 : Nat) (xq4 : Nat) (xq5 : Nat) (xq6 : Nat) (xq7 : Nat) (xq8 : Nat) (xq9 : Nat) (xq10 : Nat) (xq11 : Nat) (xq12 : Nat) (xq13 : Nat) (xq14 : Nat) (xq15 : Nat) (xq16 : Nat) (xq17 : Nat) (xq18 : Nat) (xq19 : Nat) (xc29 : ClassId) (xf30 : Nat → Option Nat) (xq31 : Nat) (xq45 : Nat) (xc46 : ClassId) (xf47 : Nat → Int32) (h0 : Nat) (p0 : Int32) (p1 : Int32) (p2 : Int32) (p3 : Int32) (p4 : Int32) (p5 : Int32) (hn : narrow .char (.int p0) = .int p0) (sz : Nat) : vx_Met l yX8_addRow (z_w yX8_addRow cX8_addRow 9 (some .int)) ({ frames := 12, cells := 1, slots := 6, locals := 260 }) (z_P dC dI [(h0, .inr (8, [.ref xq1, .ref xq2])), (xq1, .inr (7, [.ref xq2, .ref xq3, .ref xq4, .ref xq5, .ref xq6, .ref xq7, .ref xq8, .int 0, .int 0, .int 0, .int 0, .int 0])), (xq2, .inr (5, [.ref xq9, .ref xq10, .ref xq11, .ref xq12, .ref xq13, .ref xq14, .ref xq15, .ref xq16, .ref xq17, .ref xq18, .ref xq19, .int 0, .int 0])), (xq17, .inl (xc29, 8, .inr (.inr (.inr (.inr (va_up xf30 0 (some xq31))))))), (xq31, .inr (6, [.ref xq45, .int 0, .int 108])), (xq45, .inl (xc46, 4, .inl xf47))] [(xc29, .object RX6), (xc46, .int)] sz [.ref h0, .int p0, .int p1, .int p2, .int p3, .int p4, .int p5]) (va_Qi (fun (r : Int32) (u : va_W × List (ClassId × FieldType)) => u = ([], []) ∧ r = 0 ∧ z_cAR p0 p1 p2 p3 p4 p5 = 0) (z_B dC dI (va_A [(h0, .inr (8, [.ref xq1, .ref xq2])), (xq1, .inr (7, [.ref xq2, .ref xq3, .ref xq4, .ref xq5, .ref xq6, .ref xq7, .ref xq8, .int 0, .int 0, .int 0, .int 0, .int 0])), (xq2, .inr (5, [.ref xq9, .ref xq10, .ref xq11, .ref xq12, .ref xq13, .ref xq14, .ref xq15, .ref xq16, .ref xq17, .ref xq18, .ref xq19, .int 0, .int 0])), (xq17, .inl (xc29, 8, .inr (.inr (.inr (.inr (va_up xf30 0 (some xq31))))))), (xq31, .inr (6, [.ref xq45, .int 0, .int 108])), (xq45, .inl (xc46, 4, .inl xf47))] sz)) (va_A [(h0, .inr (8, [.ref xq1, .ref xq2])), (xq1, .inr (7, [.ref xq2, .ref xq3, .ref xq4, .ref xq5, .ref xq6, .ref xq7, .ref xq8, .int 0, .int 0, .int 0, .int 0, .int 0])), (xq2, .inr (5, [.ref xq9, .ref xq10, .ref xq11, .ref xq12, .ref xq13, .ref xq14, .ref xq15, .ref xq16, .ref xq17, .ref xq18, .ref xq19, .int 0, .int 0])), (xq17, .inl (xc29, 8, .inr (.inr (.inr (.inr (va_up xf30 0 (some xq31))))))), (xq31, .inr (6, [.ref xq45, .int 0, .int 108])), (xq45, .inl (xc46, 4, .inl xf47))] sz)) (z_XC (fun E : String => E = "java/lang/IllegalArgumentException" ∧ z_cAR p0 p1 p2 p3 p4 p5 = 1) (va_A [(h0, .inr (8, [.ref xq1, .ref xq2])), (xq1, .inr (7, [.ref xq2, .ref xq3, .ref xq4, .ref xq5, .ref xq6, .ref xq7, .ref xq8, .int 0, .int 0, .int 0, .int 0, .int 0])), (xq2, .inr (5, [.ref xq9, .ref xq10, .ref xq11, .ref xq12, .ref xq13, .ref xq14, .ref xq15, .ref xq16, .ref xq17, .ref xq18, .ref xq19, .int 0, .int 0])), (xq17, .inl (xc29, 8, .inr (.inr (.inr (.inr (va_up xf30 0 (some xq31))))))), (xq31, .inr (6, [.ref xq45, .int 0, .int 108])), (xq45, .inl (xc46, 4, .inl xf47))] sz)) 1 6 (va_A [(h0, .inr (8, [.ref xq1, .ref xq2])), (xq1, .inr (7, [.ref xq2, .ref xq3, .ref xq4, .ref xq5, .ref xq6, .ref xq7, .ref xq8, .int 0, .int 0, .int 0, .int 0, .int 0])), (xq2, .inr (5, [.ref xq9, .ref xq10, .ref xq11, .ref xq12, .ref xq13, .ref xq14, .ref xq15, .ref xq16, .ref xq17, .ref xq18, .ref xq19, .int 0, .int 0])), (xq17, .inl (xc29, 8, .inr (.inr (.inr (.inr (va_up xf30 0 (some xq31))))))), (xq31, .inr (6, [.ref xq45, .int 0, .int 108])), (xq45, .inl (xc46, 4, .inl xf47))] sz) := by
  refine vx_ofW (cc := cX8_addRow) (maxL := 9) (ret := (some .int)) (by decide) rfl ?_
  intro p e s m args below meth c s₁ B hml htab hv
  obtain ⟨rfl, rfl, I⟩ := z_open hv
  have hx := B.exec
  have hb := B.bytes
  have hr := B.returns
  have hts := atoms_spec (ws := z_w yX8_addRow cX8_addRow 9 (some .int)) B.pre
  have hg : z_G _ s := z_G.of hts
  have hown : s.vm.findClass RX8 = some m.cls := findClass_of_methodNamed B.named
  have hlocks := B.notSynchronized
  generalize va_A [(h0, .inr (8, [.ref xq1, .ref xq2])), (xq1, .inr (7, [.ref xq2, .ref xq3, .ref xq4, .ref xq5, .ref xq6, .ref xq7, .ref xq8, .int 0, .int 0, .int 0, .int 0, .int 0])), (xq2, .inr (5, [.ref xq9, .ref xq10, .ref xq11, .ref xq12, .ref xq13, .ref xq14, .ref xq15, .ref xq16, .ref xq17, .ref xq18, .ref xq19, .int 0, .int 0])), (xq17, .inl (xc29, 8, .inr (.inr (.inr (.inr (va_up xf30 0 (some xq31))))))), (xq31, .inr (6, [.ref xq45, .int 0, .int 108])), (xq45, .inl (xc46, 4, .inl xf47))] s.heap.size = A at I ⊢
  have hl := lv_entry ([.ref h0, .int p0, .int p1, .int p2, .int p3, .int p4, .int p5]) (n := 9) (Nat.le_of_ble_eq_true rfl)
  rw [lg_entry_eq]
  generalize (lg_sl ([.ref h0, .int p0, .int p1, .int p2, .int p3, .int p4, .int p5]) ++ List.replicate (9 - (lg_sl ([.ref h0, .int p0, .int p1, .int p2, .int p3, .int p4, .int p5])).length) Slot.unset).toArray = ls at hl ⊢
  have hl : lv_has ls 9 [(0, .ref h0), (1, .int p0), (2, .int p1), (3, .int p2), (4, .int p3), (5, .int p4), (6, .int p5)] := hl
  refine z_mergeU (M := 28) (ls := ls) (P := z_sn p0) (rest := []) (fun hjJ1 => ?_) (fun J1 => ?_)
  · skip
    refine lv_iload_n hx hb dX8_addRow_28 rfl (lv_at hl 2 rfl) ?_
    refine lv_bipush (v := (-99)) hx hb dX8_addRow_29 (by decide) ?_
    refine lv_bipush (v := 99) hx hb dX8_addRow_31 (by decide) ?_
    refine z_calli (wr := [(h0, .inr (8, [.ref xq1, .ref xq2])), (xq1, .inr (7, [.ref xq2, .ref xq3, .ref xq4, .ref xq5, .ref xq6, .ref xq7, .ref xq8, .int 0, .int 0, .int 0, .int 0, .int 0])), (xq2, .inr (5, [.ref xq9, .ref xq10, .ref xq11, .ref xq12, .ref xq13, .ref xq14, .ref xq15, .ref xq16, .ref xq17, .ref xq18, .ref xq19, .int 0, .int 0])), (xq17, .inl (xc29, 8, .inr (.inr (.inr (.inr (va_up xf30 0 (some xq31))))))), (xq31, .inr (6, [.ref xq45, .int 0, .int 108])), (xq45, .inl (xc46, 4, .inl xf47))]) (va_runS (As := [.int p1, .int (-99), .int 99]) (rest := []) ⟨hx, hb, hml, hown, hts⟩ (z_RX8_isWithin l dC dI p1 (-99) 99  s.heap.size) (va_cwS 3 hts (z_gS z_T.w mw389 mw390 mw1 mw391) rfl rfl rfl (by decide +kernel) ⟨Nat.le_of_ble_eq_true rfl, Nat.le_of_ble_eq_true rfl⟩) (z_pre I [] [] rfl rfl rfl rfl) rfl rfl hl.1 rfl (lv_room (Nat.le_of_ble_eq_true rfl)) dX8_addRow_33 ⟨Nat.le_of_ble_eq_true rfl, Nat.le_of_ble_eq_true rfl⟩) I [] [0, 1, 2, 3, 4, 5] rfl rfl (by decide) (by decide) (fun r2 u2 H locs hw2 I => ?_)
    obtain ⟨hu2, hp2⟩ := hw2
    subst hu2
    have I : z_I A dC dI [(h0, .inr (8, [.ref xq1, .ref xq2])), (xq1, .inr (7, [.ref xq2, .ref xq3, .ref xq4, .ref xq5, .ref xq6, .ref xq7, .ref xq8, .int 0, .int 0, .int 0, .int 0, .int 0])), (xq2, .inr (5, [.ref xq9, .ref xq10, .ref xq11, .ref xq12, .ref xq13, .ref xq14, .ref xq15, .ref xq16, .ref xq17, .ref xq18, .ref xq19, .int 0, .int 0])), (xq17, .inl (xc29, 8, .inr (.inr (.inr (.inr (va_up xf30 0 (some xq31))))))), (xq31, .inr (6, [.ref xq45, .int 0, .int 108])), (xq45, .inl (xc46, 4, .inl xf47))] [(xc29, .object RX6), (xc46, .int)] s H _ := I
    refine lv_if_eq (tgt := 90) hx hb dX8_addRow_36 (by decide) (fun c3 => ?_) (fun c3 => ?_)
    · skip
      exact z_throwS hx hb hst hml hl.1 hlocks htab hg hown I (⟨rfl, (by simp [z_cAR, hjJ1, ← hp2, c3])⟩) mw392 mw14 (List.mem_of_getElem? (i := 0) rfl) h1_IllegalArgumentException_29 h2_IllegalArgumentException_29 h3_IllegalArgumentException_29 h4_IllegalArgumentException_29 (List.mem_of_getElem? (i := 3) rfl) dX8_addRow_90 dX8_addRow_93 dX8_addRow_94 dX8_addRow_96 dX8_addRow_99 (Nat.le_of_ble_eq_true rfl) (Nat.le_of_ble_eq_true rfl) (Nat.le_of_ble_eq_true rfl) (Nat.le_of_ble_eq_true rfl) (Nat.le_of_ble_eq_true rfl) (Nat.le_of_ble_eq_true rfl)
    · skip
      refine lv_aload_n hx hb dX8_addRow_39 rfl (lv_at hl 0 rfl) ?_
      refine z_get (C := RX8) (T := TX8) (N := 2) (ci := 8) (v := .ref xq2) hx hb hg hown I iw_8 0 rfl rfl 1 (by decide) mw358 rfl dX8_addRow_40 ?_
      refine lv_iconst (v := 0) hx hb dX8_addRow_43 (by decide) ?_
      refine lv_iload_n hx hb dX8_addRow_44 rfl (lv_at hl 3 rfl) ?_
      refine z_calli (wr := [(h0, .inr (8, [.ref xq1, .ref xq2])), (xq1, .inr (7, [.ref xq2, .ref xq3, .ref xq4, .ref xq5, .ref xq6, .ref xq7, .ref xq8, .int 0, .int 0, .int 0, .int 0, .int 0])), (xq17, .inl (xc29, 8, .inr (.inr (.inr (.inr (va_up xf30 0 (some xq31))))))), (xq31, .inr (6, [.ref xq45, .int 0, .int 108])), (xq45, .inl (xc46, 4, .inl xf47))]) (va_runV (As := [.int 0, .int p2]) (rest := []) ⟨hx, hb, hml, hown, hts⟩ (z_RX5_canMultiply0 l dC dI xq2 xq9 xq10 xq11 xq12 xq13 xq14 xq15 xq16 xq17 xq18 xq19 p2  H.size) (cwV 2 hts (z_gV z_T.w mw496 mw497 mw498 mw3 mw499) rfl rfl rfl (by decide +kernel) ⟨Nat.le_of_ble_eq_true rfl, Nat.le_of_ble_eq_true rfl⟩) (z_preV I [2] [] rfl rfl rfl rfl (ci := 5) (q0 := 2) rfl rfl) rfl rfl hl.1 rfl (lv_room (Nat.le_of_ble_eq_true rfl)) dX8_addRow_45 ⟨Nat.le_of_ble_eq_true rfl, Nat.le_of_ble_eq_true rfl⟩) I [2] [0, 1, 3, 4, 5] rfl rfl (by decide) (by decide) (fun r4 u4 H locs hw4 I => ?_)
      obtain ⟨hu4, hp4⟩ := hw4
      subst hu4
      have I : z_I A dC dI [(h0, .inr (8, [.ref xq1, .ref xq2])), (xq1, .inr (7, [.ref xq2, .ref xq3, .ref xq4, .ref xq5, .ref xq6, .ref xq7, .ref xq8, .int 0, .int 0, .int 0, .int 0, .int 0])), (xq17, .inl (xc29, 8, .inr (.inr (.inr (.inr (va_up xf30 0 (some xq31))))))), (xq31, .inr (6, [.ref xq45, .int 0, .int 108])), (xq45, .inl (xc46, 4, .inl xf47)), (xq2, .inr (5, [.ref xq9, .ref xq10, .ref xq11, .ref xq12, .ref xq13, .ref xq14, .ref xq15, .ref xq16, .ref xq17, .ref xq18, .ref xq19, .int 0, .int 0]))] [(xc29, .object RX6), (xc46, .int)] s H _ := I
      refine lv_if_eq (tgt := 90) hx hb dX8_addRow_48 (by decide) (fun c5 => ?_) (fun c5 => ?_)
      · skip
        exact z_throwS hx hb hst hml hl.1 hlocks htab hg hown I (⟨rfl, (by simp [z_cAR, hjJ1, ← hp2, c3, ← hp4, c5])⟩) mw392 mw14 (List.mem_of_getElem? (i := 0) rfl) h1_IllegalArgumentException_29 h2_IllegalArgumentException_29 h3_IllegalArgumentException_29 h4_IllegalArgumentException_29 (List.mem_of_getElem? (i := 3) rfl) dX8_addRow_90 dX8_addRow_93 dX8_addRow_94 dX8_addRow_96 dX8_addRow_99 (Nat.le_of_ble_eq_true rfl) (Nat.le_of_ble_eq_true rfl) (Nat.le_of_ble_eq_true rfl) (Nat.le_of_ble_eq_true rfl) (Nat.le_of_ble_eq_true rfl) (Nat.le_of_ble_eq_true rfl)
      · skip
        refine lv_aload_n hx hb dX8_addRow_51 rfl (lv_at hl 0 rfl) ?_
        refine z_get (C := RX8) (T := TX8) (N := 2) (ci := 8) (v := .ref xq2) hx hb hg hown I iw_8 0 rfl rfl 1 (by decide) mw358 rfl dX8_addRow_52 ?_
        refine lv_iconst (v := 1) hx hb dX8_addRow_55 (by decide) ?_
        refine lv_iload hx hb dX8_addRow_56 (lv_at hl 4 rfl) ?_
        refine z_calli (wr := [(h0, .inr (8, [.ref xq1, .ref xq2])), (xq1, .inr (7, [.ref xq2, .ref xq3, .ref xq4, .ref xq5, .ref xq6, .ref xq7, .ref xq8, .int 0, .int 0, .int 0, .int 0, .int 0])), (xq17, .inl (xc29, 8, .inr (.inr (.inr (.inr (va_up xf30 0 (some xq31))))))), (xq31, .inr (6, [.ref xq45, .int 0, .int 108])), (xq45, .inl (xc46, 4, .inl xf47))]) (va_runV (As := [.int 1, .int p3]) (rest := []) ⟨hx, hb, hml, hown, hts⟩ (z_RX5_canMultiply1 l dC dI xq2 xq9 xq10 xq11 xq12 xq13 xq14 xq15 xq16 xq17 xq18 xq19 p3  H.size) (cwV 2 hts (z_gV z_T.w mw496 mw497 mw498 mw3 mw499) rfl rfl rfl (by decide +kernel) ⟨Nat.le_of_ble_eq_true rfl, Nat.le_of_ble_eq_true rfl⟩) (z_preV I [5] [] rfl rfl rfl rfl (ci := 5) (q0 := 5) rfl rfl) rfl rfl hl.1 rfl (lv_room (Nat.le_of_ble_eq_true rfl)) dX8_addRow_58 ⟨Nat.le_of_ble_eq_true rfl, Nat.le_of_ble_eq_true rfl⟩) I [5] [0, 1, 2, 3, 4] rfl rfl (by decide) (by decide) (fun r6 u6 H locs hw6 I => ?_)
        obtain ⟨hu6, hp6⟩ := hw6
        subst hu6
        have I : z_I A dC dI [(h0, .inr (8, [.ref xq1, .ref xq2])), (xq1, .inr (7, [.ref xq2, .ref xq3, .ref xq4, .ref xq5, .ref xq6, .ref xq7, .ref xq8, .int 0, .int 0, .int 0, .int 0, .int 0])), (xq17, .inl (xc29, 8, .inr (.inr (.inr (.inr (va_up xf30 0 (some xq31))))))), (xq31, .inr (6, [.ref xq45, .int 0, .int 108])), (xq45, .inl (xc46, 4, .inl xf47)), (xq2, .inr (5, [.ref xq9, .ref xq10, .ref xq11, .ref xq12, .ref xq13, .ref xq14, .ref xq15, .ref xq16, .ref xq17, .ref xq18, .ref xq19, .int 0, .int 0]))] [(xc29, .object RX6), (xc46, .int)] s H _ := I
        refine lv_if_eq (tgt := 90) hx hb dX8_addRow_61 (by decide) (fun c7 => ?_) (fun c7 => ?_)
        · skip
          exact z_throwS hx hb hst hml hl.1 hlocks htab hg hown I (⟨rfl, (by simp [z_cAR, hjJ1, ← hp2, c3, ← hp4, c5, ← hp6, c7])⟩) mw392 mw14 (List.mem_of_getElem? (i := 0) rfl) h1_IllegalArgumentException_29 h2_IllegalArgumentException_29 h3_IllegalArgumentException_29 h4_IllegalArgumentException_29 (List.mem_of_getElem? (i := 3) rfl) dX8_addRow_90 dX8_addRow_93 dX8_addRow_94 dX8_addRow_96 dX8_addRow_99 (Nat.le_of_ble_eq_true rfl) (Nat.le_of_ble_eq_true rfl) (Nat.le_of_ble_eq_true rfl) (Nat.le_of_ble_eq_true rfl) (Nat.le_of_ble_eq_true rfl) (Nat.le_of_ble_eq_true rfl)
        · skip
          refine lv_aload_n hx hb dX8_addRow_64 rfl (lv_at hl 0 rfl) ?_
          refine z_get (C := RX8) (T := TX8) (N := 2) (ci := 8) (v := .ref xq2) hx hb hg hown I iw_8 0 rfl rfl 1 (by decide) mw358 rfl dX8_addRow_65 ?_
          refine lv_iconst (v := 2) hx hb dX8_addRow_68 (by decide) ?_
          refine lv_iload hx hb dX8_addRow_69 (lv_at hl 5 rfl) ?_
          refine z_calli (wr := [(h0, .inr (8, [.ref xq1, .ref xq2])), (xq1, .inr (7, [.ref xq2, .ref xq3, .ref xq4, .ref xq5, .ref xq6, .ref xq7, .ref xq8, .int 0, .int 0, .int 0, .int 0, .int 0])), (xq17, .inl (xc29, 8, .inr (.inr (.inr (.inr (va_up xf30 0 (some xq31))))))), (xq31, .inr (6, [.ref xq45, .int 0, .int 108])), (xq45, .inl (xc46, 4, .inl xf47))]) (va_runV (As := [.int 2, .int p4]) (rest := []) ⟨hx, hb, hml, hown, hts⟩ (z_RX5_canMultiply2 l dC dI xq2 xq9 xq10 xq11 xq12 xq13 xq14 xq15 xq16 xq17 xq18 xq19 p4  H.size) (cwV 2 hts (z_gV z_T.w mw496 mw497 mw498 mw3 mw499) rfl rfl rfl (by decide +kernel) ⟨Nat.le_of_ble_eq_true rfl, Nat.le_of_ble_eq_true rfl⟩) (z_preV I [5] [] rfl rfl rfl rfl (ci := 5) (q0 := 5) rfl rfl) rfl rfl hl.1 rfl (lv_room (Nat.le_of_ble_eq_true rfl)) dX8_addRow_71 ⟨Nat.le_of_ble_eq_true rfl, Nat.le_of_ble_eq_true rfl⟩) I [5] [0, 1, 2, 3, 4] rfl rfl (by decide) (by decide) (fun r8 u8 H locs hw8 I => ?_)
          obtain ⟨hu8, hp8⟩ := hw8
          subst hu8
          have I : z_I A dC dI [(h0, .inr (8, [.ref xq1, .ref xq2])), (xq1, .inr (7, [.ref xq2, .ref xq3, .ref xq4, .ref xq5, .ref xq6, .ref xq7, .ref xq8, .int 0, .int 0, .int 0, .int 0, .int 0])), (xq17, .inl (xc29, 8, .inr (.inr (.inr (.inr (va_up xf30 0 (some xq31))))))), (xq31, .inr (6, [.ref xq45, .int 0, .int 108])), (xq45, .inl (xc46, 4, .inl xf47)), (xq2, .inr (5, [.ref xq9, .ref xq10, .ref xq11, .ref xq12, .ref xq13, .ref xq14, .ref xq15, .ref xq16, .ref xq17, .ref xq18, .ref xq19, .int 0, .int 0]))] [(xc29, .object RX6), (xc46, .int)] s H _ := I
          refine lv_if_eq (tgt := 90) hx hb dX8_addRow_74 (by decide) (fun c9 => ?_) (fun c9 => ?_)
          · skip
            exact z_throwS hx hb hst hml hl.1 hlocks htab hg hown I (⟨rfl, (by simp [z_cAR, hjJ1, ← hp2, c3, ← hp4, c5, ← hp6, c7, ← hp8, c9])⟩) mw392 mw14 (List.mem_of_getElem? (i := 0) rfl) h1_IllegalArgumentException_29 h2_IllegalArgumentException_29 h3_IllegalArgumentException_29 h4_IllegalArgumentException_29 (List.mem_of_getElem? (i := 3) rfl) dX8_addRow_90 dX8_addRow_93 dX8_addRow_94 dX8_addRow_96 dX8_addRow_99 (Nat.le_of_ble_eq_true rfl) (Nat.le_of_ble_eq_true rfl) (Nat.le_of_ble_eq_true rfl) (Nat.le_of_ble_eq_true rfl) (Nat.le_of_ble_eq_true rfl) (Nat.le_of_ble_eq_true rfl)
          · skip
            refine lv_aload_n hx hb dX8_addRow_77 rfl (lv_at hl 0 rfl) ?_
            refine z_get (C := RX8) (T := TX8) (N := 2) (ci := 8) (v := .ref xq2) hx hb hg hown I iw_8 0 rfl rfl 1 (by decide) mw358 rfl dX8_addRow_78 ?_
            refine lv_iconst (v := 3) hx hb dX8_addRow_81 (by decide) ?_
            refine lv_iload hx hb dX8_addRow_82 (lv_at hl 6 rfl) ?_
            refine z_calli (wr := [(h0, .inr (8, [.ref xq1, .ref xq2])), (xq1, .inr (7, [.ref xq2, .ref xq3, .ref xq4, .ref xq5, .ref xq6, .ref xq7, .ref xq8, .int 0, .int 0, .int 0, .int 0, .int 0])), (xq17, .inl (xc29, 8, .inr (.inr (.inr (.inr (va_up xf30 0 (some xq31))))))), (xq31, .inr (6, [.ref xq45, .int 0, .int 108])), (xq45, .inl (xc46, 4, .inl xf47))]) (va_runV (As := [.int 3, .int p5]) (rest := []) ⟨hx, hb, hml, hown, hts⟩ (z_RX5_canMultiply3 l dC dI xq2 xq9 xq10 xq11 xq12 xq13 xq14 xq15 xq16 xq17 xq18 xq19 p5  H.size) (cwV 2 hts (z_gV z_T.w mw496 mw497 mw498 mw3 mw499) rfl rfl rfl (by decide +kernel) ⟨Nat.le_of_ble_eq_true rfl, Nat.le_of_ble_eq_true rfl⟩) (z_preV I [5] [] rfl rfl rfl rfl (ci := 5) (q0 := 5) rfl rfl) rfl rfl hl.1 rfl (lv_room (Nat.le_of_ble_eq_true rfl)) dX8_addRow_84 ⟨Nat.le_of_ble_eq_true rfl, Nat.le_of_ble_eq_true rfl⟩) I [5] [0, 1, 2, 3, 4] rfl rfl (by decide) (by decide) (fun r10 u10 H locs hw10 I => ?_)
            obtain ⟨hu10, hp10⟩ := hw10
            subst hu10
            have I : z_I A dC dI [(h0, .inr (8, [.ref xq1, .ref xq2])), (xq1, .inr (7, [.ref xq2, .ref xq3, .ref xq4, .ref xq5, .ref xq6, .ref xq7, .ref xq8, .int 0, .int 0, .int 0, .int 0, .int 0])), (xq17, .inl (xc29, 8, .inr (.inr (.inr (.inr (va_up xf30 0 (some xq31))))))), (xq31, .inr (6, [.ref xq45, .int 0, .int 108])), (xq45, .inl (xc46, 4, .inl xf47)), (xq2, .inr (5, [.ref xq9, .ref xq10, .ref xq11, .ref xq12, .ref xq13, .ref xq14, .ref xq15, .ref xq16, .ref xq17, .ref xq18, .ref xq19, .int 0, .int 0]))] [(xc29, .object RX6), (xc46, .int)] s H _ := I
            refine lv_if_ne (tgt := 100) hx hb dX8_addRow_87 (by decide) (fun c11 => ?_) (fun c11 => ?_)
            · skip
              refine lv_aload_n hx hb dX8_addRow_100 rfl (lv_at hl 0 rfl) ?_
              refine z_get (C := RX8) (T := TX8) (N := 2) (ci := 8) (v := .ref xq2) hx hb hg hown I iw_8 0 rfl rfl 1 (by decide) mw358 rfl dX8_addRow_101 ?_
              refine z_get (C := RX5) (T := TX5) (N := 13) (ci := 5) (v := .int 0) hx hb hg hown I iw_5 5 rfl rfl 12 (by decide) mw173 rfl dX8_addRow_104 ?_
              refine lv_bipush (v := 8) hx hb dX8_addRow_107 (by decide) ?_
              refine lv_icmp_lt (tgt := 122) hx hb dX8_addRow_109 (by decide) (fun _ => ?_) (fun c9 => absurd c9 (by decide))
              refine lv_aload_n hx hb dX8_addRow_122 rfl (lv_at hl 0 rfl) ?_
              refine z_get (C := RX8) (T := TX8) (N := 2) (ci := 8) (v := .ref xq2) hx hb hg hown I iw_8 0 rfl rfl 1 (by decide) mw358 rfl dX8_addRow_123 ?_
              refine z_get (C := RX5) (T := TX5) (N := 13) (ci := 5) (v := .int 0) hx hb hg hown I iw_5 5 rfl rfl 12 (by decide) mw173 rfl dX8_addRow_126 ?_
              refine lv_istore (lv' := [(7, .int 0), (0, .ref h0), (1, .int p0), (2, .int p1), (3, .int p2), (4, .int p3), (5, .int p4), (6, .int p5)]) hx hb dX8_addRow_129 hl (by decide) rfl (fun ls hl => ?_)
              refine lv_aload_n hx hb dX8_addRow_131 rfl (lv_at hl 1 rfl) ?_
              refine z_get (C := RX8) (T := TX8) (N := 2) (ci := 8) (v := .ref xq2) hx hb hg hown I iw_8 0 rfl rfl 1 (by decide) mw358 rfl dX8_addRow_132 ?_
              refine z_get (C := RX5) (T := TX5) (N := 13) (ci := 5) (v := .ref xq17) hx hb hg hown I iw_5 5 rfl rfl 8 (by decide) mw163 rfl dX8_addRow_135 ?_
              refine lv_iload hx hb dX8_addRow_138 (lv_at hl 0 rfl) ?_
              refine z_aald (v := .ref xq31) hx hb I 2 0 rfl rfl rfl (by unfold vp_in; decide) dX8_addRow_140 rfl ?_
              refine lv_astore (lv' := [(8, .ref xq31), (7, .int 0), (0, .ref h0), (1, .int p0), (2, .int p1), (3, .int p2), (4, .int p3), (5, .int p4), (6, .int p5)]) hx hb dX8_addRow_141 hl (by decide) rfl (fun ls hl => ?_)
              refine lv_aload hx hb dX8_addRow_143 (lv_at hl 0 rfl) ?_
              refine lv_iload_n hx hb dX8_addRow_145 rfl (lv_at hl 3 rfl) ?_
              refine z_put (C := RX6) (T := TX6) (N := 3) (ci := 6) (v := .int p0) hx hb hg hown I iw_6 tyX6 tyX6_ok nmX6 3 rfl rfl 2 (by decide) mw138 rfl hn ((congrArg (fits .char) hn).symm.trans (fits_narrow_char _)) (Nat.le_of_ble_eq_true rfl) dX8_addRow_146 [(h0, .inr (8, [.ref xq1, .ref xq2])), (xq1, .inr (7, [.ref xq2, .ref xq3, .ref xq4, .ref xq5, .ref xq6, .ref xq7, .ref xq8, .int 0, .int 0, .int 0, .int 0, .int 0])), (xq17, .inl (xc29, 8, .inr (.inr (.inr (.inr (va_up xf30 0 (some xq31))))))), (xq31, .inr (6, [.ref xq45, .int 0, .int p0])), (xq45, .inl (xc46, 4, .inl xf47)), (xq2, .inr (5, [.ref xq9, .ref xq10, .ref xq11, .ref xq12, .ref xq13, .ref xq14, .ref xq15, .ref xq16, .ref xq17, .ref xq18, .ref xq19, .int 0, .int 0]))] rfl (fun H locs I => ?_)
              refine lv_aload hx hb dX8_addRow_149 (lv_at hl 0 rfl) ?_
              refine lv_iload_n hx hb dX8_addRow_151 rfl (lv_at hl 4 rfl) ?_
              refine z_put (C := RX6) (T := TX6) (N := 3) (ci := 6) (v := .int p1) hx hb hg hown I iw_6 tyX6 tyX6_ok nmX6 3 rfl rfl 1 (by decide) mw132 rfl rfl rfl (Nat.le_of_ble_eq_true rfl) dX8_addRow_152 [(h0, .inr (8, [.ref xq1, .ref xq2])), (xq1, .inr (7, [.ref xq2, .ref xq3, .ref xq4, .ref xq5, .ref xq6, .ref xq7, .ref xq8, .int 0, .int 0, .int 0, .int 0, .int 0])), (xq17, .inl (xc29, 8, .inr (.inr (.inr (.inr (va_up xf30 0 (some xq31))))))), (xq31, .inr (6, [.ref xq45, .int p1, .int p0])), (xq45, .inl (xc46, 4, .inl xf47)), (xq2, .inr (5, [.ref xq9, .ref xq10, .ref xq11, .ref xq12, .ref xq13, .ref xq14, .ref xq15, .ref xq16, .ref xq17, .ref xq18, .ref xq19, .int 0, .int 0]))] rfl (fun H locs I => ?_)
              refine lv_aload hx hb dX8_addRow_155 (lv_at hl 0 rfl) ?_
              refine lv_iload_n hx hb dX8_addRow_157 rfl (lv_at hl 5 rfl) ?_
              refine lv_iload hx hb dX8_addRow_158 (lv_at hl 6 rfl) ?_
              refine lv_iload hx hb dX8_addRow_160 (lv_at hl 7 rfl) ?_
              refine lv_iload hx hb dX8_addRow_162 (lv_at hl 8 rfl) ?_
              refine z_callv (wr := [(h0, .inr (8, [.ref xq1, .ref xq2])), (xq1, .inr (7, [.ref xq2, .ref xq3, .ref xq4, .ref xq5, .ref xq6, .ref xq7, .ref xq8, .int 0, .int 0, .int 0, .int 0, .int 0])), (xq17, .inl (xc29, 8, .inr (.inr (.inr (.inr (va_up xf30 0 (some xq31))))))), (xq2, .inr (5, [.ref xq9, .ref xq10, .ref xq11, .ref xq12, .ref xq13, .ref xq14, .ref xq15, .ref xq16, .ref xq17, .ref xq18, .ref xq19, .int 0, .int 0]))]) (va_runV (As := [.int p2, .int p3, .int p4, .int p5]) (rest := []) ⟨hx, hb, hml, hown, hts⟩ (z_RX6_setFactors l dC dI xq31 xq45 xc46 xf47 p1 p0 p2 p3 p4 p5  H.size) (cwV 4 hts (z_gV z_T.w mw503 mw504 mw505 mw6 mw506) rfl rfl rfl (by decide +kernel) ⟨Nat.le_of_ble_eq_true rfl, Nat.le_of_ble_eq_true rfl⟩) (z_preV I [3, 4] [1] rfl rfl rfl rfl (ci := 6) (q0 := 3) rfl rfl) rfl rfl hl.1 rfl (lv_room (Nat.le_of_ble_eq_true rfl)) dX8_addRow_164 ⟨Nat.le_of_ble_eq_true rfl, Nat.le_of_ble_eq_true rfl⟩) I [3, 4] [0, 1, 2, 5] rfl rfl (by decide) (by decide) (fun u12 H locs hw12 I => ?_)
              obtain ⟨xf13, hu12, hp12⟩ := hw12
              subst hu12
              have I : z_I A dC dI [(h0, .inr (8, [.ref xq1, .ref xq2])), (xq1, .inr (7, [.ref xq2, .ref xq3, .ref xq4, .ref xq5, .ref xq6, .ref xq7, .ref xq8, .int 0, .int 0, .int 0, .int 0, .int 0])), (xq17, .inl (xc29, 8, .inr (.inr (.inr (.inr (va_up xf30 0 (some xq31))))))), (xq2, .inr (5, [.ref xq9, .ref xq10, .ref xq11, .ref xq12, .ref xq13, .ref xq14, .ref xq15, .ref xq16, .ref xq17, .ref xq18, .ref xq19, .int 0, .int 0])), (xq31, .inr (6, [.ref xq45, .int p1, .int p0])), (xq45, .inl (xc46, 4, .inl xf13))] [(xc29, .object RX6), (xc46, .int)] s H _ := I
              refine lv_aload_n hx hb dX8_addRow_167 rfl (lv_at hl 2 rfl) ?_
              refine z_get (C := RX8) (T := TX8) (N := 2) (ci := 8) (v := .ref xq2) hx hb hg hown I iw_8 0 rfl rfl 1 (by decide) mw358 rfl dX8_addRow_168 ?_
              refine lv_dup hx hb dX8_addRow_171 rfl ?_
              refine z_get (C := RX5) (T := TX5) (N := 13) (ci := 5) (v := .int 0) hx hb hg hown I iw_5 3 rfl rfl 12 (by decide) mw173 rfl dX8_addRow_172 ?_
              refine lv_iconst (v := 1) hx hb dX8_addRow_175 (by decide) ?_
              refine lv_iadd hx hb dX8_addRow_176 ?_
              refine lv_topi (fun w14 ew14 => ?_)
              obtain rfl : w14 = 1 := ew14.trans (by decide)
              refine z_put (C := RX5) (T := TX5) (N := 13) (ci := 5) (v := .int 1) hx hb hg hown I iw_5 tyX5 tyX5_ok nmX5 3 rfl rfl 12 (by decide) mw173 rfl rfl rfl (Nat.le_of_ble_eq_true rfl) dX8_addRow_177 [(h0, .inr (8, [.ref xq1, .ref xq2])), (xq1, .inr (7, [.ref xq2, .ref xq3, .ref xq4, .ref xq5, .ref xq6, .ref xq7, .ref xq8, .int 0, .int 0, .int 0, .int 0, .int 0])), (xq17, .inl (xc29, 8, .inr (.inr (.inr (.inr (va_up xf30 0 (some xq31))))))), (xq2, .inr (5, [.ref xq9, .ref xq10, .ref xq11, .ref xq12, .ref xq13, .ref xq14, .ref xq15, .ref xq16, .ref xq17, .ref xq18, .ref xq19, .int 0, .int 1])), (xq31, .inr (6, [.ref xq45, .int p1, .int p0])), (xq45, .inl (xc46, 4, .inl xf13))] rfl (fun H locs I => ?_)
              refine lv_aload_n hx hb dX8_addRow_180 rfl (lv_at hl 2 rfl) ?_
              refine z_get (C := RX8) (T := TX8) (N := 2) (ci := 8) (v := .ref xq1) hx hb hg hown I iw_8 0 rfl rfl 0 (by decide) mw357 rfl dX8_addRow_181 ?_
              refine lv_aload hx hb dX8_addRow_184 (lv_at hl 0 rfl) ?_
              refine z_callv (wr := [(h0, .inr (8, [.ref xq1, .ref xq2])), (xq17, .inl (xc29, 8, .inr (.inr (.inr (.inr (va_up xf30 0 (some xq31))))))), (xq2, .inr (5, [.ref xq9, .ref xq10, .ref xq11, .ref xq12, .ref xq13, .ref xq14, .ref xq15, .ref xq16, .ref xq17, .ref xq18, .ref xq19, .int 0, .int 1])), (xq31, .inr (6, [.ref xq45, .int p1, .int p0])), (xq45, .inl (xc46, 4, .inl xf13))]) (va_runV (As := [.ref xq31]) (rest := []) ⟨hx, hb, hml, hown, hts⟩ (z_RX7_meetRow l dC dI xq1 xq2 xq3 xq4 xq5 xq6 xq7 xq8 xq31  H.size) (cwV 1 hts (z_gV z_T.w mw507 mw508 mw509 mw2 mw510) rfl rfl rfl (by decide +kernel) ⟨Nat.le_of_ble_eq_true rfl, Nat.le_of_ble_eq_true rfl⟩) (z_preV I [1] [] rfl rfl rfl rfl (ci := 7) (q0 := 1) rfl rfl) rfl rfl hl.1 rfl (lv_room (Nat.le_of_ble_eq_true rfl)) dX8_addRow_186 ⟨Nat.le_of_ble_eq_true rfl, Nat.le_of_ble_eq_true rfl⟩) I [1] [0, 2, 3, 4, 5] rfl rfl (by decide) (by decide) (fun u15 H locs hw15 I => ?_)
              obtain ⟨hu15, hp15⟩ := hw15
              subst hu15
              have I : z_I A dC dI [(h0, .inr (8, [.ref xq1, .ref xq2])), (xq17, .inl (xc29, 8, .inr (.inr (.inr (.inr (va_up xf30 0 (some xq31))))))), (xq2, .inr (5, [.ref xq9, .ref xq10, .ref xq11, .ref xq12, .ref xq13, .ref xq14, .ref xq15, .ref xq16, .ref xq17, .ref xq18, .ref xq19, .int 0, .int 1])), (xq31, .inr (6, [.ref xq45, .int p1, .int p0])), (xq45, .inl (xc46, 4, .inl xf13)), (xq1, .inr (7, [.ref xq2, .ref xq3, .ref xq4, .ref xq5, .ref xq6, .ref xq7, .ref xq8, .int 0, .int 0, .int 0, .int 0, .int 0]))] [(xc29, .object RX6), (xc46, .int)] s H _ := I
              refine lv_iload hx hb dX8_addRow_189 (lv_at hl 1 rfl) ?_
              have I := I.sub (ws' := []) [] rfl rfl rfl
              have I := I.subT (t' := []) [] rfl
              refine W.widen (k := 1) (n := 6) (Nat.le_of_ble_eq_true rfl) (Nat.le_of_ble_eq_true rfl) ?_
              refine vx_ret ?_
              exact z_iret hx hb hr hlocks I ⟨rfl, rfl, (by simp [z_cAR, hjJ1, ← hp2, c3, ← hp4, c5, ← hp6, c7, ← hp8, c9, ← hp10, c11])⟩ dX8_addRow_191
            · skip
              exact z_throwS hx hb hst hml hl.1 hlocks htab hg hown I (⟨rfl, (by simp [z_cAR, hjJ1, ← hp2, c3, ← hp4, c5, ← hp6, c7, ← hp8, c9, ← hp10, c11])⟩) mw392 mw14 (List.mem_of_getElem? (i := 0) rfl) h1_IllegalArgumentException_29 h2_IllegalArgumentException_29 h3_IllegalArgumentException_29 h4_IllegalArgumentException_29 (List.mem_of_getElem? (i := 3) rfl) dX8_addRow_90 dX8_addRow_93 dX8_addRow_94 dX8_addRow_96 dX8_addRow_99 (Nat.le_of_ble_eq_true rfl) (Nat.le_of_ble_eq_true rfl) (Nat.le_of_ble_eq_true rfl) (Nat.le_of_ble_eq_true rfl) (Nat.le_of_ble_eq_true rfl) (Nat.le_of_ble_eq_true rfl)
  · skip
    refine lv_iload_n hx hb dX8_addRow_0 rfl (lv_at hl 1 rfl) ?_
    refine lv_bipush (v := 108) hx hb dX8_addRow_1 (by decide) ?_
    refine lv_icmp_eq (tgt := 28) hx hb dX8_addRow_3 (by decide) (fun c16 => ?_) (fun c16 => ?_)
    · skip
      exact J1 (by simp [z_sn, c16])
    · skip
      refine lv_iload_n hx hb dX8_addRow_6 rfl (lv_at hl 1 rfl) ?_
      refine lv_bipush (v := 103) hx hb dX8_addRow_7 (by decide) ?_
      refine lv_icmp_eq (tgt := 28) hx hb dX8_addRow_9 (by decide) (fun c17 => ?_) (fun c17 => ?_)
      · skip
        exact J1 (by simp [z_sn, c16, c17])
      · skip
        refine lv_iload_n hx hb dX8_addRow_12 rfl (lv_at hl 1 rfl) ?_
        refine lv_bipush (v := 101) hx hb dX8_addRow_13 (by decide) ?_
        refine lv_icmp_eq (tgt := 28) hx hb dX8_addRow_15 (by decide) (fun c18 => ?_) (fun c18 => ?_)
        · skip
          exact J1 (by simp [z_sn, c16, c17, c18])
        · skip
          exact z_throwS hx hb hst hml hl.1 hlocks htab hg hown I (⟨rfl, (by simp [z_cAR, z_sn, c16, c17, c18])⟩) mw392 mw14 (List.mem_of_getElem? (i := 0) rfl) h1_IllegalArgumentException_29 h2_IllegalArgumentException_29 h3_IllegalArgumentException_29 h4_IllegalArgumentException_29 (List.mem_of_getElem? (i := 2) rfl) dX8_addRow_18 dX8_addRow_21 dX8_addRow_22 dX8_addRow_24 dX8_addRow_27 (Nat.le_of_ble_eq_true rfl) (Nat.le_of_ble_eq_true rfl) (Nat.le_of_ble_eq_true rfl) (Nat.le_of_ble_eq_true rfl) (Nat.le_of_ble_eq_true rfl) (Nat.le_of_ble_eq_true rfl)
set_option maxHeartbeats 4000000 in
set_option maxRecDepth 100000 in
theorem z_RX8_begin (l : Launch) (hst : l.stackTraces = false) (dC : Nat → ClassId) (dI : Nat → Nat → Nat) (xq1 : Nat) (xq2 : Nat) (xq9 : Nat) (xq10 : Nat) (xq11 : Nat) (xq12 : Nat) (xq13 : Nat) (xq14 : Nat) (xq15 : Nat) (xq16 : Nat) (xq17 : Nat) (xq18 : Nat) (xq19 : Nat) (h0 : Nat) (p0 : Int32) (p1 : Int32) (sz : Nat) : vx_Met l yX8_begin (z_w yX8_begin cX8_begin 3 (some .int)) ({ frames := 8, cells := 1, slots := 6, locals := 140 }) (z_P dC dI [(h0, .inr (8, [.ref xq1, .ref xq2])), (xq2, .inr (5, [.ref xq9, .ref xq10, .ref xq11, .ref xq12, .ref xq13, .ref xq14, .ref xq15, .ref xq16, .ref xq17, .ref xq18, .ref xq19, .int 0, .int 0]))] [] sz [.ref h0, .int p0, .int p1]) (va_Qi (fun (r : Int32) (u : va_W × List (ClassId × FieldType)) => u = ([], []) ∧ False) (z_B dC dI (va_A [(h0, .inr (8, [.ref xq1, .ref xq2])), (xq2, .inr (5, [.ref xq9, .ref xq10, .ref xq11, .ref xq12, .ref xq13, .ref xq14, .ref xq15, .ref xq16, .ref xq17, .ref xq18, .ref xq19, .int 0, .int 0]))] sz)) (va_A [(h0, .inr (8, [.ref xq1, .ref xq2])), (xq2, .inr (5, [.ref xq9, .ref xq10, .ref xq11, .ref xq12, .ref xq13, .ref xq14, .ref xq15, .ref xq16, .ref xq17, .ref xq18, .ref xq19, .int 0, .int 0]))] sz)) (z_XC (fun E : String => E = "java/lang/IllegalArgumentException" ∧ z_cB p0 p1 = 1 ∨ E = "java/lang/IllegalStateException" ∧ z_cB p0 p1 = 2) (va_A [(h0, .inr (8, [.ref xq1, .ref xq2])), (xq2, .inr (5, [.ref xq9, .ref xq10, .ref xq11, .ref xq12, .ref xq13, .ref xq14, .ref xq15, .ref xq16, .ref xq17, .ref xq18, .ref xq19, .int 0, .int 0]))] sz)) 1 6 (va_A [(h0, .inr (8, [.ref xq1, .ref xq2])), (xq2, .inr (5, [.ref xq9, .ref xq10, .ref xq11, .ref xq12, .ref xq13, .ref xq14, .ref xq15, .ref xq16, .ref xq17, .ref xq18, .ref xq19, .int 0, .int 0]))] sz) := by
  refine vx_ofW (cc := cX8_begin) (maxL := 3) (ret := (some .int)) (by decide) rfl ?_
  intro p e s m args below meth c s₁ B hml htab hv
  obtain ⟨rfl, rfl, I⟩ := z_open hv
  have hx := B.exec
  have hb := B.bytes
  have hr := B.returns
  have hts := atoms_spec (ws := z_w yX8_begin cX8_begin 3 (some .int)) B.pre
  have hg : z_G _ s := z_G.of hts
  have hown : s.vm.findClass RX8 = some m.cls := findClass_of_methodNamed B.named
  have hlocks := B.notSynchronized
  generalize va_A [(h0, .inr (8, [.ref xq1, .ref xq2])), (xq2, .inr (5, [.ref xq9, .ref xq10, .ref xq11, .ref xq12, .ref xq13, .ref xq14, .ref xq15, .ref xq16, .ref xq17, .ref xq18, .ref xq19, .int 0, .int 0]))] s.heap.size = A at I ⊢
  have hl := lv_entry ([.ref h0, .int p0, .int p1]) (n := 3) (Nat.le_of_ble_eq_true rfl)
  rw [lg_entry_eq]
  generalize (lg_sl ([.ref h0, .int p0, .int p1]) ++ List.replicate (3 - (lg_sl ([.ref h0, .int p0, .int p1])).length) Slot.unset).toArray = ls at hl ⊢
  have hl : lv_has ls 3 [(0, .ref h0), (1, .int p0), (2, .int p1)] := hl
  refine z_mergeU (M := 22) (ls := ls) (P := z_so p0) (rest := []) (fun hjJ1 => ?_) (fun J1 => ?_)
  · skip
    refine z_mergeU (M := 50) (ls := ls) (P := z_sr p1) (rest := []) (fun hjJ2 => ?_) (fun J2 => ?_)
    · skip
      refine lv_aload_n hx hb dX8_begin_50 rfl (lv_at hl 0 rfl) ?_
      refine z_get (C := RX8) (T := TX8) (N := 2) (ci := 8) (v := .ref xq2) hx hb hg hown I iw_8 0 rfl rfl 1 (by decide) mw358 rfl dX8_begin_51 ?_
      refine z_get (C := RX5) (T := TX5) (N := 13) (ci := 5) (v := .int 0) hx hb hg hown I iw_5 1 rfl rfl 11 (by decide) mw171 rfl dX8_begin_54 ?_
      refine lv_if_ne (tgt := 70) hx hb dX8_begin_57 (by decide) (fun c9 => absurd c9 (by decide)) (fun _ => ?_)
      exact z_throwS hx hb hst hml hl.1 hlocks htab hg hown I (Or.inr ⟨rfl, (by simp [z_cB, hjJ1, hjJ2])⟩) mw468 mw15 (List.mem_of_getElem? (i := 1) rfl) h1_IllegalStateException_49 h2_IllegalStateException_49 h3_IllegalStateException_49 h4_IllegalStateException_49 (List.mem_of_getElem? (i := 11) rfl) dX8_begin_60 dX8_begin_63 dX8_begin_64 dX8_begin_66 dX8_begin_69 (Nat.le_of_ble_eq_true rfl) (Nat.le_of_ble_eq_true rfl) (Nat.le_of_ble_eq_true rfl) (Nat.le_of_ble_eq_true rfl) (Nat.le_of_ble_eq_true rfl) (Nat.le_of_ble_eq_true rfl)
    · skip
      refine lv_iload_n hx hb dX8_begin_22 rfl (lv_at hl 2 rfl) ?_
      refine lv_bipush (v := 102) hx hb dX8_begin_23 (by decide) ?_
      refine lv_icmp_eq (tgt := 50) hx hb dX8_begin_25 (by decide) (fun c3 => ?_) (fun c3 => ?_)
      · skip
        exact J2 (by simp [z_sr, hjJ1, c3])
      · skip
        refine lv_iload_n hx hb dX8_begin_28 rfl (lv_at hl 2 rfl) ?_
        refine lv_bipush (v := 104) hx hb dX8_begin_29 (by decide) ?_
        refine lv_icmp_eq (tgt := 50) hx hb dX8_begin_31 (by decide) (fun c4 => ?_) (fun c4 => ?_)
        · skip
          exact J2 (by simp [z_sr, hjJ1, c3, c4])
        · skip
          refine lv_iload_n hx hb dX8_begin_34 rfl (lv_at hl 2 rfl) ?_
          refine lv_bipush (v := 108) hx hb dX8_begin_35 (by decide) ?_
          refine lv_icmp_eq (tgt := 50) hx hb dX8_begin_37 (by decide) (fun c5 => ?_) (fun c5 => ?_)
          · skip
            exact J2 (by simp [z_sr, hjJ1, c3, c4, c5])
          · skip
            exact z_throwS hx hb hst hml hl.1 hlocks htab hg hown I (Or.inl ⟨rfl, (by simp [z_cB, z_sr, hjJ1, c3, c4, c5])⟩) mw392 mw14 (List.mem_of_getElem? (i := 0) rfl) h1_IllegalArgumentException_29 h2_IllegalArgumentException_29 h3_IllegalArgumentException_29 h4_IllegalArgumentException_29 (List.mem_of_getElem? (i := 10) rfl) dX8_begin_40 dX8_begin_43 dX8_begin_44 dX8_begin_46 dX8_begin_49 (Nat.le_of_ble_eq_true rfl) (Nat.le_of_ble_eq_true rfl) (Nat.le_of_ble_eq_true rfl) (Nat.le_of_ble_eq_true rfl) (Nat.le_of_ble_eq_true rfl) (Nat.le_of_ble_eq_true rfl)
  · skip
    refine lv_iload_n hx hb dX8_begin_0 rfl (lv_at hl 1 rfl) ?_
    refine lv_bipush (v := 98) hx hb dX8_begin_1 (by decide) ?_
    refine lv_icmp_eq (tgt := 22) hx hb dX8_begin_3 (by decide) (fun c6 => ?_) (fun c6 => ?_)
    · skip
      exact J1 (by simp [z_so, c6])
    · skip
      refine lv_iload_n hx hb dX8_begin_6 rfl (lv_at hl 1 rfl) ?_
      refine lv_bipush (v := 100) hx hb dX8_begin_7 (by decide) ?_
      refine lv_icmp_eq (tgt := 22) hx hb dX8_begin_9 (by decide) (fun c7 => ?_) (fun c7 => ?_)
      · skip
        exact J1 (by simp [z_so, c6, c7])
      · skip
        exact z_throwS hx hb hst hml hl.1 hlocks htab hg hown I (Or.inl ⟨rfl, (by simp [z_cB, z_so, c6, c7])⟩) mw392 mw14 (List.mem_of_getElem? (i := 0) rfl) h1_IllegalArgumentException_29 h2_IllegalArgumentException_29 h3_IllegalArgumentException_29 h4_IllegalArgumentException_29 (List.mem_of_getElem? (i := 9) rfl) dX8_begin_12 dX8_begin_15 dX8_begin_16 dX8_begin_18 dX8_begin_21 (Nat.le_of_ble_eq_true rfl) (Nat.le_of_ble_eq_true rfl) (Nat.le_of_ble_eq_true rfl) (Nat.le_of_ble_eq_true rfl) (Nat.le_of_ble_eq_true rfl) (Nat.le_of_ble_eq_true rfl)
set_option maxHeartbeats 4000000 in
set_option maxRecDepth 100000 in
theorem z_RX8_solve (l : Launch) (hst : l.stackTraces = false) (dC : Nat → ClassId) (dI : Nat → Nat → Nat) (xq1 : Nat) (xq2 : Nat) (xq3 : Nat) (xq4 : Nat) (xq5 : Nat) (xq6 : Nat) (xq7 : Nat) (xq8 : Nat) (h0 : Nat) (p0 : Int32) (sz : Nat) : vx_Met l yX8_solve (z_w yX8_solve cX8_solve 3 (some .int)) ({ frames := 10, cells := 1, slots := 6, locals := 200 }) (z_P dC dI [(h0, .inr (8, [.ref xq1, .ref xq2])), (xq1, .inr (7, [.ref xq2, .ref xq3, .ref xq4, .ref xq5, .ref xq6, .ref xq7, .ref xq8, .int 0, .int 0, .int 0, .int 0, .int 0]))] [] sz [.ref h0, .int p0]) (va_Qi (fun (r : Int32) (u : va_W × List (ClassId × FieldType)) => u = ([], []) ∧ False) (z_B dC dI (va_A [(h0, .inr (8, [.ref xq1, .ref xq2])), (xq1, .inr (7, [.ref xq2, .ref xq3, .ref xq4, .ref xq5, .ref xq6, .ref xq7, .ref xq8, .int 0, .int 0, .int 0, .int 0, .int 0]))] sz)) (va_A [(h0, .inr (8, [.ref xq1, .ref xq2])), (xq1, .inr (7, [.ref xq2, .ref xq3, .ref xq4, .ref xq5, .ref xq6, .ref xq7, .ref xq8, .int 0, .int 0, .int 0, .int 0, .int 0]))] sz)) (z_XC (fun E : String => E = "java/lang/IllegalArgumentException" ∧ z_cS p0 = 1 ∨ E = "java/lang/IllegalStateException" ∧ z_cS p0 = 2) (va_A [(h0, .inr (8, [.ref xq1, .ref xq2])), (xq1, .inr (7, [.ref xq2, .ref xq3, .ref xq4, .ref xq5, .ref xq6, .ref xq7, .ref xq8, .int 0, .int 0, .int 0, .int 0, .int 0]))] sz)) 1 6 (va_A [(h0, .inr (8, [.ref xq1, .ref xq2])), (xq1, .inr (7, [.ref xq2, .ref xq3, .ref xq4, .ref xq5, .ref xq6, .ref xq7, .ref xq8, .int 0, .int 0, .int 0, .int 0, .int 0]))] sz) := by
  refine vx_ofW (cc := cX8_solve) (maxL := 3) (ret := (some .int)) (by decide) rfl ?_
  intro p e s m args below meth c s₁ B hml htab hv
  obtain ⟨rfl, rfl, I⟩ := z_open hv
  have hx := B.exec
  have hb := B.bytes
  have hr := B.returns
  have hts := atoms_spec (ws := z_w yX8_solve cX8_solve 3 (some .int)) B.pre
  have hg : z_G _ s := z_G.of hts
  have hown : s.vm.findClass RX8 = some m.cls := findClass_of_methodNamed B.named
  have hlocks := B.notSynchronized
  generalize va_A [(h0, .inr (8, [.ref xq1, .ref xq2])), (xq1, .inr (7, [.ref xq2, .ref xq3, .ref xq4, .ref xq5, .ref xq6, .ref xq7, .ref xq8, .int 0, .int 0, .int 0, .int 0, .int 0]))] s.heap.size = A at I ⊢
  have hl := lv_entry ([.ref h0, .int p0]) (n := 3) (Nat.le_of_ble_eq_true rfl)
  rw [lg_entry_eq]
  generalize (lg_sl ([.ref h0, .int p0]) ++ List.replicate (3 - (lg_sl ([.ref h0, .int p0])).length) Slot.unset).toArray = ls at hl ⊢
  have hl : lv_has ls 3 [(0, .ref h0), (1, .int p0)] := hl
  refine lv_iload_n hx hb dX8_solve_0 rfl (lv_at hl 1 rfl) ?_
  refine lv_iconst (v := 1) hx hb dX8_solve_1 (by decide) ?_
  refine lv_bipush (v := 41) hx hb dX8_solve_2 (by decide) ?_
  refine z_calli (wr := [(h0, .inr (8, [.ref xq1, .ref xq2])), (xq1, .inr (7, [.ref xq2, .ref xq3, .ref xq4, .ref xq5, .ref xq6, .ref xq7, .ref xq8, .int 0, .int 0, .int 0, .int 0, .int 0]))]) (va_runS (As := [.int p0, .int 1, .int 41]) (rest := []) ⟨hx, hb, hml, hown, hts⟩ (z_RX8_isWithin l dC dI p0 1 41  s.heap.size) (va_cwS 3 hts (z_gS z_T.w mw389 mw390 mw1 mw391) rfl rfl rfl (by decide +kernel) ⟨Nat.le_of_ble_eq_true rfl, Nat.le_of_ble_eq_true rfl⟩) (z_pre I [] [] rfl rfl rfl rfl) rfl rfl hl.1 rfl (lv_room (Nat.le_of_ble_eq_true rfl)) dX8_solve_4 ⟨Nat.le_of_ble_eq_true rfl, Nat.le_of_ble_eq_true rfl⟩) I [] [0, 1] rfl rfl (by decide) (by decide) (fun r1 u1 H locs hw1 I => ?_)
  obtain ⟨hu1, hp1⟩ := hw1
  subst hu1
  have I : z_I A dC dI [(h0, .inr (8, [.ref xq1, .ref xq2])), (xq1, .inr (7, [.ref xq2, .ref xq3, .ref xq4, .ref xq5, .ref xq6, .ref xq7, .ref xq8, .int 0, .int 0, .int 0, .int 0, .int 0]))] [] s H _ := I
  refine lv_if_ne (tgt := 20) hx hb dX8_solve_7 (by decide) (fun c2 => ?_) (fun c2 => ?_)
  · skip
    refine lv_aload_n hx hb dX8_solve_20 rfl (lv_at hl 0 rfl) ?_
    refine z_get (C := RX8) (T := TX8) (N := 2) (ci := 8) (v := .ref xq1) hx hb hg hown I iw_8 0 rfl rfl 0 (by decide) mw357 rfl dX8_solve_21 ?_
    refine z_calli (wr := [(h0, .inr (8, [.ref xq1, .ref xq2]))]) (va_runV (As := []) (rest := []) ⟨hx, hb, hml, hown, hts⟩ (z_RX7_isPlanted l dC dI xq1 xq2 xq3 xq4 xq5 xq6 xq7 xq8  H.size) (cwV 0 hts (z_gV z_T.w mw464 mw465 mw466 mw2 mw467) rfl rfl rfl (by decide +kernel) ⟨Nat.le_of_ble_eq_true rfl, Nat.le_of_ble_eq_true rfl⟩) (z_preV I [1] [] rfl rfl rfl rfl (ci := 7) (q0 := 1) rfl rfl) rfl rfl hl.1 rfl (lv_room (Nat.le_of_ble_eq_true rfl)) dX8_solve_24 ⟨Nat.le_of_ble_eq_true rfl, Nat.le_of_ble_eq_true rfl⟩) I [1] [0] rfl rfl (by decide) (by decide) (fun r3 u3 H locs hw3 I => ?_)
    obtain ⟨hu3, hp3⟩ := hw3
    subst hu3
    have I : z_I A dC dI [(h0, .inr (8, [.ref xq1, .ref xq2])), (xq1, .inr (7, [.ref xq2, .ref xq3, .ref xq4, .ref xq5, .ref xq6, .ref xq7, .ref xq8, .int 0, .int 0, .int 0, .int 0, .int 0]))] [] s H _ := I
    obtain rfl : r3 = 0 := hp3
    refine lv_if_ne (tgt := 40) hx hb dX8_solve_27 (by decide) (fun c9 => absurd c9 (by decide)) (fun _ => ?_)
    exact z_throwS hx hb hst hml hl.1 hlocks htab hg hown I (Or.inr ⟨rfl, (by simp [z_cS, ← hp1, c2])⟩) mw468 mw15 (List.mem_of_getElem? (i := 1) rfl) h1_IllegalStateException_49 h2_IllegalStateException_49 h3_IllegalStateException_49 h4_IllegalStateException_49 (List.mem_of_getElem? (i := 13) rfl) dX8_solve_30 dX8_solve_33 dX8_solve_34 dX8_solve_36 dX8_solve_39 (Nat.le_of_ble_eq_true rfl) (Nat.le_of_ble_eq_true rfl) (Nat.le_of_ble_eq_true rfl) (Nat.le_of_ble_eq_true rfl) (Nat.le_of_ble_eq_true rfl) (Nat.le_of_ble_eq_true rfl)
  · skip
    exact z_throwS hx hb hst hml hl.1 hlocks htab hg hown I (Or.inl ⟨rfl, (by simp [z_cS, ← hp1, c2])⟩) mw392 mw14 (List.mem_of_getElem? (i := 0) rfl) h1_IllegalArgumentException_29 h2_IllegalArgumentException_29 h3_IllegalArgumentException_29 h4_IllegalArgumentException_29 (List.mem_of_getElem? (i := 12) rfl) dX8_solve_10 dX8_solve_13 dX8_solve_14 dX8_solve_16 dX8_solve_19 (Nat.le_of_ble_eq_true rfl) (Nat.le_of_ble_eq_true rfl) (Nat.le_of_ble_eq_true rfl) (Nat.le_of_ble_eq_true rfl) (Nat.le_of_ble_eq_true rfl) (Nat.le_of_ble_eq_true rfl)
