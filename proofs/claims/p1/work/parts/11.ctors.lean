/-! constructors -/
set_option maxHeartbeats 4000000 in
set_option maxRecDepth 100000 in
theorem z_Point_init (l : Launch) (dC : Nat → ClassId) (dI : Nat → Nat → Nat) (h0 : Nat) (sz : Nat) : Met l yX4_init (z_w yX4_init cX4_init 1 none) ({ frames := 8, cells := 1, slots := 4, locals := 140 }) (z_P dC dI [(h0, .inr (4, [.null, .long 0, .long 0]))] [] sz [.ref h0]) (va_Qv (fun u : va_W × List (ClassId × FieldType) => ∃ (xq1 : Nat) (xc2 : ClassId) (xf3 : Nat → Int64), u = ([(h0, .inr (4, [.ref xq1, .long 1, .long 0])), (xq1, .inl (xc2, 4, .inr (.inl xf3)))], [(xc2, .long)]) ∧ True) (z_B dC dI (va_A [(h0, .inr (4, [.null, .long 0, .long 0]))] sz)) (va_A [(h0, .inr (4, [.null, .long 0, .long 0]))] sz)) 1 4 (va_A [(h0, .inr (4, [.null, .long 0, .long 0]))] sz) := by
  refine Met.ofW (cc := cX4_init) (maxL := 1) (ret := none) (by decide) rfl ?_
  intro p e s m args below meth c s₁ B hml hv
  obtain ⟨rfl, rfl, I⟩ := z_open hv
  have hx := B.exec
  have hb := B.bytes
  have hr := B.returns
  have hts := atoms_spec (ws := z_w yX4_init cX4_init 1 none) B.pre
  have hg : z_G _ s := z_G.of hts
  have hown : s.vm.findClass RX4 = some m.cls := findClass_of_methodNamed B.named
  have hlocks := B.notSynchronized
  have hin : meth.name = "<init>" := (name_of_methodNamed B.named B.method).1
  generalize va_A [(h0, .inr (4, [.null, .long 0, .long 0]))] s.heap.size = A at I ⊢
  have hl := lv_entry ([.ref h0]) (n := 1) (Nat.le_of_ble_eq_true rfl)
  rw [lg_entry_eq]
  generalize (lg_sl ([.ref h0]) ++ List.replicate (1 - (lg_sl ([.ref h0])).length) Slot.unset).toArray = ls at hl ⊢
  have hl : lv_has ls 1 [(0, .ref h0)] := hl
  refine lv_aload_n hx hb dX4_init_0 rfl (lv_at hl 0 rfl) ?_
  refine z_objInit hx hb hg hown hml hl.1 mw55 mw34 mw35 dX4_init_1 (Nat.le_of_ble_eq_true rfl) (Nat.le_of_ble_eq_true rfl) ?_
  refine lv_aload_n hx hb dX4_init_4 rfl (lv_at hl 0 rfl) ?_
  refine lv_iconst (v := 4) hx hb dX4_init_5 (by decide) ?_
  refine z_newa (atype := .long) (ty := .long) (N' := 4) (a0 := (4, .inr (.inl (fun _ => 0)))) hx hb hg I mw77 rfl (fun _ => rfl) (by decide) (by decide) (Nat.le_of_ble_eq_true rfl) (Nat.le_of_ble_eq_true rfl) (Nat.le_of_ble_eq_true rfl) dX4_init_6 (fun q1 cA2 H I => ?_)
  have I : z_I A dC dI [(h0, .inr (4, [.null, .long 0, .long 0])), (q1, .inl (cA2, 4, .inr (.inl (fun _ => 0))))] [(cA2, .long)] s H _ := I
  refine W.widen (k := 1) (n := 4) (Nat.le_of_ble_eq_true rfl) (Nat.le_of_ble_eq_true rfl) ?_
  refine z_putF (T := TX4) (N := 3) (ci := 4) (v := .ref q1) hx hb hg hown I iw_4 tyX4 tyX4_ok nmX4 0 rfl rfl 0 (by decide) mw56 rfl hin rfl rfl rfl (Nat.le_of_ble_eq_true rfl) dX4_init_8 [(h0, .inr (4, [.ref q1, .long 0, .long 0])), (q1, .inl (cA2, 4, .inr (.inl (fun _ => 0))))] rfl (fun H locs I => ?_)
  refine lv_aload_n hx hb dX4_init_11 rfl (lv_at hl 0 rfl) ?_
  refine lv_lconst (v := 1) hx hb dX4_init_12 (by decide) ?_
  refine z_put (C := RX4) (T := TX4) (N := 3) (ci := 4) (v := .long 1) hx hb hg hown I iw_4 tyX4 tyX4_ok nmX4 0 rfl rfl 1 (by decide) mw61 rfl rfl rfl (Nat.le_of_ble_eq_true rfl) dX4_init_13 [(h0, .inr (4, [.ref q1, .long 1, .long 0])), (q1, .inl (cA2, 4, .inr (.inl (fun _ => 0))))] rfl (fun H locs I => ?_)
  have I := I.subT (t' := [(cA2, .long)]) [0] rfl
  refine W.widen (k := 1) (n := 4) (Nat.le_of_ble_eq_true rfl) (Nat.le_of_ble_eq_true rfl) ?_
  exact z_vret hx hb hr hlocks I ⟨q1, cA2, (fun _ => 0), rfl, trivial⟩ dX4_init_16
set_option maxHeartbeats 4000000 in
set_option maxRecDepth 100000 in
theorem z_Row_init (l : Launch) (dC : Nat → ClassId) (dI : Nat → Nat → Nat) (h0 : Nat) (sz : Nat) : Met l yX6_init (z_w yX6_init cX6_init 1 none) ({ frames := 8, cells := 1, slots := 4, locals := 140 }) (z_P dC dI [(h0, .inr (6, [.null, .int 0, .int 0]))] [] sz [.ref h0]) (va_Qv (fun u : va_W × List (ClassId × FieldType) => ∃ (xq1 : Nat) (xc2 : ClassId) (xf3 : Nat → Int32), u = ([(h0, .inr (6, [.ref xq1, .int 0, .int 108])), (xq1, .inl (xc2, 4, .inl xf3))], [(xc2, .int)]) ∧ True) (z_B dC dI (va_A [(h0, .inr (6, [.null, .int 0, .int 0]))] sz)) (va_A [(h0, .inr (6, [.null, .int 0, .int 0]))] sz)) 1 4 (va_A [(h0, .inr (6, [.null, .int 0, .int 0]))] sz) := by
  refine Met.ofW (cc := cX6_init) (maxL := 1) (ret := none) (by decide) rfl ?_
  intro p e s m args below meth c s₁ B hml hv
  obtain ⟨rfl, rfl, I⟩ := z_open hv
  have hx := B.exec
  have hb := B.bytes
  have hr := B.returns
  have hts := atoms_spec (ws := z_w yX6_init cX6_init 1 none) B.pre
  have hg : z_G _ s := z_G.of hts
  have hown : s.vm.findClass RX6 = some m.cls := findClass_of_methodNamed B.named
  have hlocks := B.notSynchronized
  have hin : meth.name = "<init>" := (name_of_methodNamed B.named B.method).1
  generalize va_A [(h0, .inr (6, [.null, .int 0, .int 0]))] s.heap.size = A at I ⊢
  have hl := lv_entry ([.ref h0]) (n := 1) (Nat.le_of_ble_eq_true rfl)
  rw [lg_entry_eq]
  generalize (lg_sl ([.ref h0]) ++ List.replicate (1 - (lg_sl ([.ref h0])).length) Slot.unset).toArray = ls at hl ⊢
  have hl : lv_has ls 1 [(0, .ref h0)] := hl
  refine lv_aload_n hx hb dX6_init_0 rfl (lv_at hl 0 rfl) ?_
  refine z_objInit hx hb hg hown hml hl.1 mw123 mw34 mw35 dX6_init_1 (Nat.le_of_ble_eq_true rfl) (Nat.le_of_ble_eq_true rfl) ?_
  refine lv_aload_n hx hb dX6_init_4 rfl (lv_at hl 0 rfl) ?_
  refine lv_iconst (v := 4) hx hb dX6_init_5 (by decide) ?_
  refine z_newa (atype := .int) (ty := .int) (N' := 4) (a0 := (4, .inl (fun _ => 0))) hx hb hg I mw75 rfl (fun _ => rfl) (by decide) (by decide) (Nat.le_of_ble_eq_true rfl) (Nat.le_of_ble_eq_true rfl) (Nat.le_of_ble_eq_true rfl) dX6_init_6 (fun q1 cA2 H I => ?_)
  have I : z_I A dC dI [(h0, .inr (6, [.null, .int 0, .int 0])), (q1, .inl (cA2, 4, .inl (fun _ => 0)))] [(cA2, .int)] s H _ := I
  refine W.widen (k := 1) (n := 4) (Nat.le_of_ble_eq_true rfl) (Nat.le_of_ble_eq_true rfl) ?_
  refine z_putF (T := TX6) (N := 3) (ci := 6) (v := .ref q1) hx hb hg hown I iw_6 tyX6 tyX6_ok nmX6 0 rfl rfl 0 (by decide) mw124 rfl hin rfl rfl rfl (Nat.le_of_ble_eq_true rfl) dX6_init_8 [(h0, .inr (6, [.ref q1, .int 0, .int 0])), (q1, .inl (cA2, 4, .inl (fun _ => 0)))] rfl (fun H locs I => ?_)
  refine lv_aload_n hx hb dX6_init_11 rfl (lv_at hl 0 rfl) ?_
  refine lv_bipush (v := 108) hx hb dX6_init_12 (by decide) ?_
  refine z_put (C := RX6) (T := TX6) (N := 3) (ci := 6) (v := .int 108) hx hb hg hown I iw_6 tyX6 tyX6_ok nmX6 0 rfl rfl 2 (by decide) mw137 rfl rfl rfl (Nat.le_of_ble_eq_true rfl) dX6_init_14 [(h0, .inr (6, [.ref q1, .int 0, .int 108])), (q1, .inl (cA2, 4, .inl (fun _ => 0)))] rfl (fun H locs I => ?_)
  have I := I.subT (t' := [(cA2, .int)]) [0] rfl
  refine W.widen (k := 1) (n := 4) (Nat.le_of_ble_eq_true rfl) (Nat.le_of_ble_eq_true rfl) ?_
  exact z_vret hx hb hr hlocks I ⟨q1, cA2, (fun _ => 0), rfl, trivial⟩ dX6_init_17
set_option maxHeartbeats 4000000 in
set_option maxRecDepth 100000 in
theorem z_Cover_init (l : Launch) (dC : Nat → ClassId) (dI : Nat → Nat → Nat) (h0 : Nat) (sz : Nat) : Met l yX1_init (z_w yX1_init cX1_init 1 none) ({ frames := 8, cells := 2, slots := 8, locals := 140 }) (z_P dC dI [(h0, .inr (1, [.null, .int 0, .null, .int 0, .int 0]))] [] sz [.ref h0]) (va_Qv (fun u : va_W × List (ClassId × FieldType) => ∃ (xq1 : Nat) (xq2 : Nat), u = ([(h0, .inr (1, [.ref xq1, .int 0, .ref xq2, .int 0, .int 0]))], []) ∧ True) (z_B dC dI (va_A [(h0, .inr (1, [.null, .int 0, .null, .int 0, .int 0]))] sz)) (va_A [(h0, .inr (1, [.null, .int 0, .null, .int 0, .int 0]))] sz)) 2 8 (va_A [(h0, .inr (1, [.null, .int 0, .null, .int 0, .int 0]))] sz) := by
  refine Met.ofW (cc := cX1_init) (maxL := 1) (ret := none) (by decide) rfl ?_
  intro p e s m args below meth c s₁ B hml hv
  obtain ⟨rfl, rfl, I⟩ := z_open hv
  have hx := B.exec
  have hb := B.bytes
  have hr := B.returns
  have hts := atoms_spec (ws := z_w yX1_init cX1_init 1 none) B.pre
  have hg : z_G _ s := z_G.of hts
  have hown : s.vm.findClass RX1 = some m.cls := findClass_of_methodNamed B.named
  have hlocks := B.notSynchronized
  have hin : meth.name = "<init>" := (name_of_methodNamed B.named B.method).1
  generalize va_A [(h0, .inr (1, [.null, .int 0, .null, .int 0, .int 0]))] s.heap.size = A at I ⊢
  have hl := lv_entry ([.ref h0]) (n := 1) (Nat.le_of_ble_eq_true rfl)
  rw [lg_entry_eq]
  generalize (lg_sl ([.ref h0]) ++ List.replicate (1 - (lg_sl ([.ref h0])).length) Slot.unset).toArray = ls at hl ⊢
  have hl : lv_has ls 1 [(0, .ref h0)] := hl
  refine lv_aload_n hx hb dX1_init_0 rfl (lv_at hl 0 rfl) ?_
  refine z_objInit hx hb hg hown hml hl.1 mw214 mw34 mw35 dX1_init_1 (Nat.le_of_ble_eq_true rfl) (Nat.le_of_ble_eq_true rfl) ?_
  refine lv_aload_n hx hb dX1_init_4 rfl (lv_at hl 0 rfl) ?_
  refine lv_iconst (v := 4) hx hb dX1_init_5 (by decide) ?_
  refine z_newa (atype := .int) (ty := .int) (N' := 4) (a0 := (4, .inl (fun _ => 0))) hx hb hg I mw75 rfl (fun _ => rfl) (by decide) (by decide) (Nat.le_of_ble_eq_true rfl) (Nat.le_of_ble_eq_true rfl) (Nat.le_of_ble_eq_true rfl) dX1_init_6 (fun q1 cA2 H I => ?_)
  have I : z_I A dC dI [(h0, .inr (1, [.null, .int 0, .null, .int 0, .int 0])), (q1, .inl (cA2, 4, .inl (fun _ => 0)))] [(cA2, .int)] s H _ := I
  refine W.widen (k := 1) (n := 4) (Nat.le_of_ble_eq_true rfl) (Nat.le_of_ble_eq_true rfl) ?_
  refine z_putF (T := TX1) (N := 5) (ci := 1) (v := .ref q1) hx hb hg hown I iw_1 tyX1 tyX1_ok nmX1 0 rfl rfl 0 (by decide) mw215 rfl hin rfl rfl rfl (Nat.le_of_ble_eq_true rfl) dX1_init_8 [(h0, .inr (1, [.ref q1, .int 0, .null, .int 0, .int 0])), (q1, .inl (cA2, 4, .inl (fun _ => 0)))] rfl (fun H locs I => ?_)
  refine lv_aload_n hx hb dX1_init_11 rfl (lv_at hl 0 rfl) ?_
  refine lv_iconst (v := 4) hx hb dX1_init_12 (by decide) ?_
  refine z_newa (atype := .int) (ty := .int) (N' := 4) (a0 := (4, .inl (fun _ => 0))) hx hb hg I mw75 rfl (fun _ => rfl) (by decide) (by decide) (Nat.le_of_ble_eq_true rfl) (Nat.le_of_ble_eq_true rfl) (Nat.le_of_ble_eq_true rfl) dX1_init_13 (fun q3 cA4 H I => ?_)
  have I : z_I A dC dI [(h0, .inr (1, [.ref q1, .int 0, .null, .int 0, .int 0])), (q1, .inl (cA2, 4, .inl (fun _ => 0))), (q3, .inl (cA4, 4, .inl (fun _ => 0)))] [(cA2, .int), (cA4, .int)] s H _ := I
  refine W.widen (k := 2) (n := 8) (Nat.le_of_ble_eq_true rfl) (Nat.le_of_ble_eq_true rfl) ?_
  refine z_putF (T := TX1) (N := 5) (ci := 1) (v := .ref q3) hx hb hg hown I iw_1 tyX1 tyX1_ok nmX1 0 rfl rfl 2 (by decide) mw219 rfl hin rfl rfl rfl (Nat.le_of_ble_eq_true rfl) dX1_init_15 [(h0, .inr (1, [.ref q1, .int 0, .ref q3, .int 0, .int 0])), (q1, .inl (cA2, 4, .inl (fun _ => 0))), (q3, .inl (cA4, 4, .inl (fun _ => 0)))] rfl (fun H locs I => ?_)
  have I := I.sub (ws' := [(h0, .inr (1, [.ref q1, .int 0, .ref q3, .int 0, .int 0]))]) [0] rfl rfl rfl
  have I := I.subT (t' := []) [] rfl
  refine W.widen (k := 2) (n := 8) (Nat.le_of_ble_eq_true rfl) (Nat.le_of_ble_eq_true rfl) ?_
  exact z_vret hx hb hr hlocks I ⟨q1, q3, rfl, trivial⟩ dX1_init_18
set_option maxHeartbeats 4000000 in
set_option maxRecDepth 100000 in
theorem z_Cut_init (l : Launch) (dC : Nat → ClassId) (dI : Nat → Nat → Nat) (h0 : Nat) (sz : Nat) : Met l yX2_init (z_w yX2_init cX2_init 1 none) ({ frames := 10, cells := 2, slots := 7, locals := 200 }) (z_P dC dI [(h0, .inr (2, [.null, .int 0, .int 0, .null, .int 0, .int 0]))] [] sz [.ref h0]) (va_Qv (fun u : va_W × List (ClassId × FieldType) => ∃ (xq1 : Nat), u = ([(h0, .inr (2, [.ref xq1, .int 0, .int 0, .null, .int 0, .int 0]))], []) ∧ True) (z_B dC dI (va_A [(h0, .inr (2, [.null, .int 0, .int 0, .null, .int 0, .int 0]))] sz)) (va_A [(h0, .inr (2, [.null, .int 0, .int 0, .null, .int 0, .int 0]))] sz)) 2 7 (va_A [(h0, .inr (2, [.null, .int 0, .int 0, .null, .int 0, .int 0]))] sz) := by
  refine Met.ofW (cc := cX2_init) (maxL := 1) (ret := none) (by decide) rfl ?_
  intro p e s m args below meth c s₁ B hml hv
  obtain ⟨rfl, rfl, I⟩ := z_open hv
  have hx := B.exec
  have hb := B.bytes
  have hr := B.returns
  have hts := atoms_spec (ws := z_w yX2_init cX2_init 1 none) B.pre
  have hg : z_G _ s := z_G.of hts
  have hown : s.vm.findClass RX2 = some m.cls := findClass_of_methodNamed B.named
  have hlocks := B.notSynchronized
  have hin : meth.name = "<init>" := (name_of_methodNamed B.named B.method).1
  generalize va_A [(h0, .inr (2, [.null, .int 0, .int 0, .null, .int 0, .int 0]))] s.heap.size = A at I ⊢
  have hl := lv_entry ([.ref h0]) (n := 1) (Nat.le_of_ble_eq_true rfl)
  rw [lg_entry_eq]
  generalize (lg_sl ([.ref h0]) ++ List.replicate (1 - (lg_sl ([.ref h0])).length) Slot.unset).toArray = ls at hl ⊢
  have hl : lv_has ls 1 [(0, .ref h0)] := hl
  refine lv_aload_n hx hb dX2_init_0 rfl (lv_at hl 0 rfl) ?_
  refine z_objInit hx hb hg hown hml hl.1 mw286 mw34 mw35 dX2_init_1 (Nat.le_of_ble_eq_true rfl) (Nat.le_of_ble_eq_true rfl) ?_
  refine lv_aload_n hx hb dX2_init_4 rfl (lv_at hl 0 rfl) ?_
  refine z_new (ci := 6) (fs := [.null, .int 0, .int 0]) (C := RX6) (T := TX6) (N := 3) hx hb hg hown I iw_6 tyX6 tyX6_ok rfl mw287 mw119 mw6 zd_6 (Nat.le_of_ble_eq_true rfl) (Nat.le_of_ble_eq_true rfl) dX2_init_5 (fun q1 H I => ?_)
  have I : z_I A dC dI [(h0, .inr (2, [.null, .int 0, .int 0, .null, .int 0, .int 0])), (q1, .inr (6, [.null, .int 0, .int 0]))] [] s H _ := I
  refine W.widen (k := 1) (n := 3) (Nat.le_of_ble_eq_true rfl) (Nat.le_of_ble_eq_true rfl) ?_
  refine lv_dup hx hb dX2_init_8 rfl ?_
  refine z_callv (wr := [(h0, .inr (2, [.null, .int 0, .int 0, .null, .int 0, .int 0]))]) (va_runIN (As := []) (rest := [.ref q1, .ref h0]) ⟨hx, hb, hml, hown, hts⟩ (z_Row_init l dC dI q1  H.size) ⟨va_cnB 0 hts (z_goodW z_T.w mw122) rfl rfl rfl (z_nest RX2 11 yX6_init "BranchQuarry" I 1 rfl) (hg _ mw6 rfl) (by decide +kernel) ⟨Nat.le_of_ble_eq_true rfl, Nat.le_of_ble_eq_true rfl⟩, rfl, (hg _ mw121 rfl)⟩ (z_pre I [1] [] rfl rfl rfl rfl) rfl rfl hl.1 rfl (lv_room (Nat.le_of_ble_eq_true rfl)) dX2_init_9 ⟨Nat.le_of_ble_eq_true rfl, Nat.le_of_ble_eq_true rfl⟩) I [1] [0] rfl rfl (by decide) (by decide) (fun u2 H locs hw2 I => ?_)
  obtain ⟨xq3, xc4, xf5, hu2, hp2⟩ := hw2
  subst hu2
  have I : z_I A dC dI [(h0, .inr (2, [.null, .int 0, .int 0, .null, .int 0, .int 0])), (q1, .inr (6, [.ref xq3, .int 0, .int 108])), (xq3, .inl (xc4, 4, .inl xf5))] [(xc4, .int)] s H _ := I
  refine W.widen (k := 2) (n := 7) (Nat.le_of_ble_eq_true rfl) (Nat.le_of_ble_eq_true rfl) ?_
  refine z_putF (T := TX2) (N := 6) (ci := 2) (v := .ref q1) hx hb hg hown I iw_2 tyX2 tyX2_ok nmX2 0 rfl rfl 0 (by decide) mw289 rfl hin rfl rfl rfl (Nat.le_of_ble_eq_true rfl) dX2_init_12 [(h0, .inr (2, [.ref q1, .int 0, .int 0, .null, .int 0, .int 0])), (q1, .inr (6, [.ref xq3, .int 0, .int 108])), (xq3, .inl (xc4, 4, .inl xf5))] rfl (fun H locs I => ?_)
  have I := I.sub (ws' := [(h0, .inr (2, [.ref q1, .int 0, .int 0, .null, .int 0, .int 0]))]) [0] rfl rfl rfl
  have I := I.subT (t' := []) [] rfl
  refine W.widen (k := 2) (n := 7) (Nat.le_of_ble_eq_true rfl) (Nat.le_of_ble_eq_true rfl) ?_
  exact z_vret hx hb hr hlocks I ⟨q1, rfl, trivial⟩ dX2_init_15
set_option maxHeartbeats 4000000 in
set_option maxRecDepth 100000 in
theorem z_Node_init (l : Launch) (dC : Nat → ClassId) (dI : Nat → Nat → Nat) (h0 : Nat) (n0 : Int32) (sz : Nat) : Met l yX3_init (z_w yX3_init cX3_init 2 none) ({ frames := 10, cells := 4, slots := 15, locals := 200 }) (z_P dC dI [(h0, .inr (3, [.null, .null, .null, .int 0, .null, .int 0, .int 0, .int 0, .int 0]))] [] sz [.ref h0, .int n0]) (va_Qv (fun u : va_W × List (ClassId × FieldType) => ∃ (xq1 : Nat) (xq2 : Nat) (xq3 : Nat), u = ([(h0, .inr (3, [.ref xq1, .ref xq2, .ref xq3, .int n0, .null, .int 0, .int 0, .int 0, .int 111]))], []) ∧ True) (z_B dC dI (va_A [(h0, .inr (3, [.null, .null, .null, .int 0, .null, .int 0, .int 0, .int 0, .int 0]))] sz)) (va_A [(h0, .inr (3, [.null, .null, .null, .int 0, .null, .int 0, .int 0, .int 0, .int 0]))] sz)) 4 15 (va_A [(h0, .inr (3, [.null, .null, .null, .int 0, .null, .int 0, .int 0, .int 0, .int 0]))] sz) := by
  refine Met.ofW (cc := cX3_init) (maxL := 2) (ret := none) (by decide) rfl ?_
  intro p e s m args below meth c s₁ B hml hv
  obtain ⟨rfl, rfl, I⟩ := z_open hv
  have hx := B.exec
  have hb := B.bytes
  have hr := B.returns
  have hts := atoms_spec (ws := z_w yX3_init cX3_init 2 none) B.pre
  have hg : z_G _ s := z_G.of hts
  have hown : s.vm.findClass RX3 = some m.cls := findClass_of_methodNamed B.named
  have hlocks := B.notSynchronized
  have hin : meth.name = "<init>" := (name_of_methodNamed B.named B.method).1
  generalize va_A [(h0, .inr (3, [.null, .null, .null, .int 0, .null, .int 0, .int 0, .int 0, .int 0]))] s.heap.size = A at I ⊢
  have hl := lv_entry ([.ref h0, .int n0]) (n := 2) (Nat.le_of_ble_eq_true rfl)
  rw [lg_entry_eq]
  generalize (lg_sl ([.ref h0, .int n0]) ++ List.replicate (2 - (lg_sl ([.ref h0, .int n0])).length) Slot.unset).toArray = ls at hl ⊢
  have hl : lv_has ls 2 [(0, .ref h0), (1, .int n0)] := hl
  refine lv_aload_n hx hb dX3_init_0 rfl (lv_at hl 0 rfl) ?_
  refine z_objInit hx hb hg hown hml hl.1 mw239 mw34 mw35 dX3_init_1 (Nat.le_of_ble_eq_true rfl) (Nat.le_of_ble_eq_true rfl) ?_
  refine lv_aload_n hx hb dX3_init_4 rfl (lv_at hl 0 rfl) ?_
  refine lv_iconst (v := 4) hx hb dX3_init_5 (by decide) ?_
  refine z_newa (atype := .int) (ty := .int) (N' := 4) (a0 := (4, .inl (fun _ => 0))) hx hb hg I mw75 rfl (fun _ => rfl) (by decide) (by decide) (Nat.le_of_ble_eq_true rfl) (Nat.le_of_ble_eq_true rfl) (Nat.le_of_ble_eq_true rfl) dX3_init_6 (fun q1 cA2 H I => ?_)
  have I : z_I A dC dI [(h0, .inr (3, [.null, .null, .null, .int 0, .null, .int 0, .int 0, .int 0, .int 0])), (q1, .inl (cA2, 4, .inl (fun _ => 0)))] [(cA2, .int)] s H _ := I
  refine W.widen (k := 1) (n := 4) (Nat.le_of_ble_eq_true rfl) (Nat.le_of_ble_eq_true rfl) ?_
  refine z_putF (T := TX3) (N := 9) (ci := 3) (v := .ref q1) hx hb hg hown I iw_3 tyX3 tyX3_ok nmX3 0 rfl rfl 0 (by decide) mw242 rfl hin rfl rfl rfl (Nat.le_of_ble_eq_true rfl) dX3_init_8 [(h0, .inr (3, [.ref q1, .null, .null, .int 0, .null, .int 0, .int 0, .int 0, .int 0])), (q1, .inl (cA2, 4, .inl (fun _ => 0)))] rfl (fun H locs I => ?_)
  refine lv_aload_n hx hb dX3_init_11 rfl (lv_at hl 0 rfl) ?_
  refine lv_iconst (v := 4) hx hb dX3_init_12 (by decide) ?_
  refine z_newa (atype := .int) (ty := .int) (N' := 4) (a0 := (4, .inl (fun _ => 0))) hx hb hg I mw75 rfl (fun _ => rfl) (by decide) (by decide) (Nat.le_of_ble_eq_true rfl) (Nat.le_of_ble_eq_true rfl) (Nat.le_of_ble_eq_true rfl) dX3_init_13 (fun q3 cA4 H I => ?_)
  have I : z_I A dC dI [(h0, .inr (3, [.ref q1, .null, .null, .int 0, .null, .int 0, .int 0, .int 0, .int 0])), (q1, .inl (cA2, 4, .inl (fun _ => 0))), (q3, .inl (cA4, 4, .inl (fun _ => 0)))] [(cA2, .int), (cA4, .int)] s H _ := I
  refine W.widen (k := 2) (n := 8) (Nat.le_of_ble_eq_true rfl) (Nat.le_of_ble_eq_true rfl) ?_
  refine z_putF (T := TX3) (N := 9) (ci := 3) (v := .ref q3) hx hb hg hown I iw_3 tyX3 tyX3_ok nmX3 0 rfl rfl 1 (by decide) mw245 rfl hin rfl rfl rfl (Nat.le_of_ble_eq_true rfl) dX3_init_15 [(h0, .inr (3, [.ref q1, .ref q3, .null, .int 0, .null, .int 0, .int 0, .int 0, .int 0])), (q1, .inl (cA2, 4, .inl (fun _ => 0))), (q3, .inl (cA4, 4, .inl (fun _ => 0)))] rfl (fun H locs I => ?_)
  refine lv_aload_n hx hb dX3_init_18 rfl (lv_at hl 0 rfl) ?_
  refine z_new (ci := 4) (fs := [.null, .long 0, .long 0]) (C := RX4) (T := TX4) (N := 3) hx hb hg hown I iw_4 tyX4 tyX4_ok rfl mw240 mw51 mw4 zd_4 (Nat.le_of_ble_eq_true rfl) (Nat.le_of_ble_eq_true rfl) dX3_init_19 (fun q5 H I => ?_)
  have I : z_I A dC dI [(h0, .inr (3, [.ref q1, .ref q3, .null, .int 0, .null, .int 0, .int 0, .int 0, .int 0])), (q1, .inl (cA2, 4, .inl (fun _ => 0))), (q3, .inl (cA4, 4, .inl (fun _ => 0))), (q5, .inr (4, [.null, .long 0, .long 0]))] [(cA2, .int), (cA4, .int)] s H _ := I
  refine W.widen (k := 3) (n := 11) (Nat.le_of_ble_eq_true rfl) (Nat.le_of_ble_eq_true rfl) ?_
  refine lv_dup hx hb dX3_init_22 rfl ?_
  refine z_callv (wr := [(h0, .inr (3, [.ref q1, .ref q3, .null, .int 0, .null, .int 0, .int 0, .int 0, .int 0])), (q1, .inl (cA2, 4, .inl (fun _ => 0))), (q3, .inl (cA4, 4, .inl (fun _ => 0)))]) (va_runIN (As := []) (rest := [.ref q5, .ref h0]) ⟨hx, hb, hml, hown, hts⟩ (z_Point_init l dC dI q5  H.size) ⟨va_cnB 0 hts (z_goodW z_T.w mw54) rfl rfl rfl (z_nest RX3 20 yX4_init "BranchQuarry" I 2 rfl) (hg _ mw4 rfl) (by decide +kernel) ⟨Nat.le_of_ble_eq_true rfl, Nat.le_of_ble_eq_true rfl⟩, rfl, (hg _ mw53 rfl)⟩ (z_pre I [3] [] rfl rfl rfl rfl) rfl rfl hl.1 rfl (lv_room (Nat.le_of_ble_eq_true rfl)) dX3_init_23 ⟨Nat.le_of_ble_eq_true rfl, Nat.le_of_ble_eq_true rfl⟩) I [3] [0, 1, 2] rfl rfl (by decide) (by decide) (fun u6 H locs hw6 I => ?_)
  obtain ⟨xq7, xc8, xf9, hu6, hp6⟩ := hw6
  subst hu6
  have I : z_I A dC dI [(h0, .inr (3, [.ref q1, .ref q3, .null, .int 0, .null, .int 0, .int 0, .int 0, .int 0])), (q1, .inl (cA2, 4, .inl (fun _ => 0))), (q3, .inl (cA4, 4, .inl (fun _ => 0))), (q5, .inr (4, [.ref xq7, .long 1, .long 0])), (xq7, .inl (xc8, 4, .inr (.inl xf9)))] [(cA2, .int), (cA4, .int), (xc8, .long)] s H _ := I
  refine W.widen (k := 4) (n := 15) (Nat.le_of_ble_eq_true rfl) (Nat.le_of_ble_eq_true rfl) ?_
  refine z_putF (T := TX3) (N := 9) (ci := 3) (v := .ref q5) hx hb hg hown I iw_3 tyX3 tyX3_ok nmX3 0 rfl rfl 2 (by decide) mw248 rfl hin rfl rfl rfl (Nat.le_of_ble_eq_true rfl) dX3_init_26 [(h0, .inr (3, [.ref q1, .ref q3, .ref q5, .int 0, .null, .int 0, .int 0, .int 0, .int 0])), (q1, .inl (cA2, 4, .inl (fun _ => 0))), (q3, .inl (cA4, 4, .inl (fun _ => 0))), (q5, .inr (4, [.ref xq7, .long 1, .long 0])), (xq7, .inl (xc8, 4, .inr (.inl xf9)))] rfl (fun H locs I => ?_)
  refine lv_aload_n hx hb dX3_init_29 rfl (lv_at hl 0 rfl) ?_
  refine lv_bipush (v := 111) hx hb dX3_init_30 (by decide) ?_
  refine z_put (C := RX3) (T := TX3) (N := 9) (ci := 3) (v := .int 111) hx hb hg hown I iw_3 tyX3 tyX3_ok nmX3 0 rfl rfl 8 (by decide) mw260 rfl rfl rfl (Nat.le_of_ble_eq_true rfl) dX3_init_32 [(h0, .inr (3, [.ref q1, .ref q3, .ref q5, .int 0, .null, .int 0, .int 0, .int 0, .int 111])), (q1, .inl (cA2, 4, .inl (fun _ => 0))), (q3, .inl (cA4, 4, .inl (fun _ => 0))), (q5, .inr (4, [.ref xq7, .long 1, .long 0])), (xq7, .inl (xc8, 4, .inr (.inl xf9)))] rfl (fun H locs I => ?_)
  refine lv_aload_n hx hb dX3_init_35 rfl (lv_at hl 0 rfl) ?_
  refine lv_iload_n hx hb dX3_init_36 rfl (lv_at hl 1 rfl) ?_
  refine z_putF (T := TX3) (N := 9) (ci := 3) (v := .int n0) hx hb hg hown I iw_3 tyX3 tyX3_ok nmX3 0 rfl rfl 3 (by decide) mw251 rfl hin rfl rfl rfl (Nat.le_of_ble_eq_true rfl) dX3_init_37 [(h0, .inr (3, [.ref q1, .ref q3, .ref q5, .int n0, .null, .int 0, .int 0, .int 0, .int 111])), (q1, .inl (cA2, 4, .inl (fun _ => 0))), (q3, .inl (cA4, 4, .inl (fun _ => 0))), (q5, .inr (4, [.ref xq7, .long 1, .long 0])), (xq7, .inl (xc8, 4, .inr (.inl xf9)))] rfl (fun H locs I => ?_)
  have I := I.sub (ws' := [(h0, .inr (3, [.ref q1, .ref q3, .ref q5, .int n0, .null, .int 0, .int 0, .int 0, .int 111]))]) [0] rfl rfl rfl
  have I := I.subT (t' := []) [] rfl
  refine W.widen (k := 4) (n := 15) (Nat.le_of_ble_eq_true rfl) (Nat.le_of_ble_eq_true rfl) ?_
  exact z_vret hx hb hr hlocks I ⟨q1, q3, q5, rfl, trivial⟩ dX3_init_40
set_option maxHeartbeats 4000000 in
set_option maxRecDepth 100000 in
theorem z_Corner_init (l : Launch) (dC : Nat → ClassId) (dI : Nat → Nat → Nat) (h0 : Nat) (sz : Nat) : Met l yX0_init (z_w yX0_init cX0_init 1 none) ({ frames := 10, cells := 52, slots := 279, locals := 200 }) (z_P dC dI [(h0, .inr (0, [.null, .null, .null, .null, .null, .null, .null, .int 0, .int 0]))] [] sz [.ref h0]) (va_Qv (fun u : va_W × List (ClassId × FieldType) => ∃ (xq1 : Nat) (xq2 : Nat) (xq3 : Nat) (xq4 : Nat) (xq5 : Nat) (xq6 : Nat) (xq7 : Nat) (xq8 : Nat) (xc9 : ClassId) (xf10 : Nat → Int64), u = ([(h0, .inr (0, [.ref xq1, .ref xq2, .ref xq3, .ref xq4, .ref xq5, .ref xq6, .ref xq7, .int 0, .int 0])), (xq1, .inr (4, [.ref xq8, .long 1, .long 0])), (xq8, .inl (xc9, 4, .inr (.inl xf10)))], [(xc9, .long)]) ∧ True) (z_B dC dI (va_A [(h0, .inr (0, [.null, .null, .null, .null, .null, .null, .null, .int 0, .int 0]))] sz)) (va_A [(h0, .inr (0, [.null, .null, .null, .null, .null, .null, .null, .int 0, .int 0]))] sz)) 52 279 (va_A [(h0, .inr (0, [.null, .null, .null, .null, .null, .null, .null, .int 0, .int 0]))] sz) := by
  refine Met.ofW (cc := cX0_init) (maxL := 1) (ret := none) (by decide) rfl ?_
  intro p e s m args below meth c s₁ B hml hv
  obtain ⟨rfl, rfl, I⟩ := z_open hv
  have hx := B.exec
  have hb := B.bytes
  have hr := B.returns
  have hts := atoms_spec (ws := z_w yX0_init cX0_init 1 none) B.pre
  have hg : z_G _ s := z_G.of hts
  have hown : s.vm.findClass RX0 = some m.cls := findClass_of_methodNamed B.named
  have hlocks := B.notSynchronized
  have hin : meth.name = "<init>" := (name_of_methodNamed B.named B.method).1
  generalize va_A [(h0, .inr (0, [.null, .null, .null, .null, .null, .null, .null, .int 0, .int 0]))] s.heap.size = A at I ⊢
  have hl := lv_entry ([.ref h0]) (n := 1) (Nat.le_of_ble_eq_true rfl)
  rw [lg_entry_eq]
  generalize (lg_sl ([.ref h0]) ++ List.replicate (1 - (lg_sl ([.ref h0])).length) Slot.unset).toArray = ls at hl ⊢
  have hl : lv_has ls 1 [(0, .ref h0)] := hl
  refine lv_aload_n hx hb dX0_init_0 rfl (lv_at hl 0 rfl) ?_
  refine z_objInit hx hb hg hown hml hl.1 mw83 mw34 mw35 dX0_init_1 (Nat.le_of_ble_eq_true rfl) (Nat.le_of_ble_eq_true rfl) ?_
  refine lv_aload_n hx hb dX0_init_4 rfl (lv_at hl 0 rfl) ?_
  refine z_new (ci := 4) (fs := [.null, .long 0, .long 0]) (C := RX4) (T := TX4) (N := 3) hx hb hg hown I iw_4 tyX4 tyX4_ok rfl mw84 mw51 mw4 zd_4 (Nat.le_of_ble_eq_true rfl) (Nat.le_of_ble_eq_true rfl) dX0_init_5 (fun q1 H I => ?_)
  have I : z_I A dC dI [(h0, .inr (0, [.null, .null, .null, .null, .null, .null, .null, .int 0, .int 0])), (q1, .inr (4, [.null, .long 0, .long 0]))] [] s H _ := I
  refine W.widen (k := 1) (n := 3) (Nat.le_of_ble_eq_true rfl) (Nat.le_of_ble_eq_true rfl) ?_
  refine lv_dup hx hb dX0_init_8 rfl ?_
  refine z_callv (wr := [(h0, .inr (0, [.null, .null, .null, .null, .null, .null, .null, .int 0, .int 0]))]) (va_runIN (As := []) (rest := [.ref q1, .ref h0]) ⟨hx, hb, hml, hown, hts⟩ (z_Point_init l dC dI q1  H.size) ⟨va_cnB 0 hts (z_goodW z_T.w mw54) rfl rfl rfl (z_nest RX0 11 yX4_init "BranchQuarry" I 0 rfl) (hg _ mw4 rfl) (by decide +kernel) ⟨Nat.le_of_ble_eq_true rfl, Nat.le_of_ble_eq_true rfl⟩, rfl, (hg _ mw53 rfl)⟩ (z_pre I [1] [] rfl rfl rfl rfl) rfl rfl hl.1 rfl (lv_room (Nat.le_of_ble_eq_true rfl)) dX0_init_9 ⟨Nat.le_of_ble_eq_true rfl, Nat.le_of_ble_eq_true rfl⟩) I [1] [0] rfl rfl (by decide) (by decide) (fun u2 H locs hw2 I => ?_)
  obtain ⟨xq3, xc4, xf5, hu2, hp2⟩ := hw2
  subst hu2
  have I : z_I A dC dI [(h0, .inr (0, [.null, .null, .null, .null, .null, .null, .null, .int 0, .int 0])), (q1, .inr (4, [.ref xq3, .long 1, .long 0])), (xq3, .inl (xc4, 4, .inr (.inl xf5)))] [(xc4, .long)] s H _ := I
  refine W.widen (k := 2) (n := 7) (Nat.le_of_ble_eq_true rfl) (Nat.le_of_ble_eq_true rfl) ?_
  refine z_putF (T := TX0) (N := 9) (ci := 0) (v := .ref q1) hx hb hg hown I iw_0 tyX0 tyX0_ok nmX0 0 rfl rfl 0 (by decide) mw90 rfl hin rfl rfl rfl (Nat.le_of_ble_eq_true rfl) dX0_init_12 [(h0, .inr (0, [.ref q1, .null, .null, .null, .null, .null, .null, .int 0, .int 0])), (q1, .inr (4, [.ref xq3, .long 1, .long 0])), (xq3, .inl (xc4, 4, .inr (.inl xf5)))] rfl (fun H locs I => ?_)
  refine lv_aload_n hx hb dX0_init_15 rfl (lv_at hl 0 rfl) ?_
  refine lv_bipush (v := 40) hx hb dX0_init_16 (by decide) ?_
  refine lv_iconst (v := 4) hx hb dX0_init_18 (by decide) ?_
  refine z_mna2 (N' := 40) (K' := 4) (z := (4, .inl (fun _ => 0))) hx hb hg hown I mw86 (List.mem_of_getElem? (i := 0) rfl) mw75 (fun _ h => h) (by decide) (by decide) (by decide) (by decide) (by decide) (Nat.le_of_ble_eq_true rfl) (Nat.le_of_ble_eq_true rfl) (Nat.le_of_ble_eq_true rfl) rfl rfl (Nat.le_of_ble_eq_true rfl) (Nat.le_of_ble_eq_true rfl) (fun _ => z_inner _ _ _ rfl) dX0_init_19 (fun q6 cA7 cA8 f9 H I => ?_)
  have I : z_I A dC dI [(h0, .inr (0, [.ref q1, .null, .null, .null, .null, .null, .null, .int 0, .int 0])), (q1, .inr (4, [.ref xq3, .long 1, .long 0])), (xq3, .inl (xc4, 4, .inr (.inl xf5))), (q6, .inl (cA7, 40, .inr (.inr (.inr (.inr (va_up f9 0 (some (q6 + 1)))))))), ((q6 + 1), .inl (cA8, 4, .inl (fun _ => 0)))] [(xc4, .long), (cA7, .array .int), (cA8, .int)] s H _ := I
  refine W.widen (k := 43) (n := 207) (Nat.le_of_ble_eq_true rfl) (Nat.le_of_ble_eq_true rfl) ?_
  refine z_putF (T := TX0) (N := 9) (ci := 0) (v := .ref q6) hx hb hg hown I iw_0 tyX0 tyX0_ok nmX0 0 rfl rfl 1 (by decide) mw92 rfl hin rfl rfl rfl (Nat.le_of_ble_eq_true rfl) dX0_init_23 [(h0, .inr (0, [.ref q1, .ref q6, .null, .null, .null, .null, .null, .int 0, .int 0])), (q1, .inr (4, [.ref xq3, .long 1, .long 0])), (xq3, .inl (xc4, 4, .inr (.inl xf5))), (q6, .inl (cA7, 40, .inr (.inr (.inr (.inr (va_up f9 0 (some (q6 + 1)))))))), ((q6 + 1), .inl (cA8, 4, .inl (fun _ => 0)))] rfl (fun H locs I => ?_)
  refine lv_aload_n hx hb dX0_init_26 rfl (lv_at hl 0 rfl) ?_
  refine lv_bipush (v := 40) hx hb dX0_init_27 (by decide) ?_
  refine z_newa (atype := .int) (ty := .int) (N' := 40) (a0 := (40, .inl (fun _ => 0))) hx hb hg I mw75 rfl (fun _ => rfl) (by decide) (by decide) (Nat.le_of_ble_eq_true rfl) (Nat.le_of_ble_eq_true rfl) (Nat.le_of_ble_eq_true rfl) dX0_init_29 (fun q10 cA11 H I => ?_)
  have I : z_I A dC dI [(h0, .inr (0, [.ref q1, .ref q6, .null, .null, .null, .null, .null, .int 0, .int 0])), (q1, .inr (4, [.ref xq3, .long 1, .long 0])), (xq3, .inl (xc4, 4, .inr (.inl xf5))), (q6, .inl (cA7, 40, .inr (.inr (.inr (.inr (va_up f9 0 (some (q6 + 1)))))))), ((q6 + 1), .inl (cA8, 4, .inl (fun _ => 0))), (q10, .inl (cA11, 40, .inl (fun _ => 0)))] [(xc4, .long), (cA7, .array .int), (cA8, .int), (cA11, .int)] s H _ := I
  refine W.widen (k := 44) (n := 247) (Nat.le_of_ble_eq_true rfl) (Nat.le_of_ble_eq_true rfl) ?_
  refine z_putF (T := TX0) (N := 9) (ci := 0) (v := .ref q10) hx hb hg hown I iw_0 tyX0 tyX0_ok nmX0 0 rfl rfl 2 (by decide) mw93 rfl hin rfl rfl rfl (Nat.le_of_ble_eq_true rfl) dX0_init_31 [(h0, .inr (0, [.ref q1, .ref q6, .ref q10, .null, .null, .null, .null, .int 0, .int 0])), (q1, .inr (4, [.ref xq3, .long 1, .long 0])), (xq3, .inl (xc4, 4, .inr (.inl xf5))), (q6, .inl (cA7, 40, .inr (.inr (.inr (.inr (va_up f9 0 (some (q6 + 1)))))))), ((q6 + 1), .inl (cA8, 4, .inl (fun _ => 0))), (q10, .inl (cA11, 40, .inl (fun _ => 0)))] rfl (fun H locs I => ?_)
  refine lv_aload_n hx hb dX0_init_34 rfl (lv_at hl 0 rfl) ?_
  refine lv_iconst (v := 4) hx hb dX0_init_35 (by decide) ?_
  refine lv_iconst (v := 4) hx hb dX0_init_36 (by decide) ?_
  refine z_mna2 (N' := 4) (K' := 4) (z := (4, .inr (.inl (fun _ => 0)))) hx hb hg hown I mw88 (List.mem_of_getElem? (i := 1) rfl) mw77 (fun _ h => h) (by decide) (by decide) (by decide) (by decide) (by decide) (Nat.le_of_ble_eq_true rfl) (Nat.le_of_ble_eq_true rfl) (Nat.le_of_ble_eq_true rfl) rfl rfl (Nat.le_of_ble_eq_true rfl) (Nat.le_of_ble_eq_true rfl) (fun _ => z_inner _ _ _ rfl) dX0_init_37 (fun q12 cA13 cA14 f15 H I => ?_)
  have I : z_I A dC dI [(h0, .inr (0, [.ref q1, .ref q6, .ref q10, .null, .null, .null, .null, .int 0, .int 0])), (q1, .inr (4, [.ref xq3, .long 1, .long 0])), (xq3, .inl (xc4, 4, .inr (.inl xf5))), (q6, .inl (cA7, 40, .inr (.inr (.inr (.inr (va_up f9 0 (some (q6 + 1)))))))), ((q6 + 1), .inl (cA8, 4, .inl (fun _ => 0))), (q10, .inl (cA11, 40, .inl (fun _ => 0))), (q12, .inl (cA13, 4, .inr (.inr (.inr (.inr (va_up f15 0 (some (q12 + 1)))))))), ((q12 + 1), .inl (cA14, 4, .inr (.inl (fun _ => 0))))] [(xc4, .long), (cA7, .array .int), (cA8, .int), (cA11, .int), (cA13, .array .long), (cA14, .long)] s H _ := I
  refine W.widen (k := 49) (n := 267) (Nat.le_of_ble_eq_true rfl) (Nat.le_of_ble_eq_true rfl) ?_
  refine z_putF (T := TX0) (N := 9) (ci := 0) (v := .ref q12) hx hb hg hown I iw_0 tyX0 tyX0_ok nmX0 0 rfl rfl 3 (by decide) mw94 rfl hin rfl rfl rfl (Nat.le_of_ble_eq_true rfl) dX0_init_41 [(h0, .inr (0, [.ref q1, .ref q6, .ref q10, .ref q12, .null, .null, .null, .int 0, .int 0])), (q1, .inr (4, [.ref xq3, .long 1, .long 0])), (xq3, .inl (xc4, 4, .inr (.inl xf5))), (q6, .inl (cA7, 40, .inr (.inr (.inr (.inr (va_up f9 0 (some (q6 + 1)))))))), ((q6 + 1), .inl (cA8, 4, .inl (fun _ => 0))), (q10, .inl (cA11, 40, .inl (fun _ => 0))), (q12, .inl (cA13, 4, .inr (.inr (.inr (.inr (va_up f15 0 (some (q12 + 1)))))))), ((q12 + 1), .inl (cA14, 4, .inr (.inl (fun _ => 0))))] rfl (fun H locs I => ?_)
  refine lv_aload_n hx hb dX0_init_44 rfl (lv_at hl 0 rfl) ?_
  refine lv_iconst (v := 4) hx hb dX0_init_45 (by decide) ?_
  refine z_newa (atype := .long) (ty := .long) (N' := 4) (a0 := (4, .inr (.inl (fun _ => 0)))) hx hb hg I mw77 rfl (fun _ => rfl) (by decide) (by decide) (Nat.le_of_ble_eq_true rfl) (Nat.le_of_ble_eq_true rfl) (Nat.le_of_ble_eq_true rfl) dX0_init_46 (fun q16 cA17 H I => ?_)
  have I : z_I A dC dI [(h0, .inr (0, [.ref q1, .ref q6, .ref q10, .ref q12, .null, .null, .null, .int 0, .int 0])), (q1, .inr (4, [.ref xq3, .long 1, .long 0])), (xq3, .inl (xc4, 4, .inr (.inl xf5))), (q6, .inl (cA7, 40, .inr (.inr (.inr (.inr (va_up f9 0 (some (q6 + 1)))))))), ((q6 + 1), .inl (cA8, 4, .inl (fun _ => 0))), (q10, .inl (cA11, 40, .inl (fun _ => 0))), (q12, .inl (cA13, 4, .inr (.inr (.inr (.inr (va_up f15 0 (some (q12 + 1)))))))), ((q12 + 1), .inl (cA14, 4, .inr (.inl (fun _ => 0)))), (q16, .inl (cA17, 4, .inr (.inl (fun _ => 0))))] [(xc4, .long), (cA7, .array .int), (cA8, .int), (cA11, .int), (cA13, .array .long), (cA14, .long), (cA17, .long)] s H _ := I
  refine W.widen (k := 50) (n := 271) (Nat.le_of_ble_eq_true rfl) (Nat.le_of_ble_eq_true rfl) ?_
  refine z_putF (T := TX0) (N := 9) (ci := 0) (v := .ref q16) hx hb hg hown I iw_0 tyX0 tyX0_ok nmX0 0 rfl rfl 4 (by decide) mw95 rfl hin rfl rfl rfl (Nat.le_of_ble_eq_true rfl) dX0_init_48 [(h0, .inr (0, [.ref q1, .ref q6, .ref q10, .ref q12, .ref q16, .null, .null, .int 0, .int 0])), (q1, .inr (4, [.ref xq3, .long 1, .long 0])), (xq3, .inl (xc4, 4, .inr (.inl xf5))), (q6, .inl (cA7, 40, .inr (.inr (.inr (.inr (va_up f9 0 (some (q6 + 1)))))))), ((q6 + 1), .inl (cA8, 4, .inl (fun _ => 0))), (q10, .inl (cA11, 40, .inl (fun _ => 0))), (q12, .inl (cA13, 4, .inr (.inr (.inr (.inr (va_up f15 0 (some (q12 + 1)))))))), ((q12 + 1), .inl (cA14, 4, .inr (.inl (fun _ => 0)))), (q16, .inl (cA17, 4, .inr (.inl (fun _ => 0))))] rfl (fun H locs I => ?_)
  refine lv_aload_n hx hb dX0_init_51 rfl (lv_at hl 0 rfl) ?_
  refine lv_iconst (v := 4) hx hb dX0_init_52 (by decide) ?_
  refine z_newa (atype := .long) (ty := .long) (N' := 4) (a0 := (4, .inr (.inl (fun _ => 0)))) hx hb hg I mw77 rfl (fun _ => rfl) (by decide) (by decide) (Nat.le_of_ble_eq_true rfl) (Nat.le_of_ble_eq_true rfl) (Nat.le_of_ble_eq_true rfl) dX0_init_53 (fun q18 cA19 H I => ?_)
  have I : z_I A dC dI [(h0, .inr (0, [.ref q1, .ref q6, .ref q10, .ref q12, .ref q16, .null, .null, .int 0, .int 0])), (q1, .inr (4, [.ref xq3, .long 1, .long 0])), (xq3, .inl (xc4, 4, .inr (.inl xf5))), (q6, .inl (cA7, 40, .inr (.inr (.inr (.inr (va_up f9 0 (some (q6 + 1)))))))), ((q6 + 1), .inl (cA8, 4, .inl (fun _ => 0))), (q10, .inl (cA11, 40, .inl (fun _ => 0))), (q12, .inl (cA13, 4, .inr (.inr (.inr (.inr (va_up f15 0 (some (q12 + 1)))))))), ((q12 + 1), .inl (cA14, 4, .inr (.inl (fun _ => 0)))), (q16, .inl (cA17, 4, .inr (.inl (fun _ => 0)))), (q18, .inl (cA19, 4, .inr (.inl (fun _ => 0))))] [(xc4, .long), (cA7, .array .int), (cA8, .int), (cA11, .int), (cA13, .array .long), (cA14, .long), (cA17, .long), (cA19, .long)] s H _ := I
  refine W.widen (k := 51) (n := 275) (Nat.le_of_ble_eq_true rfl) (Nat.le_of_ble_eq_true rfl) ?_
  refine z_putF (T := TX0) (N := 9) (ci := 0) (v := .ref q18) hx hb hg hown I iw_0 tyX0 tyX0_ok nmX0 0 rfl rfl 5 (by decide) mw96 rfl hin rfl rfl rfl (Nat.le_of_ble_eq_true rfl) dX0_init_55 [(h0, .inr (0, [.ref q1, .ref q6, .ref q10, .ref q12, .ref q16, .ref q18, .null, .int 0, .int 0])), (q1, .inr (4, [.ref xq3, .long 1, .long 0])), (xq3, .inl (xc4, 4, .inr (.inl xf5))), (q6, .inl (cA7, 40, .inr (.inr (.inr (.inr (va_up f9 0 (some (q6 + 1)))))))), ((q6 + 1), .inl (cA8, 4, .inl (fun _ => 0))), (q10, .inl (cA11, 40, .inl (fun _ => 0))), (q12, .inl (cA13, 4, .inr (.inr (.inr (.inr (va_up f15 0 (some (q12 + 1)))))))), ((q12 + 1), .inl (cA14, 4, .inr (.inl (fun _ => 0)))), (q16, .inl (cA17, 4, .inr (.inl (fun _ => 0)))), (q18, .inl (cA19, 4, .inr (.inl (fun _ => 0))))] rfl (fun H locs I => ?_)
  refine lv_aload_n hx hb dX0_init_58 rfl (lv_at hl 0 rfl) ?_
  refine lv_iconst (v := 4) hx hb dX0_init_59 (by decide) ?_
  refine z_newa (atype := .int) (ty := .int) (N' := 4) (a0 := (4, .inl (fun _ => 0))) hx hb hg I mw75 rfl (fun _ => rfl) (by decide) (by decide) (Nat.le_of_ble_eq_true rfl) (Nat.le_of_ble_eq_true rfl) (Nat.le_of_ble_eq_true rfl) dX0_init_60 (fun q20 cA21 H I => ?_)
  have I : z_I A dC dI [(h0, .inr (0, [.ref q1, .ref q6, .ref q10, .ref q12, .ref q16, .ref q18, .null, .int 0, .int 0])), (q1, .inr (4, [.ref xq3, .long 1, .long 0])), (xq3, .inl (xc4, 4, .inr (.inl xf5))), (q6, .inl (cA7, 40, .inr (.inr (.inr (.inr (va_up f9 0 (some (q6 + 1)))))))), ((q6 + 1), .inl (cA8, 4, .inl (fun _ => 0))), (q10, .inl (cA11, 40, .inl (fun _ => 0))), (q12, .inl (cA13, 4, .inr (.inr (.inr (.inr (va_up f15 0 (some (q12 + 1)))))))), ((q12 + 1), .inl (cA14, 4, .inr (.inl (fun _ => 0)))), (q16, .inl (cA17, 4, .inr (.inl (fun _ => 0)))), (q18, .inl (cA19, 4, .inr (.inl (fun _ => 0)))), (q20, .inl (cA21, 4, .inl (fun _ => 0)))] [(xc4, .long), (cA7, .array .int), (cA8, .int), (cA11, .int), (cA13, .array .long), (cA14, .long), (cA17, .long), (cA19, .long), (cA21, .int)] s H _ := I
  refine W.widen (k := 52) (n := 279) (Nat.le_of_ble_eq_true rfl) (Nat.le_of_ble_eq_true rfl) ?_
  refine z_putF (T := TX0) (N := 9) (ci := 0) (v := .ref q20) hx hb hg hown I iw_0 tyX0 tyX0_ok nmX0 0 rfl rfl 6 (by decide) mw97 rfl hin rfl rfl rfl (Nat.le_of_ble_eq_true rfl) dX0_init_62 [(h0, .inr (0, [.ref q1, .ref q6, .ref q10, .ref q12, .ref q16, .ref q18, .ref q20, .int 0, .int 0])), (q1, .inr (4, [.ref xq3, .long 1, .long 0])), (xq3, .inl (xc4, 4, .inr (.inl xf5))), (q6, .inl (cA7, 40, .inr (.inr (.inr (.inr (va_up f9 0 (some (q6 + 1)))))))), ((q6 + 1), .inl (cA8, 4, .inl (fun _ => 0))), (q10, .inl (cA11, 40, .inl (fun _ => 0))), (q12, .inl (cA13, 4, .inr (.inr (.inr (.inr (va_up f15 0 (some (q12 + 1)))))))), ((q12 + 1), .inl (cA14, 4, .inr (.inl (fun _ => 0)))), (q16, .inl (cA17, 4, .inr (.inl (fun _ => 0)))), (q18, .inl (cA19, 4, .inr (.inl (fun _ => 0)))), (q20, .inl (cA21, 4, .inl (fun _ => 0)))] rfl (fun H locs I => ?_)
  have I := I.sub (ws' := [(h0, .inr (0, [.ref q1, .ref q6, .ref q10, .ref q12, .ref q16, .ref q18, .ref q20, .int 0, .int 0])), (q1, .inr (4, [.ref xq3, .long 1, .long 0])), (xq3, .inl (xc4, 4, .inr (.inl xf5)))]) [0, 1, 2] rfl rfl rfl
  have I := I.subT (t' := [(xc4, .long)]) [0] rfl
  refine W.widen (k := 52) (n := 279) (Nat.le_of_ble_eq_true rfl) (Nat.le_of_ble_eq_true rfl) ?_
  exact z_vret hx hb hr hlocks I ⟨q1, q6, q10, q12, q16, q18, q20, xq3, xc4, xf5, rfl, trivial⟩ dX0_init_65
