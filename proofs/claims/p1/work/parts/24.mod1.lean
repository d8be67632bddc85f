/-! small methods of the reference -/
set_option maxHeartbeats 4000000 in
set_option maxRecDepth 100000 in
theorem z_M_fails (l : Launch) (dC : Nat → ClassId) (dI : Nat → Nat → Nat) (t0 : Int32) (a1 : Nat) (a2 : Nat) (a3 : Nat) (a4 : Nat) (a5 : Nat) (a6 : Nat) (a7 : Nat) (a8 : Nat) (a9 : Nat) (t10 : Int32) (t11 : Int32) (a12 : Nat) (a13 : Nat) (a14 : Nat) (a15 : Nat) (a16 : Nat) (a17 : Nat) (a18 : Nat) (a19 : Nat) (a20 : Nat) (a21 : Nat) (a22 : Nat) (a23 : Nat) (a24 : Nat) (a25 : Nat) (a26 : Nat) (a27 : Nat) (a28 : Nat) (t29 : Int64) (t30 : Int32) (t31 : Int32) (t32 : Int32) (t33 : Int32) (t34 : Int32) (a35 : Nat) (a36 : Nat) (a37 : Nat) (a38 : Nat) (a39 : Nat) (a40 : Nat) (a41 : Nat) (t42 : Int64) (h0 : Nat) (p0 : Int32) (sz : Nat) : Met l yX9_fails (z_w yX9_fails cX9_fails 2 (some .int)) ({ frames := 8, cells := 0, slots := 0, locals := 140 }) (z_P dC dI [(h0, .inr (9, [.int t0, .ref a1, .ref a2, .ref a3, .ref a4, .ref a5, .ref a6, .ref a7, .ref a8, .ref a9, .int t10, .int t11, .ref a12, .ref a13, .ref a14, .ref a15, .ref a16, .ref a17, .ref a18, .ref a19, .ref a20, .ref a21, .ref a22, .ref a23, .ref a24, .ref a25, .ref a26, .ref a27, .ref a28, .long t29, .int t30, .int t31, .int t32, .int t33, .int t34, .ref a35, .ref a36, .ref a37, .ref a38, .ref a39, .ref a40, .ref a41, .long t42]))] [] sz [.ref h0, .int p0]) (va_Qi (fun (r : Int32) (u : va_W × List (ClassId × FieldType)) => u = ([(h0, .inr (9, [.int p0, .ref a1, .ref a2, .ref a3, .ref a4, .ref a5, .ref a6, .ref a7, .ref a8, .ref a9, .int t10, .int t11, .ref a12, .ref a13, .ref a14, .ref a15, .ref a16, .ref a17, .ref a18, .ref a19, .ref a20, .ref a21, .ref a22, .ref a23, .ref a24, .ref a25, .ref a26, .ref a27, .ref a28, .long t29, .int t30, .int t31, .int t32, .int t33, .int t34, .ref a35, .ref a36, .ref a37, .ref a38, .ref a39, .ref a40, .ref a41, .long t42]))], []) ∧ r = 0) (z_B dC dI (va_A [(h0, .inr (9, [.int t0, .ref a1, .ref a2, .ref a3, .ref a4, .ref a5, .ref a6, .ref a7, .ref a8, .ref a9, .int t10, .int t11, .ref a12, .ref a13, .ref a14, .ref a15, .ref a16, .ref a17, .ref a18, .ref a19, .ref a20, .ref a21, .ref a22, .ref a23, .ref a24, .ref a25, .ref a26, .ref a27, .ref a28, .long t29, .int t30, .int t31, .int t32, .int t33, .int t34, .ref a35, .ref a36, .ref a37, .ref a38, .ref a39, .ref a40, .ref a41, .long t42]))] sz)) (va_A [(h0, .inr (9, [.int t0, .ref a1, .ref a2, .ref a3, .ref a4, .ref a5, .ref a6, .ref a7, .ref a8, .ref a9, .int t10, .int t11, .ref a12, .ref a13, .ref a14, .ref a15, .ref a16, .ref a17, .ref a18, .ref a19, .ref a20, .ref a21, .ref a22, .ref a23, .ref a24, .ref a25, .ref a26, .ref a27, .ref a28, .long t29, .int t30, .int t31, .int t32, .int t33, .int t34, .ref a35, .ref a36, .ref a37, .ref a38, .ref a39, .ref a40, .ref a41, .long t42]))] sz)) 0 0 (va_A [(h0, .inr (9, [.int t0, .ref a1, .ref a2, .ref a3, .ref a4, .ref a5, .ref a6, .ref a7, .ref a8, .ref a9, .int t10, .int t11, .ref a12, .ref a13, .ref a14, .ref a15, .ref a16, .ref a17, .ref a18, .ref a19, .ref a20, .ref a21, .ref a22, .ref a23, .ref a24, .ref a25, .ref a26, .ref a27, .ref a28, .long t29, .int t30, .int t31, .int t32, .int t33, .int t34, .ref a35, .ref a36, .ref a37, .ref a38, .ref a39, .ref a40, .ref a41, .long t42]))] sz) := by
  refine Met.ofW (cc := cX9_fails) (maxL := 2) (ret := (some .int)) (by decide) rfl ?_
  intro p e s m args below meth c s₁ B hml hv
  obtain ⟨rfl, rfl, I⟩ := z_open hv
  have hx := B.exec
  have hb := B.bytes
  have hr := B.returns
  have hts := atoms_spec (ws := z_w yX9_fails cX9_fails 2 (some .int)) B.pre
  have hg : z_G _ s := z_G.of hts
  have hown : s.vm.findClass RX9 = some m.cls := findClass_of_methodNamed B.named
  have hlocks := B.notSynchronized
  generalize va_A [(h0, .inr (9, [.int t0, .ref a1, .ref a2, .ref a3, .ref a4, .ref a5, .ref a6, .ref a7, .ref a8, .ref a9, .int t10, .int t11, .ref a12, .ref a13, .ref a14, .ref a15, .ref a16, .ref a17, .ref a18, .ref a19, .ref a20, .ref a21, .ref a22, .ref a23, .ref a24, .ref a25, .ref a26, .ref a27, .ref a28, .long t29, .int t30, .int t31, .int t32, .int t33, .int t34, .ref a35, .ref a36, .ref a37, .ref a38, .ref a39, .ref a40, .ref a41, .long t42]))] s.heap.size = A at I ⊢
  have hl := lv_entry ([.ref h0, .int p0]) (n := 2) (Nat.le_of_ble_eq_true rfl)
  rw [lg_entry_eq]
  generalize (lg_sl ([.ref h0, .int p0]) ++ List.replicate (2 - (lg_sl ([.ref h0, .int p0])).length) Slot.unset).toArray = ls at hl ⊢
  have hl : lv_has ls 2 [(0, .ref h0), (1, .int p0)] := hl
  refine lv_aload_n hx hb dX9_fails_0 rfl (lv_at hl 0 rfl) ?_
  refine lv_iload_n hx hb dX9_fails_1 rfl (lv_at hl 1 rfl) ?_
  refine z_put (C := RX9) (T := TX9) (N := 43) (ci := 9) (v := .int p0) hx hb hg hown I iw_9 tyX9 tyX9_ok nmX9 0 rfl rfl 0 (by decide) mw1260 rfl rfl rfl (Nat.le_of_ble_eq_true rfl) dX9_fails_2 [(h0, .inr (9, [.int p0, .ref a1, .ref a2, .ref a3, .ref a4, .ref a5, .ref a6, .ref a7, .ref a8, .ref a9, .int t10, .int t11, .ref a12, .ref a13, .ref a14, .ref a15, .ref a16, .ref a17, .ref a18, .ref a19, .ref a20, .ref a21, .ref a22, .ref a23, .ref a24, .ref a25, .ref a26, .ref a27, .ref a28, .long t29, .int t30, .int t31, .int t32, .int t33, .int t34, .ref a35, .ref a36, .ref a37, .ref a38, .ref a39, .ref a40, .ref a41, .long t42]))] rfl (fun H locs I => ?_)
  refine lv_iconst (v := 0) hx hb dX9_fails_5 (by decide) ?_
  have I := I.subT (t' := []) [] rfl
  refine W.widen (k := 0) (n := 0) (Nat.le_of_ble_eq_true rfl) (Nat.le_of_ble_eq_true rfl) ?_
  exact z_iret hx hb hr hlocks I ⟨rfl, rfl⟩ dX9_fails_6
set_option maxHeartbeats 4000000 in
set_option maxRecDepth 100000 in
theorem z_M_thrown (l : Launch) (dC : Nat → ClassId) (dI : Nat → Nat → Nat) (t0 : Int32) (a1 : Nat) (a2 : Nat) (a3 : Nat) (a4 : Nat) (a5 : Nat) (a6 : Nat) (a7 : Nat) (a8 : Nat) (a9 : Nat) (t10 : Int32) (t11 : Int32) (a12 : Nat) (a13 : Nat) (a14 : Nat) (a15 : Nat) (a16 : Nat) (a17 : Nat) (a18 : Nat) (a19 : Nat) (a20 : Nat) (a21 : Nat) (a22 : Nat) (a23 : Nat) (a24 : Nat) (a25 : Nat) (a26 : Nat) (a27 : Nat) (a28 : Nat) (t29 : Int64) (t30 : Int32) (t31 : Int32) (t32 : Int32) (t33 : Int32) (t34 : Int32) (a35 : Nat) (a36 : Nat) (a37 : Nat) (a38 : Nat) (a39 : Nat) (a40 : Nat) (a41 : Nat) (t42 : Int64) (h0 : Nat) (sz : Nat) : Met l yX9_thrown (z_w yX9_thrown cX9_thrown 1 (some .int)) ({ frames := 8, cells := 0, slots := 0, locals := 140 }) (z_P dC dI [(h0, .inr (9, [.int t0, .ref a1, .ref a2, .ref a3, .ref a4, .ref a5, .ref a6, .ref a7, .ref a8, .ref a9, .int t10, .int t11, .ref a12, .ref a13, .ref a14, .ref a15, .ref a16, .ref a17, .ref a18, .ref a19, .ref a20, .ref a21, .ref a22, .ref a23, .ref a24, .ref a25, .ref a26, .ref a27, .ref a28, .long t29, .int t30, .int t31, .int t32, .int t33, .int t34, .ref a35, .ref a36, .ref a37, .ref a38, .ref a39, .ref a40, .ref a41, .long t42]))] [] sz [.ref h0]) (va_Qi (fun (r : Int32) (u : va_W × List (ClassId × FieldType)) => u = ([(h0, .inr (9, [.int t0, .ref a1, .ref a2, .ref a3, .ref a4, .ref a5, .ref a6, .ref a7, .ref a8, .ref a9, .int t10, .int t11, .ref a12, .ref a13, .ref a14, .ref a15, .ref a16, .ref a17, .ref a18, .ref a19, .ref a20, .ref a21, .ref a22, .ref a23, .ref a24, .ref a25, .ref a26, .ref a27, .ref a28, .long t29, .int t30, .int t31, .int t32, .int t33, .int t34, .ref a35, .ref a36, .ref a37, .ref a38, .ref a39, .ref a40, .ref a41, .long t42]))], []) ∧ r = t0) (z_B dC dI (va_A [(h0, .inr (9, [.int t0, .ref a1, .ref a2, .ref a3, .ref a4, .ref a5, .ref a6, .ref a7, .ref a8, .ref a9, .int t10, .int t11, .ref a12, .ref a13, .ref a14, .ref a15, .ref a16, .ref a17, .ref a18, .ref a19, .ref a20, .ref a21, .ref a22, .ref a23, .ref a24, .ref a25, .ref a26, .ref a27, .ref a28, .long t29, .int t30, .int t31, .int t32, .int t33, .int t34, .ref a35, .ref a36, .ref a37, .ref a38, .ref a39, .ref a40, .ref a41, .long t42]))] sz)) (va_A [(h0, .inr (9, [.int t0, .ref a1, .ref a2, .ref a3, .ref a4, .ref a5, .ref a6, .ref a7, .ref a8, .ref a9, .int t10, .int t11, .ref a12, .ref a13, .ref a14, .ref a15, .ref a16, .ref a17, .ref a18, .ref a19, .ref a20, .ref a21, .ref a22, .ref a23, .ref a24, .ref a25, .ref a26, .ref a27, .ref a28, .long t29, .int t30, .int t31, .int t32, .int t33, .int t34, .ref a35, .ref a36, .ref a37, .ref a38, .ref a39, .ref a40, .ref a41, .long t42]))] sz)) 0 0 (va_A [(h0, .inr (9, [.int t0, .ref a1, .ref a2, .ref a3, .ref a4, .ref a5, .ref a6, .ref a7, .ref a8, .ref a9, .int t10, .int t11, .ref a12, .ref a13, .ref a14, .ref a15, .ref a16, .ref a17, .ref a18, .ref a19, .ref a20, .ref a21, .ref a22, .ref a23, .ref a24, .ref a25, .ref a26, .ref a27, .ref a28, .long t29, .int t30, .int t31, .int t32, .int t33, .int t34, .ref a35, .ref a36, .ref a37, .ref a38, .ref a39, .ref a40, .ref a41, .long t42]))] sz) := by
  refine Met.ofW (cc := cX9_thrown) (maxL := 1) (ret := (some .int)) (by decide) rfl ?_
  intro p e s m args below meth c s₁ B hml hv
  obtain ⟨rfl, rfl, I⟩ := z_open hv
  have hx := B.exec
  have hb := B.bytes
  have hr := B.returns
  have hts := atoms_spec (ws := z_w yX9_thrown cX9_thrown 1 (some .int)) B.pre
  have hg : z_G _ s := z_G.of hts
  have hown : s.vm.findClass RX9 = some m.cls := findClass_of_methodNamed B.named
  have hlocks := B.notSynchronized
  generalize va_A [(h0, .inr (9, [.int t0, .ref a1, .ref a2, .ref a3, .ref a4, .ref a5, .ref a6, .ref a7, .ref a8, .ref a9, .int t10, .int t11, .ref a12, .ref a13, .ref a14, .ref a15, .ref a16, .ref a17, .ref a18, .ref a19, .ref a20, .ref a21, .ref a22, .ref a23, .ref a24, .ref a25, .ref a26, .ref a27, .ref a28, .long t29, .int t30, .int t31, .int t32, .int t33, .int t34, .ref a35, .ref a36, .ref a37, .ref a38, .ref a39, .ref a40, .ref a41, .long t42]))] s.heap.size = A at I ⊢
  have hl := lv_entry ([.ref h0]) (n := 1) (Nat.le_of_ble_eq_true rfl)
  rw [lg_entry_eq]
  generalize (lg_sl ([.ref h0]) ++ List.replicate (1 - (lg_sl ([.ref h0])).length) Slot.unset).toArray = ls at hl ⊢
  have hl : lv_has ls 1 [(0, .ref h0)] := hl
  refine lv_aload_n hx hb dX9_thrown_0 rfl (lv_at hl 0 rfl) ?_
  refine z_get (C := RX9) (T := TX9) (N := 43) (ci := 9) (v := .int t0) hx hb hg hown I iw_9 0 rfl rfl 0 (by decide) mw1260 rfl dX9_thrown_1 ?_
  have I := I.subT (t' := []) [] rfl
  refine W.widen (k := 0) (n := 0) (Nat.le_of_ble_eq_true rfl) (Nat.le_of_ble_eq_true rfl) ?_
  exact z_iret hx hb hr hlocks I ⟨rfl, rfl⟩ dX9_thrown_4
set_option maxHeartbeats 4000000 in
set_option maxRecDepth 100000 in
theorem z_M_isBetween (l : Launch) (dC : Nat → ClassId) (dI : Nat → Nat → Nat) (p0 : Int32) (p1 : Int32) (p2 : Int32) (sz : Nat) : Met l yX9_isBetween (z_w yX9_isBetween cX9_isBetween 3 (some .boolean)) ({ frames := 8, cells := 0, slots := 0, locals := 140 }) (z_P dC dI [] [] sz [.int p0, .int p1, .int p2]) (va_Qi (fun (r : Int32) (u : va_W × List (ClassId × FieldType)) => u = ([], []) ∧ r = z_bt p1 p0 p2) (z_B dC dI (va_A [] sz)) (va_A [] sz)) 0 0 (va_A [] sz) := by
  refine Met.ofW (cc := cX9_isBetween) (maxL := 3) (ret := (some .boolean)) (by decide) rfl ?_
  intro p e s m args below meth c s₁ B hml hv
  obtain ⟨rfl, rfl, I⟩ := z_open hv
  have hx := B.exec
  have hb := B.bytes
  have hr := B.returns
  have hts := atoms_spec (ws := z_w yX9_isBetween cX9_isBetween 3 (some .boolean)) B.pre
  have hg : z_G _ s := z_G.of hts
  have hown : s.vm.findClass RX9 = some m.cls := findClass_of_methodNamed B.named
  have hlocks := B.notSynchronized
  generalize va_A [] s.heap.size = A at I ⊢
  have hl := lv_entry ([.int p0, .int p1, .int p2]) (n := 3) (Nat.le_of_ble_eq_true rfl)
  rw [lg_entry_eq]
  generalize (lg_sl ([.int p0, .int p1, .int p2]) ++ List.replicate (3 - (lg_sl ([.int p0, .int p1, .int p2])).length) Slot.unset).toArray = ls at hl ⊢
  have hl : lv_has ls 3 [(0, .int p0), (1, .int p1), (2, .int p2)] := hl
  refine lv_iload_n hx hb dX9_isBetween_0 rfl (lv_at hl 1 rfl) ?_
  refine lv_iload_n hx hb dX9_isBetween_1 rfl (lv_at hl 0 rfl) ?_
  refine lv_icmp_gt (tgt := 14) hx hb dX9_isBetween_2 (by decide) (fun c1 => ?_) (fun c1 => ?_)
  · skip
    refine lv_iconst (v := 0) hx hb dX9_isBetween_14 (by decide) ?_
    have I := I.subT (t' := []) [] rfl
    refine W.widen (k := 0) (n := 0) (Nat.le_of_ble_eq_true rfl) (Nat.le_of_ble_eq_true rfl) ?_
    exact z_zret hx hb hr hlocks rfl I ⟨rfl, (z_bt_a c1).symm⟩ dX9_isBetween_15
  · skip
    refine lv_iload_n hx hb dX9_isBetween_5 rfl (lv_at hl 0 rfl) ?_
    refine lv_iload_n hx hb dX9_isBetween_6 rfl (lv_at hl 2 rfl) ?_
    refine lv_icmp_gt (tgt := 14) hx hb dX9_isBetween_7 (by decide) (fun c2 => ?_) (fun c2 => ?_)
    · skip
      refine lv_iconst (v := 0) hx hb dX9_isBetween_14 (by decide) ?_
      have I := I.subT (t' := []) [] rfl
      refine W.widen (k := 0) (n := 0) (Nat.le_of_ble_eq_true rfl) (Nat.le_of_ble_eq_true rfl) ?_
      exact z_zret hx hb hr hlocks rfl I ⟨rfl, (z_bt_b c2).symm⟩ dX9_isBetween_15
    · skip
      refine lv_iconst (v := 1) hx hb dX9_isBetween_10 (by decide) ?_
      refine lv_goto (tgt := 15) hx hb dX9_isBetween_11 (by decide) ?_
      have I := I.subT (t' := []) [] rfl
      refine W.widen (k := 0) (n := 0) (Nat.le_of_ble_eq_true rfl) (Nat.le_of_ble_eq_true rfl) ?_
      exact z_zret hx hb hr hlocks rfl I ⟨rfl, (z_bt_1 c1 c2).symm⟩ dX9_isBetween_15
set_option maxHeartbeats 4000000 in
set_option maxRecDepth 100000 in
theorem z_M_isColumn (l : Launch) (dC : Nat → ClassId) (dI : Nat → Nat → Nat) (xq1 : Nat) (xq2 : Nat) (xq3 : Nat) (xq4 : Nat) (xq5 : Nat) (xq6 : Nat) (xq7 : Nat) (xq8 : Nat) (xq9 : Nat) (xq10 : Nat) (xq11 : Nat) (xq12 : Nat) (xq13 : Nat) (xq14 : Nat) (xq15 : Nat) (xq16 : Nat) (xq17 : Nat) (xq18 : Nat) (xq19 : Nat) (xq20 : Nat) (xq21 : Nat) (xq22 : Nat) (xq23 : Nat) (xq24 : Nat) (xq25 : Nat) (xq26 : Nat) (xq27 : Nat) (xq28 : Nat) (xq29 : Nat) (xq30 : Nat) (xq31 : Nat) (xq32 : Nat) (xq33 : Nat) (h0 : Nat) (p0 : Int32) (sz : Nat) : Met l yX9_isColumn (z_w yX9_isColumn cX9_isColumn 2 (some .boolean)) ({ frames := 10, cells := 0, slots := 0, locals := 200 }) (z_P dC dI [(h0, .inr (9, [.int 0, .ref xq1, .ref xq2, .ref xq3, .ref xq4, .ref xq5, .ref xq6, .ref xq7, .ref xq8, .ref xq9, .int 0, .int 0, .ref xq10, .ref xq11, .ref xq12, .ref xq13, .ref xq14, .ref xq15, .ref xq16, .ref xq17, .ref xq18, .ref xq19, .ref xq20, .ref xq21, .ref xq22, .ref xq23, .ref xq24, .ref xq25, .ref xq26, .long 0, .int 0, .int 0, .int 0, .int 0, .int 0, .ref xq27, .ref xq28, .ref xq29, .ref xq30, .ref xq31, .ref xq32, .ref xq33, .long 0]))] [] sz [.ref h0, .int p0]) (va_Qi (fun (r : Int32) (u : va_W × List (ClassId × FieldType)) => u = ([(h0, .inr (9, [.int 0, .ref xq1, .ref xq2, .ref xq3, .ref xq4, .ref xq5, .ref xq6, .ref xq7, .ref xq8, .ref xq9, .int 0, .int 0, .ref xq10, .ref xq11, .ref xq12, .ref xq13, .ref xq14, .ref xq15, .ref xq16, .ref xq17, .ref xq18, .ref xq19, .ref xq20, .ref xq21, .ref xq22, .ref xq23, .ref xq24, .ref xq25, .ref xq26, .long 0, .int 0, .int 0, .int 0, .int 0, .int 0, .ref xq27, .ref xq28, .ref xq29, .ref xq30, .ref xq31, .ref xq32, .ref xq33, .long 0]))], []) ∧ r = 0) (z_B dC dI (va_A [(h0, .inr (9, [.int 0, .ref xq1, .ref xq2, .ref xq3, .ref xq4, .ref xq5, .ref xq6, .ref xq7, .ref xq8, .ref xq9, .int 0, .int 0, .ref xq10, .ref xq11, .ref xq12, .ref xq13, .ref xq14, .ref xq15, .ref xq16, .ref xq17, .ref xq18, .ref xq19, .ref xq20, .ref xq21, .ref xq22, .ref xq23, .ref xq24, .ref xq25, .ref xq26, .long 0, .int 0, .int 0, .int 0, .int 0, .int 0, .ref xq27, .ref xq28, .ref xq29, .ref xq30, .ref xq31, .ref xq32, .ref xq33, .long 0]))] sz)) (va_A [(h0, .inr (9, [.int 0, .ref xq1, .ref xq2, .ref xq3, .ref xq4, .ref xq5, .ref xq6, .ref xq7, .ref xq8, .ref xq9, .int 0, .int 0, .ref xq10, .ref xq11, .ref xq12, .ref xq13, .ref xq14, .ref xq15, .ref xq16, .ref xq17, .ref xq18, .ref xq19, .ref xq20, .ref xq21, .ref xq22, .ref xq23, .ref xq24, .ref xq25, .ref xq26, .long 0, .int 0, .int 0, .int 0, .int 0, .int 0, .ref xq27, .ref xq28, .ref xq29, .ref xq30, .ref xq31, .ref xq32, .ref xq33, .long 0]))] sz)) 0 0 (va_A [(h0, .inr (9, [.int 0, .ref xq1, .ref xq2, .ref xq3, .ref xq4, .ref xq5, .ref xq6, .ref xq7, .ref xq8, .ref xq9, .int 0, .int 0, .ref xq10, .ref xq11, .ref xq12, .ref xq13, .ref xq14, .ref xq15, .ref xq16, .ref xq17, .ref xq18, .ref xq19, .ref xq20, .ref xq21, .ref xq22, .ref xq23, .ref xq24, .ref xq25, .ref xq26, .long 0, .int 0, .int 0, .int 0, .int 0, .int 0, .ref xq27, .ref xq28, .ref xq29, .ref xq30, .ref xq31, .ref xq32, .ref xq33, .long 0]))] sz) := by
  refine Met.ofW (cc := cX9_isColumn) (maxL := 2) (ret := (some .boolean)) (by decide) rfl ?_
  intro p e s m args below meth c s₁ B hml hv
  obtain ⟨rfl, rfl, I⟩ := z_open hv
  have hx := B.exec
  have hb := B.bytes
  have hr := B.returns
  have hts := atoms_spec (ws := z_w yX9_isColumn cX9_isColumn 2 (some .boolean)) B.pre
  have hg : z_G _ s := z_G.of hts
  have hown : s.vm.findClass RX9 = some m.cls := findClass_of_methodNamed B.named
  have hlocks := B.notSynchronized
  generalize va_A [(h0, .inr (9, [.int 0, .ref xq1, .ref xq2, .ref xq3, .ref xq4, .ref xq5, .ref xq6, .ref xq7, .ref xq8, .ref xq9, .int 0, .int 0, .ref xq10, .ref xq11, .ref xq12, .ref xq13, .ref xq14, .ref xq15, .ref xq16, .ref xq17, .ref xq18, .ref xq19, .ref xq20, .ref xq21, .ref xq22, .ref xq23, .ref xq24, .ref xq25, .ref xq26, .long 0, .int 0, .int 0, .int 0, .int 0, .int 0, .ref xq27, .ref xq28, .ref xq29, .ref xq30, .ref xq31, .ref xq32, .ref xq33, .long 0]))] s.heap.size = A at I ⊢
  have hl := lv_entry ([.ref h0, .int p0]) (n := 2) (Nat.le_of_ble_eq_true rfl)
  rw [lg_entry_eq]
  generalize (lg_sl ([.ref h0, .int p0]) ++ List.replicate (2 - (lg_sl ([.ref h0, .int p0])).length) Slot.unset).toArray = ls at hl ⊢
  have hl : lv_has ls 2 [(0, .ref h0), (1, .int p0)] := hl
  refine lv_iload_n hx hb dX9_isColumn_0 rfl (lv_at hl 1 rfl) ?_
  refine lv_iconst (v := 0) hx hb dX9_isColumn_1 (by decide) ?_
  refine lv_aload_n hx hb dX9_isColumn_2 rfl (lv_at hl 0 rfl) ?_
  refine z_get (C := RX9) (T := TX9) (N := 43) (ci := 9) (v := .int 0) hx hb hg hown I iw_9 0 rfl rfl 10 (by decide) mw1270 rfl dX9_isColumn_3 ?_
  refine lv_iconst (v := 1) hx hb dX9_isColumn_6 (by decide) ?_
  refine lv_isub hx hb dX9_isColumn_7 ?_
  refine lv_topi (fun w1 ew1 => ?_)
  obtain rfl : w1 = (-1) := ew1.trans (by decide)
  refine z_calli (wr := [(h0, .inr (9, [.int 0, .ref xq1, .ref xq2, .ref xq3, .ref xq4, .ref xq5, .ref xq6, .ref xq7, .ref xq8, .ref xq9, .int 0, .int 0, .ref xq10, .ref xq11, .ref xq12, .ref xq13, .ref xq14, .ref xq15, .ref xq16, .ref xq17, .ref xq18, .ref xq19, .ref xq20, .ref xq21, .ref xq22, .ref xq23, .ref xq24, .ref xq25, .ref xq26, .long 0, .int 0, .int 0, .int 0, .int 0, .int 0, .ref xq27, .ref xq28, .ref xq29, .ref xq30, .ref xq31, .ref xq32, .ref xq33, .long 0]))]) (va_runS (As := [.int p0, .int 0, .int (-1)]) (rest := []) ⟨hx, hb, hml, hown, hts⟩ (z_M_isBetween l dC dI p0 0 (-1)  s.heap.size) (va_cwS 3 hts (z_gS z_T.w mw1399 mw1400 mw10 mw1401) rfl rfl rfl (by decide +kernel) ⟨Nat.le_of_ble_eq_true rfl, Nat.le_of_ble_eq_true rfl⟩) (z_pre I [] [] rfl rfl rfl rfl) rfl rfl hl.1 rfl (lv_room (Nat.le_of_ble_eq_true rfl)) dX9_isColumn_8 ⟨Nat.le_of_ble_eq_true rfl, Nat.le_of_ble_eq_true rfl⟩) I [] [0] rfl rfl (by decide) (by decide) (fun r2 u2 H locs hw2 I => ?_)
  obtain ⟨hu2, hp2⟩ := hw2
  subst hu2
  have I : z_I A dC dI [(h0, .inr (9, [.int 0, .ref xq1, .ref xq2, .ref xq3, .ref xq4, .ref xq5, .ref xq6, .ref xq7, .ref xq8, .ref xq9, .int 0, .int 0, .ref xq10, .ref xq11, .ref xq12, .ref xq13, .ref xq14, .ref xq15, .ref xq16, .ref xq17, .ref xq18, .ref xq19, .ref xq20, .ref xq21, .ref xq22, .ref xq23, .ref xq24, .ref xq25, .ref xq26, .long 0, .int 0, .int 0, .int 0, .int 0, .int 0, .ref xq27, .ref xq28, .ref xq29, .ref xq30, .ref xq31, .ref xq32, .ref xq33, .long 0]))] [] s H _ := I
  obtain rfl : r2 = 0 := hp2.trans (z_bt_none _)
  have I := I.subT (t' := []) [] rfl
  refine W.widen (k := 0) (n := 0) (Nat.le_of_ble_eq_true rfl) (Nat.le_of_ble_eq_true rfl) ?_
  exact z_zret hx hb hr hlocks rfl I ⟨rfl, rfl⟩ dX9_isColumn_11
set_option maxHeartbeats 4000000 in
set_option maxRecDepth 100000 in
theorem z_M_isNode (l : Launch) (dC : Nat → ClassId) (dI : Nat → Nat → Nat) (xq1 : Nat) (xq2 : Nat) (xq3 : Nat) (xq4 : Nat) (xq5 : Nat) (xq6 : Nat) (xq7 : Nat) (xq8 : Nat) (xq9 : Nat) (xq10 : Nat) (xq11 : Nat) (xq12 : Nat) (xq13 : Nat) (xq14 : Nat) (xq15 : Nat) (xq16 : Nat) (xq17 : Nat) (xq18 : Nat) (xq19 : Nat) (xq20 : Nat) (xq21 : Nat) (xq22 : Nat) (xq23 : Nat) (xq24 : Nat) (xq25 : Nat) (xq26 : Nat) (xq27 : Nat) (xq28 : Nat) (xq29 : Nat) (xq30 : Nat) (xq31 : Nat) (xq32 : Nat) (xq33 : Nat) (h0 : Nat) (p0 : Int32) (sz : Nat) : Met l yX9_isNode (z_w yX9_isNode cX9_isNode 2 (some .boolean)) ({ frames := 10, cells := 0, slots := 0, locals := 200 }) (z_P dC dI [(h0, .inr (9, [.int 0, .ref xq1, .ref xq2, .ref xq3, .ref xq4, .ref xq5, .ref xq6, .ref xq7, .ref xq8, .ref xq9, .int 0, .int 0, .ref xq10, .ref xq11, .ref xq12, .ref xq13, .ref xq14, .ref xq15, .ref xq16, .ref xq17, .ref xq18, .ref xq19, .ref xq20, .ref xq21, .ref xq22, .ref xq23, .ref xq24, .ref xq25, .ref xq26, .long 0, .int 0, .int 0, .int 0, .int 0, .int 0, .ref xq27, .ref xq28, .ref xq29, .ref xq30, .ref xq31, .ref xq32, .ref xq33, .long 0]))] [] sz [.ref h0, .int p0]) (va_Qi (fun (r : Int32) (u : va_W × List (ClassId × FieldType)) => u = ([(h0, .inr (9, [.int 0, .ref xq1, .ref xq2, .ref xq3, .ref xq4, .ref xq5, .ref xq6, .ref xq7, .ref xq8, .ref xq9, .int 0, .int 0, .ref xq10, .ref xq11, .ref xq12, .ref xq13, .ref xq14, .ref xq15, .ref xq16, .ref xq17, .ref xq18, .ref xq19, .ref xq20, .ref xq21, .ref xq22, .ref xq23, .ref xq24, .ref xq25, .ref xq26, .long 0, .int 0, .int 0, .int 0, .int 0, .int 0, .ref xq27, .ref xq28, .ref xq29, .ref xq30, .ref xq31, .ref xq32, .ref xq33, .long 0]))], []) ∧ r = 0) (z_B dC dI (va_A [(h0, .inr (9, [.int 0, .ref xq1, .ref xq2, .ref xq3, .ref xq4, .ref xq5, .ref xq6, .ref xq7, .ref xq8, .ref xq9, .int 0, .int 0, .ref xq10, .ref xq11, .ref xq12, .ref xq13, .ref xq14, .ref xq15, .ref xq16, .ref xq17, .ref xq18, .ref xq19, .ref xq20, .ref xq21, .ref xq22, .ref xq23, .ref xq24, .ref xq25, .ref xq26, .long 0, .int 0, .int 0, .int 0, .int 0, .int 0, .ref xq27, .ref xq28, .ref xq29, .ref xq30, .ref xq31, .ref xq32, .ref xq33, .long 0]))] sz)) (va_A [(h0, .inr (9, [.int 0, .ref xq1, .ref xq2, .ref xq3, .ref xq4, .ref xq5, .ref xq6, .ref xq7, .ref xq8, .ref xq9, .int 0, .int 0, .ref xq10, .ref xq11, .ref xq12, .ref xq13, .ref xq14, .ref xq15, .ref xq16, .ref xq17, .ref xq18, .ref xq19, .ref xq20, .ref xq21, .ref xq22, .ref xq23, .ref xq24, .ref xq25, .ref xq26, .long 0, .int 0, .int 0, .int 0, .int 0, .int 0, .ref xq27, .ref xq28, .ref xq29, .ref xq30, .ref xq31, .ref xq32, .ref xq33, .long 0]))] sz)) 0 0 (va_A [(h0, .inr (9, [.int 0, .ref xq1, .ref xq2, .ref xq3, .ref xq4, .ref xq5, .ref xq6, .ref xq7, .ref xq8, .ref xq9, .int 0, .int 0, .ref xq10, .ref xq11, .ref xq12, .ref xq13, .ref xq14, .ref xq15, .ref xq16, .ref xq17, .ref xq18, .ref xq19, .ref xq20, .ref xq21, .ref xq22, .ref xq23, .ref xq24, .ref xq25, .ref xq26, .long 0, .int 0, .int 0, .int 0, .int 0, .int 0, .ref xq27, .ref xq28, .ref xq29, .ref xq30, .ref xq31, .ref xq32, .ref xq33, .long 0]))] sz) := by
  refine Met.ofW (cc := cX9_isNode) (maxL := 2) (ret := (some .boolean)) (by decide) rfl ?_
  intro p e s m args below meth c s₁ B hml hv
  obtain ⟨rfl, rfl, I⟩ := z_open hv
  have hx := B.exec
  have hb := B.bytes
  have hr := B.returns
  have hts := atoms_spec (ws := z_w yX9_isNode cX9_isNode 2 (some .boolean)) B.pre
  have hg : z_G _ s := z_G.of hts
  have hown : s.vm.findClass RX9 = some m.cls := findClass_of_methodNamed B.named
  have hlocks := B.notSynchronized
  generalize va_A [(h0, .inr (9, [.int 0, .ref xq1, .ref xq2, .ref xq3, .ref xq4, .ref xq5, .ref xq6, .ref xq7, .ref xq8, .ref xq9, .int 0, .int 0, .ref xq10, .ref xq11, .ref xq12, .ref xq13, .ref xq14, .ref xq15, .ref xq16, .ref xq17, .ref xq18, .ref xq19, .ref xq20, .ref xq21, .ref xq22, .ref xq23, .ref xq24, .ref xq25, .ref xq26, .long 0, .int 0, .int 0, .int 0, .int 0, .int 0, .ref xq27, .ref xq28, .ref xq29, .ref xq30, .ref xq31, .ref xq32, .ref xq33, .long 0]))] s.heap.size = A at I ⊢
  have hl := lv_entry ([.ref h0, .int p0]) (n := 2) (Nat.le_of_ble_eq_true rfl)
  rw [lg_entry_eq]
  generalize (lg_sl ([.ref h0, .int p0]) ++ List.replicate (2 - (lg_sl ([.ref h0, .int p0])).length) Slot.unset).toArray = ls at hl ⊢
  have hl : lv_has ls 2 [(0, .ref h0), (1, .int p0)] := hl
  refine lv_iload_n hx hb dX9_isNode_0 rfl (lv_at hl 1 rfl) ?_
  refine lv_iconst (v := 0) hx hb dX9_isNode_1 (by decide) ?_
  refine lv_aload_n hx hb dX9_isNode_2 rfl (lv_at hl 0 rfl) ?_
  refine z_get (C := RX9) (T := TX9) (N := 43) (ci := 9) (v := .int 0) hx hb hg hown I iw_9 0 rfl rfl 30 (by decide) mw1290 rfl dX9_isNode_3 ?_
  refine lv_iconst (v := 1) hx hb dX9_isNode_6 (by decide) ?_
  refine lv_isub hx hb dX9_isNode_7 ?_
  refine lv_topi (fun w1 ew1 => ?_)
  obtain rfl : w1 = (-1) := ew1.trans (by decide)
  refine z_calli (wr := [(h0, .inr (9, [.int 0, .ref xq1, .ref xq2, .ref xq3, .ref xq4, .ref xq5, .ref xq6, .ref xq7, .ref xq8, .ref xq9, .int 0, .int 0, .ref xq10, .ref xq11, .ref xq12, .ref xq13, .ref xq14, .ref xq15, .ref xq16, .ref xq17, .ref xq18, .ref xq19, .ref xq20, .ref xq21, .ref xq22, .ref xq23, .ref xq24, .ref xq25, .ref xq26, .long 0, .int 0, .int 0, .int 0, .int 0, .int 0, .ref xq27, .ref xq28, .ref xq29, .ref xq30, .ref xq31, .ref xq32, .ref xq33, .long 0]))]) (va_runS (As := [.int p0, .int 0, .int (-1)]) (rest := []) ⟨hx, hb, hml, hown, hts⟩ (z_M_isBetween l dC dI p0 0 (-1)  s.heap.size) (va_cwS 3 hts (z_gS z_T.w mw1399 mw1400 mw10 mw1401) rfl rfl rfl (by decide +kernel) ⟨Nat.le_of_ble_eq_true rfl, Nat.le_of_ble_eq_true rfl⟩) (z_pre I [] [] rfl rfl rfl rfl) rfl rfl hl.1 rfl (lv_room (Nat.le_of_ble_eq_true rfl)) dX9_isNode_8 ⟨Nat.le_of_ble_eq_true rfl, Nat.le_of_ble_eq_true rfl⟩) I [] [0] rfl rfl (by decide) (by decide) (fun r2 u2 H locs hw2 I => ?_)
  obtain ⟨hu2, hp2⟩ := hw2
  subst hu2
  have I : z_I A dC dI [(h0, .inr (9, [.int 0, .ref xq1, .ref xq2, .ref xq3, .ref xq4, .ref xq5, .ref xq6, .ref xq7, .ref xq8, .ref xq9, .int 0, .int 0, .ref xq10, .ref xq11, .ref xq12, .ref xq13, .ref xq14, .ref xq15, .ref xq16, .ref xq17, .ref xq18, .ref xq19, .ref xq20, .ref xq21, .ref xq22, .ref xq23, .ref xq24, .ref xq25, .ref xq26, .long 0, .int 0, .int 0, .int 0, .int 0, .int 0, .ref xq27, .ref xq28, .ref xq29, .ref xq30, .ref xq31, .ref xq32, .ref xq33, .long 0]))] [] s H _ := I
  obtain rfl : r2 = 0 := hp2.trans (z_bt_none _)
  have I := I.subT (t' := []) [] rfl
  refine W.widen (k := 0) (n := 0) (Nat.le_of_ble_eq_true rfl) (Nat.le_of_ble_eq_true rfl) ?_
  exact z_zret hx hb hr hlocks rfl I ⟨rfl, rfl⟩ dX9_isNode_11
set_option maxHeartbeats 4000000 in
set_option maxRecDepth 100000 in
theorem z_M_isCut (l : Launch) (dC : Nat → ClassId) (dI : Nat → Nat → Nat) (xq1 : Nat) (xq2 : Nat) (xq3 : Nat) (xq4 : Nat) (xq5 : Nat) (xq6 : Nat) (xq7 : Nat) (xq8 : Nat) (xq9 : Nat) (xq10 : Nat) (xq11 : Nat) (xq12 : Nat) (xq13 : Nat) (xq14 : Nat) (xq15 : Nat) (xq16 : Nat) (xq17 : Nat) (xq18 : Nat) (xq19 : Nat) (xq20 : Nat) (xq21 : Nat) (xq22 : Nat) (xq23 : Nat) (xq24 : Nat) (xq25 : Nat) (xq26 : Nat) (xq27 : Nat) (xq28 : Nat) (xq29 : Nat) (xq30 : Nat) (xq31 : Nat) (xq32 : Nat) (xq33 : Nat) (h0 : Nat) (p0 : Int32) (sz : Nat) : Met l yX9_isCut (z_w yX9_isCut cX9_isCut 2 (some .boolean)) ({ frames := 10, cells := 0, slots := 0, locals := 200 }) (z_P dC dI [(h0, .inr (9, [.int 0, .ref xq1, .ref xq2, .ref xq3, .ref xq4, .ref xq5, .ref xq6, .ref xq7, .ref xq8, .ref xq9, .int 0, .int 0, .ref xq10, .ref xq11, .ref xq12, .ref xq13, .ref xq14, .ref xq15, .ref xq16, .ref xq17, .ref xq18, .ref xq19, .ref xq20, .ref xq21, .ref xq22, .ref xq23, .ref xq24, .ref xq25, .ref xq26, .long 0, .int 0, .int 0, .int 0, .int 0, .int 0, .ref xq27, .ref xq28, .ref xq29, .ref xq30, .ref xq31, .ref xq32, .ref xq33, .long 0]))] [] sz [.ref h0, .int p0]) (va_Qi (fun (r : Int32) (u : va_W × List (ClassId × FieldType)) => u = ([(h0, .inr (9, [.int 0, .ref xq1, .ref xq2, .ref xq3, .ref xq4, .ref xq5, .ref xq6, .ref xq7, .ref xq8, .ref xq9, .int 0, .int 0, .ref xq10, .ref xq11, .ref xq12, .ref xq13, .ref xq14, .ref xq15, .ref xq16, .ref xq17, .ref xq18, .ref xq19, .ref xq20, .ref xq21, .ref xq22, .ref xq23, .ref xq24, .ref xq25, .ref xq26, .long 0, .int 0, .int 0, .int 0, .int 0, .int 0, .ref xq27, .ref xq28, .ref xq29, .ref xq30, .ref xq31, .ref xq32, .ref xq33, .long 0]))], []) ∧ r = 0) (z_B dC dI (va_A [(h0, .inr (9, [.int 0, .ref xq1, .ref xq2, .ref xq3, .ref xq4, .ref xq5, .ref xq6, .ref xq7, .ref xq8, .ref xq9, .int 0, .int 0, .ref xq10, .ref xq11, .ref xq12, .ref xq13, .ref xq14, .ref xq15, .ref xq16, .ref xq17, .ref xq18, .ref xq19, .ref xq20, .ref xq21, .ref xq22, .ref xq23, .ref xq24, .ref xq25, .ref xq26, .long 0, .int 0, .int 0, .int 0, .int 0, .int 0, .ref xq27, .ref xq28, .ref xq29, .ref xq30, .ref xq31, .ref xq32, .ref xq33, .long 0]))] sz)) (va_A [(h0, .inr (9, [.int 0, .ref xq1, .ref xq2, .ref xq3, .ref xq4, .ref xq5, .ref xq6, .ref xq7, .ref xq8, .ref xq9, .int 0, .int 0, .ref xq10, .ref xq11, .ref xq12, .ref xq13, .ref xq14, .ref xq15, .ref xq16, .ref xq17, .ref xq18, .ref xq19, .ref xq20, .ref xq21, .ref xq22, .ref xq23, .ref xq24, .ref xq25, .ref xq26, .long 0, .int 0, .int 0, .int 0, .int 0, .int 0, .ref xq27, .ref xq28, .ref xq29, .ref xq30, .ref xq31, .ref xq32, .ref xq33, .long 0]))] sz)) 0 0 (va_A [(h0, .inr (9, [.int 0, .ref xq1, .ref xq2, .ref xq3, .ref xq4, .ref xq5, .ref xq6, .ref xq7, .ref xq8, .ref xq9, .int 0, .int 0, .ref xq10, .ref xq11, .ref xq12, .ref xq13, .ref xq14, .ref xq15, .ref xq16, .ref xq17, .ref xq18, .ref xq19, .ref xq20, .ref xq21, .ref xq22, .ref xq23, .ref xq24, .ref xq25, .ref xq26, .long 0, .int 0, .int 0, .int 0, .int 0, .int 0, .ref xq27, .ref xq28, .ref xq29, .ref xq30, .ref xq31, .ref xq32, .ref xq33, .long 0]))] sz) := by
  refine Met.ofW (cc := cX9_isCut) (maxL := 2) (ret := (some .boolean)) (by decide) rfl ?_
  intro p e s m args below meth c s₁ B hml hv
  obtain ⟨rfl, rfl, I⟩ := z_open hv
  have hx := B.exec
  have hb := B.bytes
  have hr := B.returns
  have hts := atoms_spec (ws := z_w yX9_isCut cX9_isCut 2 (some .boolean)) B.pre
  have hg : z_G _ s := z_G.of hts
  have hown : s.vm.findClass RX9 = some m.cls := findClass_of_methodNamed B.named
  have hlocks := B.notSynchronized
  generalize va_A [(h0, .inr (9, [.int 0, .ref xq1, .ref xq2, .ref xq3, .ref xq4, .ref xq5, .ref xq6, .ref xq7, .ref xq8, .ref xq9, .int 0, .int 0, .ref xq10, .ref xq11, .ref xq12, .ref xq13, .ref xq14, .ref xq15, .ref xq16, .ref xq17, .ref xq18, .ref xq19, .ref xq20, .ref xq21, .ref xq22, .ref xq23, .ref xq24, .ref xq25, .ref xq26, .long 0, .int 0, .int 0, .int 0, .int 0, .int 0, .ref xq27, .ref xq28, .ref xq29, .ref xq30, .ref xq31, .ref xq32, .ref xq33, .long 0]))] s.heap.size = A at I ⊢
  have hl := lv_entry ([.ref h0, .int p0]) (n := 2) (Nat.le_of_ble_eq_true rfl)
  rw [lg_entry_eq]
  generalize (lg_sl ([.ref h0, .int p0]) ++ List.replicate (2 - (lg_sl ([.ref h0, .int p0])).length) Slot.unset).toArray = ls at hl ⊢
  have hl : lv_has ls 2 [(0, .ref h0), (1, .int p0)] := hl
  refine lv_iload_n hx hb dX9_isCut_0 rfl (lv_at hl 1 rfl) ?_
  refine lv_iconst (v := 0) hx hb dX9_isCut_1 (by decide) ?_
  refine lv_aload_n hx hb dX9_isCut_2 rfl (lv_at hl 0 rfl) ?_
  refine z_get (C := RX9) (T := TX9) (N := 43) (ci := 9) (v := .int 0) hx hb hg hown I iw_9 0 rfl rfl 31 (by decide) mw1291 rfl dX9_isCut_3 ?_
  refine lv_iconst (v := 1) hx hb dX9_isCut_6 (by decide) ?_
  refine lv_isub hx hb dX9_isCut_7 ?_
  refine lv_topi (fun w1 ew1 => ?_)
  obtain rfl : w1 = (-1) := ew1.trans (by decide)
  refine z_calli (wr := [(h0, .inr (9, [.int 0, .ref xq1, .ref xq2, .ref xq3, .ref xq4, .ref xq5, .ref xq6, .ref xq7, .ref xq8, .ref xq9, .int 0, .int 0, .ref xq10, .ref xq11, .ref xq12, .ref xq13, .ref xq14, .ref xq15, .ref xq16, .ref xq17, .ref xq18, .ref xq19, .ref xq20, .ref xq21, .ref xq22, .ref xq23, .ref xq24, .ref xq25, .ref xq26, .long 0, .int 0, .int 0, .int 0, .int 0, .int 0, .ref xq27, .ref xq28, .ref xq29, .ref xq30, .ref xq31, .ref xq32, .ref xq33, .long 0]))]) (va_runS (As := [.int p0, .int 0, .int (-1)]) (rest := []) ⟨hx, hb, hml, hown, hts⟩ (z_M_isBetween l dC dI p0 0 (-1)  s.heap.size) (va_cwS 3 hts (z_gS z_T.w mw1399 mw1400 mw10 mw1401) rfl rfl rfl (by decide +kernel) ⟨Nat.le_of_ble_eq_true rfl, Nat.le_of_ble_eq_true rfl⟩) (z_pre I [] [] rfl rfl rfl rfl) rfl rfl hl.1 rfl (lv_room (Nat.le_of_ble_eq_true rfl)) dX9_isCut_8 ⟨Nat.le_of_ble_eq_true rfl, Nat.le_of_ble_eq_true rfl⟩) I [] [0] rfl rfl (by decide) (by decide) (fun r2 u2 H locs hw2 I => ?_)
  obtain ⟨hu2, hp2⟩ := hw2
  subst hu2
  have I : z_I A dC dI [(h0, .inr (9, [.int 0, .ref xq1, .ref xq2, .ref xq3, .ref xq4, .ref xq5, .ref xq6, .ref xq7, .ref xq8, .ref xq9, .int 0, .int 0, .ref xq10, .ref xq11, .ref xq12, .ref xq13, .ref xq14, .ref xq15, .ref xq16, .ref xq17, .ref xq18, .ref xq19, .ref xq20, .ref xq21, .ref xq22, .ref xq23, .ref xq24, .ref xq25, .ref xq26, .long 0, .int 0, .int 0, .int 0, .int 0, .int 0, .ref xq27, .ref xq28, .ref xq29, .ref xq30, .ref xq31, .ref xq32, .ref xq33, .long 0]))] [] s H _ := I
  obtain rfl : r2 = 0 := hp2.trans (z_bt_none _)
  have I := I.subT (t' := []) [] rfl
  refine W.widen (k := 0) (n := 0) (Nat.le_of_ble_eq_true rfl) (Nat.le_of_ble_eq_true rfl) ?_
  exact z_zret hx hb hr hlocks rfl I ⟨rfl, rfl⟩ dX9_isCut_11
set_option maxHeartbeats 4000000 in
set_option maxRecDepth 100000 in
theorem z_M_isRow (l : Launch) (dC : Nat → ClassId) (dI : Nat → Nat → Nat) (xq1 : Nat) (xq2 : Nat) (xq3 : Nat) (xq4 : Nat) (xq5 : Nat) (xq6 : Nat) (xq7 : Nat) (xq8 : Nat) (xq9 : Nat) (xq10 : Nat) (xq11 : Nat) (xq12 : Nat) (xq13 : Nat) (xq14 : Nat) (xq15 : Nat) (xq16 : Nat) (xq17 : Nat) (xq18 : Nat) (xq19 : Nat) (xq20 : Nat) (xq21 : Nat) (xq22 : Nat) (xq23 : Nat) (xq24 : Nat) (xq25 : Nat) (xq26 : Nat) (xq27 : Nat) (xq28 : Nat) (xq29 : Nat) (xq30 : Nat) (xq31 : Nat) (xq32 : Nat) (xq33 : Nat) (h0 : Nat) (p0 : Int32) (sz : Nat) : Met l yX9_isRow (z_w yX9_isRow cX9_isRow 2 (some .boolean)) ({ frames := 10, cells := 0, slots := 0, locals := 200 }) (z_P dC dI [(h0, .inr (9, [.int 0, .ref xq1, .ref xq2, .ref xq3, .ref xq4, .ref xq5, .ref xq6, .ref xq7, .ref xq8, .ref xq9, .int 0, .int 0, .ref xq10, .ref xq11, .ref xq12, .ref xq13, .ref xq14, .ref xq15, .ref xq16, .ref xq17, .ref xq18, .ref xq19, .ref xq20, .ref xq21, .ref xq22, .ref xq23, .ref xq24, .ref xq25, .ref xq26, .long 0, .int 0, .int 0, .int 0, .int 0, .int 0, .ref xq27, .ref xq28, .ref xq29, .ref xq30, .ref xq31, .ref xq32, .ref xq33, .long 0]))] [] sz [.ref h0, .int p0]) (va_Qi (fun (r : Int32) (u : va_W × List (ClassId × FieldType)) => u = ([(h0, .inr (9, [.int 0, .ref xq1, .ref xq2, .ref xq3, .ref xq4, .ref xq5, .ref xq6, .ref xq7, .ref xq8, .ref xq9, .int 0, .int 0, .ref xq10, .ref xq11, .ref xq12, .ref xq13, .ref xq14, .ref xq15, .ref xq16, .ref xq17, .ref xq18, .ref xq19, .ref xq20, .ref xq21, .ref xq22, .ref xq23, .ref xq24, .ref xq25, .ref xq26, .long 0, .int 0, .int 0, .int 0, .int 0, .int 0, .ref xq27, .ref xq28, .ref xq29, .ref xq30, .ref xq31, .ref xq32, .ref xq33, .long 0]))], []) ∧ r = 0) (z_B dC dI (va_A [(h0, .inr (9, [.int 0, .ref xq1, .ref xq2, .ref xq3, .ref xq4, .ref xq5, .ref xq6, .ref xq7, .ref xq8, .ref xq9, .int 0, .int 0, .ref xq10, .ref xq11, .ref xq12, .ref xq13, .ref xq14, .ref xq15, .ref xq16, .ref xq17, .ref xq18, .ref xq19, .ref xq20, .ref xq21, .ref xq22, .ref xq23, .ref xq24, .ref xq25, .ref xq26, .long 0, .int 0, .int 0, .int 0, .int 0, .int 0, .ref xq27, .ref xq28, .ref xq29, .ref xq30, .ref xq31, .ref xq32, .ref xq33, .long 0]))] sz)) (va_A [(h0, .inr (9, [.int 0, .ref xq1, .ref xq2, .ref xq3, .ref xq4, .ref xq5, .ref xq6, .ref xq7, .ref xq8, .ref xq9, .int 0, .int 0, .ref xq10, .ref xq11, .ref xq12, .ref xq13, .ref xq14, .ref xq15, .ref xq16, .ref xq17, .ref xq18, .ref xq19, .ref xq20, .ref xq21, .ref xq22, .ref xq23, .ref xq24, .ref xq25, .ref xq26, .long 0, .int 0, .int 0, .int 0, .int 0, .int 0, .ref xq27, .ref xq28, .ref xq29, .ref xq30, .ref xq31, .ref xq32, .ref xq33, .long 0]))] sz)) 0 0 (va_A [(h0, .inr (9, [.int 0, .ref xq1, .ref xq2, .ref xq3, .ref xq4, .ref xq5, .ref xq6, .ref xq7, .ref xq8, .ref xq9, .int 0, .int 0, .ref xq10, .ref xq11, .ref xq12, .ref xq13, .ref xq14, .ref xq15, .ref xq16, .ref xq17, .ref xq18, .ref xq19, .ref xq20, .ref xq21, .ref xq22, .ref xq23, .ref xq24, .ref xq25, .ref xq26, .long 0, .int 0, .int 0, .int 0, .int 0, .int 0, .ref xq27, .ref xq28, .ref xq29, .ref xq30, .ref xq31, .ref xq32, .ref xq33, .long 0]))] sz) := by
  refine Met.ofW (cc := cX9_isRow) (maxL := 2) (ret := (some .boolean)) (by decide) rfl ?_
  intro p e s m args below meth c s₁ B hml hv
  obtain ⟨rfl, rfl, I⟩ := z_open hv
  have hx := B.exec
  have hb := B.bytes
  have hr := B.returns
  have hts := atoms_spec (ws := z_w yX9_isRow cX9_isRow 2 (some .boolean)) B.pre
  have hg : z_G _ s := z_G.of hts
  have hown : s.vm.findClass RX9 = some m.cls := findClass_of_methodNamed B.named
  have hlocks := B.notSynchronized
  generalize va_A [(h0, .inr (9, [.int 0, .ref xq1, .ref xq2, .ref xq3, .ref xq4, .ref xq5, .ref xq6, .ref xq7, .ref xq8, .ref xq9, .int 0, .int 0, .ref xq10, .ref xq11, .ref xq12, .ref xq13, .ref xq14, .ref xq15, .ref xq16, .ref xq17, .ref xq18, .ref xq19, .ref xq20, .ref xq21, .ref xq22, .ref xq23, .ref xq24, .ref xq25, .ref xq26, .long 0, .int 0, .int 0, .int 0, .int 0, .int 0, .ref xq27, .ref xq28, .ref xq29, .ref xq30, .ref xq31, .ref xq32, .ref xq33, .long 0]))] s.heap.size = A at I ⊢
  have hl := lv_entry ([.ref h0, .int p0]) (n := 2) (Nat.le_of_ble_eq_true rfl)
  rw [lg_entry_eq]
  generalize (lg_sl ([.ref h0, .int p0]) ++ List.replicate (2 - (lg_sl ([.ref h0, .int p0])).length) Slot.unset).toArray = ls at hl ⊢
  have hl : lv_has ls 2 [(0, .ref h0), (1, .int p0)] := hl
  refine lv_iload_n hx hb dX9_isRow_0 rfl (lv_at hl 1 rfl) ?_
  refine lv_iconst (v := 0) hx hb dX9_isRow_1 (by decide) ?_
  refine lv_aload_n hx hb dX9_isRow_2 rfl (lv_at hl 0 rfl) ?_
  refine z_get (C := RX9) (T := TX9) (N := 43) (ci := 9) (v := .int 0) hx hb hg hown I iw_9 0 rfl rfl 11 (by decide) mw1271 rfl dX9_isRow_3 ?_
  refine lv_iconst (v := 1) hx hb dX9_isRow_6 (by decide) ?_
  refine lv_isub hx hb dX9_isRow_7 ?_
  refine lv_topi (fun w1 ew1 => ?_)
  obtain rfl : w1 = (-1) := ew1.trans (by decide)
  refine z_calli (wr := [(h0, .inr (9, [.int 0, .ref xq1, .ref xq2, .ref xq3, .ref xq4, .ref xq5, .ref xq6, .ref xq7, .ref xq8, .ref xq9, .int 0, .int 0, .ref xq10, .ref xq11, .ref xq12, .ref xq13, .ref xq14, .ref xq15, .ref xq16, .ref xq17, .ref xq18, .ref xq19, .ref xq20, .ref xq21, .ref xq22, .ref xq23, .ref xq24, .ref xq25, .ref xq26, .long 0, .int 0, .int 0, .int 0, .int 0, .int 0, .ref xq27, .ref xq28, .ref xq29, .ref xq30, .ref xq31, .ref xq32, .ref xq33, .long 0]))]) (va_runS (As := [.int p0, .int 0, .int (-1)]) (rest := []) ⟨hx, hb, hml, hown, hts⟩ (z_M_isBetween l dC dI p0 0 (-1)  s.heap.size) (va_cwS 3 hts (z_gS z_T.w mw1399 mw1400 mw10 mw1401) rfl rfl rfl (by decide +kernel) ⟨Nat.le_of_ble_eq_true rfl, Nat.le_of_ble_eq_true rfl⟩) (z_pre I [] [] rfl rfl rfl rfl) rfl rfl hl.1 rfl (lv_room (Nat.le_of_ble_eq_true rfl)) dX9_isRow_8 ⟨Nat.le_of_ble_eq_true rfl, Nat.le_of_ble_eq_true rfl⟩) I [] [0] rfl rfl (by decide) (by decide) (fun r2 u2 H locs hw2 I => ?_)
  obtain ⟨hu2, hp2⟩ := hw2
  subst hu2
  have I : z_I A dC dI [(h0, .inr (9, [.int 0, .ref xq1, .ref xq2, .ref xq3, .ref xq4, .ref xq5, .ref xq6, .ref xq7, .ref xq8, .ref xq9, .int 0, .int 0, .ref xq10, .ref xq11, .ref xq12, .ref xq13, .ref xq14, .ref xq15, .ref xq16, .ref xq17, .ref xq18, .ref xq19, .ref xq20, .ref xq21, .ref xq22, .ref xq23, .ref xq24, .ref xq25, .ref xq26, .long 0, .int 0, .int 0, .int 0, .int 0, .int 0, .ref xq27, .ref xq28, .ref xq29, .ref xq30, .ref xq31, .ref xq32, .ref xq33, .long 0]))] [] s H _ := I
  obtain rfl : r2 = 0 := hp2.trans (z_bt_none _)
  have I := I.subT (t' := []) [] rfl
  refine W.widen (k := 0) (n := 0) (Nat.le_of_ble_eq_true rfl) (Nat.le_of_ble_eq_true rfl) ?_
  exact z_zret hx hb hr hlocks rfl I ⟨rfl, rfl⟩ dX9_isRow_11
set_option maxHeartbeats 4000000 in
set_option maxRecDepth 100000 in
theorem z_M_bounding (l : Launch) (dC : Nat → ClassId) (dI : Nat → Nat → Nat) (xq1 : Nat) (xq2 : Nat) (xq3 : Nat) (xq4 : Nat) (xq5 : Nat) (xq6 : Nat) (xq7 : Nat) (xq8 : Nat) (xq9 : Nat) (xq10 : Nat) (xq11 : Nat) (xq12 : Nat) (xq13 : Nat) (xq14 : Nat) (xq15 : Nat) (xq16 : Nat) (xq17 : Nat) (xq18 : Nat) (xq19 : Nat) (xq20 : Nat) (xq21 : Nat) (xq22 : Nat) (xq23 : Nat) (xq24 : Nat) (xq25 : Nat) (xq26 : Nat) (xq27 : Nat) (xq28 : Nat) (xq29 : Nat) (xq30 : Nat) (xq31 : Nat) (xq32 : Nat) (xq33 : Nat) (h0 : Nat) (sz : Nat) : Met l yX9_bounding (z_w yX9_bounding cX9_bounding 4 (some .int)) ({ frames := 8, cells := 0, slots := 0, locals := 140 }) (z_P dC dI [(h0, .inr (9, [.int 0, .ref xq1, .ref xq2, .ref xq3, .ref xq4, .ref xq5, .ref xq6, .ref xq7, .ref xq8, .ref xq9, .int 0, .int 0, .ref xq10, .ref xq11, .ref xq12, .ref xq13, .ref xq14, .ref xq15, .ref xq16, .ref xq17, .ref xq18, .ref xq19, .ref xq20, .ref xq21, .ref xq22, .ref xq23, .ref xq24, .ref xq25, .ref xq26, .long 0, .int 0, .int 0, .int 0, .int 0, .int 0, .ref xq27, .ref xq28, .ref xq29, .ref xq30, .ref xq31, .ref xq32, .ref xq33, .long 0]))] [] sz [.ref h0]) (va_Qi (fun (r : Int32) (u : va_W × List (ClassId × FieldType)) => u = ([(h0, .inr (9, [.int 0, .ref xq1, .ref xq2, .ref xq3, .ref xq4, .ref xq5, .ref xq6, .ref xq7, .ref xq8, .ref xq9, .int 0, .int 0, .ref xq10, .ref xq11, .ref xq12, .ref xq13, .ref xq14, .ref xq15, .ref xq16, .ref xq17, .ref xq18, .ref xq19, .ref xq20, .ref xq21, .ref xq22, .ref xq23, .ref xq24, .ref xq25, .ref xq26, .long 0, .int 0, .int 0, .int 0, .int 0, .int 0, .ref xq27, .ref xq28, .ref xq29, .ref xq30, .ref xq31, .ref xq32, .ref xq33, .long 0]))], []) ∧ r = (-2)) (z_B dC dI (va_A [(h0, .inr (9, [.int 0, .ref xq1, .ref xq2, .ref xq3, .ref xq4, .ref xq5, .ref xq6, .ref xq7, .ref xq8, .ref xq9, .int 0, .int 0, .ref xq10, .ref xq11, .ref xq12, .ref xq13, .ref xq14, .ref xq15, .ref xq16, .ref xq17, .ref xq18, .ref xq19, .ref xq20, .ref xq21, .ref xq22, .ref xq23, .ref xq24, .ref xq25, .ref xq26, .long 0, .int 0, .int 0, .int 0, .int 0, .int 0, .ref xq27, .ref xq28, .ref xq29, .ref xq30, .ref xq31, .ref xq32, .ref xq33, .long 0]))] sz)) (va_A [(h0, .inr (9, [.int 0, .ref xq1, .ref xq2, .ref xq3, .ref xq4, .ref xq5, .ref xq6, .ref xq7, .ref xq8, .ref xq9, .int 0, .int 0, .ref xq10, .ref xq11, .ref xq12, .ref xq13, .ref xq14, .ref xq15, .ref xq16, .ref xq17, .ref xq18, .ref xq19, .ref xq20, .ref xq21, .ref xq22, .ref xq23, .ref xq24, .ref xq25, .ref xq26, .long 0, .int 0, .int 0, .int 0, .int 0, .int 0, .ref xq27, .ref xq28, .ref xq29, .ref xq30, .ref xq31, .ref xq32, .ref xq33, .long 0]))] sz)) 0 0 (va_A [(h0, .inr (9, [.int 0, .ref xq1, .ref xq2, .ref xq3, .ref xq4, .ref xq5, .ref xq6, .ref xq7, .ref xq8, .ref xq9, .int 0, .int 0, .ref xq10, .ref xq11, .ref xq12, .ref xq13, .ref xq14, .ref xq15, .ref xq16, .ref xq17, .ref xq18, .ref xq19, .ref xq20, .ref xq21, .ref xq22, .ref xq23, .ref xq24, .ref xq25, .ref xq26, .long 0, .int 0, .int 0, .int 0, .int 0, .int 0, .ref xq27, .ref xq28, .ref xq29, .ref xq30, .ref xq31, .ref xq32, .ref xq33, .long 0]))] sz) := by
  refine Met.ofW (cc := cX9_bounding) (maxL := 4) (ret := (some .int)) (by decide) rfl ?_
  intro p e s m args below meth c s₁ B hml hv
  obtain ⟨rfl, rfl, I⟩ := z_open hv
  have hx := B.exec
  have hb := B.bytes
  have hr := B.returns
  have hts := atoms_spec (ws := z_w yX9_bounding cX9_bounding 4 (some .int)) B.pre
  have hg : z_G _ s := z_G.of hts
  have hown : s.vm.findClass RX9 = some m.cls := findClass_of_methodNamed B.named
  have hlocks := B.notSynchronized
  generalize va_A [(h0, .inr (9, [.int 0, .ref xq1, .ref xq2, .ref xq3, .ref xq4, .ref xq5, .ref xq6, .ref xq7, .ref xq8, .ref xq9, .int 0, .int 0, .ref xq10, .ref xq11, .ref xq12, .ref xq13, .ref xq14, .ref xq15, .ref xq16, .ref xq17, .ref xq18, .ref xq19, .ref xq20, .ref xq21, .ref xq22, .ref xq23, .ref xq24, .ref xq25, .ref xq26, .long 0, .int 0, .int 0, .int 0, .int 0, .int 0, .ref xq27, .ref xq28, .ref xq29, .ref xq30, .ref xq31, .ref xq32, .ref xq33, .long 0]))] s.heap.size = A at I ⊢
  have hl := lv_entry ([.ref h0]) (n := 4) (Nat.le_of_ble_eq_true rfl)
  rw [lg_entry_eq]
  generalize (lg_sl ([.ref h0]) ++ List.replicate (4 - (lg_sl ([.ref h0])).length) Slot.unset).toArray = ls at hl ⊢
  have hl : lv_has ls 4 [(0, .ref h0)] := hl
  refine lv_aload_n hx hb dX9_bounding_0 rfl (lv_at hl 0 rfl) ?_
  refine z_get (C := RX9) (T := TX9) (N := 43) (ci := 9) (v := .int 0) hx hb hg hown I iw_9 0 rfl rfl 30 (by decide) mw1290 rfl dX9_bounding_1 ?_
  refine lv_if_eq (tgt := 18) hx hb dX9_bounding_4 (by decide) (fun _ => ?_) (fun c9 => absurd c9 (by decide))
  refine lv_bipush (v := (-2)) hx hb dX9_bounding_18 (by decide) ?_
  have I := I.subT (t' := []) [] rfl
  refine W.widen (k := 0) (n := 0) (Nat.le_of_ble_eq_true rfl) (Nat.le_of_ble_eq_true rfl) ?_
  exact z_iret hx hb hr hlocks I ⟨rfl, rfl⟩ dX9_bounding_20
set_option maxHeartbeats 4000000 in
set_option maxRecDepth 100000 in
theorem z_M_begins (l : Launch) (dC : Nat → ClassId) (dI : Nat → Nat → Nat) (xq1 : Nat) (xq2 : Nat) (xq3 : Nat) (xq4 : Nat) (xq5 : Nat) (xq6 : Nat) (xq7 : Nat) (xq8 : Nat) (xq9 : Nat) (xq10 : Nat) (xq11 : Nat) (xq12 : Nat) (xq13 : Nat) (xq14 : Nat) (xq15 : Nat) (xq16 : Nat) (xq17 : Nat) (xq18 : Nat) (xq19 : Nat) (xq20 : Nat) (xq21 : Nat) (xq22 : Nat) (xq23 : Nat) (xq24 : Nat) (xq25 : Nat) (xq26 : Nat) (xq27 : Nat) (xq28 : Nat) (xq29 : Nat) (xq30 : Nat) (xq31 : Nat) (xq32 : Nat) (xq33 : Nat) (xf35 : Nat → Int32) (xc36 : ClassId) (xc37 : ClassId) (xc47 : ClassId) (xf48 : Nat → Option Nat) (xq49 : Nat) (xc50 : ClassId) (xf51 : Nat → Option Nat) (xq52 : Nat) (xq53 : Nat) (xq54 : Nat) (xq55 : Nat) (xq56 : Nat) (xc57 : ClassId) (xf58 : Nat → Int64) (xc59 : ClassId) (xc60 : ClassId) (xc61 : ClassId) (xc62 : ClassId) (xf63 : Nat → Option Nat) (xq64 : Nat) (xc65 : ClassId) (h0 : Nat) (sz : Nat) : Met l yX9_begins (z_w yX9_begins cX9_begins 5 none) ({ frames := 8, cells := 0, slots := 0, locals := 140 }) (z_P dC dI [(h0, .inr (9, [.int 0, .ref xq1, .ref xq2, .ref xq3, .ref xq4, .ref xq5, .ref xq6, .ref xq7, .ref xq8, .ref xq9, .int 0, .int 0, .ref xq10, .ref xq11, .ref xq12, .ref xq13, .ref xq14, .ref xq15, .ref xq16, .ref xq17, .ref xq18, .ref xq19, .ref xq20, .ref xq21, .ref xq22, .ref xq23, .ref xq24, .ref xq25, .ref xq26, .long 0, .int 0, .int 0, .int 0, .int 0, .int 0, .ref xq27, .ref xq28, .ref xq29, .ref xq30, .ref xq31, .ref xq32, .ref xq33, .long 0])), (xq2, .inl (xc36, 4, .inl xf35)), (xq3, .inl (xc37, 4, .inl xf35)), (xq28, .inl (xc47, 5, .inr (.inr (.inr (.inr (va_up xf48 0 (some xq49))))))), (xq49, .inl (xc50, 5, .inr (.inr (.inr (.inr (va_up (va_up (va_up (va_up (va_up xf51 4 (some xq52)) 3 (some xq53)) 2 (some xq54)) 1 (some xq55)) 0 (some xq56))))))), (xq56, .inl (xc57, 4, .inr (.inl xf58))), (xq55, .inl (xc57, 4, .inr (.inl xf58))), (xq54, .inl (xc57, 4, .inr (.inl xf58))), (xq53, .inl (xc57, 4, .inr (.inl xf58))), (xq52, .inl (xc57, 4, .inr (.inl xf58))), (xq29, .inl (xc59, 5, .inl xf35)), (xq30, .inl (xc60, 4, .inl xf35)), (xq31, .inl (xc61, 4, .inl xf35)), (xq32, .inl (xc62, 5, .inr (.inr (.inr (.inr (va_up xf63 0 (some xq64))))))), (xq64, .inl (xc65, 4, .inl xf35))] [(xc36, .int), (xc37, .int), (xc47, .array (.array .long)), (xc50, .array .long), (xc57, .long), (xc59, .int), (xc60, .int), (xc61, .int), (xc62, .array .boolean), (xc65, .boolean)] sz [.ref h0, .ref xq2, .ref xq3]) (va_Qv (fun u : va_W × List (ClassId × FieldType) => ∃ (xf1 : Nat → Int64) (xf2 : Nat → Int64) (xf3 : Nat → Int64) (xf4 : Nat → Int64) (xf5 : Nat → Int64) (xf6 : Nat → Int32) (xf7 : Nat → Int32) (xf8 : Nat → Int32) (xf9 : Nat → Int32), u = ([(h0, .inr (9, [.int 0, .ref xq1, .ref xq2, .ref xq3, .ref xq4, .ref xq5, .ref xq6, .ref xq7, .ref xq8, .ref xq9, .int 0, .int 0, .ref xq10, .ref xq11, .ref xq12, .ref xq13, .ref xq14, .ref xq15, .ref xq16, .ref xq17, .ref xq18, .ref xq19, .ref xq20, .ref xq21, .ref xq22, .ref xq23, .ref xq24, .ref xq25, .ref xq26, .long 0, .int 0, .int 0, .int 0, .int 0, .int 0, .ref xq27, .ref xq28, .ref xq29, .ref xq30, .ref xq31, .ref xq32, .ref xq33, .long 0])), (xq2, .inl (xc36, 4, .inl xf35)), (xq3, .inl (xc37, 4, .inl xf35)), (xq28, .inl (xc47, 5, .inr (.inr (.inr (.inr (va_up xf48 0 (some xq49))))))), (xq49, .inl (xc50, 5, .inr (.inr (.inr (.inr (va_up (va_up (va_up (va_up (va_up xf51 4 (some xq52)) 3 (some xq53)) 2 (some xq54)) 1 (some xq55)) 0 (some xq56))))))), (xq56, .inl (xc57, 4, .inr (.inl xf1))), (xq55, .inl (xc57, 4, .inr (.inl xf2))), (xq54, .inl (xc57, 4, .inr (.inl xf3))), (xq53, .inl (xc57, 4, .inr (.inl xf4))), (xq52, .inl (xc57, 4, .inr (.inl xf5))), (xq29, .inl (xc59, 5, .inl xf6)), (xq30, .inl (xc60, 4, .inl xf7)), (xq31, .inl (xc61, 4, .inl xf8)), (xq32, .inl (xc62, 5, .inr (.inr (.inr (.inr (va_up xf63 0 (some xq64))))))), (xq64, .inl (xc65, 4, .inl xf9))], []) ∧ xf6 0 = 0) (z_B dC dI (va_A [(h0, .inr (9, [.int 0, .ref xq1, .ref xq2, .ref xq3, .ref xq4, .ref xq5, .ref xq6, .ref xq7, .ref xq8, .ref xq9, .int 0, .int 0, .ref xq10, .ref xq11, .ref xq12, .ref xq13, .ref xq14, .ref xq15, .ref xq16, .ref xq17, .ref xq18, .ref xq19, .ref xq20, .ref xq21, .ref xq22, .ref xq23, .ref xq24, .ref xq25, .ref xq26, .long 0, .int 0, .int 0, .int 0, .int 0, .int 0, .ref xq27, .ref xq28, .ref xq29, .ref xq30, .ref xq31, .ref xq32, .ref xq33, .long 0])), (xq2, .inl (xc36, 4, .inl xf35)), (xq3, .inl (xc37, 4, .inl xf35)), (xq28, .inl (xc47, 5, .inr (.inr (.inr (.inr (va_up xf48 0 (some xq49))))))), (xq49, .inl (xc50, 5, .inr (.inr (.inr (.inr (va_up (va_up (va_up (va_up (va_up xf51 4 (some xq52)) 3 (some xq53)) 2 (some xq54)) 1 (some xq55)) 0 (some xq56))))))), (xq56, .inl (xc57, 4, .inr (.inl xf58))), (xq55, .inl (xc57, 4, .inr (.inl xf58))), (xq54, .inl (xc57, 4, .inr (.inl xf58))), (xq53, .inl (xc57, 4, .inr (.inl xf58))), (xq52, .inl (xc57, 4, .inr (.inl xf58))), (xq29, .inl (xc59, 5, .inl xf35)), (xq30, .inl (xc60, 4, .inl xf35)), (xq31, .inl (xc61, 4, .inl xf35)), (xq32, .inl (xc62, 5, .inr (.inr (.inr (.inr (va_up xf63 0 (some xq64))))))), (xq64, .inl (xc65, 4, .inl xf35))] sz)) (va_A [(h0, .inr (9, [.int 0, .ref xq1, .ref xq2, .ref xq3, .ref xq4, .ref xq5, .ref xq6, .ref xq7, .ref xq8, .ref xq9, .int 0, .int 0, .ref xq10, .ref xq11, .ref xq12, .ref xq13, .ref xq14, .ref xq15, .ref xq16, .ref xq17, .ref xq18, .ref xq19, .ref xq20, .ref xq21, .ref xq22, .ref xq23, .ref xq24, .ref xq25, .ref xq26, .long 0, .int 0, .int 0, .int 0, .int 0, .int 0, .ref xq27, .ref xq28, .ref xq29, .ref xq30, .ref xq31, .ref xq32, .ref xq33, .long 0])), (xq2, .inl (xc36, 4, .inl xf35)), (xq3, .inl (xc37, 4, .inl xf35)), (xq28, .inl (xc47, 5, .inr (.inr (.inr (.inr (va_up xf48 0 (some xq49))))))), (xq49, .inl (xc50, 5, .inr (.inr (.inr (.inr (va_up (va_up (va_up (va_up (va_up xf51 4 (some xq52)) 3 (some xq53)) 2 (some xq54)) 1 (some xq55)) 0 (some xq56))))))), (xq56, .inl (xc57, 4, .inr (.inl xf58))), (xq55, .inl (xc57, 4, .inr (.inl xf58))), (xq54, .inl (xc57, 4, .inr (.inl xf58))), (xq53, .inl (xc57, 4, .inr (.inl xf58))), (xq52, .inl (xc57, 4, .inr (.inl xf58))), (xq29, .inl (xc59, 5, .inl xf35)), (xq30, .inl (xc60, 4, .inl xf35)), (xq31, .inl (xc61, 4, .inl xf35)), (xq32, .inl (xc62, 5, .inr (.inr (.inr (.inr (va_up xf63 0 (some xq64))))))), (xq64, .inl (xc65, 4, .inl xf35))] sz)) 0 0 (va_A [(h0, .inr (9, [.int 0, .ref xq1, .ref xq2, .ref xq3, .ref xq4, .ref xq5, .ref xq6, .ref xq7, .ref xq8, .ref xq9, .int 0, .int 0, .ref xq10, .ref xq11, .ref xq12, .ref xq13, .ref xq14, .ref xq15, .ref xq16, .ref xq17, .ref xq18, .ref xq19, .ref xq20, .ref xq21, .ref xq22, .ref xq23, .ref xq24, .ref xq25, .ref xq26, .long 0, .int 0, .int 0, .int 0, .int 0, .int 0, .ref xq27, .ref xq28, .ref xq29, .ref xq30, .ref xq31, .ref xq32, .ref xq33, .long 0])), (xq2, .inl (xc36, 4, .inl xf35)), (xq3, .inl (xc37, 4, .inl xf35)), (xq28, .inl (xc47, 5, .inr (.inr (.inr (.inr (va_up xf48 0 (some xq49))))))), (xq49, .inl (xc50, 5, .inr (.inr (.inr (.inr (va_up (va_up (va_up (va_up (va_up xf51 4 (some xq52)) 3 (some xq53)) 2 (some xq54)) 1 (some xq55)) 0 (some xq56))))))), (xq56, .inl (xc57, 4, .inr (.inl xf58))), (xq55, .inl (xc57, 4, .inr (.inl xf58))), (xq54, .inl (xc57, 4, .inr (.inl xf58))), (xq53, .inl (xc57, 4, .inr (.inl xf58))), (xq52, .inl (xc57, 4, .inr (.inl xf58))), (xq29, .inl (xc59, 5, .inl xf35)), (xq30, .inl (xc60, 4, .inl xf35)), (xq31, .inl (xc61, 4, .inl xf35)), (xq32, .inl (xc62, 5, .inr (.inr (.inr (.inr (va_up xf63 0 (some xq64))))))), (xq64, .inl (xc65, 4, .inl xf35))] sz) := by
  refine Met.ofW (cc := cX9_begins) (maxL := 5) (ret := none) (by decide) rfl ?_
  intro p e s m args below meth c s₁ B hml hv
  obtain ⟨rfl, rfl, I⟩ := z_open hv
  have hx := B.exec
  have hb := B.bytes
  have hr := B.returns
  have hts := atoms_spec (ws := z_w yX9_begins cX9_begins 5 none) B.pre
  have hg : z_G _ s := z_G.of hts
  have hown : s.vm.findClass RX9 = some m.cls := findClass_of_methodNamed B.named
  have hlocks := B.notSynchronized
  generalize va_A [(h0, .inr (9, [.int 0, .ref xq1, .ref xq2, .ref xq3, .ref xq4, .ref xq5, .ref xq6, .ref xq7, .ref xq8, .ref xq9, .int 0, .int 0, .ref xq10, .ref xq11, .ref xq12, .ref xq13, .ref xq14, .ref xq15, .ref xq16, .ref xq17, .ref xq18, .ref xq19, .ref xq20, .ref xq21, .ref xq22, .ref xq23, .ref xq24, .ref xq25, .ref xq26, .long 0, .int 0, .int 0, .int 0, .int 0, .int 0, .ref xq27, .ref xq28, .ref xq29, .ref xq30, .ref xq31, .ref xq32, .ref xq33, .long 0])), (xq2, .inl (xc36, 4, .inl xf35)), (xq3, .inl (xc37, 4, .inl xf35)), (xq28, .inl (xc47, 5, .inr (.inr (.inr (.inr (va_up xf48 0 (some xq49))))))), (xq49, .inl (xc50, 5, .inr (.inr (.inr (.inr (va_up (va_up (va_up (va_up (va_up xf51 4 (some xq52)) 3 (some xq53)) 2 (some xq54)) 1 (some xq55)) 0 (some xq56))))))), (xq56, .inl (xc57, 4, .inr (.inl xf58))), (xq55, .inl (xc57, 4, .inr (.inl xf58))), (xq54, .inl (xc57, 4, .inr (.inl xf58))), (xq53, .inl (xc57, 4, .inr (.inl xf58))), (xq52, .inl (xc57, 4, .inr (.inl xf58))), (xq29, .inl (xc59, 5, .inl xf35)), (xq30, .inl (xc60, 4, .inl xf35)), (xq31, .inl (xc61, 4, .inl xf35)), (xq32, .inl (xc62, 5, .inr (.inr (.inr (.inr (va_up xf63 0 (some xq64))))))), (xq64, .inl (xc65, 4, .inl xf35))] s.heap.size = A at I ⊢
  have hl := lv_entry ([.ref h0, .ref xq2, .ref xq3]) (n := 5) (Nat.le_of_ble_eq_true rfl)
  rw [lg_entry_eq]
  generalize (lg_sl ([.ref h0, .ref xq2, .ref xq3]) ++ List.replicate (5 - (lg_sl ([.ref h0, .ref xq2, .ref xq3])).length) Slot.unset).toArray = ls at hl ⊢
  have hl : lv_has ls 5 [(0, .ref h0), (1, .ref xq2), (2, .ref xq3)] := hl
  refine lv_aload_n hx hb dX9_begins_0 rfl (lv_at hl 0 rfl) ?_
  refine z_get (C := RX9) (T := TX9) (N := 43) (ci := 9) (v := .ref xq29) hx hb hg hown I iw_9 0 rfl rfl 37 (by decide) mw1297 rfl dX9_begins_1 ?_
  refine lv_iconst (v := 0) hx hb dX9_begins_4 (by decide) ?_
  refine lv_iconst (v := 0) hx hb dX9_begins_5 (by decide) ?_
  refine z_iast hx hb I 10 5 rfl rfl (by unfold vp_in; decide) dX9_begins_6 (fun g1 H locs eg1 I => ?_)
  have I : z_I A dC dI [(h0, .inr (9, [.int 0, .ref xq1, .ref xq2, .ref xq3, .ref xq4, .ref xq5, .ref xq6, .ref xq7, .ref xq8, .ref xq9, .int 0, .int 0, .ref xq10, .ref xq11, .ref xq12, .ref xq13, .ref xq14, .ref xq15, .ref xq16, .ref xq17, .ref xq18, .ref xq19, .ref xq20, .ref xq21, .ref xq22, .ref xq23, .ref xq24, .ref xq25, .ref xq26, .long 0, .int 0, .int 0, .int 0, .int 0, .int 0, .ref xq27, .ref xq28, .ref xq29, .ref xq30, .ref xq31, .ref xq32, .ref xq33, .long 0])), (xq2, .inl (xc36, 4, .inl xf35)), (xq3, .inl (xc37, 4, .inl xf35)), (xq28, .inl (xc47, 5, .inr (.inr (.inr (.inr (va_up xf48 0 (some xq49))))))), (xq49, .inl (xc50, 5, .inr (.inr (.inr (.inr (va_up (va_up (va_up (va_up (va_up xf51 4 (some xq52)) 3 (some xq53)) 2 (some xq54)) 1 (some xq55)) 0 (some xq56))))))), (xq56, .inl (xc57, 4, .inr (.inl xf58))), (xq55, .inl (xc57, 4, .inr (.inl xf58))), (xq54, .inl (xc57, 4, .inr (.inl xf58))), (xq53, .inl (xc57, 4, .inr (.inl xf58))), (xq52, .inl (xc57, 4, .inr (.inl xf58))), (xq29, .inl (xc59, 5, .inl g1)), (xq30, .inl (xc60, 4, .inl xf35)), (xq31, .inl (xc61, 4, .inl xf35)), (xq32, .inl (xc62, 5, .inr (.inr (.inr (.inr (va_up xf63 0 (some xq64))))))), (xq64, .inl (xc65, 4, .inl xf35))] [(xc36, .int), (xc37, .int), (xc47, .array (.array .long)), (xc50, .array .long), (xc57, .long), (xc59, .int), (xc60, .int), (xc61, .int), (xc62, .array .boolean), (xc65, .boolean)] s H _ := I
  have kg1_0 : g1 0 = 0 := by rw [eg1]; rfl
  refine lv_iconst (v := 0) hx hb dX9_begins_7 (by decide) ?_
  refine lv_istore_n (lv' := [(3, .int 0), (0, .ref h0), (1, .ref xq2), (2, .ref xq3)]) hx hb dX9_begins_8 rfl hl (by decide) rfl (fun ls hl => ?_)
  refine lv_iload_n hx hb dX9_begins_9 rfl (lv_at hl 0 rfl) ?_
  refine lv_iconst (v := 4) hx hb dX9_begins_10 (by decide) ?_
  refine lv_icmp_ge (tgt := 127) hx hb dX9_begins_11 (by decide) (fun c9 => absurd c9 (by decide)) (fun _ => ?_)
  refine lv_aload_n hx hb dX9_begins_14 rfl (lv_at hl 1 rfl) ?_
  refine z_get (C := RX9) (T := TX9) (N := 43) (ci := 9) (v := .ref xq32) hx hb hg hown I iw_9 0 rfl rfl 40 (by decide) mw1300 rfl dX9_begins_15 ?_
  refine lv_iconst (v := 0) hx hb dX9_begins_18 (by decide) ?_
  refine z_aald (v := .ref xq64) hx hb I 13 8 rfl rfl rfl (by unfold vp_in; decide) dX9_begins_19 rfl ?_
  refine lv_iload_n hx hb dX9_begins_20 rfl (lv_at hl 0 rfl) ?_
  refine lv_iload_n hx hb dX9_begins_21 rfl (lv_at hl 0 rfl) ?_
  refine lv_aload_n hx hb dX9_begins_22 rfl (lv_at hl 1 rfl) ?_
  refine z_get (C := RX9) (T := TX9) (N := 43) (ci := 9) (v := .int 0) hx hb hg hown I iw_9 0 rfl rfl 10 (by decide) mw1270 rfl dX9_begins_23 ?_
  refine lv_icmp_lt (tgt := 33) hx hb dX9_begins_26 (by decide) (fun c9 => absurd c9 (by decide)) (fun _ => ?_)
  refine lv_iconst (v := 1) hx hb dX9_begins_29 (by decide) ?_
  refine lv_goto (tgt := 34) hx hb dX9_begins_30 (by decide) ?_
  refine z_zast hx hb I 14 9 rfl rfl (by unfold vp_in; decide) dX9_begins_34 (fun g2 H locs eg2 I => ?_)
  have I : z_I A dC dI [(h0, .inr (9, [.int 0, .ref xq1, .ref xq2, .ref xq3, .ref xq4, .ref xq5, .ref xq6, .ref xq7, .ref xq8, .ref xq9, .int 0, .int 0, .ref xq10, .ref xq11, .ref xq12, .ref xq13, .ref xq14, .ref xq15, .ref xq16, .ref xq17, .ref xq18, .ref xq19, .ref xq20, .ref xq21, .ref xq22, .ref xq23, .ref xq24, .ref xq25, .ref xq26, .long 0, .int 0, .int 0, .int 0, .int 0, .int 0, .ref xq27, .ref xq28, .ref xq29, .ref xq30, .ref xq31, .ref xq32, .ref xq33, .long 0])), (xq2, .inl (xc36, 4, .inl xf35)), (xq3, .inl (xc37, 4, .inl xf35)), (xq28, .inl (xc47, 5, .inr (.inr (.inr (.inr (va_up xf48 0 (some xq49))))))), (xq49, .inl (xc50, 5, .inr (.inr (.inr (.inr (va_up (va_up (va_up (va_up (va_up xf51 4 (some xq52)) 3 (some xq53)) 2 (some xq54)) 1 (some xq55)) 0 (some xq56))))))), (xq56, .inl (xc57, 4, .inr (.inl xf58))), (xq55, .inl (xc57, 4, .inr (.inl xf58))), (xq54, .inl (xc57, 4, .inr (.inl xf58))), (xq53, .inl (xc57, 4, .inr (.inl xf58))), (xq52, .inl (xc57, 4, .inr (.inl xf58))), (xq29, .inl (xc59, 5, .inl g1)), (xq30, .inl (xc60, 4, .inl xf35)), (xq31, .inl (xc61, 4, .inl xf35)), (xq32, .inl (xc62, 5, .inr (.inr (.inr (.inr (va_up xf63 0 (some xq64))))))), (xq64, .inl (xc65, 4, .inl g2))] [(xc36, .int), (xc37, .int), (xc47, .array (.array .long)), (xc50, .array .long), (xc57, .long), (xc59, .int), (xc60, .int), (xc61, .int), (xc62, .array .boolean), (xc65, .boolean)] s H _ := I
  refine lv_aload_n hx hb dX9_begins_35 rfl (lv_at hl 1 rfl) ?_
  refine z_get (C := RX9) (T := TX9) (N := 43) (ci := 9) (v := .ref xq30) hx hb hg hown I iw_9 0 rfl rfl 38 (by decide) mw1298 rfl dX9_begins_36 ?_
  refine lv_iload_n hx hb dX9_begins_39 rfl (lv_at hl 0 rfl) ?_
  refine lv_aload_n hx hb dX9_begins_40 rfl (lv_at hl 2 rfl) ?_
  refine lv_iload_n hx hb dX9_begins_41 rfl (lv_at hl 0 rfl) ?_
  obtain ⟨v3, ev3⟩ : ∃ y, y = xf35 (Int32.toNatClampNeg 0) := ⟨_, rfl⟩
  refine z_iald (v := v3) hx hb I 1 0 rfl rfl (by unfold vp_in; decide) dX9_begins_42 ev3.symm ?_
  refine z_iast hx hb I 11 6 rfl rfl (by unfold vp_in; decide) dX9_begins_43 (fun g4 H locs eg4 I => ?_)
  have I : z_I A dC dI [(h0, .inr (9, [.int 0, .ref xq1, .ref xq2, .ref xq3, .ref xq4, .ref xq5, .ref xq6, .ref xq7, .ref xq8, .ref xq9, .int 0, .int 0, .ref xq10, .ref xq11, .ref xq12, .ref xq13, .ref xq14, .ref xq15, .ref xq16, .ref xq17, .ref xq18, .ref xq19, .ref xq20, .ref xq21, .ref xq22, .ref xq23, .ref xq24, .ref xq25, .ref xq26, .long 0, .int 0, .int 0, .int 0, .int 0, .int 0, .ref xq27, .ref xq28, .ref xq29, .ref xq30, .ref xq31, .ref xq32, .ref xq33, .long 0])), (xq2, .inl (xc36, 4, .inl xf35)), (xq3, .inl (xc37, 4, .inl xf35)), (xq28, .inl (xc47, 5, .inr (.inr (.inr (.inr (va_up xf48 0 (some xq49))))))), (xq49, .inl (xc50, 5, .inr (.inr (.inr (.inr (va_up (va_up (va_up (va_up (va_up xf51 4 (some xq52)) 3 (some xq53)) 2 (some xq54)) 1 (some xq55)) 0 (some xq56))))))), (xq56, .inl (xc57, 4, .inr (.inl xf58))), (xq55, .inl (xc57, 4, .inr (.inl xf58))), (xq54, .inl (xc57, 4, .inr (.inl xf58))), (xq53, .inl (xc57, 4, .inr (.inl xf58))), (xq52, .inl (xc57, 4, .inr (.inl xf58))), (xq29, .inl (xc59, 5, .inl g1)), (xq30, .inl (xc60, 4, .inl g4)), (xq31, .inl (xc61, 4, .inl xf35)), (xq32, .inl (xc62, 5, .inr (.inr (.inr (.inr (va_up xf63 0 (some xq64))))))), (xq64, .inl (xc65, 4, .inl g2))] [(xc36, .int), (xc37, .int), (xc47, .array (.array .long)), (xc50, .array .long), (xc57, .long), (xc59, .int), (xc60, .int), (xc61, .int), (xc62, .array .boolean), (xc65, .boolean)] s H _ := I
  refine lv_aload_n hx hb dX9_begins_44 rfl (lv_at hl 1 rfl) ?_
  refine z_get (C := RX9) (T := TX9) (N := 43) (ci := 9) (v := .ref xq31) hx hb hg hown I iw_9 0 rfl rfl 39 (by decide) mw1299 rfl dX9_begins_45 ?_
  refine lv_iload_n hx hb dX9_begins_48 rfl (lv_at hl 0 rfl) ?_
  refine lv_aload_n hx hb dX9_begins_49 rfl (lv_at hl 3 rfl) ?_
  refine lv_iload_n hx hb dX9_begins_50 rfl (lv_at hl 0 rfl) ?_
  obtain ⟨v5, ev5⟩ : ∃ y, y = xf35 (Int32.toNatClampNeg 0) := ⟨_, rfl⟩
  refine z_iald (v := v5) hx hb I 2 1 rfl rfl (by unfold vp_in; decide) dX9_begins_51 ev5.symm ?_
  refine z_iast hx hb I 12 7 rfl rfl (by unfold vp_in; decide) dX9_begins_52 (fun g6 H locs eg6 I => ?_)
  have I : z_I A dC dI [(h0, .inr (9, [.int 0, .ref xq1, .ref xq2, .ref xq3, .ref xq4, .ref xq5, .ref xq6, .ref xq7, .ref xq8, .ref xq9, .int 0, .int 0, .ref xq10, .ref xq11, .ref xq12, .ref xq13, .ref xq14, .ref xq15, .ref xq16, .ref xq17, .ref xq18, .ref xq19, .ref xq20, .ref xq21, .ref xq22, .ref xq23, .ref xq24, .ref xq25, .ref xq26, .long 0, .int 0, .int 0, .int 0, .int 0, .int 0, .ref xq27, .ref xq28, .ref xq29, .ref xq30, .ref xq31, .ref xq32, .ref xq33, .long 0])), (xq2, .inl (xc36, 4, .inl xf35)), (xq3, .inl (xc37, 4, .inl xf35)), (xq28, .inl (xc47, 5, .inr (.inr (.inr (.inr (va_up xf48 0 (some xq49))))))), (xq49, .inl (xc50, 5, .inr (.inr (.inr (.inr (va_up (va_up (va_up (va_up (va_up xf51 4 (some xq52)) 3 (some xq53)) 2 (some xq54)) 1 (some xq55)) 0 (some xq56))))))), (xq56, .inl (xc57, 4, .inr (.inl xf58))), (xq55, .inl (xc57, 4, .inr (.inl xf58))), (xq54, .inl (xc57, 4, .inr (.inl xf58))), (xq53, .inl (xc57, 4, .inr (.inl xf58))), (xq52, .inl (xc57, 4, .inr (.inl xf58))), (xq29, .inl (xc59, 5, .inl g1)), (xq30, .inl (xc60, 4, .inl g4)), (xq31, .inl (xc61, 4, .inl g6)), (xq32, .inl (xc62, 5, .inr (.inr (.inr (.inr (va_up xf63 0 (some xq64))))))), (xq64, .inl (xc65, 4, .inl g2))] [(xc36, .int), (xc37, .int), (xc47, .array (.array .long)), (xc50, .array .long), (xc57, .long), (xc59, .int), (xc60, .int), (xc61, .int), (xc62, .array .boolean), (xc65, .boolean)] s H _ := I
  refine lv_aload_n hx hb dX9_begins_53 rfl (lv_at hl 1 rfl) ?_
  refine z_get (C := RX9) (T := TX9) (N := 43) (ci := 9) (v := .ref xq28) hx hb hg hown I iw_9 0 rfl rfl 36 (by decide) mw1296 rfl dX9_begins_54 ?_
  refine lv_iconst (v := 0) hx hb dX9_begins_57 (by decide) ?_
  refine z_aald (v := .ref xq49) hx hb I 3 2 rfl rfl rfl (by unfold vp_in; decide) dX9_begins_58 rfl ?_
  refine lv_iconst (v := 0) hx hb dX9_begins_59 (by decide) ?_
  refine z_aald (v := .ref xq56) hx hb I 4 3 rfl rfl rfl (by unfold vp_in; decide) dX9_begins_60 rfl ?_
  refine lv_iload_n hx hb dX9_begins_61 rfl (lv_at hl 0 rfl) ?_
  refine lv_iload_n hx hb dX9_begins_62 rfl (lv_at hl 0 rfl) ?_
  refine lv_aload_n hx hb dX9_begins_63 rfl (lv_at hl 1 rfl) ?_
  refine z_get (C := RX9) (T := TX9) (N := 43) (ci := 9) (v := .int 0) hx hb hg hown I iw_9 0 rfl rfl 10 (by decide) mw1270 rfl dX9_begins_64 ?_
  refine lv_icmp_ge (tgt := 80) hx hb dX9_begins_67 (by decide) (fun _ => ?_) (fun c9 => absurd c9 (by decide))
  refine lv_lconst (v := 0) hx hb dX9_begins_80 (by decide) ?_
  refine z_last hx hb I 5 4 rfl rfl (by unfold vp_in; decide) dX9_begins_81 (fun g7 H locs eg7 I => ?_)
  have I : z_I A dC dI [(h0, .inr (9, [.int 0, .ref xq1, .ref xq2, .ref xq3, .ref xq4, .ref xq5, .ref xq6, .ref xq7, .ref xq8, .ref xq9, .int 0, .int 0, .ref xq10, .ref xq11, .ref xq12, .ref xq13, .ref xq14, .ref xq15, .ref xq16, .ref xq17, .ref xq18, .ref xq19, .ref xq20, .ref xq21, .ref xq22, .ref xq23, .ref xq24, .ref xq25, .ref xq26, .long 0, .int 0, .int 0, .int 0, .int 0, .int 0, .ref xq27, .ref xq28, .ref xq29, .ref xq30, .ref xq31, .ref xq32, .ref xq33, .long 0])), (xq2, .inl (xc36, 4, .inl xf35)), (xq3, .inl (xc37, 4, .inl xf35)), (xq28, .inl (xc47, 5, .inr (.inr (.inr (.inr (va_up xf48 0 (some xq49))))))), (xq49, .inl (xc50, 5, .inr (.inr (.inr (.inr (va_up (va_up (va_up (va_up (va_up xf51 4 (some xq52)) 3 (some xq53)) 2 (some xq54)) 1 (some xq55)) 0 (some xq56))))))), (xq56, .inl (xc57, 4, .inr (.inl g7))), (xq55, .inl (xc57, 4, .inr (.inl xf58))), (xq54, .inl (xc57, 4, .inr (.inl xf58))), (xq53, .inl (xc57, 4, .inr (.inl xf58))), (xq52, .inl (xc57, 4, .inr (.inl xf58))), (xq29, .inl (xc59, 5, .inl g1)), (xq30, .inl (xc60, 4, .inl g4)), (xq31, .inl (xc61, 4, .inl g6)), (xq32, .inl (xc62, 5, .inr (.inr (.inr (.inr (va_up xf63 0 (some xq64))))))), (xq64, .inl (xc65, 4, .inl g2))] [(xc36, .int), (xc37, .int), (xc47, .array (.array .long)), (xc50, .array .long), (xc57, .long), (xc59, .int), (xc60, .int), (xc61, .int), (xc62, .array .boolean), (xc65, .boolean)] s H _ := I
  refine lv_iconst (v := 1) hx hb dX9_begins_82 (by decide) ?_
  refine lv_istore (lv' := [(4, .int 1), (3, .int 0), (0, .ref h0), (1, .ref xq2), (2, .ref xq3)]) hx hb dX9_begins_83 hl (by decide) rfl (fun ls hl => ?_)
  refine lv_iload hx hb dX9_begins_85 (lv_at hl 0 rfl) ?_
  refine lv_iconst (v := 4) hx hb dX9_begins_87 (by decide) ?_
  refine lv_icmp_gt (tgt := 121) hx hb dX9_begins_88 (by decide) (fun c9 => absurd c9 (by decide)) (fun _ => ?_)
  refine lv_aload_n hx hb dX9_begins_91 rfl (lv_at hl 2 rfl) ?_
  refine z_get (C := RX9) (T := TX9) (N := 43) (ci := 9) (v := .ref xq28) hx hb hg hown I iw_9 0 rfl rfl 36 (by decide) mw1296 rfl dX9_begins_92 ?_
  refine lv_iconst (v := 0) hx hb dX9_begins_95 (by decide) ?_
  refine z_aald (v := .ref xq49) hx hb I 3 2 rfl rfl rfl (by unfold vp_in; decide) dX9_begins_96 rfl ?_
  refine lv_iload hx hb dX9_begins_97 (lv_at hl 0 rfl) ?_
  refine z_aald (v := .ref xq55) hx hb I 4 3 rfl rfl rfl (by unfold vp_in; decide) dX9_begins_99 rfl ?_
  refine lv_iload_n hx hb dX9_begins_100 rfl (lv_at hl 1 rfl) ?_
  refine lv_iload hx hb dX9_begins_101 (lv_at hl 0 rfl) ?_
  refine lv_iload_n hx hb dX9_begins_103 rfl (lv_at hl 1 rfl) ?_
  refine lv_iconst (v := 1) hx hb dX9_begins_104 (by decide) ?_
  refine lv_iadd hx hb dX9_begins_105 ?_
  refine lv_topi (fun w8 ew8 => ?_)
  obtain rfl : w8 = 1 := ew8.trans (by decide)
  refine lv_icmp_ne (tgt := 113) hx hb dX9_begins_106 (by decide) (fun c9 => absurd c9 (by decide)) (fun _ => ?_)
  refine lv_lconst (v := 1) hx hb dX9_begins_109 (by decide) ?_
  refine lv_goto (tgt := 114) hx hb dX9_begins_110 (by decide) ?_
  refine z_last hx hb I 6 4 rfl rfl (by unfold vp_in; decide) dX9_begins_114 (fun g9 H locs eg9 I => ?_)
  have I : z_I A dC dI [(h0, .inr (9, [.int 0, .ref xq1, .ref xq2, .ref xq3, .ref xq4, .ref xq5, .ref xq6, .ref xq7, .ref xq8, .ref xq9, .int 0, .int 0, .ref xq10, .ref xq11, .ref xq12, .ref xq13, .ref xq14, .ref xq15, .ref xq16, .ref xq17, .ref xq18, .ref xq19, .ref xq20, .ref xq21, .ref xq22, .ref xq23, .ref xq24, .ref xq25, .ref xq26, .long 0, .int 0, .int 0, .int 0, .int 0, .int 0, .ref xq27, .ref xq28, .ref xq29, .ref xq30, .ref xq31, .ref xq32, .ref xq33, .long 0])), (xq2, .inl (xc36, 4, .inl xf35)), (xq3, .inl (xc37, 4, .inl xf35)), (xq28, .inl (xc47, 5, .inr (.inr (.inr (.inr (va_up xf48 0 (some xq49))))))), (xq49, .inl (xc50, 5, .inr (.inr (.inr (.inr (va_up (va_up (va_up (va_up (va_up xf51 4 (some xq52)) 3 (some xq53)) 2 (some xq54)) 1 (some xq55)) 0 (some xq56))))))), (xq56, .inl (xc57, 4, .inr (.inl g7))), (xq55, .inl (xc57, 4, .inr (.inl g9))), (xq54, .inl (xc57, 4, .inr (.inl xf58))), (xq53, .inl (xc57, 4, .inr (.inl xf58))), (xq52, .inl (xc57, 4, .inr (.inl xf58))), (xq29, .inl (xc59, 5, .inl g1)), (xq30, .inl (xc60, 4, .inl g4)), (xq31, .inl (xc61, 4, .inl g6)), (xq32, .inl (xc62, 5, .inr (.inr (.inr (.inr (va_up xf63 0 (some xq64))))))), (xq64, .inl (xc65, 4, .inl g2))] [(xc36, .int), (xc37, .int), (xc47, .array (.array .long)), (xc50, .array .long), (xc57, .long), (xc59, .int), (xc60, .int), (xc61, .int), (xc62, .array .boolean), (xc65, .boolean)] s H _ := I
  refine lv_iinc (v := 2) (lv' := [(4, .int 2), (3, .int 0), (0, .ref h0), (1, .ref xq2), (2, .ref xq3)]) hx hb dX9_begins_115 hl (k := 0) rfl (by decide) (by decide) rfl (fun ls hl => ?_)
  refine lv_goto (tgt := 85) hx hb dX9_begins_118 (by decide) ?_
  refine lv_iload hx hb dX9_begins_85 (lv_at hl 0 rfl) ?_
  refine lv_iconst (v := 4) hx hb dX9_begins_87 (by decide) ?_
  refine lv_icmp_gt (tgt := 121) hx hb dX9_begins_88 (by decide) (fun c9 => absurd c9 (by decide)) (fun _ => ?_)
  refine lv_aload_n hx hb dX9_begins_91 rfl (lv_at hl 2 rfl) ?_
  refine z_get (C := RX9) (T := TX9) (N := 43) (ci := 9) (v := .ref xq28) hx hb hg hown I iw_9 0 rfl rfl 36 (by decide) mw1296 rfl dX9_begins_92 ?_
  refine lv_iconst (v := 0) hx hb dX9_begins_95 (by decide) ?_
  refine z_aald (v := .ref xq49) hx hb I 3 2 rfl rfl rfl (by unfold vp_in; decide) dX9_begins_96 rfl ?_
  refine lv_iload hx hb dX9_begins_97 (lv_at hl 0 rfl) ?_
  refine z_aald (v := .ref xq54) hx hb I 4 3 rfl rfl rfl (by unfold vp_in; decide) dX9_begins_99 rfl ?_
  refine lv_iload_n hx hb dX9_begins_100 rfl (lv_at hl 1 rfl) ?_
  refine lv_iload hx hb dX9_begins_101 (lv_at hl 0 rfl) ?_
  refine lv_iload_n hx hb dX9_begins_103 rfl (lv_at hl 1 rfl) ?_
  refine lv_iconst (v := 1) hx hb dX9_begins_104 (by decide) ?_
  refine lv_iadd hx hb dX9_begins_105 ?_
  refine lv_topi (fun w10 ew10 => ?_)
  obtain rfl : w10 = 1 := ew10.trans (by decide)
  refine lv_icmp_ne (tgt := 113) hx hb dX9_begins_106 (by decide) (fun _ => ?_) (fun c9 => absurd c9 (by decide))
  refine lv_lconst (v := 0) hx hb dX9_begins_113 (by decide) ?_
  refine z_last hx hb I 7 4 rfl rfl (by unfold vp_in; decide) dX9_begins_114 (fun g11 H locs eg11 I => ?_)
  have I : z_I A dC dI [(h0, .inr (9, [.int 0, .ref xq1, .ref xq2, .ref xq3, .ref xq4, .ref xq5, .ref xq6, .ref xq7, .ref xq8, .ref xq9, .int 0, .int 0, .ref xq10, .ref xq11, .ref xq12, .ref xq13, .ref xq14, .ref xq15, .ref xq16, .ref xq17, .ref xq18, .ref xq19, .ref xq20, .ref xq21, .ref xq22, .ref xq23, .ref xq24, .ref xq25, .ref xq26, .long 0, .int 0, .int 0, .int 0, .int 0, .int 0, .ref xq27, .ref xq28, .ref xq29, .ref xq30, .ref xq31, .ref xq32, .ref xq33, .long 0])), (xq2, .inl (xc36, 4, .inl xf35)), (xq3, .inl (xc37, 4, .inl xf35)), (xq28, .inl (xc47, 5, .inr (.inr (.inr (.inr (va_up xf48 0 (some xq49))))))), (xq49, .inl (xc50, 5, .inr (.inr (.inr (.inr (va_up (va_up (va_up (va_up (va_up xf51 4 (some xq52)) 3 (some xq53)) 2 (some xq54)) 1 (some xq55)) 0 (some xq56))))))), (xq56, .inl (xc57, 4, .inr (.inl g7))), (xq55, .inl (xc57, 4, .inr (.inl g9))), (xq54, .inl (xc57, 4, .inr (.inl g11))), (xq53, .inl (xc57, 4, .inr (.inl xf58))), (xq52, .inl (xc57, 4, .inr (.inl xf58))), (xq29, .inl (xc59, 5, .inl g1)), (xq30, .inl (xc60, 4, .inl g4)), (xq31, .inl (xc61, 4, .inl g6)), (xq32, .inl (xc62, 5, .inr (.inr (.inr (.inr (va_up xf63 0 (some xq64))))))), (xq64, .inl (xc65, 4, .inl g2))] [(xc36, .int), (xc37, .int), (xc47, .array (.array .long)), (xc50, .array .long), (xc57, .long), (xc59, .int), (xc60, .int), (xc61, .int), (xc62, .array .boolean), (xc65, .boolean)] s H _ := I
  refine lv_iinc (v := 3) (lv' := [(4, .int 3), (3, .int 0), (0, .ref h0), (1, .ref xq2), (2, .ref xq3)]) hx hb dX9_begins_115 hl (k := 0) rfl (by decide) (by decide) rfl (fun ls hl => ?_)
  refine lv_goto (tgt := 85) hx hb dX9_begins_118 (by decide) ?_
  refine lv_iload hx hb dX9_begins_85 (lv_at hl 0 rfl) ?_
  refine lv_iconst (v := 4) hx hb dX9_begins_87 (by decide) ?_
  refine lv_icmp_gt (tgt := 121) hx hb dX9_begins_88 (by decide) (fun c9 => absurd c9 (by decide)) (fun _ => ?_)
  refine lv_aload_n hx hb dX9_begins_91 rfl (lv_at hl 2 rfl) ?_
  refine z_get (C := RX9) (T := TX9) (N := 43) (ci := 9) (v := .ref xq28) hx hb hg hown I iw_9 0 rfl rfl 36 (by decide) mw1296 rfl dX9_begins_92 ?_
  refine lv_iconst (v := 0) hx hb dX9_begins_95 (by decide) ?_
  refine z_aald (v := .ref xq49) hx hb I 3 2 rfl rfl rfl (by unfold vp_in; decide) dX9_begins_96 rfl ?_
  refine lv_iload hx hb dX9_begins_97 (lv_at hl 0 rfl) ?_
  refine z_aald (v := .ref xq53) hx hb I 4 3 rfl rfl rfl (by unfold vp_in; decide) dX9_begins_99 rfl ?_
  refine lv_iload_n hx hb dX9_begins_100 rfl (lv_at hl 1 rfl) ?_
  refine lv_iload hx hb dX9_begins_101 (lv_at hl 0 rfl) ?_
  refine lv_iload_n hx hb dX9_begins_103 rfl (lv_at hl 1 rfl) ?_
  refine lv_iconst (v := 1) hx hb dX9_begins_104 (by decide) ?_
  refine lv_iadd hx hb dX9_begins_105 ?_
  refine lv_topi (fun w12 ew12 => ?_)
  obtain rfl : w12 = 1 := ew12.trans (by decide)
  refine lv_icmp_ne (tgt := 113) hx hb dX9_begins_106 (by decide) (fun _ => ?_) (fun c9 => absurd c9 (by decide))
  refine lv_lconst (v := 0) hx hb dX9_begins_113 (by decide) ?_
  refine z_last hx hb I 8 4 rfl rfl (by unfold vp_in; decide) dX9_begins_114 (fun g13 H locs eg13 I => ?_)
  have I : z_I A dC dI [(h0, .inr (9, [.int 0, .ref xq1, .ref xq2, .ref xq3, .ref xq4, .ref xq5, .ref xq6, .ref xq7, .ref xq8, .ref xq9, .int 0, .int 0, .ref xq10, .ref xq11, .ref xq12, .ref xq13, .ref xq14, .ref xq15, .ref xq16, .ref xq17, .ref xq18, .ref xq19, .ref xq20, .ref xq21, .ref xq22, .ref xq23, .ref xq24, .ref xq25, .ref xq26, .long 0, .int 0, .int 0, .int 0, .int 0, .int 0, .ref xq27, .ref xq28, .ref xq29, .ref xq30, .ref xq31, .ref xq32, .ref xq33, .long 0])), (xq2, .inl (xc36, 4, .inl xf35)), (xq3, .inl (xc37, 4, .inl xf35)), (xq28, .inl (xc47, 5, .inr (.inr (.inr (.inr (va_up xf48 0 (some xq49))))))), (xq49, .inl (xc50, 5, .inr (.inr (.inr (.inr (va_up (va_up (va_up (va_up (va_up xf51 4 (some xq52)) 3 (some xq53)) 2 (some xq54)) 1 (some xq55)) 0 (some xq56))))))), (xq56, .inl (xc57, 4, .inr (.inl g7))), (xq55, .inl (xc57, 4, .inr (.inl g9))), (xq54, .inl (xc57, 4, .inr (.inl g11))), (xq53, .inl (xc57, 4, .inr (.inl g13))), (xq52, .inl (xc57, 4, .inr (.inl xf58))), (xq29, .inl (xc59, 5, .inl g1)), (xq30, .inl (xc60, 4, .inl g4)), (xq31, .inl (xc61, 4, .inl g6)), (xq32, .inl (xc62, 5, .inr (.inr (.inr (.inr (va_up xf63 0 (some xq64))))))), (xq64, .inl (xc65, 4, .inl g2))] [(xc36, .int), (xc37, .int), (xc47, .array (.array .long)), (xc50, .array .long), (xc57, .long), (xc59, .int), (xc60, .int), (xc61, .int), (xc62, .array .boolean), (xc65, .boolean)] s H _ := I
  refine lv_iinc (v := 4) (lv' := [(4, .int 4), (3, .int 0), (0, .ref h0), (1, .ref xq2), (2, .ref xq3)]) hx hb dX9_begins_115 hl (k := 0) rfl (by decide) (by decide) rfl (fun ls hl => ?_)
  refine lv_goto (tgt := 85) hx hb dX9_begins_118 (by decide) ?_
  refine lv_iload hx hb dX9_begins_85 (lv_at hl 0 rfl) ?_
  refine lv_iconst (v := 4) hx hb dX9_begins_87 (by decide) ?_
  refine lv_icmp_gt (tgt := 121) hx hb dX9_begins_88 (by decide) (fun c9 => absurd c9 (by decide)) (fun _ => ?_)
  refine lv_aload_n hx hb dX9_begins_91 rfl (lv_at hl 2 rfl) ?_
  refine z_get (C := RX9) (T := TX9) (N := 43) (ci := 9) (v := .ref xq28) hx hb hg hown I iw_9 0 rfl rfl 36 (by decide) mw1296 rfl dX9_begins_92 ?_
  refine lv_iconst (v := 0) hx hb dX9_begins_95 (by decide) ?_
  refine z_aald (v := .ref xq49) hx hb I 3 2 rfl rfl rfl (by unfold vp_in; decide) dX9_begins_96 rfl ?_
  refine lv_iload hx hb dX9_begins_97 (lv_at hl 0 rfl) ?_
  refine z_aald (v := .ref xq52) hx hb I 4 3 rfl rfl rfl (by unfold vp_in; decide) dX9_begins_99 rfl ?_
  refine lv_iload_n hx hb dX9_begins_100 rfl (lv_at hl 1 rfl) ?_
  refine lv_iload hx hb dX9_begins_101 (lv_at hl 0 rfl) ?_
  refine lv_iload_n hx hb dX9_begins_103 rfl (lv_at hl 1 rfl) ?_
  refine lv_iconst (v := 1) hx hb dX9_begins_104 (by decide) ?_
  refine lv_iadd hx hb dX9_begins_105 ?_
  refine lv_topi (fun w14 ew14 => ?_)
  obtain rfl : w14 = 1 := ew14.trans (by decide)
  refine lv_icmp_ne (tgt := 113) hx hb dX9_begins_106 (by decide) (fun _ => ?_) (fun c9 => absurd c9 (by decide))
  refine lv_lconst (v := 0) hx hb dX9_begins_113 (by decide) ?_
  refine z_last hx hb I 9 4 rfl rfl (by unfold vp_in; decide) dX9_begins_114 (fun g15 H locs eg15 I => ?_)
  have I : z_I A dC dI [(h0, .inr (9, [.int 0, .ref xq1, .ref xq2, .ref xq3, .ref xq4, .ref xq5, .ref xq6, .ref xq7, .ref xq8, .ref xq9, .int 0, .int 0, .ref xq10, .ref xq11, .ref xq12, .ref xq13, .ref xq14, .ref xq15, .ref xq16, .ref xq17, .ref xq18, .ref xq19, .ref xq20, .ref xq21, .ref xq22, .ref xq23, .ref xq24, .ref xq25, .ref xq26, .long 0, .int 0, .int 0, .int 0, .int 0, .int 0, .ref xq27, .ref xq28, .ref xq29, .ref xq30, .ref xq31, .ref xq32, .ref xq33, .long 0])), (xq2, .inl (xc36, 4, .inl xf35)), (xq3, .inl (xc37, 4, .inl xf35)), (xq28, .inl (xc47, 5, .inr (.inr (.inr (.inr (va_up xf48 0 (some xq49))))))), (xq49, .inl (xc50, 5, .inr (.inr (.inr (.inr (va_up (va_up (va_up (va_up (va_up xf51 4 (some xq52)) 3 (some xq53)) 2 (some xq54)) 1 (some xq55)) 0 (some xq56))))))), (xq56, .inl (xc57, 4, .inr (.inl g7))), (xq55, .inl (xc57, 4, .inr (.inl g9))), (xq54, .inl (xc57, 4, .inr (.inl g11))), (xq53, .inl (xc57, 4, .inr (.inl g13))), (xq52, .inl (xc57, 4, .inr (.inl g15))), (xq29, .inl (xc59, 5, .inl g1)), (xq30, .inl (xc60, 4, .inl g4)), (xq31, .inl (xc61, 4, .inl g6)), (xq32, .inl (xc62, 5, .inr (.inr (.inr (.inr (va_up xf63 0 (some xq64))))))), (xq64, .inl (xc65, 4, .inl g2))] [(xc36, .int), (xc37, .int), (xc47, .array (.array .long)), (xc50, .array .long), (xc57, .long), (xc59, .int), (xc60, .int), (xc61, .int), (xc62, .array .boolean), (xc65, .boolean)] s H _ := I
  refine lv_iinc (v := 5) (lv' := [(4, .int 5), (3, .int 0), (0, .ref h0), (1, .ref xq2), (2, .ref xq3)]) hx hb dX9_begins_115 hl (k := 0) rfl (by decide) (by decide) rfl (fun ls hl => ?_)
  refine lv_goto (tgt := 85) hx hb dX9_begins_118 (by decide) ?_
  refine lv_iload hx hb dX9_begins_85 (lv_at hl 0 rfl) ?_
  refine lv_iconst (v := 4) hx hb dX9_begins_87 (by decide) ?_
  refine lv_icmp_gt (tgt := 121) hx hb dX9_begins_88 (by decide) (fun _ => ?_) (fun c9 => absurd c9 (by decide))
  refine lv_iinc (v := 1) (lv' := [(3, .int 1), (4, .int 5), (0, .ref h0), (1, .ref xq2), (2, .ref xq3)]) hx hb dX9_begins_121 hl (k := 1) rfl (by decide) (by decide) rfl (fun ls hl => ?_)
  refine lv_goto (tgt := 9) hx hb dX9_begins_124 (by decide) ?_
  refine lv_iload_n hx hb dX9_begins_9 rfl (lv_at hl 0 rfl) ?_
  refine lv_iconst (v := 4) hx hb dX9_begins_10 (by decide) ?_
  refine lv_icmp_ge (tgt := 127) hx hb dX9_begins_11 (by decide) (fun c9 => absurd c9 (by decide)) (fun _ => ?_)
  refine lv_aload_n hx hb dX9_begins_14 rfl (lv_at hl 2 rfl) ?_
  refine z_get (C := RX9) (T := TX9) (N := 43) (ci := 9) (v := .ref xq32) hx hb hg hown I iw_9 0 rfl rfl 40 (by decide) mw1300 rfl dX9_begins_15 ?_
  refine lv_iconst (v := 0) hx hb dX9_begins_18 (by decide) ?_
  refine z_aald (v := .ref xq64) hx hb I 13 8 rfl rfl rfl (by unfold vp_in; decide) dX9_begins_19 rfl ?_
  refine lv_iload_n hx hb dX9_begins_20 rfl (lv_at hl 0 rfl) ?_
  refine lv_iload_n hx hb dX9_begins_21 rfl (lv_at hl 0 rfl) ?_
  refine lv_aload_n hx hb dX9_begins_22 rfl (lv_at hl 2 rfl) ?_
  refine z_get (C := RX9) (T := TX9) (N := 43) (ci := 9) (v := .int 0) hx hb hg hown I iw_9 0 rfl rfl 10 (by decide) mw1270 rfl dX9_begins_23 ?_
  refine lv_icmp_lt (tgt := 33) hx hb dX9_begins_26 (by decide) (fun c9 => absurd c9 (by decide)) (fun _ => ?_)
  refine lv_iconst (v := 1) hx hb dX9_begins_29 (by decide) ?_
  refine lv_goto (tgt := 34) hx hb dX9_begins_30 (by decide) ?_
  refine z_zast hx hb I 14 9 rfl rfl (by unfold vp_in; decide) dX9_begins_34 (fun g16 H locs eg16 I => ?_)
  have I : z_I A dC dI [(h0, .inr (9, [.int 0, .ref xq1, .ref xq2, .ref xq3, .ref xq4, .ref xq5, .ref xq6, .ref xq7, .ref xq8, .ref xq9, .int 0, .int 0, .ref xq10, .ref xq11, .ref xq12, .ref xq13, .ref xq14, .ref xq15, .ref xq16, .ref xq17, .ref xq18, .ref xq19, .ref xq20, .ref xq21, .ref xq22, .ref xq23, .ref xq24, .ref xq25, .ref xq26, .long 0, .int 0, .int 0, .int 0, .int 0, .int 0, .ref xq27, .ref xq28, .ref xq29, .ref xq30, .ref xq31, .ref xq32, .ref xq33, .long 0])), (xq2, .inl (xc36, 4, .inl xf35)), (xq3, .inl (xc37, 4, .inl xf35)), (xq28, .inl (xc47, 5, .inr (.inr (.inr (.inr (va_up xf48 0 (some xq49))))))), (xq49, .inl (xc50, 5, .inr (.inr (.inr (.inr (va_up (va_up (va_up (va_up (va_up xf51 4 (some xq52)) 3 (some xq53)) 2 (some xq54)) 1 (some xq55)) 0 (some xq56))))))), (xq56, .inl (xc57, 4, .inr (.inl g7))), (xq55, .inl (xc57, 4, .inr (.inl g9))), (xq54, .inl (xc57, 4, .inr (.inl g11))), (xq53, .inl (xc57, 4, .inr (.inl g13))), (xq52, .inl (xc57, 4, .inr (.inl g15))), (xq29, .inl (xc59, 5, .inl g1)), (xq30, .inl (xc60, 4, .inl g4)), (xq31, .inl (xc61, 4, .inl g6)), (xq32, .inl (xc62, 5, .inr (.inr (.inr (.inr (va_up xf63 0 (some xq64))))))), (xq64, .inl (xc65, 4, .inl g16))] [(xc36, .int), (xc37, .int), (xc47, .array (.array .long)), (xc50, .array .long), (xc57, .long), (xc59, .int), (xc60, .int), (xc61, .int), (xc62, .array .boolean), (xc65, .boolean)] s H _ := I
  refine lv_aload_n hx hb dX9_begins_35 rfl (lv_at hl 2 rfl) ?_
  refine z_get (C := RX9) (T := TX9) (N := 43) (ci := 9) (v := .ref xq30) hx hb hg hown I iw_9 0 rfl rfl 38 (by decide) mw1298 rfl dX9_begins_36 ?_
  refine lv_iload_n hx hb dX9_begins_39 rfl (lv_at hl 0 rfl) ?_
  refine lv_aload_n hx hb dX9_begins_40 rfl (lv_at hl 3 rfl) ?_
  refine lv_iload_n hx hb dX9_begins_41 rfl (lv_at hl 0 rfl) ?_
  obtain ⟨v17, ev17⟩ : ∃ y, y = xf35 (Int32.toNatClampNeg 1) := ⟨_, rfl⟩
  refine z_iald (v := v17) hx hb I 1 0 rfl rfl (by unfold vp_in; decide) dX9_begins_42 ev17.symm ?_
  refine z_iast hx hb I 11 6 rfl rfl (by unfold vp_in; decide) dX9_begins_43 (fun g18 H locs eg18 I => ?_)
  have I : z_I A dC dI [(h0, .inr (9, [.int 0, .ref xq1, .ref xq2, .ref xq3, .ref xq4, .ref xq5, .ref xq6, .ref xq7, .ref xq8, .ref xq9, .int 0, .int 0, .ref xq10, .ref xq11, .ref xq12, .ref xq13, .ref xq14, .ref xq15, .ref xq16, .ref xq17, .ref xq18, .ref xq19, .ref xq20, .ref xq21, .ref xq22, .ref xq23, .ref xq24, .ref xq25, .ref xq26, .long 0, .int 0, .int 0, .int 0, .int 0, .int 0, .ref xq27, .ref xq28, .ref xq29, .ref xq30, .ref xq31, .ref xq32, .ref xq33, .long 0])), (xq2, .inl (xc36, 4, .inl xf35)), (xq3, .inl (xc37, 4, .inl xf35)), (xq28, .inl (xc47, 5, .inr (.inr (.inr (.inr (va_up xf48 0 (some xq49))))))), (xq49, .inl (xc50, 5, .inr (.inr (.inr (.inr (va_up (va_up (va_up (va_up (va_up xf51 4 (some xq52)) 3 (some xq53)) 2 (some xq54)) 1 (some xq55)) 0 (some xq56))))))), (xq56, .inl (xc57, 4, .inr (.inl g7))), (xq55, .inl (xc57, 4, .inr (.inl g9))), (xq54, .inl (xc57, 4, .inr (.inl g11))), (xq53, .inl (xc57, 4, .inr (.inl g13))), (xq52, .inl (xc57, 4, .inr (.inl g15))), (xq29, .inl (xc59, 5, .inl g1)), (xq30, .inl (xc60, 4, .inl g18)), (xq31, .inl (xc61, 4, .inl g6)), (xq32, .inl (xc62, 5, .inr (.inr (.inr (.inr (va_up xf63 0 (some xq64))))))), (xq64, .inl (xc65, 4, .inl g16))] [(xc36, .int), (xc37, .int), (xc47, .array (.array .long)), (xc50, .array .long), (xc57, .long), (xc59, .int), (xc60, .int), (xc61, .int), (xc62, .array .boolean), (xc65, .boolean)] s H _ := I
  refine lv_aload_n hx hb dX9_begins_44 rfl (lv_at hl 2 rfl) ?_
  refine z_get (C := RX9) (T := TX9) (N := 43) (ci := 9) (v := .ref xq31) hx hb hg hown I iw_9 0 rfl rfl 39 (by decide) mw1299 rfl dX9_begins_45 ?_
  refine lv_iload_n hx hb dX9_begins_48 rfl (lv_at hl 0 rfl) ?_
  refine lv_aload_n hx hb dX9_begins_49 rfl (lv_at hl 4 rfl) ?_
  refine lv_iload_n hx hb dX9_begins_50 rfl (lv_at hl 0 rfl) ?_
  obtain ⟨v19, ev19⟩ : ∃ y, y = xf35 (Int32.toNatClampNeg 1) := ⟨_, rfl⟩
  refine z_iald (v := v19) hx hb I 2 1 rfl rfl (by unfold vp_in; decide) dX9_begins_51 ev19.symm ?_
  refine z_iast hx hb I 12 7 rfl rfl (by unfold vp_in; decide) dX9_begins_52 (fun g20 H locs eg20 I => ?_)
  have I : z_I A dC dI [(h0, .inr (9, [.int 0, .ref xq1, .ref xq2, .ref xq3, .ref xq4, .ref xq5, .ref xq6, .ref xq7, .ref xq8, .ref xq9, .int 0, .int 0, .ref xq10, .ref xq11, .ref xq12, .ref xq13, .ref xq14, .ref xq15, .ref xq16, .ref xq17, .ref xq18, .ref xq19, .ref xq20, .ref xq21, .ref xq22, .ref xq23, .ref xq24, .ref xq25, .ref xq26, .long 0, .int 0, .int 0, .int 0, .int 0, .int 0, .ref xq27, .ref xq28, .ref xq29, .ref xq30, .ref xq31, .ref xq32, .ref xq33, .long 0])), (xq2, .inl (xc36, 4, .inl xf35)), (xq3, .inl (xc37, 4, .inl xf35)), (xq28, .inl (xc47, 5, .inr (.inr (.inr (.inr (va_up xf48 0 (some xq49))))))), (xq49, .inl (xc50, 5, .inr (.inr (.inr (.inr (va_up (va_up (va_up (va_up (va_up xf51 4 (some xq52)) 3 (some xq53)) 2 (some xq54)) 1 (some xq55)) 0 (some xq56))))))), (xq56, .inl (xc57, 4, .inr (.inl g7))), (xq55, .inl (xc57, 4, .inr (.inl g9))), (xq54, .inl (xc57, 4, .inr (.inl g11))), (xq53, .inl (xc57, 4, .inr (.inl g13))), (xq52, .inl (xc57, 4, .inr (.inl g15))), (xq29, .inl (xc59, 5, .inl g1)), (xq30, .inl (xc60, 4, .inl g18)), (xq31, .inl (xc61, 4, .inl g20)), (xq32, .inl (xc62, 5, .inr (.inr (.inr (.inr (va_up xf63 0 (some xq64))))))), (xq64, .inl (xc65, 4, .inl g16))] [(xc36, .int), (xc37, .int), (xc47, .array (.array .long)), (xc50, .array .long), (xc57, .long), (xc59, .int), (xc60, .int), (xc61, .int), (xc62, .array .boolean), (xc65, .boolean)] s H _ := I
  refine lv_aload_n hx hb dX9_begins_53 rfl (lv_at hl 2 rfl) ?_
  refine z_get (C := RX9) (T := TX9) (N := 43) (ci := 9) (v := .ref xq28) hx hb hg hown I iw_9 0 rfl rfl 36 (by decide) mw1296 rfl dX9_begins_54 ?_
  refine lv_iconst (v := 0) hx hb dX9_begins_57 (by decide) ?_
  refine z_aald (v := .ref xq49) hx hb I 3 2 rfl rfl rfl (by unfold vp_in; decide) dX9_begins_58 rfl ?_
  refine lv_iconst (v := 0) hx hb dX9_begins_59 (by decide) ?_
  refine z_aald (v := .ref xq56) hx hb I 4 3 rfl rfl rfl (by unfold vp_in; decide) dX9_begins_60 rfl ?_
  refine lv_iload_n hx hb dX9_begins_61 rfl (lv_at hl 0 rfl) ?_
  refine lv_iload_n hx hb dX9_begins_62 rfl (lv_at hl 0 rfl) ?_
  refine lv_aload_n hx hb dX9_begins_63 rfl (lv_at hl 2 rfl) ?_
  refine z_get (C := RX9) (T := TX9) (N := 43) (ci := 9) (v := .int 0) hx hb hg hown I iw_9 0 rfl rfl 10 (by decide) mw1270 rfl dX9_begins_64 ?_
  refine lv_icmp_ge (tgt := 80) hx hb dX9_begins_67 (by decide) (fun _ => ?_) (fun c9 => absurd c9 (by decide))
  refine lv_lconst (v := 0) hx hb dX9_begins_80 (by decide) ?_
  refine z_last hx hb I 5 4 rfl rfl (by unfold vp_in; decide) dX9_begins_81 (fun g21 H locs eg21 I => ?_)
  have I : z_I A dC dI [(h0, .inr (9, [.int 0, .ref xq1, .ref xq2, .ref xq3, .ref xq4, .ref xq5, .ref xq6, .ref xq7, .ref xq8, .ref xq9, .int 0, .int 0, .ref xq10, .ref xq11, .ref xq12, .ref xq13, .ref xq14, .ref xq15, .ref xq16, .ref xq17, .ref xq18, .ref xq19, .ref xq20, .ref xq21, .ref xq22, .ref xq23, .ref xq24, .ref xq25, .ref xq26, .long 0, .int 0, .int 0, .int 0, .int 0, .int 0, .ref xq27, .ref xq28, .ref xq29, .ref xq30, .ref xq31, .ref xq32, .ref xq33, .long 0])), (xq2, .inl (xc36, 4, .inl xf35)), (xq3, .inl (xc37, 4, .inl xf35)), (xq28, .inl (xc47, 5, .inr (.inr (.inr (.inr (va_up xf48 0 (some xq49))))))), (xq49, .inl (xc50, 5, .inr (.inr (.inr (.inr (va_up (va_up (va_up (va_up (va_up xf51 4 (some xq52)) 3 (some xq53)) 2 (some xq54)) 1 (some xq55)) 0 (some xq56))))))), (xq56, .inl (xc57, 4, .inr (.inl g21))), (xq55, .inl (xc57, 4, .inr (.inl g9))), (xq54, .inl (xc57, 4, .inr (.inl g11))), (xq53, .inl (xc57, 4, .inr (.inl g13))), (xq52, .inl (xc57, 4, .inr (.inl g15))), (xq29, .inl (xc59, 5, .inl g1)), (xq30, .inl (xc60, 4, .inl g18)), (xq31, .inl (xc61, 4, .inl g20)), (xq32, .inl (xc62, 5, .inr (.inr (.inr (.inr (va_up xf63 0 (some xq64))))))), (xq64, .inl (xc65, 4, .inl g16))] [(xc36, .int), (xc37, .int), (xc47, .array (.array .long)), (xc50, .array .long), (xc57, .long), (xc59, .int), (xc60, .int), (xc61, .int), (xc62, .array .boolean), (xc65, .boolean)] s H _ := I
  refine lv_iconst (v := 1) hx hb dX9_begins_82 (by decide) ?_
  refine lv_istore (lv' := [(4, .int 1), (3, .int 1), (0, .ref h0), (1, .ref xq2), (2, .ref xq3)]) hx hb dX9_begins_83 hl (by decide) rfl (fun ls hl => ?_)
  refine lv_iload hx hb dX9_begins_85 (lv_at hl 0 rfl) ?_
  refine lv_iconst (v := 4) hx hb dX9_begins_87 (by decide) ?_
  refine lv_icmp_gt (tgt := 121) hx hb dX9_begins_88 (by decide) (fun c9 => absurd c9 (by decide)) (fun _ => ?_)
  refine lv_aload_n hx hb dX9_begins_91 rfl (lv_at hl 2 rfl) ?_
  refine z_get (C := RX9) (T := TX9) (N := 43) (ci := 9) (v := .ref xq28) hx hb hg hown I iw_9 0 rfl rfl 36 (by decide) mw1296 rfl dX9_begins_92 ?_
  refine lv_iconst (v := 0) hx hb dX9_begins_95 (by decide) ?_
  refine z_aald (v := .ref xq49) hx hb I 3 2 rfl rfl rfl (by unfold vp_in; decide) dX9_begins_96 rfl ?_
  refine lv_iload hx hb dX9_begins_97 (lv_at hl 0 rfl) ?_
  refine z_aald (v := .ref xq55) hx hb I 4 3 rfl rfl rfl (by unfold vp_in; decide) dX9_begins_99 rfl ?_
  refine lv_iload_n hx hb dX9_begins_100 rfl (lv_at hl 1 rfl) ?_
  refine lv_iload hx hb dX9_begins_101 (lv_at hl 0 rfl) ?_
  refine lv_iload_n hx hb dX9_begins_103 rfl (lv_at hl 1 rfl) ?_
  refine lv_iconst (v := 1) hx hb dX9_begins_104 (by decide) ?_
  refine lv_iadd hx hb dX9_begins_105 ?_
  refine lv_topi (fun w22 ew22 => ?_)
  obtain rfl : w22 = 2 := ew22.trans (by decide)
  refine lv_icmp_ne (tgt := 113) hx hb dX9_begins_106 (by decide) (fun _ => ?_) (fun c9 => absurd c9 (by decide))
  refine lv_lconst (v := 0) hx hb dX9_begins_113 (by decide) ?_
  refine z_last hx hb I 6 4 rfl rfl (by unfold vp_in; decide) dX9_begins_114 (fun g23 H locs eg23 I => ?_)
  have I : z_I A dC dI [(h0, .inr (9, [.int 0, .ref xq1, .ref xq2, .ref xq3, .ref xq4, .ref xq5, .ref xq6, .ref xq7, .ref xq8, .ref xq9, .int 0, .int 0, .ref xq10, .ref xq11, .ref xq12, .ref xq13, .ref xq14, .ref xq15, .ref xq16, .ref xq17, .ref xq18, .ref xq19, .ref xq20, .ref xq21, .ref xq22, .ref xq23, .ref xq24, .ref xq25, .ref xq26, .long 0, .int 0, .int 0, .int 0, .int 0, .int 0, .ref xq27, .ref xq28, .ref xq29, .ref xq30, .ref xq31, .ref xq32, .ref xq33, .long 0])), (xq2, .inl (xc36, 4, .inl xf35)), (xq3, .inl (xc37, 4, .inl xf35)), (xq28, .inl (xc47, 5, .inr (.inr (.inr (.inr (va_up xf48 0 (some xq49))))))), (xq49, .inl (xc50, 5, .inr (.inr (.inr (.inr (va_up (va_up (va_up (va_up (va_up xf51 4 (some xq52)) 3 (some xq53)) 2 (some xq54)) 1 (some xq55)) 0 (some xq56))))))), (xq56, .inl (xc57, 4, .inr (.inl g21))), (xq55, .inl (xc57, 4, .inr (.inl g23))), (xq54, .inl (xc57, 4, .inr (.inl g11))), (xq53, .inl (xc57, 4, .inr (.inl g13))), (xq52, .inl (xc57, 4, .inr (.inl g15))), (xq29, .inl (xc59, 5, .inl g1)), (xq30, .inl (xc60, 4, .inl g18)), (xq31, .inl (xc61, 4, .inl g20)), (xq32, .inl (xc62, 5, .inr (.inr (.inr (.inr (va_up xf63 0 (some xq64))))))), (xq64, .inl (xc65, 4, .inl g16))] [(xc36, .int), (xc37, .int), (xc47, .array (.array .long)), (xc50, .array .long), (xc57, .long), (xc59, .int), (xc60, .int), (xc61, .int), (xc62, .array .boolean), (xc65, .boolean)] s H _ := I
  refine lv_iinc (v := 2) (lv' := [(4, .int 2), (3, .int 1), (0, .ref h0), (1, .ref xq2), (2, .ref xq3)]) hx hb dX9_begins_115 hl (k := 0) rfl (by decide) (by decide) rfl (fun ls hl => ?_)
  refine lv_goto (tgt := 85) hx hb dX9_begins_118 (by decide) ?_
  refine lv_iload hx hb dX9_begins_85 (lv_at hl 0 rfl) ?_
  refine lv_iconst (v := 4) hx hb dX9_begins_87 (by decide) ?_
  refine lv_icmp_gt (tgt := 121) hx hb dX9_begins_88 (by decide) (fun c9 => absurd c9 (by decide)) (fun _ => ?_)
  refine lv_aload_n hx hb dX9_begins_91 rfl (lv_at hl 2 rfl) ?_
  refine z_get (C := RX9) (T := TX9) (N := 43) (ci := 9) (v := .ref xq28) hx hb hg hown I iw_9 0 rfl rfl 36 (by decide) mw1296 rfl dX9_begins_92 ?_
  refine lv_iconst (v := 0) hx hb dX9_begins_95 (by decide) ?_
  refine z_aald (v := .ref xq49) hx hb I 3 2 rfl rfl rfl (by unfold vp_in; decide) dX9_begins_96 rfl ?_
  refine lv_iload hx hb dX9_begins_97 (lv_at hl 0 rfl) ?_
  refine z_aald (v := .ref xq54) hx hb I 4 3 rfl rfl rfl (by unfold vp_in; decide) dX9_begins_99 rfl ?_
  refine lv_iload_n hx hb dX9_begins_100 rfl (lv_at hl 1 rfl) ?_
  refine lv_iload hx hb dX9_begins_101 (lv_at hl 0 rfl) ?_
  refine lv_iload_n hx hb dX9_begins_103 rfl (lv_at hl 1 rfl) ?_
  refine lv_iconst (v := 1) hx hb dX9_begins_104 (by decide) ?_
  refine lv_iadd hx hb dX9_begins_105 ?_
  refine lv_topi (fun w24 ew24 => ?_)
  obtain rfl : w24 = 2 := ew24.trans (by decide)
  refine lv_icmp_ne (tgt := 113) hx hb dX9_begins_106 (by decide) (fun c9 => absurd c9 (by decide)) (fun _ => ?_)
  refine lv_lconst (v := 1) hx hb dX9_begins_109 (by decide) ?_
  refine lv_goto (tgt := 114) hx hb dX9_begins_110 (by decide) ?_
  refine z_last hx hb I 7 4 rfl rfl (by unfold vp_in; decide) dX9_begins_114 (fun g25 H locs eg25 I => ?_)
  have I : z_I A dC dI [(h0, .inr (9, [.int 0, .ref xq1, .ref xq2, .ref xq3, .ref xq4, .ref xq5, .ref xq6, .ref xq7, .ref xq8, .ref xq9, .int 0, .int 0, .ref xq10, .ref xq11, .ref xq12, .ref xq13, .ref xq14, .ref xq15, .ref xq16, .ref xq17, .ref xq18, .ref xq19, .ref xq20, .ref xq21, .ref xq22, .ref xq23, .ref xq24, .ref xq25, .ref xq26, .long 0, .int 0, .int 0, .int 0, .int 0, .int 0, .ref xq27, .ref xq28, .ref xq29, .ref xq30, .ref xq31, .ref xq32, .ref xq33, .long 0])), (xq2, .inl (xc36, 4, .inl xf35)), (xq3, .inl (xc37, 4, .inl xf35)), (xq28, .inl (xc47, 5, .inr (.inr (.inr (.inr (va_up xf48 0 (some xq49))))))), (xq49, .inl (xc50, 5, .inr (.inr (.inr (.inr (va_up (va_up (va_up (va_up (va_up xf51 4 (some xq52)) 3 (some xq53)) 2 (some xq54)) 1 (some xq55)) 0 (some xq56))))))), (xq56, .inl (xc57, 4, .inr (.inl g21))), (xq55, .inl (xc57, 4, .inr (.inl g23))), (xq54, .inl (xc57, 4, .inr (.inl g25))), (xq53, .inl (xc57, 4, .inr (.inl g13))), (xq52, .inl (xc57, 4, .inr (.inl g15))), (xq29, .inl (xc59, 5, .inl g1)), (xq30, .inl (xc60, 4, .inl g18)), (xq31, .inl (xc61, 4, .inl g20)), (xq32, .inl (xc62, 5, .inr (.inr (.inr (.inr (va_up xf63 0 (some xq64))))))), (xq64, .inl (xc65, 4, .inl g16))] [(xc36, .int), (xc37, .int), (xc47, .array (.array .long)), (xc50, .array .long), (xc57, .long), (xc59, .int), (xc60, .int), (xc61, .int), (xc62, .array .boolean), (xc65, .boolean)] s H _ := I
  refine lv_iinc (v := 3) (lv' := [(4, .int 3), (3, .int 1), (0, .ref h0), (1, .ref xq2), (2, .ref xq3)]) hx hb dX9_begins_115 hl (k := 0) rfl (by decide) (by decide) rfl (fun ls hl => ?_)
  refine lv_goto (tgt := 85) hx hb dX9_begins_118 (by decide) ?_
  refine lv_iload hx hb dX9_begins_85 (lv_at hl 0 rfl) ?_
  refine lv_iconst (v := 4) hx hb dX9_begins_87 (by decide) ?_
  refine lv_icmp_gt (tgt := 121) hx hb dX9_begins_88 (by decide) (fun c9 => absurd c9 (by decide)) (fun _ => ?_)
  refine lv_aload_n hx hb dX9_begins_91 rfl (lv_at hl 2 rfl) ?_
  refine z_get (C := RX9) (T := TX9) (N := 43) (ci := 9) (v := .ref xq28) hx hb hg hown I iw_9 0 rfl rfl 36 (by decide) mw1296 rfl dX9_begins_92 ?_
  refine lv_iconst (v := 0) hx hb dX9_begins_95 (by decide) ?_
  refine z_aald (v := .ref xq49) hx hb I 3 2 rfl rfl rfl (by unfold vp_in; decide) dX9_begins_96 rfl ?_
  refine lv_iload hx hb dX9_begins_97 (lv_at hl 0 rfl) ?_
  refine z_aald (v := .ref xq53) hx hb I 4 3 rfl rfl rfl (by unfold vp_in; decide) dX9_begins_99 rfl ?_
  refine lv_iload_n hx hb dX9_begins_100 rfl (lv_at hl 1 rfl) ?_
  refine lv_iload hx hb dX9_begins_101 (lv_at hl 0 rfl) ?_
  refine lv_iload_n hx hb dX9_begins_103 rfl (lv_at hl 1 rfl) ?_
  refine lv_iconst (v := 1) hx hb dX9_begins_104 (by decide) ?_
  refine lv_iadd hx hb dX9_begins_105 ?_
  refine lv_topi (fun w26 ew26 => ?_)
  obtain rfl : w26 = 2 := ew26.trans (by decide)
  refine lv_icmp_ne (tgt := 113) hx hb dX9_begins_106 (by decide) (fun _ => ?_) (fun c9 => absurd c9 (by decide))
  refine lv_lconst (v := 0) hx hb dX9_begins_113 (by decide) ?_
  refine z_last hx hb I 8 4 rfl rfl (by unfold vp_in; decide) dX9_begins_114 (fun g27 H locs eg27 I => ?_)
  have I : z_I A dC dI [(h0, .inr (9, [.int 0, .ref xq1, .ref xq2, .ref xq3, .ref xq4, .ref xq5, .ref xq6, .ref xq7, .ref xq8, .ref xq9, .int 0, .int 0, .ref xq10, .ref xq11, .ref xq12, .ref xq13, .ref xq14, .ref xq15, .ref xq16, .ref xq17, .ref xq18, .ref xq19, .ref xq20, .ref xq21, .ref xq22, .ref xq23, .ref xq24, .ref xq25, .ref xq26, .long 0, .int 0, .int 0, .int 0, .int 0, .int 0, .ref xq27, .ref xq28, .ref xq29, .ref xq30, .ref xq31, .ref xq32, .ref xq33, .long 0])), (xq2, .inl (xc36, 4, .inl xf35)), (xq3, .inl (xc37, 4, .inl xf35)), (xq28, .inl (xc47, 5, .inr (.inr (.inr (.inr (va_up xf48 0 (some xq49))))))), (xq49, .inl (xc50, 5, .inr (.inr (.inr (.inr (va_up (va_up (va_up (va_up (va_up xf51 4 (some xq52)) 3 (some xq53)) 2 (some xq54)) 1 (some xq55)) 0 (some xq56))))))), (xq56, .inl (xc57, 4, .inr (.inl g21))), (xq55, .inl (xc57, 4, .inr (.inl g23))), (xq54, .inl (xc57, 4, .inr (.inl g25))), (xq53, .inl (xc57, 4, .inr (.inl g27))), (xq52, .inl (xc57, 4, .inr (.inl g15))), (xq29, .inl (xc59, 5, .inl g1)), (xq30, .inl (xc60, 4, .inl g18)), (xq31, .inl (xc61, 4, .inl g20)), (xq32, .inl (xc62, 5, .inr (.inr (.inr (.inr (va_up xf63 0 (some xq64))))))), (xq64, .inl (xc65, 4, .inl g16))] [(xc36, .int), (xc37, .int), (xc47, .array (.array .long)), (xc50, .array .long), (xc57, .long), (xc59, .int), (xc60, .int), (xc61, .int), (xc62, .array .boolean), (xc65, .boolean)] s H _ := I
  refine lv_iinc (v := 4) (lv' := [(4, .int 4), (3, .int 1), (0, .ref h0), (1, .ref xq2), (2, .ref xq3)]) hx hb dX9_begins_115 hl (k := 0) rfl (by decide) (by decide) rfl (fun ls hl => ?_)
  refine lv_goto (tgt := 85) hx hb dX9_begins_118 (by decide) ?_
  refine lv_iload hx hb dX9_begins_85 (lv_at hl 0 rfl) ?_
  refine lv_iconst (v := 4) hx hb dX9_begins_87 (by decide) ?_
  refine lv_icmp_gt (tgt := 121) hx hb dX9_begins_88 (by decide) (fun c9 => absurd c9 (by decide)) (fun _ => ?_)
  refine lv_aload_n hx hb dX9_begins_91 rfl (lv_at hl 2 rfl) ?_
  refine z_get (C := RX9) (T := TX9) (N := 43) (ci := 9) (v := .ref xq28) hx hb hg hown I iw_9 0 rfl rfl 36 (by decide) mw1296 rfl dX9_begins_92 ?_
  refine lv_iconst (v := 0) hx hb dX9_begins_95 (by decide) ?_
  refine z_aald (v := .ref xq49) hx hb I 3 2 rfl rfl rfl (by unfold vp_in; decide) dX9_begins_96 rfl ?_
  refine lv_iload hx hb dX9_begins_97 (lv_at hl 0 rfl) ?_
  refine z_aald (v := .ref xq52) hx hb I 4 3 rfl rfl rfl (by unfold vp_in; decide) dX9_begins_99 rfl ?_
  refine lv_iload_n hx hb dX9_begins_100 rfl (lv_at hl 1 rfl) ?_
  refine lv_iload hx hb dX9_begins_101 (lv_at hl 0 rfl) ?_
  refine lv_iload_n hx hb dX9_begins_103 rfl (lv_at hl 1 rfl) ?_
  refine lv_iconst (v := 1) hx hb dX9_begins_104 (by decide) ?_
  refine lv_iadd hx hb dX9_begins_105 ?_
  refine lv_topi (fun w28 ew28 => ?_)
  obtain rfl : w28 = 2 := ew28.trans (by decide)
  refine lv_icmp_ne (tgt := 113) hx hb dX9_begins_106 (by decide) (fun _ => ?_) (fun c9 => absurd c9 (by decide))
  refine lv_lconst (v := 0) hx hb dX9_begins_113 (by decide) ?_
  refine z_last hx hb I 9 4 rfl rfl (by unfold vp_in; decide) dX9_begins_114 (fun g29 H locs eg29 I => ?_)
  have I : z_I A dC dI [(h0, .inr (9, [.int 0, .ref xq1, .ref xq2, .ref xq3, .ref xq4, .ref xq5, .ref xq6, .ref xq7, .ref xq8, .ref xq9, .int 0, .int 0, .ref xq10, .ref xq11, .ref xq12, .ref xq13, .ref xq14, .ref xq15, .ref xq16, .ref xq17, .ref xq18, .ref xq19, .ref xq20, .ref xq21, .ref xq22, .ref xq23, .ref xq24, .ref xq25, .ref xq26, .long 0, .int 0, .int 0, .int 0, .int 0, .int 0, .ref xq27, .ref xq28, .ref xq29, .ref xq30, .ref xq31, .ref xq32, .ref xq33, .long 0])), (xq2, .inl (xc36, 4, .inl xf35)), (xq3, .inl (xc37, 4, .inl xf35)), (xq28, .inl (xc47, 5, .inr (.inr (.inr (.inr (va_up xf48 0 (some xq49))))))), (xq49, .inl (xc50, 5, .inr (.inr (.inr (.inr (va_up (va_up (va_up (va_up (va_up xf51 4 (some xq52)) 3 (some xq53)) 2 (some xq54)) 1 (some xq55)) 0 (some xq56))))))), (xq56, .inl (xc57, 4, .inr (.inl g21))), (xq55, .inl (xc57, 4, .inr (.inl g23))), (xq54, .inl (xc57, 4, .inr (.inl g25))), (xq53, .inl (xc57, 4, .inr (.inl g27))), (xq52, .inl (xc57, 4, .inr (.inl g29))), (xq29, .inl (xc59, 5, .inl g1)), (xq30, .inl (xc60, 4, .inl g18)), (xq31, .inl (xc61, 4, .inl g20)), (xq32, .inl (xc62, 5, .inr (.inr (.inr (.inr (va_up xf63 0 (some xq64))))))), (xq64, .inl (xc65, 4, .inl g16))] [(xc36, .int), (xc37, .int), (xc47, .array (.array .long)), (xc50, .array .long), (xc57, .long), (xc59, .int), (xc60, .int), (xc61, .int), (xc62, .array .boolean), (xc65, .boolean)] s H _ := I
  refine lv_iinc (v := 5) (lv' := [(4, .int 5), (3, .int 1), (0, .ref h0), (1, .ref xq2), (2, .ref xq3)]) hx hb dX9_begins_115 hl (k := 0) rfl (by decide) (by decide) rfl (fun ls hl => ?_)
  refine lv_goto (tgt := 85) hx hb dX9_begins_118 (by decide) ?_
  refine lv_iload hx hb dX9_begins_85 (lv_at hl 0 rfl) ?_
  refine lv_iconst (v := 4) hx hb dX9_begins_87 (by decide) ?_
  refine lv_icmp_gt (tgt := 121) hx hb dX9_begins_88 (by decide) (fun _ => ?_) (fun c9 => absurd c9 (by decide))
  refine lv_iinc (v := 2) (lv' := [(3, .int 2), (4, .int 5), (0, .ref h0), (1, .ref xq2), (2, .ref xq3)]) hx hb dX9_begins_121 hl (k := 1) rfl (by decide) (by decide) rfl (fun ls hl => ?_)
  refine lv_goto (tgt := 9) hx hb dX9_begins_124 (by decide) ?_
  refine lv_iload_n hx hb dX9_begins_9 rfl (lv_at hl 0 rfl) ?_
  refine lv_iconst (v := 4) hx hb dX9_begins_10 (by decide) ?_
  refine lv_icmp_ge (tgt := 127) hx hb dX9_begins_11 (by decide) (fun c9 => absurd c9 (by decide)) (fun _ => ?_)
  refine lv_aload_n hx hb dX9_begins_14 rfl (lv_at hl 2 rfl) ?_
  refine z_get (C := RX9) (T := TX9) (N := 43) (ci := 9) (v := .ref xq32) hx hb hg hown I iw_9 0 rfl rfl 40 (by decide) mw1300 rfl dX9_begins_15 ?_
  refine lv_iconst (v := 0) hx hb dX9_begins_18 (by decide) ?_
  refine z_aald (v := .ref xq64) hx hb I 13 8 rfl rfl rfl (by unfold vp_in; decide) dX9_begins_19 rfl ?_
  refine lv_iload_n hx hb dX9_begins_20 rfl (lv_at hl 0 rfl) ?_
  refine lv_iload_n hx hb dX9_begins_21 rfl (lv_at hl 0 rfl) ?_
  refine lv_aload_n hx hb dX9_begins_22 rfl (lv_at hl 2 rfl) ?_
  refine z_get (C := RX9) (T := TX9) (N := 43) (ci := 9) (v := .int 0) hx hb hg hown I iw_9 0 rfl rfl 10 (by decide) mw1270 rfl dX9_begins_23 ?_
  refine lv_icmp_lt (tgt := 33) hx hb dX9_begins_26 (by decide) (fun c9 => absurd c9 (by decide)) (fun _ => ?_)
  refine lv_iconst (v := 1) hx hb dX9_begins_29 (by decide) ?_
  refine lv_goto (tgt := 34) hx hb dX9_begins_30 (by decide) ?_
  refine z_zast hx hb I 14 9 rfl rfl (by unfold vp_in; decide) dX9_begins_34 (fun g30 H locs eg30 I => ?_)
  have I : z_I A dC dI [(h0, .inr (9, [.int 0, .ref xq1, .ref xq2, .ref xq3, .ref xq4, .ref xq5, .ref xq6, .ref xq7, .ref xq8, .ref xq9, .int 0, .int 0, .ref xq10, .ref xq11, .ref xq12, .ref xq13, .ref xq14, .ref xq15, .ref xq16, .ref xq17, .ref xq18, .ref xq19, .ref xq20, .ref xq21, .ref xq22, .ref xq23, .ref xq24, .ref xq25, .ref xq26, .long 0, .int 0, .int 0, .int 0, .int 0, .int 0, .ref xq27, .ref xq28, .ref xq29, .ref xq30, .ref xq31, .ref xq32, .ref xq33, .long 0])), (xq2, .inl (xc36, 4, .inl xf35)), (xq3, .inl (xc37, 4, .inl xf35)), (xq28, .inl (xc47, 5, .inr (.inr (.inr (.inr (va_up xf48 0 (some xq49))))))), (xq49, .inl (xc50, 5, .inr (.inr (.inr (.inr (va_up (va_up (va_up (va_up (va_up xf51 4 (some xq52)) 3 (some xq53)) 2 (some xq54)) 1 (some xq55)) 0 (some xq56))))))), (xq56, .inl (xc57, 4, .inr (.inl g21))), (xq55, .inl (xc57, 4, .inr (.inl g23))), (xq54, .inl (xc57, 4, .inr (.inl g25))), (xq53, .inl (xc57, 4, .inr (.inl g27))), (xq52, .inl (xc57, 4, .inr (.inl g29))), (xq29, .inl (xc59, 5, .inl g1)), (xq30, .inl (xc60, 4, .inl g18)), (xq31, .inl (xc61, 4, .inl g20)), (xq32, .inl (xc62, 5, .inr (.inr (.inr (.inr (va_up xf63 0 (some xq64))))))), (xq64, .inl (xc65, 4, .inl g30))] [(xc36, .int), (xc37, .int), (xc47, .array (.array .long)), (xc50, .array .long), (xc57, .long), (xc59, .int), (xc60, .int), (xc61, .int), (xc62, .array .boolean), (xc65, .boolean)] s H _ := I
  refine lv_aload_n hx hb dX9_begins_35 rfl (lv_at hl 2 rfl) ?_
  refine z_get (C := RX9) (T := TX9) (N := 43) (ci := 9) (v := .ref xq30) hx hb hg hown I iw_9 0 rfl rfl 38 (by decide) mw1298 rfl dX9_begins_36 ?_
  refine lv_iload_n hx hb dX9_begins_39 rfl (lv_at hl 0 rfl) ?_
  refine lv_aload_n hx hb dX9_begins_40 rfl (lv_at hl 3 rfl) ?_
  refine lv_iload_n hx hb dX9_begins_41 rfl (lv_at hl 0 rfl) ?_
  obtain ⟨v31, ev31⟩ : ∃ y, y = xf35 (Int32.toNatClampNeg 2) := ⟨_, rfl⟩
  refine z_iald (v := v31) hx hb I 1 0 rfl rfl (by unfold vp_in; decide) dX9_begins_42 ev31.symm ?_
  refine z_iast hx hb I 11 6 rfl rfl (by unfold vp_in; decide) dX9_begins_43 (fun g32 H locs eg32 I => ?_)
  have I : z_I A dC dI [(h0, .inr (9, [.int 0, .ref xq1, .ref xq2, .ref xq3, .ref xq4, .ref xq5, .ref xq6, .ref xq7, .ref xq8, .ref xq9, .int 0, .int 0, .ref xq10, .ref xq11, .ref xq12, .ref xq13, .ref xq14, .ref xq15, .ref xq16, .ref xq17, .ref xq18, .ref xq19, .ref xq20, .ref xq21, .ref xq22, .ref xq23, .ref xq24, .ref xq25, .ref xq26, .long 0, .int 0, .int 0, .int 0, .int 0, .int 0, .ref xq27, .ref xq28, .ref xq29, .ref xq30, .ref xq31, .ref xq32, .ref xq33, .long 0])), (xq2, .inl (xc36, 4, .inl xf35)), (xq3, .inl (xc37, 4, .inl xf35)), (xq28, .inl (xc47, 5, .inr (.inr (.inr (.inr (va_up xf48 0 (some xq49))))))), (xq49, .inl (xc50, 5, .inr (.inr (.inr (.inr (va_up (va_up (va_up (va_up (va_up xf51 4 (some xq52)) 3 (some xq53)) 2 (some xq54)) 1 (some xq55)) 0 (some xq56))))))), (xq56, .inl (xc57, 4, .inr (.inl g21))), (xq55, .inl (xc57, 4, .inr (.inl g23))), (xq54, .inl (xc57, 4, .inr (.inl g25))), (xq53, .inl (xc57, 4, .inr (.inl g27))), (xq52, .inl (xc57, 4, .inr (.inl g29))), (xq29, .inl (xc59, 5, .inl g1)), (xq30, .inl (xc60, 4, .inl g32)), (xq31, .inl (xc61, 4, .inl g20)), (xq32, .inl (xc62, 5, .inr (.inr (.inr (.inr (va_up xf63 0 (some xq64))))))), (xq64, .inl (xc65, 4, .inl g30))] [(xc36, .int), (xc37, .int), (xc47, .array (.array .long)), (xc50, .array .long), (xc57, .long), (xc59, .int), (xc60, .int), (xc61, .int), (xc62, .array .boolean), (xc65, .boolean)] s H _ := I
  refine lv_aload_n hx hb dX9_begins_44 rfl (lv_at hl 2 rfl) ?_
  refine z_get (C := RX9) (T := TX9) (N := 43) (ci := 9) (v := .ref xq31) hx hb hg hown I iw_9 0 rfl rfl 39 (by decide) mw1299 rfl dX9_begins_45 ?_
  refine lv_iload_n hx hb dX9_begins_48 rfl (lv_at hl 0 rfl) ?_
  refine lv_aload_n hx hb dX9_begins_49 rfl (lv_at hl 4 rfl) ?_
  refine lv_iload_n hx hb dX9_begins_50 rfl (lv_at hl 0 rfl) ?_
  obtain ⟨v33, ev33⟩ : ∃ y, y = xf35 (Int32.toNatClampNeg 2) := ⟨_, rfl⟩
  refine z_iald (v := v33) hx hb I 2 1 rfl rfl (by unfold vp_in; decide) dX9_begins_51 ev33.symm ?_
  refine z_iast hx hb I 12 7 rfl rfl (by unfold vp_in; decide) dX9_begins_52 (fun g34 H locs eg34 I => ?_)
  have I : z_I A dC dI [(h0, .inr (9, [.int 0, .ref xq1, .ref xq2, .ref xq3, .ref xq4, .ref xq5, .ref xq6, .ref xq7, .ref xq8, .ref xq9, .int 0, .int 0, .ref xq10, .ref xq11, .ref xq12, .ref xq13, .ref xq14, .ref xq15, .ref xq16, .ref xq17, .ref xq18, .ref xq19, .ref xq20, .ref xq21, .ref xq22, .ref xq23, .ref xq24, .ref xq25, .ref xq26, .long 0, .int 0, .int 0, .int 0, .int 0, .int 0, .ref xq27, .ref xq28, .ref xq29, .ref xq30, .ref xq31, .ref xq32, .ref xq33, .long 0])), (xq2, .inl (xc36, 4, .inl xf35)), (xq3, .inl (xc37, 4, .inl xf35)), (xq28, .inl (xc47, 5, .inr (.inr (.inr (.inr (va_up xf48 0 (some xq49))))))), (xq49, .inl (xc50, 5, .inr (.inr (.inr (.inr (va_up (va_up (va_up (va_up (va_up xf51 4 (some xq52)) 3 (some xq53)) 2 (some xq54)) 1 (some xq55)) 0 (some xq56))))))), (xq56, .inl (xc57, 4, .inr (.inl g21))), (xq55, .inl (xc57, 4, .inr (.inl g23))), (xq54, .inl (xc57, 4, .inr (.inl g25))), (xq53, .inl (xc57, 4, .inr (.inl g27))), (xq52, .inl (xc57, 4, .inr (.inl g29))), (xq29, .inl (xc59, 5, .inl g1)), (xq30, .inl (xc60, 4, .inl g32)), (xq31, .inl (xc61, 4, .inl g34)), (xq32, .inl (xc62, 5, .inr (.inr (.inr (.inr (va_up xf63 0 (some xq64))))))), (xq64, .inl (xc65, 4, .inl g30))] [(xc36, .int), (xc37, .int), (xc47, .array (.array .long)), (xc50, .array .long), (xc57, .long), (xc59, .int), (xc60, .int), (xc61, .int), (xc62, .array .boolean), (xc65, .boolean)] s H _ := I
  refine lv_aload_n hx hb dX9_begins_53 rfl (lv_at hl 2 rfl) ?_
  refine z_get (C := RX9) (T := TX9) (N := 43) (ci := 9) (v := .ref xq28) hx hb hg hown I iw_9 0 rfl rfl 36 (by decide) mw1296 rfl dX9_begins_54 ?_
  refine lv_iconst (v := 0) hx hb dX9_begins_57 (by decide) ?_
  refine z_aald (v := .ref xq49) hx hb I 3 2 rfl rfl rfl (by unfold vp_in; decide) dX9_begins_58 rfl ?_
  refine lv_iconst (v := 0) hx hb dX9_begins_59 (by decide) ?_
  refine z_aald (v := .ref xq56) hx hb I 4 3 rfl rfl rfl (by unfold vp_in; decide) dX9_begins_60 rfl ?_
  refine lv_iload_n hx hb dX9_begins_61 rfl (lv_at hl 0 rfl) ?_
  refine lv_iload_n hx hb dX9_begins_62 rfl (lv_at hl 0 rfl) ?_
  refine lv_aload_n hx hb dX9_begins_63 rfl (lv_at hl 2 rfl) ?_
  refine z_get (C := RX9) (T := TX9) (N := 43) (ci := 9) (v := .int 0) hx hb hg hown I iw_9 0 rfl rfl 10 (by decide) mw1270 rfl dX9_begins_64 ?_
  refine lv_icmp_ge (tgt := 80) hx hb dX9_begins_67 (by decide) (fun _ => ?_) (fun c9 => absurd c9 (by decide))
  refine lv_lconst (v := 0) hx hb dX9_begins_80 (by decide) ?_
  refine z_last hx hb I 5 4 rfl rfl (by unfold vp_in; decide) dX9_begins_81 (fun g35 H locs eg35 I => ?_)
  have I : z_I A dC dI [(h0, .inr (9, [.int 0, .ref xq1, .ref xq2, .ref xq3, .ref xq4, .ref xq5, .ref xq6, .ref xq7, .ref xq8, .ref xq9, .int 0, .int 0, .ref xq10, .ref xq11, .ref xq12, .ref xq13, .ref xq14, .ref xq15, .ref xq16, .ref xq17, .ref xq18, .ref xq19, .ref xq20, .ref xq21, .ref xq22, .ref xq23, .ref xq24, .ref xq25, .ref xq26, .long 0, .int 0, .int 0, .int 0, .int 0, .int 0, .ref xq27, .ref xq28, .ref xq29, .ref xq30, .ref xq31, .ref xq32, .ref xq33, .long 0])), (xq2, .inl (xc36, 4, .inl xf35)), (xq3, .inl (xc37, 4, .inl xf35)), (xq28, .inl (xc47, 5, .inr (.inr (.inr (.inr (va_up xf48 0 (some xq49))))))), (xq49, .inl (xc50, 5, .inr (.inr (.inr (.inr (va_up (va_up (va_up (va_up (va_up xf51 4 (some xq52)) 3 (some xq53)) 2 (some xq54)) 1 (some xq55)) 0 (some xq56))))))), (xq56, .inl (xc57, 4, .inr (.inl g35))), (xq55, .inl (xc57, 4, .inr (.inl g23))), (xq54, .inl (xc57, 4, .inr (.inl g25))), (xq53, .inl (xc57, 4, .inr (.inl g27))), (xq52, .inl (xc57, 4, .inr (.inl g29))), (xq29, .inl (xc59, 5, .inl g1)), (xq30, .inl (xc60, 4, .inl g32)), (xq31, .inl (xc61, 4, .inl g34)), (xq32, .inl (xc62, 5, .inr (.inr (.inr (.inr (va_up xf63 0 (some xq64))))))), (xq64, .inl (xc65, 4, .inl g30))] [(xc36, .int), (xc37, .int), (xc47, .array (.array .long)), (xc50, .array .long), (xc57, .long), (xc59, .int), (xc60, .int), (xc61, .int), (xc62, .array .boolean), (xc65, .boolean)] s H _ := I
  refine lv_iconst (v := 1) hx hb dX9_begins_82 (by decide) ?_
  refine lv_istore (lv' := [(4, .int 1), (3, .int 2), (0, .ref h0), (1, .ref xq2), (2, .ref xq3)]) hx hb dX9_begins_83 hl (by decide) rfl (fun ls hl => ?_)
  refine lv_iload hx hb dX9_begins_85 (lv_at hl 0 rfl) ?_
  refine lv_iconst (v := 4) hx hb dX9_begins_87 (by decide) ?_
  refine lv_icmp_gt (tgt := 121) hx hb dX9_begins_88 (by decide) (fun c9 => absurd c9 (by decide)) (fun _ => ?_)
  refine lv_aload_n hx hb dX9_begins_91 rfl (lv_at hl 2 rfl) ?_
  refine z_get (C := RX9) (T := TX9) (N := 43) (ci := 9) (v := .ref xq28) hx hb hg hown I iw_9 0 rfl rfl 36 (by decide) mw1296 rfl dX9_begins_92 ?_
  refine lv_iconst (v := 0) hx hb dX9_begins_95 (by decide) ?_
  refine z_aald (v := .ref xq49) hx hb I 3 2 rfl rfl rfl (by unfold vp_in; decide) dX9_begins_96 rfl ?_
  refine lv_iload hx hb dX9_begins_97 (lv_at hl 0 rfl) ?_
  refine z_aald (v := .ref xq55) hx hb I 4 3 rfl rfl rfl (by unfold vp_in; decide) dX9_begins_99 rfl ?_
  refine lv_iload_n hx hb dX9_begins_100 rfl (lv_at hl 1 rfl) ?_
  refine lv_iload hx hb dX9_begins_101 (lv_at hl 0 rfl) ?_
  refine lv_iload_n hx hb dX9_begins_103 rfl (lv_at hl 1 rfl) ?_
  refine lv_iconst (v := 1) hx hb dX9_begins_104 (by decide) ?_
  refine lv_iadd hx hb dX9_begins_105 ?_
  refine lv_topi (fun w36 ew36 => ?_)
  obtain rfl : w36 = 3 := ew36.trans (by decide)
  refine lv_icmp_ne (tgt := 113) hx hb dX9_begins_106 (by decide) (fun _ => ?_) (fun c9 => absurd c9 (by decide))
  refine lv_lconst (v := 0) hx hb dX9_begins_113 (by decide) ?_
  refine z_last hx hb I 6 4 rfl rfl (by unfold vp_in; decide) dX9_begins_114 (fun g37 H locs eg37 I => ?_)
  have I : z_I A dC dI [(h0, .inr (9, [.int 0, .ref xq1, .ref xq2, .ref xq3, .ref xq4, .ref xq5, .ref xq6, .ref xq7, .ref xq8, .ref xq9, .int 0, .int 0, .ref xq10, .ref xq11, .ref xq12, .ref xq13, .ref xq14, .ref xq15, .ref xq16, .ref xq17, .ref xq18, .ref xq19, .ref xq20, .ref xq21, .ref xq22, .ref xq23, .ref xq24, .ref xq25, .ref xq26, .long 0, .int 0, .int 0, .int 0, .int 0, .int 0, .ref xq27, .ref xq28, .ref xq29, .ref xq30, .ref xq31, .ref xq32, .ref xq33, .long 0])), (xq2, .inl (xc36, 4, .inl xf35)), (xq3, .inl (xc37, 4, .inl xf35)), (xq28, .inl (xc47, 5, .inr (.inr (.inr (.inr (va_up xf48 0 (some xq49))))))), (xq49, .inl (xc50, 5, .inr (.inr (.inr (.inr (va_up (va_up (va_up (va_up (va_up xf51 4 (some xq52)) 3 (some xq53)) 2 (some xq54)) 1 (some xq55)) 0 (some xq56))))))), (xq56, .inl (xc57, 4, .inr (.inl g35))), (xq55, .inl (xc57, 4, .inr (.inl g37))), (xq54, .inl (xc57, 4, .inr (.inl g25))), (xq53, .inl (xc57, 4, .inr (.inl g27))), (xq52, .inl (xc57, 4, .inr (.inl g29))), (xq29, .inl (xc59, 5, .inl g1)), (xq30, .inl (xc60, 4, .inl g32)), (xq31, .inl (xc61, 4, .inl g34)), (xq32, .inl (xc62, 5, .inr (.inr (.inr (.inr (va_up xf63 0 (some xq64))))))), (xq64, .inl (xc65, 4, .inl g30))] [(xc36, .int), (xc37, .int), (xc47, .array (.array .long)), (xc50, .array .long), (xc57, .long), (xc59, .int), (xc60, .int), (xc61, .int), (xc62, .array .boolean), (xc65, .boolean)] s H _ := I
  refine lv_iinc (v := 2) (lv' := [(4, .int 2), (3, .int 2), (0, .ref h0), (1, .ref xq2), (2, .ref xq3)]) hx hb dX9_begins_115 hl (k := 0) rfl (by decide) (by decide) rfl (fun ls hl => ?_)
  refine lv_goto (tgt := 85) hx hb dX9_begins_118 (by decide) ?_
  refine lv_iload hx hb dX9_begins_85 (lv_at hl 0 rfl) ?_
  refine lv_iconst (v := 4) hx hb dX9_begins_87 (by decide) ?_
  refine lv_icmp_gt (tgt := 121) hx hb dX9_begins_88 (by decide) (fun c9 => absurd c9 (by decide)) (fun _ => ?_)
  refine lv_aload_n hx hb dX9_begins_91 rfl (lv_at hl 2 rfl) ?_
  refine z_get (C := RX9) (T := TX9) (N := 43) (ci := 9) (v := .ref xq28) hx hb hg hown I iw_9 0 rfl rfl 36 (by decide) mw1296 rfl dX9_begins_92 ?_
  refine lv_iconst (v := 0) hx hb dX9_begins_95 (by decide) ?_
  refine z_aald (v := .ref xq49) hx hb I 3 2 rfl rfl rfl (by unfold vp_in; decide) dX9_begins_96 rfl ?_
  refine lv_iload hx hb dX9_begins_97 (lv_at hl 0 rfl) ?_
  refine z_aald (v := .ref xq54) hx hb I 4 3 rfl rfl rfl (by unfold vp_in; decide) dX9_begins_99 rfl ?_
  refine lv_iload_n hx hb dX9_begins_100 rfl (lv_at hl 1 rfl) ?_
  refine lv_iload hx hb dX9_begins_101 (lv_at hl 0 rfl) ?_
  refine lv_iload_n hx hb dX9_begins_103 rfl (lv_at hl 1 rfl) ?_
  refine lv_iconst (v := 1) hx hb dX9_begins_104 (by decide) ?_
  refine lv_iadd hx hb dX9_begins_105 ?_
  refine lv_topi (fun w38 ew38 => ?_)
  obtain rfl : w38 = 3 := ew38.trans (by decide)
  refine lv_icmp_ne (tgt := 113) hx hb dX9_begins_106 (by decide) (fun _ => ?_) (fun c9 => absurd c9 (by decide))
  refine lv_lconst (v := 0) hx hb dX9_begins_113 (by decide) ?_
  refine z_last hx hb I 7 4 rfl rfl (by unfold vp_in; decide) dX9_begins_114 (fun g39 H locs eg39 I => ?_)
  have I : z_I A dC dI [(h0, .inr (9, [.int 0, .ref xq1, .ref xq2, .ref xq3, .ref xq4, .ref xq5, .ref xq6, .ref xq7, .ref xq8, .ref xq9, .int 0, .int 0, .ref xq10, .ref xq11, .ref xq12, .ref xq13, .ref xq14, .ref xq15, .ref xq16, .ref xq17, .ref xq18, .ref xq19, .ref xq20, .ref xq21, .ref xq22, .ref xq23, .ref xq24, .ref xq25, .ref xq26, .long 0, .int 0, .int 0, .int 0, .int 0, .int 0, .ref xq27, .ref xq28, .ref xq29, .ref xq30, .ref xq31, .ref xq32, .ref xq33, .long 0])), (xq2, .inl (xc36, 4, .inl xf35)), (xq3, .inl (xc37, 4, .inl xf35)), (xq28, .inl (xc47, 5, .inr (.inr (.inr (.inr (va_up xf48 0 (some xq49))))))), (xq49, .inl (xc50, 5, .inr (.inr (.inr (.inr (va_up (va_up (va_up (va_up (va_up xf51 4 (some xq52)) 3 (some xq53)) 2 (some xq54)) 1 (some xq55)) 0 (some xq56))))))), (xq56, .inl (xc57, 4, .inr (.inl g35))), (xq55, .inl (xc57, 4, .inr (.inl g37))), (xq54, .inl (xc57, 4, .inr (.inl g39))), (xq53, .inl (xc57, 4, .inr (.inl g27))), (xq52, .inl (xc57, 4, .inr (.inl g29))), (xq29, .inl (xc59, 5, .inl g1)), (xq30, .inl (xc60, 4, .inl g32)), (xq31, .inl (xc61, 4, .inl g34)), (xq32, .inl (xc62, 5, .inr (.inr (.inr (.inr (va_up xf63 0 (some xq64))))))), (xq64, .inl (xc65, 4, .inl g30))] [(xc36, .int), (xc37, .int), (xc47, .array (.array .long)), (xc50, .array .long), (xc57, .long), (xc59, .int), (xc60, .int), (xc61, .int), (xc62, .array .boolean), (xc65, .boolean)] s H _ := I
  refine lv_iinc (v := 3) (lv' := [(4, .int 3), (3, .int 2), (0, .ref h0), (1, .ref xq2), (2, .ref xq3)]) hx hb dX9_begins_115 hl (k := 0) rfl (by decide) (by decide) rfl (fun ls hl => ?_)
  refine lv_goto (tgt := 85) hx hb dX9_begins_118 (by decide) ?_
  refine lv_iload hx hb dX9_begins_85 (lv_at hl 0 rfl) ?_
  refine lv_iconst (v := 4) hx hb dX9_begins_87 (by decide) ?_
  refine lv_icmp_gt (tgt := 121) hx hb dX9_begins_88 (by decide) (fun c9 => absurd c9 (by decide)) (fun _ => ?_)
  refine lv_aload_n hx hb dX9_begins_91 rfl (lv_at hl 2 rfl) ?_
  refine z_get (C := RX9) (T := TX9) (N := 43) (ci := 9) (v := .ref xq28) hx hb hg hown I iw_9 0 rfl rfl 36 (by decide) mw1296 rfl dX9_begins_92 ?_
  refine lv_iconst (v := 0) hx hb dX9_begins_95 (by decide) ?_
  refine z_aald (v := .ref xq49) hx hb I 3 2 rfl rfl rfl (by unfold vp_in; decide) dX9_begins_96 rfl ?_
  refine lv_iload hx hb dX9_begins_97 (lv_at hl 0 rfl) ?_
  refine z_aald (v := .ref xq53) hx hb I 4 3 rfl rfl rfl (by unfold vp_in; decide) dX9_begins_99 rfl ?_
  refine lv_iload_n hx hb dX9_begins_100 rfl (lv_at hl 1 rfl) ?_
  refine lv_iload hx hb dX9_begins_101 (lv_at hl 0 rfl) ?_
  refine lv_iload_n hx hb dX9_begins_103 rfl (lv_at hl 1 rfl) ?_
  refine lv_iconst (v := 1) hx hb dX9_begins_104 (by decide) ?_
  refine lv_iadd hx hb dX9_begins_105 ?_
  refine lv_topi (fun w40 ew40 => ?_)
  obtain rfl : w40 = 3 := ew40.trans (by decide)
  refine lv_icmp_ne (tgt := 113) hx hb dX9_begins_106 (by decide) (fun c9 => absurd c9 (by decide)) (fun _ => ?_)
  refine lv_lconst (v := 1) hx hb dX9_begins_109 (by decide) ?_
  refine lv_goto (tgt := 114) hx hb dX9_begins_110 (by decide) ?_
  refine z_last hx hb I 8 4 rfl rfl (by unfold vp_in; decide) dX9_begins_114 (fun g41 H locs eg41 I => ?_)
  have I : z_I A dC dI [(h0, .inr (9, [.int 0, .ref xq1, .ref xq2, .ref xq3, .ref xq4, .ref xq5, .ref xq6, .ref xq7, .ref xq8, .ref xq9, .int 0, .int 0, .ref xq10, .ref xq11, .ref xq12, .ref xq13, .ref xq14, .ref xq15, .ref xq16, .ref xq17, .ref xq18, .ref xq19, .ref xq20, .ref xq21, .ref xq22, .ref xq23, .ref xq24, .ref xq25, .ref xq26, .long 0, .int 0, .int 0, .int 0, .int 0, .int 0, .ref xq27, .ref xq28, .ref xq29, .ref xq30, .ref xq31, .ref xq32, .ref xq33, .long 0])), (xq2, .inl (xc36, 4, .inl xf35)), (xq3, .inl (xc37, 4, .inl xf35)), (xq28, .inl (xc47, 5, .inr (.inr (.inr (.inr (va_up xf48 0 (some xq49))))))), (xq49, .inl (xc50, 5, .inr (.inr (.inr (.inr (va_up (va_up (va_up (va_up (va_up xf51 4 (some xq52)) 3 (some xq53)) 2 (some xq54)) 1 (some xq55)) 0 (some xq56))))))), (xq56, .inl (xc57, 4, .inr (.inl g35))), (xq55, .inl (xc57, 4, .inr (.inl g37))), (xq54, .inl (xc57, 4, .inr (.inl g39))), (xq53, .inl (xc57, 4, .inr (.inl g41))), (xq52, .inl (xc57, 4, .inr (.inl g29))), (xq29, .inl (xc59, 5, .inl g1)), (xq30, .inl (xc60, 4, .inl g32)), (xq31, .inl (xc61, 4, .inl g34)), (xq32, .inl (xc62, 5, .inr (.inr (.inr (.inr (va_up xf63 0 (some xq64))))))), (xq64, .inl (xc65, 4, .inl g30))] [(xc36, .int), (xc37, .int), (xc47, .array (.array .long)), (xc50, .array .long), (xc57, .long), (xc59, .int), (xc60, .int), (xc61, .int), (xc62, .array .boolean), (xc65, .boolean)] s H _ := I
  refine lv_iinc (v := 4) (lv' := [(4, .int 4), (3, .int 2), (0, .ref h0), (1, .ref xq2), (2, .ref xq3)]) hx hb dX9_begins_115 hl (k := 0) rfl (by decide) (by decide) rfl (fun ls hl => ?_)
  refine lv_goto (tgt := 85) hx hb dX9_begins_118 (by decide) ?_
  refine lv_iload hx hb dX9_begins_85 (lv_at hl 0 rfl) ?_
  refine lv_iconst (v := 4) hx hb dX9_begins_87 (by decide) ?_
  refine lv_icmp_gt (tgt := 121) hx hb dX9_begins_88 (by decide) (fun c9 => absurd c9 (by decide)) (fun _ => ?_)
  refine lv_aload_n hx hb dX9_begins_91 rfl (lv_at hl 2 rfl) ?_
  refine z_get (C := RX9) (T := TX9) (N := 43) (ci := 9) (v := .ref xq28) hx hb hg hown I iw_9 0 rfl rfl 36 (by decide) mw1296 rfl dX9_begins_92 ?_
  refine lv_iconst (v := 0) hx hb dX9_begins_95 (by decide) ?_
  refine z_aald (v := .ref xq49) hx hb I 3 2 rfl rfl rfl (by unfold vp_in; decide) dX9_begins_96 rfl ?_
  refine lv_iload hx hb dX9_begins_97 (lv_at hl 0 rfl) ?_
  refine z_aald (v := .ref xq52) hx hb I 4 3 rfl rfl rfl (by unfold vp_in; decide) dX9_begins_99 rfl ?_
  refine lv_iload_n hx hb dX9_begins_100 rfl (lv_at hl 1 rfl) ?_
  refine lv_iload hx hb dX9_begins_101 (lv_at hl 0 rfl) ?_
  refine lv_iload_n hx hb dX9_begins_103 rfl (lv_at hl 1 rfl) ?_
  refine lv_iconst (v := 1) hx hb dX9_begins_104 (by decide) ?_
  refine lv_iadd hx hb dX9_begins_105 ?_
  refine lv_topi (fun w42 ew42 => ?_)
  obtain rfl : w42 = 3 := ew42.trans (by decide)
  refine lv_icmp_ne (tgt := 113) hx hb dX9_begins_106 (by decide) (fun _ => ?_) (fun c9 => absurd c9 (by decide))
  refine lv_lconst (v := 0) hx hb dX9_begins_113 (by decide) ?_
  refine z_last hx hb I 9 4 rfl rfl (by unfold vp_in; decide) dX9_begins_114 (fun g43 H locs eg43 I => ?_)
  have I : z_I A dC dI [(h0, .inr (9, [.int 0, .ref xq1, .ref xq2, .ref xq3, .ref xq4, .ref xq5, .ref xq6, .ref xq7, .ref xq8, .ref xq9, .int 0, .int 0, .ref xq10, .ref xq11, .ref xq12, .ref xq13, .ref xq14, .ref xq15, .ref xq16, .ref xq17, .ref xq18, .ref xq19, .ref xq20, .ref xq21, .ref xq22, .ref xq23, .ref xq24, .ref xq25, .ref xq26, .long 0, .int 0, .int 0, .int 0, .int 0, .int 0, .ref xq27, .ref xq28, .ref xq29, .ref xq30, .ref xq31, .ref xq32, .ref xq33, .long 0])), (xq2, .inl (xc36, 4, .inl xf35)), (xq3, .inl (xc37, 4, .inl xf35)), (xq28, .inl (xc47, 5, .inr (.inr (.inr (.inr (va_up xf48 0 (some xq49))))))), (xq49, .inl (xc50, 5, .inr (.inr (.inr (.inr (va_up (va_up (va_up (va_up (va_up xf51 4 (some xq52)) 3 (some xq53)) 2 (some xq54)) 1 (some xq55)) 0 (some xq56))))))), (xq56, .inl (xc57, 4, .inr (.inl g35))), (xq55, .inl (xc57, 4, .inr (.inl g37))), (xq54, .inl (xc57, 4, .inr (.inl g39))), (xq53, .inl (xc57, 4, .inr (.inl g41))), (xq52, .inl (xc57, 4, .inr (.inl g43))), (xq29, .inl (xc59, 5, .inl g1)), (xq30, .inl (xc60, 4, .inl g32)), (xq31, .inl (xc61, 4, .inl g34)), (xq32, .inl (xc62, 5, .inr (.inr (.inr (.inr (va_up xf63 0 (some xq64))))))), (xq64, .inl (xc65, 4, .inl g30))] [(xc36, .int), (xc37, .int), (xc47, .array (.array .long)), (xc50, .array .long), (xc57, .long), (xc59, .int), (xc60, .int), (xc61, .int), (xc62, .array .boolean), (xc65, .boolean)] s H _ := I
  refine lv_iinc (v := 5) (lv' := [(4, .int 5), (3, .int 2), (0, .ref h0), (1, .ref xq2), (2, .ref xq3)]) hx hb dX9_begins_115 hl (k := 0) rfl (by decide) (by decide) rfl (fun ls hl => ?_)
  refine lv_goto (tgt := 85) hx hb dX9_begins_118 (by decide) ?_
  refine lv_iload hx hb dX9_begins_85 (lv_at hl 0 rfl) ?_
  refine lv_iconst (v := 4) hx hb dX9_begins_87 (by decide) ?_
  refine lv_icmp_gt (tgt := 121) hx hb dX9_begins_88 (by decide) (fun _ => ?_) (fun c9 => absurd c9 (by decide))
  refine lv_iinc (v := 3) (lv' := [(3, .int 3), (4, .int 5), (0, .ref h0), (1, .ref xq2), (2, .ref xq3)]) hx hb dX9_begins_121 hl (k := 1) rfl (by decide) (by decide) rfl (fun ls hl => ?_)
  refine lv_goto (tgt := 9) hx hb dX9_begins_124 (by decide) ?_
  refine lv_iload_n hx hb dX9_begins_9 rfl (lv_at hl 0 rfl) ?_
  refine lv_iconst (v := 4) hx hb dX9_begins_10 (by decide) ?_
  refine lv_icmp_ge (tgt := 127) hx hb dX9_begins_11 (by decide) (fun c9 => absurd c9 (by decide)) (fun _ => ?_)
  refine lv_aload_n hx hb dX9_begins_14 rfl (lv_at hl 2 rfl) ?_
  refine z_get (C := RX9) (T := TX9) (N := 43) (ci := 9) (v := .ref xq32) hx hb hg hown I iw_9 0 rfl rfl 40 (by decide) mw1300 rfl dX9_begins_15 ?_
  refine lv_iconst (v := 0) hx hb dX9_begins_18 (by decide) ?_
  refine z_aald (v := .ref xq64) hx hb I 13 8 rfl rfl rfl (by unfold vp_in; decide) dX9_begins_19 rfl ?_
  refine lv_iload_n hx hb dX9_begins_20 rfl (lv_at hl 0 rfl) ?_
  refine lv_iload_n hx hb dX9_begins_21 rfl (lv_at hl 0 rfl) ?_
  refine lv_aload_n hx hb dX9_begins_22 rfl (lv_at hl 2 rfl) ?_
  refine z_get (C := RX9) (T := TX9) (N := 43) (ci := 9) (v := .int 0) hx hb hg hown I iw_9 0 rfl rfl 10 (by decide) mw1270 rfl dX9_begins_23 ?_
  refine lv_icmp_lt (tgt := 33) hx hb dX9_begins_26 (by decide) (fun c9 => absurd c9 (by decide)) (fun _ => ?_)
  refine lv_iconst (v := 1) hx hb dX9_begins_29 (by decide) ?_
  refine lv_goto (tgt := 34) hx hb dX9_begins_30 (by decide) ?_
  refine z_zast hx hb I 14 9 rfl rfl (by unfold vp_in; decide) dX9_begins_34 (fun g44 H locs eg44 I => ?_)
  have I : z_I A dC dI [(h0, .inr (9, [.int 0, .ref xq1, .ref xq2, .ref xq3, .ref xq4, .ref xq5, .ref xq6, .ref xq7, .ref xq8, .ref xq9, .int 0, .int 0, .ref xq10, .ref xq11, .ref xq12, .ref xq13, .ref xq14, .ref xq15, .ref xq16, .ref xq17, .ref xq18, .ref xq19, .ref xq20, .ref xq21, .ref xq22, .ref xq23, .ref xq24, .ref xq25, .ref xq26, .long 0, .int 0, .int 0, .int 0, .int 0, .int 0, .ref xq27, .ref xq28, .ref xq29, .ref xq30, .ref xq31, .ref xq32, .ref xq33, .long 0])), (xq2, .inl (xc36, 4, .inl xf35)), (xq3, .inl (xc37, 4, .inl xf35)), (xq28, .inl (xc47, 5, .inr (.inr (.inr (.inr (va_up xf48 0 (some xq49))))))), (xq49, .inl (xc50, 5, .inr (.inr (.inr (.inr (va_up (va_up (va_up (va_up (va_up xf51 4 (some xq52)) 3 (some xq53)) 2 (some xq54)) 1 (some xq55)) 0 (some xq56))))))), (xq56, .inl (xc57, 4, .inr (.inl g35))), (xq55, .inl (xc57, 4, .inr (.inl g37))), (xq54, .inl (xc57, 4, .inr (.inl g39))), (xq53, .inl (xc57, 4, .inr (.inl g41))), (xq52, .inl (xc57, 4, .inr (.inl g43))), (xq29, .inl (xc59, 5, .inl g1)), (xq30, .inl (xc60, 4, .inl g32)), (xq31, .inl (xc61, 4, .inl g34)), (xq32, .inl (xc62, 5, .inr (.inr (.inr (.inr (va_up xf63 0 (some xq64))))))), (xq64, .inl (xc65, 4, .inl g44))] [(xc36, .int), (xc37, .int), (xc47, .array (.array .long)), (xc50, .array .long), (xc57, .long), (xc59, .int), (xc60, .int), (xc61, .int), (xc62, .array .boolean), (xc65, .boolean)] s H _ := I
  refine lv_aload_n hx hb dX9_begins_35 rfl (lv_at hl 2 rfl) ?_
  refine z_get (C := RX9) (T := TX9) (N := 43) (ci := 9) (v := .ref xq30) hx hb hg hown I iw_9 0 rfl rfl 38 (by decide) mw1298 rfl dX9_begins_36 ?_
  refine lv_iload_n hx hb dX9_begins_39 rfl (lv_at hl 0 rfl) ?_
  refine lv_aload_n hx hb dX9_begins_40 rfl (lv_at hl 3 rfl) ?_
  refine lv_iload_n hx hb dX9_begins_41 rfl (lv_at hl 0 rfl) ?_
  obtain ⟨v45, ev45⟩ : ∃ y, y = xf35 (Int32.toNatClampNeg 3) := ⟨_, rfl⟩
  refine z_iald (v := v45) hx hb I 1 0 rfl rfl (by unfold vp_in; decide) dX9_begins_42 ev45.symm ?_
  refine z_iast hx hb I 11 6 rfl rfl (by unfold vp_in; decide) dX9_begins_43 (fun g46 H locs eg46 I => ?_)
  have I : z_I A dC dI [(h0, .inr (9, [.int 0, .ref xq1, .ref xq2, .ref xq3, .ref xq4, .ref xq5, .ref xq6, .ref xq7, .ref xq8, .ref xq9, .int 0, .int 0, .ref xq10, .ref xq11, .ref xq12, .ref xq13, .ref xq14, .ref xq15, .ref xq16, .ref xq17, .ref xq18, .ref xq19, .ref xq20, .ref xq21, .ref xq22, .ref xq23, .ref xq24, .ref xq25, .ref xq26, .long 0, .int 0, .int 0, .int 0, .int 0, .int 0, .ref xq27, .ref xq28, .ref xq29, .ref xq30, .ref xq31, .ref xq32, .ref xq33, .long 0])), (xq2, .inl (xc36, 4, .inl xf35)), (xq3, .inl (xc37, 4, .inl xf35)), (xq28, .inl (xc47, 5, .inr (.inr (.inr (.inr (va_up xf48 0 (some xq49))))))), (xq49, .inl (xc50, 5, .inr (.inr (.inr (.inr (va_up (va_up (va_up (va_up (va_up xf51 4 (some xq52)) 3 (some xq53)) 2 (some xq54)) 1 (some xq55)) 0 (some xq56))))))), (xq56, .inl (xc57, 4, .inr (.inl g35))), (xq55, .inl (xc57, 4, .inr (.inl g37))), (xq54, .inl (xc57, 4, .inr (.inl g39))), (xq53, .inl (xc57, 4, .inr (.inl g41))), (xq52, .inl (xc57, 4, .inr (.inl g43))), (xq29, .inl (xc59, 5, .inl g1)), (xq30, .inl (xc60, 4, .inl g46)), (xq31, .inl (xc61, 4, .inl g34)), (xq32, .inl (xc62, 5, .inr (.inr (.inr (.inr (va_up xf63 0 (some xq64))))))), (xq64, .inl (xc65, 4, .inl g44))] [(xc36, .int), (xc37, .int), (xc47, .array (.array .long)), (xc50, .array .long), (xc57, .long), (xc59, .int), (xc60, .int), (xc61, .int), (xc62, .array .boolean), (xc65, .boolean)] s H _ := I
  refine lv_aload_n hx hb dX9_begins_44 rfl (lv_at hl 2 rfl) ?_
  refine z_get (C := RX9) (T := TX9) (N := 43) (ci := 9) (v := .ref xq31) hx hb hg hown I iw_9 0 rfl rfl 39 (by decide) mw1299 rfl dX9_begins_45 ?_
  refine lv_iload_n hx hb dX9_begins_48 rfl (lv_at hl 0 rfl) ?_
  refine lv_aload_n hx hb dX9_begins_49 rfl (lv_at hl 4 rfl) ?_
  refine lv_iload_n hx hb dX9_begins_50 rfl (lv_at hl 0 rfl) ?_
  obtain ⟨v47, ev47⟩ : ∃ y, y = xf35 (Int32.toNatClampNeg 3) := ⟨_, rfl⟩
  refine z_iald (v := v47) hx hb I 2 1 rfl rfl (by unfold vp_in; decide) dX9_begins_51 ev47.symm ?_
  refine z_iast hx hb I 12 7 rfl rfl (by unfold vp_in; decide) dX9_begins_52 (fun g48 H locs eg48 I => ?_)
  have I : z_I A dC dI [(h0, .inr (9, [.int 0, .ref xq1, .ref xq2, .ref xq3, .ref xq4, .ref xq5, .ref xq6, .ref xq7, .ref xq8, .ref xq9, .int 0, .int 0, .ref xq10, .ref xq11, .ref xq12, .ref xq13, .ref xq14, .ref xq15, .ref xq16, .ref xq17, .ref xq18, .ref xq19, .ref xq20, .ref xq21, .ref xq22, .ref xq23, .ref xq24, .ref xq25, .ref xq26, .long 0, .int 0, .int 0, .int 0, .int 0, .int 0, .ref xq27, .ref xq28, .ref xq29, .ref xq30, .ref xq31, .ref xq32, .ref xq33, .long 0])), (xq2, .inl (xc36, 4, .inl xf35)), (xq3, .inl (xc37, 4, .inl xf35)), (xq28, .inl (xc47, 5, .inr (.inr (.inr (.inr (va_up xf48 0 (some xq49))))))), (xq49, .inl (xc50, 5, .inr (.inr (.inr (.inr (va_up (va_up (va_up (va_up (va_up xf51 4 (some xq52)) 3 (some xq53)) 2 (some xq54)) 1 (some xq55)) 0 (some xq56))))))), (xq56, .inl (xc57, 4, .inr (.inl g35))), (xq55, .inl (xc57, 4, .inr (.inl g37))), (xq54, .inl (xc57, 4, .inr (.inl g39))), (xq53, .inl (xc57, 4, .inr (.inl g41))), (xq52, .inl (xc57, 4, .inr (.inl g43))), (xq29, .inl (xc59, 5, .inl g1)), (xq30, .inl (xc60, 4, .inl g46)), (xq31, .inl (xc61, 4, .inl g48)), (xq32, .inl (xc62, 5, .inr (.inr (.inr (.inr (va_up xf63 0 (some xq64))))))), (xq64, .inl (xc65, 4, .inl g44))] [(xc36, .int), (xc37, .int), (xc47, .array (.array .long)), (xc50, .array .long), (xc57, .long), (xc59, .int), (xc60, .int), (xc61, .int), (xc62, .array .boolean), (xc65, .boolean)] s H _ := I
  refine lv_aload_n hx hb dX9_begins_53 rfl (lv_at hl 2 rfl) ?_
  refine z_get (C := RX9) (T := TX9) (N := 43) (ci := 9) (v := .ref xq28) hx hb hg hown I iw_9 0 rfl rfl 36 (by decide) mw1296 rfl dX9_begins_54 ?_
  refine lv_iconst (v := 0) hx hb dX9_begins_57 (by decide) ?_
  refine z_aald (v := .ref xq49) hx hb I 3 2 rfl rfl rfl (by unfold vp_in; decide) dX9_begins_58 rfl ?_
  refine lv_iconst (v := 0) hx hb dX9_begins_59 (by decide) ?_
  refine z_aald (v := .ref xq56) hx hb I 4 3 rfl rfl rfl (by unfold vp_in; decide) dX9_begins_60 rfl ?_
  refine lv_iload_n hx hb dX9_begins_61 rfl (lv_at hl 0 rfl) ?_
  refine lv_iload_n hx hb dX9_begins_62 rfl (lv_at hl 0 rfl) ?_
  refine lv_aload_n hx hb dX9_begins_63 rfl (lv_at hl 2 rfl) ?_
  refine z_get (C := RX9) (T := TX9) (N := 43) (ci := 9) (v := .int 0) hx hb hg hown I iw_9 0 rfl rfl 10 (by decide) mw1270 rfl dX9_begins_64 ?_
  refine lv_icmp_ge (tgt := 80) hx hb dX9_begins_67 (by decide) (fun _ => ?_) (fun c9 => absurd c9 (by decide))
  refine lv_lconst (v := 0) hx hb dX9_begins_80 (by decide) ?_
  refine z_last hx hb I 5 4 rfl rfl (by unfold vp_in; decide) dX9_begins_81 (fun g49 H locs eg49 I => ?_)
  have I : z_I A dC dI [(h0, .inr (9, [.int 0, .ref xq1, .ref xq2, .ref xq3, .ref xq4, .ref xq5, .ref xq6, .ref xq7, .ref xq8, .ref xq9, .int 0, .int 0, .ref xq10, .ref xq11, .ref xq12, .ref xq13, .ref xq14, .ref xq15, .ref xq16, .ref xq17, .ref xq18, .ref xq19, .ref xq20, .ref xq21, .ref xq22, .ref xq23, .ref xq24, .ref xq25, .ref xq26, .long 0, .int 0, .int 0, .int 0, .int 0, .int 0, .ref xq27, .ref xq28, .ref xq29, .ref xq30, .ref xq31, .ref xq32, .ref xq33, .long 0])), (xq2, .inl (xc36, 4, .inl xf35)), (xq3, .inl (xc37, 4, .inl xf35)), (xq28, .inl (xc47, 5, .inr (.inr (.inr (.inr (va_up xf48 0 (some xq49))))))), (xq49, .inl (xc50, 5, .inr (.inr (.inr (.inr (va_up (va_up (va_up (va_up (va_up xf51 4 (some xq52)) 3 (some xq53)) 2 (some xq54)) 1 (some xq55)) 0 (some xq56))))))), (xq56, .inl (xc57, 4, .inr (.inl g49))), (xq55, .inl (xc57, 4, .inr (.inl g37))), (xq54, .inl (xc57, 4, .inr (.inl g39))), (xq53, .inl (xc57, 4, .inr (.inl g41))), (xq52, .inl (xc57, 4, .inr (.inl g43))), (xq29, .inl (xc59, 5, .inl g1)), (xq30, .inl (xc60, 4, .inl g46)), (xq31, .inl (xc61, 4, .inl g48)), (xq32, .inl (xc62, 5, .inr (.inr (.inr (.inr (va_up xf63 0 (some xq64))))))), (xq64, .inl (xc65, 4, .inl g44))] [(xc36, .int), (xc37, .int), (xc47, .array (.array .long)), (xc50, .array .long), (xc57, .long), (xc59, .int), (xc60, .int), (xc61, .int), (xc62, .array .boolean), (xc65, .boolean)] s H _ := I
  refine lv_iconst (v := 1) hx hb dX9_begins_82 (by decide) ?_
  refine lv_istore (lv' := [(4, .int 1), (3, .int 3), (0, .ref h0), (1, .ref xq2), (2, .ref xq3)]) hx hb dX9_begins_83 hl (by decide) rfl (fun ls hl => ?_)
  refine lv_iload hx hb dX9_begins_85 (lv_at hl 0 rfl) ?_
  refine lv_iconst (v := 4) hx hb dX9_begins_87 (by decide) ?_
  refine lv_icmp_gt (tgt := 121) hx hb dX9_begins_88 (by decide) (fun c9 => absurd c9 (by decide)) (fun _ => ?_)
  refine lv_aload_n hx hb dX9_begins_91 rfl (lv_at hl 2 rfl) ?_
  refine z_get (C := RX9) (T := TX9) (N := 43) (ci := 9) (v := .ref xq28) hx hb hg hown I iw_9 0 rfl rfl 36 (by decide) mw1296 rfl dX9_begins_92 ?_
  refine lv_iconst (v := 0) hx hb dX9_begins_95 (by decide) ?_
  refine z_aald (v := .ref xq49) hx hb I 3 2 rfl rfl rfl (by unfold vp_in; decide) dX9_begins_96 rfl ?_
  refine lv_iload hx hb dX9_begins_97 (lv_at hl 0 rfl) ?_
  refine z_aald (v := .ref xq55) hx hb I 4 3 rfl rfl rfl (by unfold vp_in; decide) dX9_begins_99 rfl ?_
  refine lv_iload_n hx hb dX9_begins_100 rfl (lv_at hl 1 rfl) ?_
  refine lv_iload hx hb dX9_begins_101 (lv_at hl 0 rfl) ?_
  refine lv_iload_n hx hb dX9_begins_103 rfl (lv_at hl 1 rfl) ?_
  refine lv_iconst (v := 1) hx hb dX9_begins_104 (by decide) ?_
  refine lv_iadd hx hb dX9_begins_105 ?_
  refine lv_topi (fun w50 ew50 => ?_)
  obtain rfl : w50 = 4 := ew50.trans (by decide)
  refine lv_icmp_ne (tgt := 113) hx hb dX9_begins_106 (by decide) (fun _ => ?_) (fun c9 => absurd c9 (by decide))
  refine lv_lconst (v := 0) hx hb dX9_begins_113 (by decide) ?_
  refine z_last hx hb I 6 4 rfl rfl (by unfold vp_in; decide) dX9_begins_114 (fun g51 H locs eg51 I => ?_)
  have I : z_I A dC dI [(h0, .inr (9, [.int 0, .ref xq1, .ref xq2, .ref xq3, .ref xq4, .ref xq5, .ref xq6, .ref xq7, .ref xq8, .ref xq9, .int 0, .int 0, .ref xq10, .ref xq11, .ref xq12, .ref xq13, .ref xq14, .ref xq15, .ref xq16, .ref xq17, .ref xq18, .ref xq19, .ref xq20, .ref xq21, .ref xq22, .ref xq23, .ref xq24, .ref xq25, .ref xq26, .long 0, .int 0, .int 0, .int 0, .int 0, .int 0, .ref xq27, .ref xq28, .ref xq29, .ref xq30, .ref xq31, .ref xq32, .ref xq33, .long 0])), (xq2, .inl (xc36, 4, .inl xf35)), (xq3, .inl (xc37, 4, .inl xf35)), (xq28, .inl (xc47, 5, .inr (.inr (.inr (.inr (va_up xf48 0 (some xq49))))))), (xq49, .inl (xc50, 5, .inr (.inr (.inr (.inr (va_up (va_up (va_up (va_up (va_up xf51 4 (some xq52)) 3 (some xq53)) 2 (some xq54)) 1 (some xq55)) 0 (some xq56))))))), (xq56, .inl (xc57, 4, .inr (.inl g49))), (xq55, .inl (xc57, 4, .inr (.inl g51))), (xq54, .inl (xc57, 4, .inr (.inl g39))), (xq53, .inl (xc57, 4, .inr (.inl g41))), (xq52, .inl (xc57, 4, .inr (.inl g43))), (xq29, .inl (xc59, 5, .inl g1)), (xq30, .inl (xc60, 4, .inl g46)), (xq31, .inl (xc61, 4, .inl g48)), (xq32, .inl (xc62, 5, .inr (.inr (.inr (.inr (va_up xf63 0 (some xq64))))))), (xq64, .inl (xc65, 4, .inl g44))] [(xc36, .int), (xc37, .int), (xc47, .array (.array .long)), (xc50, .array .long), (xc57, .long), (xc59, .int), (xc60, .int), (xc61, .int), (xc62, .array .boolean), (xc65, .boolean)] s H _ := I
  refine lv_iinc (v := 2) (lv' := [(4, .int 2), (3, .int 3), (0, .ref h0), (1, .ref xq2), (2, .ref xq3)]) hx hb dX9_begins_115 hl (k := 0) rfl (by decide) (by decide) rfl (fun ls hl => ?_)
  refine lv_goto (tgt := 85) hx hb dX9_begins_118 (by decide) ?_
  refine lv_iload hx hb dX9_begins_85 (lv_at hl 0 rfl) ?_
  refine lv_iconst (v := 4) hx hb dX9_begins_87 (by decide) ?_
  refine lv_icmp_gt (tgt := 121) hx hb dX9_begins_88 (by decide) (fun c9 => absurd c9 (by decide)) (fun _ => ?_)
  refine lv_aload_n hx hb dX9_begins_91 rfl (lv_at hl 2 rfl) ?_
  refine z_get (C := RX9) (T := TX9) (N := 43) (ci := 9) (v := .ref xq28) hx hb hg hown I iw_9 0 rfl rfl 36 (by decide) mw1296 rfl dX9_begins_92 ?_
  refine lv_iconst (v := 0) hx hb dX9_begins_95 (by decide) ?_
  refine z_aald (v := .ref xq49) hx hb I 3 2 rfl rfl rfl (by unfold vp_in; decide) dX9_begins_96 rfl ?_
  refine lv_iload hx hb dX9_begins_97 (lv_at hl 0 rfl) ?_
  refine z_aald (v := .ref xq54) hx hb I 4 3 rfl rfl rfl (by unfold vp_in; decide) dX9_begins_99 rfl ?_
  refine lv_iload_n hx hb dX9_begins_100 rfl (lv_at hl 1 rfl) ?_
  refine lv_iload hx hb dX9_begins_101 (lv_at hl 0 rfl) ?_
  refine lv_iload_n hx hb dX9_begins_103 rfl (lv_at hl 1 rfl) ?_
  refine lv_iconst (v := 1) hx hb dX9_begins_104 (by decide) ?_
  refine lv_iadd hx hb dX9_begins_105 ?_
  refine lv_topi (fun w52 ew52 => ?_)
  obtain rfl : w52 = 4 := ew52.trans (by decide)
  refine lv_icmp_ne (tgt := 113) hx hb dX9_begins_106 (by decide) (fun _ => ?_) (fun c9 => absurd c9 (by decide))
  refine lv_lconst (v := 0) hx hb dX9_begins_113 (by decide) ?_
  refine z_last hx hb I 7 4 rfl rfl (by unfold vp_in; decide) dX9_begins_114 (fun g53 H locs eg53 I => ?_)
  have I : z_I A dC dI [(h0, .inr (9, [.int 0, .ref xq1, .ref xq2, .ref xq3, .ref xq4, .ref xq5, .ref xq6, .ref xq7, .ref xq8, .ref xq9, .int 0, .int 0, .ref xq10, .ref xq11, .ref xq12, .ref xq13, .ref xq14, .ref xq15, .ref xq16, .ref xq17, .ref xq18, .ref xq19, .ref xq20, .ref xq21, .ref xq22, .ref xq23, .ref xq24, .ref xq25, .ref xq26, .long 0, .int 0, .int 0, .int 0, .int 0, .int 0, .ref xq27, .ref xq28, .ref xq29, .ref xq30, .ref xq31, .ref xq32, .ref xq33, .long 0])), (xq2, .inl (xc36, 4, .inl xf35)), (xq3, .inl (xc37, 4, .inl xf35)), (xq28, .inl (xc47, 5, .inr (.inr (.inr (.inr (va_up xf48 0 (some xq49))))))), (xq49, .inl (xc50, 5, .inr (.inr (.inr (.inr (va_up (va_up (va_up (va_up (va_up xf51 4 (some xq52)) 3 (some xq53)) 2 (some xq54)) 1 (some xq55)) 0 (some xq56))))))), (xq56, .inl (xc57, 4, .inr (.inl g49))), (xq55, .inl (xc57, 4, .inr (.inl g51))), (xq54, .inl (xc57, 4, .inr (.inl g53))), (xq53, .inl (xc57, 4, .inr (.inl g41))), (xq52, .inl (xc57, 4, .inr (.inl g43))), (xq29, .inl (xc59, 5, .inl g1)), (xq30, .inl (xc60, 4, .inl g46)), (xq31, .inl (xc61, 4, .inl g48)), (xq32, .inl (xc62, 5, .inr (.inr (.inr (.inr (va_up xf63 0 (some xq64))))))), (xq64, .inl (xc65, 4, .inl g44))] [(xc36, .int), (xc37, .int), (xc47, .array (.array .long)), (xc50, .array .long), (xc57, .long), (xc59, .int), (xc60, .int), (xc61, .int), (xc62, .array .boolean), (xc65, .boolean)] s H _ := I
  refine lv_iinc (v := 3) (lv' := [(4, .int 3), (3, .int 3), (0, .ref h0), (1, .ref xq2), (2, .ref xq3)]) hx hb dX9_begins_115 hl (k := 0) rfl (by decide) (by decide) rfl (fun ls hl => ?_)
  refine lv_goto (tgt := 85) hx hb dX9_begins_118 (by decide) ?_
  refine lv_iload hx hb dX9_begins_85 (lv_at hl 0 rfl) ?_
  refine lv_iconst (v := 4) hx hb dX9_begins_87 (by decide) ?_
  refine lv_icmp_gt (tgt := 121) hx hb dX9_begins_88 (by decide) (fun c9 => absurd c9 (by decide)) (fun _ => ?_)
  refine lv_aload_n hx hb dX9_begins_91 rfl (lv_at hl 2 rfl) ?_
  refine z_get (C := RX9) (T := TX9) (N := 43) (ci := 9) (v := .ref xq28) hx hb hg hown I iw_9 0 rfl rfl 36 (by decide) mw1296 rfl dX9_begins_92 ?_
  refine lv_iconst (v := 0) hx hb dX9_begins_95 (by decide) ?_
  refine z_aald (v := .ref xq49) hx hb I 3 2 rfl rfl rfl (by unfold vp_in; decide) dX9_begins_96 rfl ?_
  refine lv_iload hx hb dX9_begins_97 (lv_at hl 0 rfl) ?_
  refine z_aald (v := .ref xq53) hx hb I 4 3 rfl rfl rfl (by unfold vp_in; decide) dX9_begins_99 rfl ?_
  refine lv_iload_n hx hb dX9_begins_100 rfl (lv_at hl 1 rfl) ?_
  refine lv_iload hx hb dX9_begins_101 (lv_at hl 0 rfl) ?_
  refine lv_iload_n hx hb dX9_begins_103 rfl (lv_at hl 1 rfl) ?_
  refine lv_iconst (v := 1) hx hb dX9_begins_104 (by decide) ?_
  refine lv_iadd hx hb dX9_begins_105 ?_
  refine lv_topi (fun w54 ew54 => ?_)
  obtain rfl : w54 = 4 := ew54.trans (by decide)
  refine lv_icmp_ne (tgt := 113) hx hb dX9_begins_106 (by decide) (fun _ => ?_) (fun c9 => absurd c9 (by decide))
  refine lv_lconst (v := 0) hx hb dX9_begins_113 (by decide) ?_
  refine z_last hx hb I 8 4 rfl rfl (by unfold vp_in; decide) dX9_begins_114 (fun g55 H locs eg55 I => ?_)
  have I : z_I A dC dI [(h0, .inr (9, [.int 0, .ref xq1, .ref xq2, .ref xq3, .ref xq4, .ref xq5, .ref xq6, .ref xq7, .ref xq8, .ref xq9, .int 0, .int 0, .ref xq10, .ref xq11, .ref xq12, .ref xq13, .ref xq14, .ref xq15, .ref xq16, .ref xq17, .ref xq18, .ref xq19, .ref xq20, .ref xq21, .ref xq22, .ref xq23, .ref xq24, .ref xq25, .ref xq26, .long 0, .int 0, .int 0, .int 0, .int 0, .int 0, .ref xq27, .ref xq28, .ref xq29, .ref xq30, .ref xq31, .ref xq32, .ref xq33, .long 0])), (xq2, .inl (xc36, 4, .inl xf35)), (xq3, .inl (xc37, 4, .inl xf35)), (xq28, .inl (xc47, 5, .inr (.inr (.inr (.inr (va_up xf48 0 (some xq49))))))), (xq49, .inl (xc50, 5, .inr (.inr (.inr (.inr (va_up (va_up (va_up (va_up (va_up xf51 4 (some xq52)) 3 (some xq53)) 2 (some xq54)) 1 (some xq55)) 0 (some xq56))))))), (xq56, .inl (xc57, 4, .inr (.inl g49))), (xq55, .inl (xc57, 4, .inr (.inl g51))), (xq54, .inl (xc57, 4, .inr (.inl g53))), (xq53, .inl (xc57, 4, .inr (.inl g55))), (xq52, .inl (xc57, 4, .inr (.inl g43))), (xq29, .inl (xc59, 5, .inl g1)), (xq30, .inl (xc60, 4, .inl g46)), (xq31, .inl (xc61, 4, .inl g48)), (xq32, .inl (xc62, 5, .inr (.inr (.inr (.inr (va_up xf63 0 (some xq64))))))), (xq64, .inl (xc65, 4, .inl g44))] [(xc36, .int), (xc37, .int), (xc47, .array (.array .long)), (xc50, .array .long), (xc57, .long), (xc59, .int), (xc60, .int), (xc61, .int), (xc62, .array .boolean), (xc65, .boolean)] s H _ := I
  refine lv_iinc (v := 4) (lv' := [(4, .int 4), (3, .int 3), (0, .ref h0), (1, .ref xq2), (2, .ref xq3)]) hx hb dX9_begins_115 hl (k := 0) rfl (by decide) (by decide) rfl (fun ls hl => ?_)
  refine lv_goto (tgt := 85) hx hb dX9_begins_118 (by decide) ?_
  refine lv_iload hx hb dX9_begins_85 (lv_at hl 0 rfl) ?_
  refine lv_iconst (v := 4) hx hb dX9_begins_87 (by decide) ?_
  refine lv_icmp_gt (tgt := 121) hx hb dX9_begins_88 (by decide) (fun c9 => absurd c9 (by decide)) (fun _ => ?_)
  refine lv_aload_n hx hb dX9_begins_91 rfl (lv_at hl 2 rfl) ?_
  refine z_get (C := RX9) (T := TX9) (N := 43) (ci := 9) (v := .ref xq28) hx hb hg hown I iw_9 0 rfl rfl 36 (by decide) mw1296 rfl dX9_begins_92 ?_
  refine lv_iconst (v := 0) hx hb dX9_begins_95 (by decide) ?_
  refine z_aald (v := .ref xq49) hx hb I 3 2 rfl rfl rfl (by unfold vp_in; decide) dX9_begins_96 rfl ?_
  refine lv_iload hx hb dX9_begins_97 (lv_at hl 0 rfl) ?_
  refine z_aald (v := .ref xq52) hx hb I 4 3 rfl rfl rfl (by unfold vp_in; decide) dX9_begins_99 rfl ?_
  refine lv_iload_n hx hb dX9_begins_100 rfl (lv_at hl 1 rfl) ?_
  refine lv_iload hx hb dX9_begins_101 (lv_at hl 0 rfl) ?_
  refine lv_iload_n hx hb dX9_begins_103 rfl (lv_at hl 1 rfl) ?_
  refine lv_iconst (v := 1) hx hb dX9_begins_104 (by decide) ?_
  refine lv_iadd hx hb dX9_begins_105 ?_
  refine lv_topi (fun w56 ew56 => ?_)
  obtain rfl : w56 = 4 := ew56.trans (by decide)
  refine lv_icmp_ne (tgt := 113) hx hb dX9_begins_106 (by decide) (fun c9 => absurd c9 (by decide)) (fun _ => ?_)
  refine lv_lconst (v := 1) hx hb dX9_begins_109 (by decide) ?_
  refine lv_goto (tgt := 114) hx hb dX9_begins_110 (by decide) ?_
  refine z_last hx hb I 9 4 rfl rfl (by unfold vp_in; decide) dX9_begins_114 (fun g57 H locs eg57 I => ?_)
  have I : z_I A dC dI [(h0, .inr (9, [.int 0, .ref xq1, .ref xq2, .ref xq3, .ref xq4, .ref xq5, .ref xq6, .ref xq7, .ref xq8, .ref xq9, .int 0, .int 0, .ref xq10, .ref xq11, .ref xq12, .ref xq13, .ref xq14, .ref xq15, .ref xq16, .ref xq17, .ref xq18, .ref xq19, .ref xq20, .ref xq21, .ref xq22, .ref xq23, .ref xq24, .ref xq25, .ref xq26, .long 0, .int 0, .int 0, .int 0, .int 0, .int 0, .ref xq27, .ref xq28, .ref xq29, .ref xq30, .ref xq31, .ref xq32, .ref xq33, .long 0])), (xq2, .inl (xc36, 4, .inl xf35)), (xq3, .inl (xc37, 4, .inl xf35)), (xq28, .inl (xc47, 5, .inr (.inr (.inr (.inr (va_up xf48 0 (some xq49))))))), (xq49, .inl (xc50, 5, .inr (.inr (.inr (.inr (va_up (va_up (va_up (va_up (va_up xf51 4 (some xq52)) 3 (some xq53)) 2 (some xq54)) 1 (some xq55)) 0 (some xq56))))))), (xq56, .inl (xc57, 4, .inr (.inl g49))), (xq55, .inl (xc57, 4, .inr (.inl g51))), (xq54, .inl (xc57, 4, .inr (.inl g53))), (xq53, .inl (xc57, 4, .inr (.inl g55))), (xq52, .inl (xc57, 4, .inr (.inl g57))), (xq29, .inl (xc59, 5, .inl g1)), (xq30, .inl (xc60, 4, .inl g46)), (xq31, .inl (xc61, 4, .inl g48)), (xq32, .inl (xc62, 5, .inr (.inr (.inr (.inr (va_up xf63 0 (some xq64))))))), (xq64, .inl (xc65, 4, .inl g44))] [(xc36, .int), (xc37, .int), (xc47, .array (.array .long)), (xc50, .array .long), (xc57, .long), (xc59, .int), (xc60, .int), (xc61, .int), (xc62, .array .boolean), (xc65, .boolean)] s H _ := I
  refine lv_iinc (v := 5) (lv' := [(4, .int 5), (3, .int 3), (0, .ref h0), (1, .ref xq2), (2, .ref xq3)]) hx hb dX9_begins_115 hl (k := 0) rfl (by decide) (by decide) rfl (fun ls hl => ?_)
  refine lv_goto (tgt := 85) hx hb dX9_begins_118 (by decide) ?_
  refine lv_iload hx hb dX9_begins_85 (lv_at hl 0 rfl) ?_
  refine lv_iconst (v := 4) hx hb dX9_begins_87 (by decide) ?_
  refine lv_icmp_gt (tgt := 121) hx hb dX9_begins_88 (by decide) (fun _ => ?_) (fun c9 => absurd c9 (by decide))
  refine lv_iinc (v := 4) (lv' := [(3, .int 4), (4, .int 5), (0, .ref h0), (1, .ref xq2), (2, .ref xq3)]) hx hb dX9_begins_121 hl (k := 1) rfl (by decide) (by decide) rfl (fun ls hl => ?_)
  refine lv_goto (tgt := 9) hx hb dX9_begins_124 (by decide) ?_
  refine lv_iload_n hx hb dX9_begins_9 rfl (lv_at hl 0 rfl) ?_
  refine lv_iconst (v := 4) hx hb dX9_begins_10 (by decide) ?_
  refine lv_icmp_ge (tgt := 127) hx hb dX9_begins_11 (by decide) (fun _ => ?_) (fun c9 => absurd c9 (by decide))
  have I := I.subT (t' := []) [] rfl
  refine W.widen (k := 0) (n := 0) (Nat.le_of_ble_eq_true rfl) (Nat.le_of_ble_eq_true rfl) ?_
  exact z_vret hx hb hr hlocks I ⟨g49, g51, g53, g55, g57, g1, g46, g48, g44, rfl, kg1_0⟩ dX9_begins_127
set_option maxHeartbeats 4000000 in
set_option maxRecDepth 100000 in
theorem z_M_corner (l : Launch) (dC : Nat → ClassId) (dI : Nat → Nat → Nat) (xq1 : Nat) (xq2 : Nat) (xq3 : Nat) (xq4 : Nat) (xq5 : Nat) (xq6 : Nat) (xq7 : Nat) (xq8 : Nat) (xq9 : Nat) (xq10 : Nat) (xq11 : Nat) (xq12 : Nat) (xq13 : Nat) (xq14 : Nat) (xq15 : Nat) (xq16 : Nat) (xq17 : Nat) (xq18 : Nat) (xq19 : Nat) (xq20 : Nat) (xq21 : Nat) (xq22 : Nat) (xq23 : Nat) (xq24 : Nat) (xq25 : Nat) (xq26 : Nat) (xq27 : Nat) (xq28 : Nat) (xq29 : Nat) (xq30 : Nat) (xq31 : Nat) (xq32 : Nat) (xq33 : Nat) (h0 : Nat) (sz : Nat) : Met l yX9_corner (z_w yX9_corner cX9_corner 6 none) ({ frames := 8, cells := 0, slots := 0, locals := 140 }) (z_P dC dI [(h0, .inr (9, [.int 0, .ref xq1, .ref xq2, .ref xq3, .ref xq4, .ref xq5, .ref xq6, .ref xq7, .ref xq8, .ref xq9, .int 0, .int 0, .ref xq10, .ref xq11, .ref xq12, .ref xq13, .ref xq14, .ref xq15, .ref xq16, .ref xq17, .ref xq18, .ref xq19, .ref xq20, .ref xq21, .ref xq22, .ref xq23, .ref xq24, .ref xq25, .ref xq26, .long 0, .int 0, .int 0, .int 0, .int 0, .int 0, .ref xq27, .ref xq28, .ref xq29, .ref xq30, .ref xq31, .ref xq32, .ref xq33, .long 0]))] [] sz [.ref h0, .int 0]) (va_Qv (fun u : va_W × List (ClassId × FieldType) => u = ([(h0, .inr (9, [.int 0, .ref xq1, .ref xq2, .ref xq3, .ref xq4, .ref xq5, .ref xq6, .ref xq7, .ref xq8, .ref xq9, .int 0, .int 0, .ref xq10, .ref xq11, .ref xq12, .ref xq13, .ref xq14, .ref xq15, .ref xq16, .ref xq17, .ref xq18, .ref xq19, .ref xq20, .ref xq21, .ref xq22, .ref xq23, .ref xq24, .ref xq25, .ref xq26, .long 0, .int 0, .int 0, .int 0, .int 0, .int 0, .ref xq27, .ref xq28, .ref xq29, .ref xq30, .ref xq31, .ref xq32, .ref xq33, .long 1]))], []) ∧ True) (z_B dC dI (va_A [(h0, .inr (9, [.int 0, .ref xq1, .ref xq2, .ref xq3, .ref xq4, .ref xq5, .ref xq6, .ref xq7, .ref xq8, .ref xq9, .int 0, .int 0, .ref xq10, .ref xq11, .ref xq12, .ref xq13, .ref xq14, .ref xq15, .ref xq16, .ref xq17, .ref xq18, .ref xq19, .ref xq20, .ref xq21, .ref xq22, .ref xq23, .ref xq24, .ref xq25, .ref xq26, .long 0, .int 0, .int 0, .int 0, .int 0, .int 0, .ref xq27, .ref xq28, .ref xq29, .ref xq30, .ref xq31, .ref xq32, .ref xq33, .long 0]))] sz)) (va_A [(h0, .inr (9, [.int 0, .ref xq1, .ref xq2, .ref xq3, .ref xq4, .ref xq5, .ref xq6, .ref xq7, .ref xq8, .ref xq9, .int 0, .int 0, .ref xq10, .ref xq11, .ref xq12, .ref xq13, .ref xq14, .ref xq15, .ref xq16, .ref xq17, .ref xq18, .ref xq19, .ref xq20, .ref xq21, .ref xq22, .ref xq23, .ref xq24, .ref xq25, .ref xq26, .long 0, .int 0, .int 0, .int 0, .int 0, .int 0, .ref xq27, .ref xq28, .ref xq29, .ref xq30, .ref xq31, .ref xq32, .ref xq33, .long 0]))] sz)) 0 0 (va_A [(h0, .inr (9, [.int 0, .ref xq1, .ref xq2, .ref xq3, .ref xq4, .ref xq5, .ref xq6, .ref xq7, .ref xq8, .ref xq9, .int 0, .int 0, .ref xq10, .ref xq11, .ref xq12, .ref xq13, .ref xq14, .ref xq15, .ref xq16, .ref xq17, .ref xq18, .ref xq19, .ref xq20, .ref xq21, .ref xq22, .ref xq23, .ref xq24, .ref xq25, .ref xq26, .long 0, .int 0, .int 0, .int 0, .int 0, .int 0, .ref xq27, .ref xq28, .ref xq29, .ref xq30, .ref xq31, .ref xq32, .ref xq33, .long 0]))] sz) := by
  refine Met.ofW (cc := cX9_corner) (maxL := 6) (ret := none) (by decide) rfl ?_
  intro p e s m args below meth c s₁ B hml hv
  obtain ⟨rfl, rfl, I⟩ := z_open hv
  have hx := B.exec
  have hb := B.bytes
  have hr := B.returns
  have hts := atoms_spec (ws := z_w yX9_corner cX9_corner 6 none) B.pre
  have hg : z_G _ s := z_G.of hts
  have hown : s.vm.findClass RX9 = some m.cls := findClass_of_methodNamed B.named
  have hlocks := B.notSynchronized
  generalize va_A [(h0, .inr (9, [.int 0, .ref xq1, .ref xq2, .ref xq3, .ref xq4, .ref xq5, .ref xq6, .ref xq7, .ref xq8, .ref xq9, .int 0, .int 0, .ref xq10, .ref xq11, .ref xq12, .ref xq13, .ref xq14, .ref xq15, .ref xq16, .ref xq17, .ref xq18, .ref xq19, .ref xq20, .ref xq21, .ref xq22, .ref xq23, .ref xq24, .ref xq25, .ref xq26, .long 0, .int 0, .int 0, .int 0, .int 0, .int 0, .ref xq27, .ref xq28, .ref xq29, .ref xq30, .ref xq31, .ref xq32, .ref xq33, .long 0]))] s.heap.size = A at I ⊢
  have hl := lv_entry ([.ref h0, .int 0]) (n := 6) (Nat.le_of_ble_eq_true rfl)
  rw [lg_entry_eq]
  generalize (lg_sl ([.ref h0, .int 0]) ++ List.replicate (6 - (lg_sl ([.ref h0, .int 0])).length) Slot.unset).toArray = ls at hl ⊢
  have hl : lv_has ls 6 [(0, .ref h0), (1, .int 0)] := hl
  refine lv_aload_n hx hb dX9_corner_0 rfl (lv_at hl 0 rfl) ?_
  refine lv_lconst (v := 1) hx hb dX9_corner_1 (by decide) ?_
  refine z_put (C := RX9) (T := TX9) (N := 43) (ci := 9) (v := .long 1) hx hb hg hown I iw_9 tyX9 tyX9_ok nmX9 0 rfl rfl 42 (by decide) mw1302 rfl rfl rfl (Nat.le_of_ble_eq_true rfl) dX9_corner_2 [(h0, .inr (9, [.int 0, .ref xq1, .ref xq2, .ref xq3, .ref xq4, .ref xq5, .ref xq6, .ref xq7, .ref xq8, .ref xq9, .int 0, .int 0, .ref xq10, .ref xq11, .ref xq12, .ref xq13, .ref xq14, .ref xq15, .ref xq16, .ref xq17, .ref xq18, .ref xq19, .ref xq20, .ref xq21, .ref xq22, .ref xq23, .ref xq24, .ref xq25, .ref xq26, .long 0, .int 0, .int 0, .int 0, .int 0, .int 0, .ref xq27, .ref xq28, .ref xq29, .ref xq30, .ref xq31, .ref xq32, .ref xq33, .long 1]))] rfl (fun H locs I => ?_)
  refine lv_iconst (v := 0) hx hb dX9_corner_5 (by decide) ?_
  refine lv_istore_n (lv' := [(2, .int 0), (0, .ref h0), (1, .int 0)]) hx hb dX9_corner_6 rfl hl (by decide) rfl (fun ls hl => ?_)
  refine lv_iload_n hx hb dX9_corner_7 rfl (lv_at hl 0 rfl) ?_
  refine lv_aload_n hx hb dX9_corner_8 rfl (lv_at hl 1 rfl) ?_
  refine z_get (C := RX9) (T := TX9) (N := 43) (ci := 9) (v := .int 0) hx hb hg hown I iw_9 0 rfl rfl 10 (by decide) mw1270 rfl dX9_corner_9 ?_
  refine lv_icmp_ge (tgt := 99) hx hb dX9_corner_12 (by decide) (fun _ => ?_) (fun c9 => absurd c9 (by decide))
  have I := I.subT (t' := []) [] rfl
  refine W.widen (k := 0) (n := 0) (Nat.le_of_ble_eq_true rfl) (Nat.le_of_ble_eq_true rfl) ?_
  exact z_vret hx hb hr hlocks I ⟨rfl, trivial⟩ dX9_corner_99
set_option maxHeartbeats 4000000 in
set_option maxRecDepth 100000 in
theorem z_M_finds (l : Launch) (dC : Nat → ClassId) (dI : Nat → Nat → Nat) (xq1 : Nat) (xq2 : Nat) (xq3 : Nat) (xq4 : Nat) (xq5 : Nat) (xq6 : Nat) (xq7 : Nat) (xq8 : Nat) (xq9 : Nat) (xq10 : Nat) (xq11 : Nat) (xq12 : Nat) (xq13 : Nat) (xq14 : Nat) (xq15 : Nat) (xq16 : Nat) (xq17 : Nat) (xq18 : Nat) (xq19 : Nat) (xq20 : Nat) (xq21 : Nat) (xq22 : Nat) (xq23 : Nat) (xq24 : Nat) (xq25 : Nat) (xq26 : Nat) (xq27 : Nat) (xq28 : Nat) (xq29 : Nat) (xq30 : Nat) (xq31 : Nat) (xq32 : Nat) (xq33 : Nat) (xc59 : ClassId) (fG : Nat → Int32) (h0 : Nat) (hG : fG 0 = 0) (sz : Nat) : Met l yX9_finds (z_w yX9_finds cX9_finds 12 (some .boolean)) ({ frames := 10, cells := 0, slots := 0, locals := 200 }) (z_P dC dI [(h0, .inr (9, [.int 0, .ref xq1, .ref xq2, .ref xq3, .ref xq4, .ref xq5, .ref xq6, .ref xq7, .ref xq8, .ref xq9, .int 0, .int 0, .ref xq10, .ref xq11, .ref xq12, .ref xq13, .ref xq14, .ref xq15, .ref xq16, .ref xq17, .ref xq18, .ref xq19, .ref xq20, .ref xq21, .ref xq22, .ref xq23, .ref xq24, .ref xq25, .ref xq26, .long 0, .int 0, .int 0, .int 0, .int 0, .int 0, .ref xq27, .ref xq28, .ref xq29, .ref xq30, .ref xq31, .ref xq32, .ref xq33, .long 0])), (xq29, .inl (xc59, 5, .inl fG))] [(xc59, .int)] sz [.ref h0, .int 0]) (va_Qi (fun (r : Int32) (u : va_W × List (ClassId × FieldType)) => u = ([(xq29, .inl (xc59, 5, .inl fG)), (h0, .inr (9, [.int 0, .ref xq1, .ref xq2, .ref xq3, .ref xq4, .ref xq5, .ref xq6, .ref xq7, .ref xq8, .ref xq9, .int 0, .int 0, .ref xq10, .ref xq11, .ref xq12, .ref xq13, .ref xq14, .ref xq15, .ref xq16, .ref xq17, .ref xq18, .ref xq19, .ref xq20, .ref xq21, .ref xq22, .ref xq23, .ref xq24, .ref xq25, .ref xq26, .long 0, .int 0, .int 0, .int 0, .int 0, .int 0, .ref xq27, .ref xq28, .ref xq29, .ref xq30, .ref xq31, .ref xq32, .ref xq33, .long 1]))], []) ∧ r = 1) (z_B dC dI (va_A [(h0, .inr (9, [.int 0, .ref xq1, .ref xq2, .ref xq3, .ref xq4, .ref xq5, .ref xq6, .ref xq7, .ref xq8, .ref xq9, .int 0, .int 0, .ref xq10, .ref xq11, .ref xq12, .ref xq13, .ref xq14, .ref xq15, .ref xq16, .ref xq17, .ref xq18, .ref xq19, .ref xq20, .ref xq21, .ref xq22, .ref xq23, .ref xq24, .ref xq25, .ref xq26, .long 0, .int 0, .int 0, .int 0, .int 0, .int 0, .ref xq27, .ref xq28, .ref xq29, .ref xq30, .ref xq31, .ref xq32, .ref xq33, .long 0])), (xq29, .inl (xc59, 5, .inl fG))] sz)) (va_A [(h0, .inr (9, [.int 0, .ref xq1, .ref xq2, .ref xq3, .ref xq4, .ref xq5, .ref xq6, .ref xq7, .ref xq8, .ref xq9, .int 0, .int 0, .ref xq10, .ref xq11, .ref xq12, .ref xq13, .ref xq14, .ref xq15, .ref xq16, .ref xq17, .ref xq18, .ref xq19, .ref xq20, .ref xq21, .ref xq22, .ref xq23, .ref xq24, .ref xq25, .ref xq26, .long 0, .int 0, .int 0, .int 0, .int 0, .int 0, .ref xq27, .ref xq28, .ref xq29, .ref xq30, .ref xq31, .ref xq32, .ref xq33, .long 0])), (xq29, .inl (xc59, 5, .inl fG))] sz)) 0 0 (va_A [(h0, .inr (9, [.int 0, .ref xq1, .ref xq2, .ref xq3, .ref xq4, .ref xq5, .ref xq6, .ref xq7, .ref xq8, .ref xq9, .int 0, .int 0, .ref xq10, .ref xq11, .ref xq12, .ref xq13, .ref xq14, .ref xq15, .ref xq16, .ref xq17, .ref xq18, .ref xq19, .ref xq20, .ref xq21, .ref xq22, .ref xq23, .ref xq24, .ref xq25, .ref xq26, .long 0, .int 0, .int 0, .int 0, .int 0, .int 0, .ref xq27, .ref xq28, .ref xq29, .ref xq30, .ref xq31, .ref xq32, .ref xq33, .long 0])), (xq29, .inl (xc59, 5, .inl fG))] sz) := by
  refine Met.ofW (cc := cX9_finds) (maxL := 12) (ret := (some .boolean)) (by decide) rfl ?_
  intro p e s m args below meth c s₁ B hml hv
  obtain ⟨rfl, rfl, I⟩ := z_open hv
  have hx := B.exec
  have hb := B.bytes
  have hr := B.returns
  have hts := atoms_spec (ws := z_w yX9_finds cX9_finds 12 (some .boolean)) B.pre
  have hg : z_G _ s := z_G.of hts
  have hown : s.vm.findClass RX9 = some m.cls := findClass_of_methodNamed B.named
  have hlocks := B.notSynchronized
  generalize va_A [(h0, .inr (9, [.int 0, .ref xq1, .ref xq2, .ref xq3, .ref xq4, .ref xq5, .ref xq6, .ref xq7, .ref xq8, .ref xq9, .int 0, .int 0, .ref xq10, .ref xq11, .ref xq12, .ref xq13, .ref xq14, .ref xq15, .ref xq16, .ref xq17, .ref xq18, .ref xq19, .ref xq20, .ref xq21, .ref xq22, .ref xq23, .ref xq24, .ref xq25, .ref xq26, .long 0, .int 0, .int 0, .int 0, .int 0, .int 0, .ref xq27, .ref xq28, .ref xq29, .ref xq30, .ref xq31, .ref xq32, .ref xq33, .long 0])), (xq29, .inl (xc59, 5, .inl fG))] s.heap.size = A at I ⊢
  have hl := lv_entry ([.ref h0, .int 0]) (n := 12) (Nat.le_of_ble_eq_true rfl)
  rw [lg_entry_eq]
  generalize (lg_sl ([.ref h0, .int 0]) ++ List.replicate (12 - (lg_sl ([.ref h0, .int 0])).length) Slot.unset).toArray = ls at hl ⊢
  have hl : lv_has ls 12 [(0, .ref h0), (1, .int 0)] := hl
  refine lv_aload_n hx hb dX9_finds_0 rfl (lv_at hl 0 rfl) ?_
  refine lv_iload_n hx hb dX9_finds_1 rfl (lv_at hl 1 rfl) ?_
  refine z_callv (wr := [(xq29, .inl (xc59, 5, .inl fG))]) (va_runV (As := [.int 0]) (rest := []) ⟨hx, hb, hml, hown, hts⟩ (z_M_corner l dC dI xq1 xq2 xq3 xq4 xq5 xq6 xq7 xq8 xq9 xq10 xq11 xq12 xq13 xq14 xq15 xq16 xq17 xq18 xq19 xq20 xq21 xq22 xq23 xq24 xq25 xq26 xq27 xq28 xq29 xq30 xq31 xq32 xq33 h0  s.heap.size) (cwV 1 hts (z_gV z_T.w mw1484 mw1486 mwp52 mw10 mw1487) rfl rfl rfl (by decide +kernel) ⟨Nat.le_of_ble_eq_true rfl, Nat.le_of_ble_eq_true rfl⟩) (z_preV I [0] [] rfl rfl rfl rfl (ci := 9) (q0 := 0) rfl rfl) rfl rfl hl.1 rfl (lv_room (Nat.le_of_ble_eq_true rfl)) dX9_finds_2 ⟨Nat.le_of_ble_eq_true rfl, Nat.le_of_ble_eq_true rfl⟩) I [0] [1] rfl rfl (by decide) (by decide) (fun u1 H locs hw1 I => ?_)
  obtain ⟨hu1, hp1⟩ := hw1
  subst hu1
  have I : z_I A dC dI [(xq29, .inl (xc59, 5, .inl fG)), (h0, .inr (9, [.int 0, .ref xq1, .ref xq2, .ref xq3, .ref xq4, .ref xq5, .ref xq6, .ref xq7, .ref xq8, .ref xq9, .int 0, .int 0, .ref xq10, .ref xq11, .ref xq12, .ref xq13, .ref xq14, .ref xq15, .ref xq16, .ref xq17, .ref xq18, .ref xq19, .ref xq20, .ref xq21, .ref xq22, .ref xq23, .ref xq24, .ref xq25, .ref xq26, .long 0, .int 0, .int 0, .int 0, .int 0, .int 0, .ref xq27, .ref xq28, .ref xq29, .ref xq30, .ref xq31, .ref xq32, .ref xq33, .long 1]))] [(xc59, .int)] s H _ := I
  refine lv_iconst (v := 0) hx hb dX9_finds_5 (by decide) ?_
  refine lv_istore_n (lv' := [(2, .int 0), (0, .ref h0), (1, .int 0)]) hx hb dX9_finds_6 rfl hl (by decide) rfl (fun ls hl => ?_)
  refine lv_iload_n hx hb dX9_finds_7 rfl (lv_at hl 0 rfl) ?_
  refine lv_aload_n hx hb dX9_finds_8 rfl (lv_at hl 1 rfl) ?_
  refine z_get (C := RX9) (T := TX9) (N := 43) (ci := 9) (v := .ref xq29) hx hb hg hown I iw_9 1 rfl rfl 37 (by decide) mw1297 rfl dX9_finds_9 ?_
  refine lv_iload_n hx hb dX9_finds_12 rfl (lv_at hl 2 rfl) ?_
  refine z_iald (v := 0) hx hb I 0 0 rfl rfl (by unfold vp_in; decide) dX9_finds_13 hG ?_
  refine lv_icmp_ge (tgt := 327) hx hb dX9_finds_14 (by decide) (fun _ => ?_) (fun c9 => absurd c9 (by decide))
  refine lv_iconst (v := 1) hx hb dX9_finds_327 (by decide) ?_
  have I := I.subT (t' := []) [] rfl
  refine W.widen (k := 0) (n := 0) (Nat.le_of_ble_eq_true rfl) (Nat.le_of_ble_eq_true rfl) ?_
  exact z_zret hx hb hr hlocks rfl I ⟨rfl, rfl⟩ dX9_finds_328
set_option maxHeartbeats 4000000 in
set_option maxRecDepth 100000 in
theorem z_M_holds (l : Launch) (dC : Nat → ClassId) (dI : Nat → Nat → Nat) (xq1 : Nat) (xq2 : Nat) (xq3 : Nat) (xq4 : Nat) (xq5 : Nat) (xq6 : Nat) (xq7 : Nat) (xq8 : Nat) (xq9 : Nat) (xq10 : Nat) (xq11 : Nat) (xq12 : Nat) (xq13 : Nat) (xq14 : Nat) (xq15 : Nat) (xq16 : Nat) (xq17 : Nat) (xq18 : Nat) (xq19 : Nat) (xq20 : Nat) (xq21 : Nat) (xq22 : Nat) (xq23 : Nat) (xq24 : Nat) (xq25 : Nat) (xq26 : Nat) (xq27 : Nat) (xq28 : Nat) (xq29 : Nat) (xq30 : Nat) (xq31 : Nat) (xq32 : Nat) (xq33 : Nat) (xf35 : Nat → Int32) (xc36 : ClassId) (xc37 : ClassId) (xc47 : ClassId) (xf48 : Nat → Option Nat) (xq49 : Nat) (xc50 : ClassId) (xf51 : Nat → Option Nat) (xq52 : Nat) (xq53 : Nat) (xq54 : Nat) (xq55 : Nat) (xq56 : Nat) (xc57 : ClassId) (xf58 : Nat → Int64) (xc59 : ClassId) (xc60 : ClassId) (xc61 : ClassId) (xc62 : ClassId) (xf63 : Nat → Option Nat) (xq64 : Nat) (xc65 : ClassId) (h0 : Nat) (sz : Nat) : Met l yX9_holds (z_w yX9_holds cX9_holds 3 (some .boolean)) ({ frames := 12, cells := 0, slots := 0, locals := 260 }) (z_P dC dI [(h0, .inr (9, [.int 0, .ref xq1, .ref xq2, .ref xq3, .ref xq4, .ref xq5, .ref xq6, .ref xq7, .ref xq8, .ref xq9, .int 0, .int 0, .ref xq10, .ref xq11, .ref xq12, .ref xq13, .ref xq14, .ref xq15, .ref xq16, .ref xq17, .ref xq18, .ref xq19, .ref xq20, .ref xq21, .ref xq22, .ref xq23, .ref xq24, .ref xq25, .ref xq26, .long 0, .int 0, .int 0, .int 0, .int 0, .int 0, .ref xq27, .ref xq28, .ref xq29, .ref xq30, .ref xq31, .ref xq32, .ref xq33, .long 0])), (xq2, .inl (xc36, 4, .inl xf35)), (xq3, .inl (xc37, 4, .inl xf35)), (xq28, .inl (xc47, 5, .inr (.inr (.inr (.inr (va_up xf48 0 (some xq49))))))), (xq49, .inl (xc50, 5, .inr (.inr (.inr (.inr (va_up (va_up (va_up (va_up (va_up xf51 4 (some xq52)) 3 (some xq53)) 2 (some xq54)) 1 (some xq55)) 0 (some xq56))))))), (xq56, .inl (xc57, 4, .inr (.inl xf58))), (xq55, .inl (xc57, 4, .inr (.inl xf58))), (xq54, .inl (xc57, 4, .inr (.inl xf58))), (xq53, .inl (xc57, 4, .inr (.inl xf58))), (xq52, .inl (xc57, 4, .inr (.inl xf58))), (xq29, .inl (xc59, 5, .inl xf35)), (xq30, .inl (xc60, 4, .inl xf35)), (xq31, .inl (xc61, 4, .inl xf35)), (xq32, .inl (xc62, 5, .inr (.inr (.inr (.inr (va_up xf63 0 (some xq64))))))), (xq64, .inl (xc65, 4, .inl xf35))] [(xc36, .int), (xc37, .int), (xc47, .array (.array .long)), (xc50, .array .long), (xc57, .long), (xc59, .int), (xc60, .int), (xc61, .int), (xc62, .array .boolean), (xc65, .boolean)] sz [.ref h0, .int 0]) (va_Qi (fun (r : Int32) (u : va_W × List (ClassId × FieldType)) => u = ([(h0, .inr (9, [.int 0, .ref xq1, .ref xq2, .ref xq3, .ref xq4, .ref xq5, .ref xq6, .ref xq7, .ref xq8, .ref xq9, .int 0, .int 0, .ref xq10, .ref xq11, .ref xq12, .ref xq13, .ref xq14, .ref xq15, .ref xq16, .ref xq17, .ref xq18, .ref xq19, .ref xq20, .ref xq21, .ref xq22, .ref xq23, .ref xq24, .ref xq25, .ref xq26, .long 0, .int 0, .int 0, .int 0, .int 0, .int 0, .ref xq27, .ref xq28, .ref xq29, .ref xq30, .ref xq31, .ref xq32, .ref xq33, .long 1]))], []) ∧ r = 1) (z_B dC dI (va_A [(h0, .inr (9, [.int 0, .ref xq1, .ref xq2, .ref xq3, .ref xq4, .ref xq5, .ref xq6, .ref xq7, .ref xq8, .ref xq9, .int 0, .int 0, .ref xq10, .ref xq11, .ref xq12, .ref xq13, .ref xq14, .ref xq15, .ref xq16, .ref xq17, .ref xq18, .ref xq19, .ref xq20, .ref xq21, .ref xq22, .ref xq23, .ref xq24, .ref xq25, .ref xq26, .long 0, .int 0, .int 0, .int 0, .int 0, .int 0, .ref xq27, .ref xq28, .ref xq29, .ref xq30, .ref xq31, .ref xq32, .ref xq33, .long 0])), (xq2, .inl (xc36, 4, .inl xf35)), (xq3, .inl (xc37, 4, .inl xf35)), (xq28, .inl (xc47, 5, .inr (.inr (.inr (.inr (va_up xf48 0 (some xq49))))))), (xq49, .inl (xc50, 5, .inr (.inr (.inr (.inr (va_up (va_up (va_up (va_up (va_up xf51 4 (some xq52)) 3 (some xq53)) 2 (some xq54)) 1 (some xq55)) 0 (some xq56))))))), (xq56, .inl (xc57, 4, .inr (.inl xf58))), (xq55, .inl (xc57, 4, .inr (.inl xf58))), (xq54, .inl (xc57, 4, .inr (.inl xf58))), (xq53, .inl (xc57, 4, .inr (.inl xf58))), (xq52, .inl (xc57, 4, .inr (.inl xf58))), (xq29, .inl (xc59, 5, .inl xf35)), (xq30, .inl (xc60, 4, .inl xf35)), (xq31, .inl (xc61, 4, .inl xf35)), (xq32, .inl (xc62, 5, .inr (.inr (.inr (.inr (va_up xf63 0 (some xq64))))))), (xq64, .inl (xc65, 4, .inl xf35))] sz)) (va_A [(h0, .inr (9, [.int 0, .ref xq1, .ref xq2, .ref xq3, .ref xq4, .ref xq5, .ref xq6, .ref xq7, .ref xq8, .ref xq9, .int 0, .int 0, .ref xq10, .ref xq11, .ref xq12, .ref xq13, .ref xq14, .ref xq15, .ref xq16, .ref xq17, .ref xq18, .ref xq19, .ref xq20, .ref xq21, .ref xq22, .ref xq23, .ref xq24, .ref xq25, .ref xq26, .long 0, .int 0, .int 0, .int 0, .int 0, .int 0, .ref xq27, .ref xq28, .ref xq29, .ref xq30, .ref xq31, .ref xq32, .ref xq33, .long 0])), (xq2, .inl (xc36, 4, .inl xf35)), (xq3, .inl (xc37, 4, .inl xf35)), (xq28, .inl (xc47, 5, .inr (.inr (.inr (.inr (va_up xf48 0 (some xq49))))))), (xq49, .inl (xc50, 5, .inr (.inr (.inr (.inr (va_up (va_up (va_up (va_up (va_up xf51 4 (some xq52)) 3 (some xq53)) 2 (some xq54)) 1 (some xq55)) 0 (some xq56))))))), (xq56, .inl (xc57, 4, .inr (.inl xf58))), (xq55, .inl (xc57, 4, .inr (.inl xf58))), (xq54, .inl (xc57, 4, .inr (.inl xf58))), (xq53, .inl (xc57, 4, .inr (.inl xf58))), (xq52, .inl (xc57, 4, .inr (.inl xf58))), (xq29, .inl (xc59, 5, .inl xf35)), (xq30, .inl (xc60, 4, .inl xf35)), (xq31, .inl (xc61, 4, .inl xf35)), (xq32, .inl (xc62, 5, .inr (.inr (.inr (.inr (va_up xf63 0 (some xq64))))))), (xq64, .inl (xc65, 4, .inl xf35))] sz)) 0 0 (va_A [(h0, .inr (9, [.int 0, .ref xq1, .ref xq2, .ref xq3, .ref xq4, .ref xq5, .ref xq6, .ref xq7, .ref xq8, .ref xq9, .int 0, .int 0, .ref xq10, .ref xq11, .ref xq12, .ref xq13, .ref xq14, .ref xq15, .ref xq16, .ref xq17, .ref xq18, .ref xq19, .ref xq20, .ref xq21, .ref xq22, .ref xq23, .ref xq24, .ref xq25, .ref xq26, .long 0, .int 0, .int 0, .int 0, .int 0, .int 0, .ref xq27, .ref xq28, .ref xq29, .ref xq30, .ref xq31, .ref xq32, .ref xq33, .long 0])), (xq2, .inl (xc36, 4, .inl xf35)), (xq3, .inl (xc37, 4, .inl xf35)), (xq28, .inl (xc47, 5, .inr (.inr (.inr (.inr (va_up xf48 0 (some xq49))))))), (xq49, .inl (xc50, 5, .inr (.inr (.inr (.inr (va_up (va_up (va_up (va_up (va_up xf51 4 (some xq52)) 3 (some xq53)) 2 (some xq54)) 1 (some xq55)) 0 (some xq56))))))), (xq56, .inl (xc57, 4, .inr (.inl xf58))), (xq55, .inl (xc57, 4, .inr (.inl xf58))), (xq54, .inl (xc57, 4, .inr (.inl xf58))), (xq53, .inl (xc57, 4, .inr (.inl xf58))), (xq52, .inl (xc57, 4, .inr (.inl xf58))), (xq29, .inl (xc59, 5, .inl xf35)), (xq30, .inl (xc60, 4, .inl xf35)), (xq31, .inl (xc61, 4, .inl xf35)), (xq32, .inl (xc62, 5, .inr (.inr (.inr (.inr (va_up xf63 0 (some xq64))))))), (xq64, .inl (xc65, 4, .inl xf35))] sz) := by
  refine Met.ofW (cc := cX9_holds) (maxL := 3) (ret := (some .boolean)) (by decide) rfl ?_
  intro p e s m args below meth c s₁ B hml hv
  obtain ⟨rfl, rfl, I⟩ := z_open hv
  have hx := B.exec
  have hb := B.bytes
  have hr := B.returns
  have hts := atoms_spec (ws := z_w yX9_holds cX9_holds 3 (some .boolean)) B.pre
  have hg : z_G _ s := z_G.of hts
  have hown : s.vm.findClass RX9 = some m.cls := findClass_of_methodNamed B.named
  have hlocks := B.notSynchronized
  generalize va_A [(h0, .inr (9, [.int 0, .ref xq1, .ref xq2, .ref xq3, .ref xq4, .ref xq5, .ref xq6, .ref xq7, .ref xq8, .ref xq9, .int 0, .int 0, .ref xq10, .ref xq11, .ref xq12, .ref xq13, .ref xq14, .ref xq15, .ref xq16, .ref xq17, .ref xq18, .ref xq19, .ref xq20, .ref xq21, .ref xq22, .ref xq23, .ref xq24, .ref xq25, .ref xq26, .long 0, .int 0, .int 0, .int 0, .int 0, .int 0, .ref xq27, .ref xq28, .ref xq29, .ref xq30, .ref xq31, .ref xq32, .ref xq33, .long 0])), (xq2, .inl (xc36, 4, .inl xf35)), (xq3, .inl (xc37, 4, .inl xf35)), (xq28, .inl (xc47, 5, .inr (.inr (.inr (.inr (va_up xf48 0 (some xq49))))))), (xq49, .inl (xc50, 5, .inr (.inr (.inr (.inr (va_up (va_up (va_up (va_up (va_up xf51 4 (some xq52)) 3 (some xq53)) 2 (some xq54)) 1 (some xq55)) 0 (some xq56))))))), (xq56, .inl (xc57, 4, .inr (.inl xf58))), (xq55, .inl (xc57, 4, .inr (.inl xf58))), (xq54, .inl (xc57, 4, .inr (.inl xf58))), (xq53, .inl (xc57, 4, .inr (.inl xf58))), (xq52, .inl (xc57, 4, .inr (.inl xf58))), (xq29, .inl (xc59, 5, .inl xf35)), (xq30, .inl (xc60, 4, .inl xf35)), (xq31, .inl (xc61, 4, .inl xf35)), (xq32, .inl (xc62, 5, .inr (.inr (.inr (.inr (va_up xf63 0 (some xq64))))))), (xq64, .inl (xc65, 4, .inl xf35))] s.heap.size = A at I ⊢
  have hl := lv_entry ([.ref h0, .int 0]) (n := 3) (Nat.le_of_ble_eq_true rfl)
  rw [lg_entry_eq]
  generalize (lg_sl ([.ref h0, .int 0]) ++ List.replicate (3 - (lg_sl ([.ref h0, .int 0])).length) Slot.unset).toArray = ls at hl ⊢
  have hl : lv_has ls 3 [(0, .ref h0), (1, .int 0)] := hl
  refine lv_aload_n hx hb dX9_holds_0 rfl (lv_at hl 0 rfl) ?_
  refine lv_aload_n hx hb dX9_holds_1 rfl (lv_at hl 0 rfl) ?_
  refine z_get (C := RX9) (T := TX9) (N := 43) (ci := 9) (v := .ref xq2) hx hb hg hown I iw_9 0 rfl rfl 2 (by decide) mw1262 rfl dX9_holds_2 ?_
  refine lv_aload_n hx hb dX9_holds_5 rfl (lv_at hl 0 rfl) ?_
  refine z_get (C := RX9) (T := TX9) (N := 43) (ci := 9) (v := .ref xq3) hx hb hg hown I iw_9 0 rfl rfl 3 (by decide) mw1263 rfl dX9_holds_6 ?_
  refine z_callv (wr := []) (va_runV (As := [.ref xq2, .ref xq3]) (rest := []) ⟨hx, hb, hml, hown, hts⟩ (z_M_begins l dC dI xq1 xq2 xq3 xq4 xq5 xq6 xq7 xq8 xq9 xq10 xq11 xq12 xq13 xq14 xq15 xq16 xq17 xq18 xq19 xq20 xq21 xq22 xq23 xq24 xq25 xq26 xq27 xq28 xq29 xq30 xq31 xq32 xq33 xf35 xc36 xc37 xc47 xf48 xq49 xc50 xf51 xq52 xq53 xq54 xq55 xq56 xc57 xf58 xc59 xc60 xc61 xc62 xf63 xq64 xc65 h0  s.heap.size) (cwV 2 hts (z_gV z_T.w mw1464 mw1466 mwp47 mw10 mw1467) rfl rfl rfl (by decide +kernel) ⟨Nat.le_of_ble_eq_true rfl, Nat.le_of_ble_eq_true rfl⟩) (z_preV I [0, 1, 2, 3, 4, 5, 6, 7, 8, 9, 10, 11, 12, 13, 14] [0, 1, 2, 3, 4, 5, 6, 7, 8, 9] rfl rfl rfl rfl (ci := 9) (q0 := 0) rfl rfl) rfl rfl hl.1 rfl (lv_room (Nat.le_of_ble_eq_true rfl)) dX9_holds_9 ⟨Nat.le_of_ble_eq_true rfl, Nat.le_of_ble_eq_true rfl⟩) I [0, 1, 2, 3, 4, 5, 6, 7, 8, 9, 10, 11, 12, 13, 14] [] rfl rfl (by decide) (by decide) (fun u1 H locs hw1 I => ?_)
  obtain ⟨xf2, xf3, xf4, xf5, xf6, xf7, xf8, xf9, xf10, hu1, hp1⟩ := hw1
  subst hu1
  have I : z_I A dC dI [(h0, .inr (9, [.int 0, .ref xq1, .ref xq2, .ref xq3, .ref xq4, .ref xq5, .ref xq6, .ref xq7, .ref xq8, .ref xq9, .int 0, .int 0, .ref xq10, .ref xq11, .ref xq12, .ref xq13, .ref xq14, .ref xq15, .ref xq16, .ref xq17, .ref xq18, .ref xq19, .ref xq20, .ref xq21, .ref xq22, .ref xq23, .ref xq24, .ref xq25, .ref xq26, .long 0, .int 0, .int 0, .int 0, .int 0, .int 0, .ref xq27, .ref xq28, .ref xq29, .ref xq30, .ref xq31, .ref xq32, .ref xq33, .long 0])), (xq2, .inl (xc36, 4, .inl xf35)), (xq3, .inl (xc37, 4, .inl xf35)), (xq28, .inl (xc47, 5, .inr (.inr (.inr (.inr (va_up xf48 0 (some xq49))))))), (xq49, .inl (xc50, 5, .inr (.inr (.inr (.inr (va_up (va_up (va_up (va_up (va_up xf51 4 (some xq52)) 3 (some xq53)) 2 (some xq54)) 1 (some xq55)) 0 (some xq56))))))), (xq56, .inl (xc57, 4, .inr (.inl xf2))), (xq55, .inl (xc57, 4, .inr (.inl xf3))), (xq54, .inl (xc57, 4, .inr (.inl xf4))), (xq53, .inl (xc57, 4, .inr (.inl xf5))), (xq52, .inl (xc57, 4, .inr (.inl xf6))), (xq29, .inl (xc59, 5, .inl xf7)), (xq30, .inl (xc60, 4, .inl xf8)), (xq31, .inl (xc61, 4, .inl xf9)), (xq32, .inl (xc62, 5, .inr (.inr (.inr (.inr (va_up xf63 0 (some xq64))))))), (xq64, .inl (xc65, 4, .inl xf10))] [(xc36, .int), (xc37, .int), (xc47, .array (.array .long)), (xc50, .array .long), (xc57, .long), (xc59, .int), (xc60, .int), (xc61, .int), (xc62, .array .boolean), (xc65, .boolean)] s H _ := I
  refine lv_iconst (v := 0) hx hb dX9_holds_12 (by decide) ?_
  refine lv_istore_n (lv' := [(2, .int 0), (0, .ref h0), (1, .int 0)]) hx hb dX9_holds_13 rfl hl (by decide) rfl (fun ls hl => ?_)
  refine lv_iload_n hx hb dX9_holds_14 rfl (lv_at hl 0 rfl) ?_
  refine lv_aload_n hx hb dX9_holds_15 rfl (lv_at hl 1 rfl) ?_
  refine z_get (C := RX9) (T := TX9) (N := 43) (ci := 9) (v := .int 0) hx hb hg hown I iw_9 0 rfl rfl 11 (by decide) mw1271 rfl dX9_holds_16 ?_
  refine lv_icmp_ge (tgt := 42) hx hb dX9_holds_19 (by decide) (fun _ => ?_) (fun c9 => absurd c9 (by decide))
  refine lv_aload_n hx hb dX9_holds_42 rfl (lv_at hl 1 rfl) ?_
  refine lv_iconst (v := 0) hx hb dX9_holds_43 (by decide) ?_
  refine z_calli (wr := [(xq2, .inl (xc36, 4, .inl xf35)), (xq3, .inl (xc37, 4, .inl xf35)), (xq28, .inl (xc47, 5, .inr (.inr (.inr (.inr (va_up xf48 0 (some xq49))))))), (xq49, .inl (xc50, 5, .inr (.inr (.inr (.inr (va_up (va_up (va_up (va_up (va_up xf51 4 (some xq52)) 3 (some xq53)) 2 (some xq54)) 1 (some xq55)) 0 (some xq56))))))), (xq56, .inl (xc57, 4, .inr (.inl xf2))), (xq55, .inl (xc57, 4, .inr (.inl xf3))), (xq54, .inl (xc57, 4, .inr (.inl xf4))), (xq53, .inl (xc57, 4, .inr (.inl xf5))), (xq52, .inl (xc57, 4, .inr (.inl xf6))), (xq30, .inl (xc60, 4, .inl xf8)), (xq31, .inl (xc61, 4, .inl xf9)), (xq32, .inl (xc62, 5, .inr (.inr (.inr (.inr (va_up xf63 0 (some xq64))))))), (xq64, .inl (xc65, 4, .inl xf10))]) (va_runV (As := [.int 0]) (rest := []) ⟨hx, hb, hml, hown, hts⟩ (z_M_finds l dC dI xq1 xq2 xq3 xq4 xq5 xq6 xq7 xq8 xq9 xq10 xq11 xq12 xq13 xq14 xq15 xq16 xq17 xq18 xq19 xq20 xq21 xq22 xq23 xq24 xq25 xq26 xq27 xq28 xq29 xq30 xq31 xq32 xq33 xc59 xf7 h0 hp1 H.size) (cwV 1 hts (z_gV z_T.w mw1480 mw1482 mwp51 mw10 mw1483) rfl rfl rfl (by decide +kernel) ⟨Nat.le_of_ble_eq_true rfl, Nat.le_of_ble_eq_true rfl⟩) (z_preV I [0, 10] [5] rfl rfl rfl rfl (ci := 9) (q0 := 0) rfl rfl) rfl rfl hl.1 rfl (lv_room (Nat.le_of_ble_eq_true rfl)) dX9_holds_44 ⟨Nat.le_of_ble_eq_true rfl, Nat.le_of_ble_eq_true rfl⟩) I [0, 10] [1, 2, 3, 4, 5, 6, 7, 8, 9, 11, 12, 13, 14] rfl rfl (by decide) (by decide) (fun r11 u11 H locs hw11 I => ?_)
  obtain ⟨hu11, hp11⟩ := hw11
  subst hu11
  have I : z_I A dC dI [(xq2, .inl (xc36, 4, .inl xf35)), (xq3, .inl (xc37, 4, .inl xf35)), (xq28, .inl (xc47, 5, .inr (.inr (.inr (.inr (va_up xf48 0 (some xq49))))))), (xq49, .inl (xc50, 5, .inr (.inr (.inr (.inr (va_up (va_up (va_up (va_up (va_up xf51 4 (some xq52)) 3 (some xq53)) 2 (some xq54)) 1 (some xq55)) 0 (some xq56))))))), (xq56, .inl (xc57, 4, .inr (.inl xf2))), (xq55, .inl (xc57, 4, .inr (.inl xf3))), (xq54, .inl (xc57, 4, .inr (.inl xf4))), (xq53, .inl (xc57, 4, .inr (.inl xf5))), (xq52, .inl (xc57, 4, .inr (.inl xf6))), (xq30, .inl (xc60, 4, .inl xf8)), (xq31, .inl (xc61, 4, .inl xf9)), (xq32, .inl (xc62, 5, .inr (.inr (.inr (.inr (va_up xf63 0 (some xq64))))))), (xq64, .inl (xc65, 4, .inl xf10)), (xq29, .inl (xc59, 5, .inl xf7)), (h0, .inr (9, [.int 0, .ref xq1, .ref xq2, .ref xq3, .ref xq4, .ref xq5, .ref xq6, .ref xq7, .ref xq8, .ref xq9, .int 0, .int 0, .ref xq10, .ref xq11, .ref xq12, .ref xq13, .ref xq14, .ref xq15, .ref xq16, .ref xq17, .ref xq18, .ref xq19, .ref xq20, .ref xq21, .ref xq22, .ref xq23, .ref xq24, .ref xq25, .ref xq26, .long 0, .int 0, .int 0, .int 0, .int 0, .int 0, .ref xq27, .ref xq28, .ref xq29, .ref xq30, .ref xq31, .ref xq32, .ref xq33, .long 1]))] [(xc36, .int), (xc37, .int), (xc47, .array (.array .long)), (xc50, .array .long), (xc57, .long), (xc59, .int), (xc60, .int), (xc61, .int), (xc62, .array .boolean), (xc65, .boolean)] s H _ := I
  obtain rfl : r11 = 1 := hp11
  have I := I.sub (ws' := [(h0, .inr (9, [.int 0, .ref xq1, .ref xq2, .ref xq3, .ref xq4, .ref xq5, .ref xq6, .ref xq7, .ref xq8, .ref xq9, .int 0, .int 0, .ref xq10, .ref xq11, .ref xq12, .ref xq13, .ref xq14, .ref xq15, .ref xq16, .ref xq17, .ref xq18, .ref xq19, .ref xq20, .ref xq21, .ref xq22, .ref xq23, .ref xq24, .ref xq25, .ref xq26, .long 0, .int 0, .int 0, .int 0, .int 0, .int 0, .ref xq27, .ref xq28, .ref xq29, .ref xq30, .ref xq31, .ref xq32, .ref xq33, .long 1]))]) [14] rfl rfl rfl
  have I := I.subT (t' := []) [] rfl
  refine W.widen (k := 0) (n := 0) (Nat.le_of_ble_eq_true rfl) (Nat.le_of_ble_eq_true rfl) ?_
  exact z_zret hx hb hr hlocks rfl I ⟨rfl, rfl⟩ dX9_holds_47
set_option maxHeartbeats 4000000 in
set_option maxRecDepth 100000 in
theorem z_M_isSolution (l : Launch) (dC : Nat → ClassId) (dI : Nat → Nat → Nat) (xq1 : Nat) (xq2 : Nat) (xq3 : Nat) (xq4 : Nat) (xq5 : Nat) (xq6 : Nat) (xq7 : Nat) (xq8 : Nat) (xq9 : Nat) (xq10 : Nat) (xq11 : Nat) (xq12 : Nat) (xq13 : Nat) (xq14 : Nat) (xq15 : Nat) (xq16 : Nat) (xq17 : Nat) (xq18 : Nat) (xq19 : Nat) (xq20 : Nat) (xq21 : Nat) (xq22 : Nat) (xq23 : Nat) (xq24 : Nat) (xq25 : Nat) (xq26 : Nat) (xq27 : Nat) (xq28 : Nat) (xq29 : Nat) (xq30 : Nat) (xq31 : Nat) (xq32 : Nat) (xq33 : Nat) (wb : Int64) (h0 : Nat) (sz : Nat) : Met l yX9_isSolution (z_w yX9_isSolution cX9_isSolution 3 (some .boolean)) ({ frames := 8, cells := 0, slots := 0, locals := 140 }) (z_P dC dI [(h0, .inr (9, [.int 0, .ref xq1, .ref xq2, .ref xq3, .ref xq4, .ref xq5, .ref xq6, .ref xq7, .ref xq8, .ref xq9, .int 0, .int 0, .ref xq10, .ref xq11, .ref xq12, .ref xq13, .ref xq14, .ref xq15, .ref xq16, .ref xq17, .ref xq18, .ref xq19, .ref xq20, .ref xq21, .ref xq22, .ref xq23, .ref xq24, .ref xq25, .ref xq26, .long 0, .int 0, .int 0, .int 0, .int 0, .int 0, .ref xq27, .ref xq28, .ref xq29, .ref xq30, .ref xq31, .ref xq32, .ref xq33, .long wb]))] [] sz [.ref h0]) (va_Qi (fun (r : Int32) (u : va_W × List (ClassId × FieldType)) => u = ([(h0, .inr (9, [.int 0, .ref xq1, .ref xq2, .ref xq3, .ref xq4, .ref xq5, .ref xq6, .ref xq7, .ref xq8, .ref xq9, .int 0, .int 0, .ref xq10, .ref xq11, .ref xq12, .ref xq13, .ref xq14, .ref xq15, .ref xq16, .ref xq17, .ref xq18, .ref xq19, .ref xq20, .ref xq21, .ref xq22, .ref xq23, .ref xq24, .ref xq25, .ref xq26, .long 0, .int 0, .int 0, .int 0, .int 0, .int 0, .ref xq27, .ref xq28, .ref xq29, .ref xq30, .ref xq31, .ref xq32, .ref xq33, .long wb]))], []) ∧ r = 1) (z_B dC dI (va_A [(h0, .inr (9, [.int 0, .ref xq1, .ref xq2, .ref xq3, .ref xq4, .ref xq5, .ref xq6, .ref xq7, .ref xq8, .ref xq9, .int 0, .int 0, .ref xq10, .ref xq11, .ref xq12, .ref xq13, .ref xq14, .ref xq15, .ref xq16, .ref xq17, .ref xq18, .ref xq19, .ref xq20, .ref xq21, .ref xq22, .ref xq23, .ref xq24, .ref xq25, .ref xq26, .long 0, .int 0, .int 0, .int 0, .int 0, .int 0, .ref xq27, .ref xq28, .ref xq29, .ref xq30, .ref xq31, .ref xq32, .ref xq33, .long wb]))] sz)) (va_A [(h0, .inr (9, [.int 0, .ref xq1, .ref xq2, .ref xq3, .ref xq4, .ref xq5, .ref xq6, .ref xq7, .ref xq8, .ref xq9, .int 0, .int 0, .ref xq10, .ref xq11, .ref xq12, .ref xq13, .ref xq14, .ref xq15, .ref xq16, .ref xq17, .ref xq18, .ref xq19, .ref xq20, .ref xq21, .ref xq22, .ref xq23, .ref xq24, .ref xq25, .ref xq26, .long 0, .int 0, .int 0, .int 0, .int 0, .int 0, .ref xq27, .ref xq28, .ref xq29, .ref xq30, .ref xq31, .ref xq32, .ref xq33, .long wb]))] sz)) 0 0 (va_A [(h0, .inr (9, [.int 0, .ref xq1, .ref xq2, .ref xq3, .ref xq4, .ref xq5, .ref xq6, .ref xq7, .ref xq8, .ref xq9, .int 0, .int 0, .ref xq10, .ref xq11, .ref xq12, .ref xq13, .ref xq14, .ref xq15, .ref xq16, .ref xq17, .ref xq18, .ref xq19, .ref xq20, .ref xq21, .ref xq22, .ref xq23, .ref xq24, .ref xq25, .ref xq26, .long 0, .int 0, .int 0, .int 0, .int 0, .int 0, .ref xq27, .ref xq28, .ref xq29, .ref xq30, .ref xq31, .ref xq32, .ref xq33, .long wb]))] sz) := by
  refine Met.ofW (cc := cX9_isSolution) (maxL := 3) (ret := (some .boolean)) (by decide) rfl ?_
  intro p e s m args below meth c s₁ B hml hv
  obtain ⟨rfl, rfl, I⟩ := z_open hv
  have hx := B.exec
  have hb := B.bytes
  have hr := B.returns
  have hts := atoms_spec (ws := z_w yX9_isSolution cX9_isSolution 3 (some .boolean)) B.pre
  have hg : z_G _ s := z_G.of hts
  have hown : s.vm.findClass RX9 = some m.cls := findClass_of_methodNamed B.named
  have hlocks := B.notSynchronized
  generalize va_A [(h0, .inr (9, [.int 0, .ref xq1, .ref xq2, .ref xq3, .ref xq4, .ref xq5, .ref xq6, .ref xq7, .ref xq8, .ref xq9, .int 0, .int 0, .ref xq10, .ref xq11, .ref xq12, .ref xq13, .ref xq14, .ref xq15, .ref xq16, .ref xq17, .ref xq18, .ref xq19, .ref xq20, .ref xq21, .ref xq22, .ref xq23, .ref xq24, .ref xq25, .ref xq26, .long 0, .int 0, .int 0, .int 0, .int 0, .int 0, .ref xq27, .ref xq28, .ref xq29, .ref xq30, .ref xq31, .ref xq32, .ref xq33, .long wb]))] s.heap.size = A at I ⊢
  have hl := lv_entry ([.ref h0]) (n := 3) (Nat.le_of_ble_eq_true rfl)
  rw [lg_entry_eq]
  generalize (lg_sl ([.ref h0]) ++ List.replicate (3 - (lg_sl ([.ref h0])).length) Slot.unset).toArray = ls at hl ⊢
  have hl : lv_has ls 3 [(0, .ref h0)] := hl
  refine lv_iconst (v := 1) hx hb dX9_isSolution_0 (by decide) ?_
  refine lv_istore_n (lv' := [(1, .int 1), (0, .ref h0)]) hx hb dX9_isSolution_1 rfl hl (by decide) rfl (fun ls hl => ?_)
  refine lv_iconst (v := 0) hx hb dX9_isSolution_2 (by decide) ?_
  refine lv_istore_n (lv' := [(2, .int 0), (1, .int 1), (0, .ref h0)]) hx hb dX9_isSolution_3 rfl hl (by decide) rfl (fun ls hl => ?_)
  refine lv_iload_n hx hb dX9_isSolution_4 rfl (lv_at hl 0 rfl) ?_
  refine lv_aload_n hx hb dX9_isSolution_5 rfl (lv_at hl 2 rfl) ?_
  refine z_get (C := RX9) (T := TX9) (N := 43) (ci := 9) (v := .int 0) hx hb hg hown I iw_9 0 rfl rfl 10 (by decide) mw1270 rfl dX9_isSolution_6 ?_
  refine lv_icmp_ge (tgt := 78) hx hb dX9_isSolution_9 (by decide) (fun _ => ?_) (fun c9 => absurd c9 (by decide))
  refine lv_iconst (v := 0) hx hb dX9_isSolution_78 (by decide) ?_
  refine lv_istore_n (lv' := [(2, .int 0), (1, .int 1), (0, .ref h0)]) hx hb dX9_isSolution_79 rfl hl (by decide) rfl (fun ls hl => ?_)
  refine lv_iload_n hx hb dX9_isSolution_80 rfl (lv_at hl 0 rfl) ?_
  refine lv_aload_n hx hb dX9_isSolution_81 rfl (lv_at hl 2 rfl) ?_
  refine z_get (C := RX9) (T := TX9) (N := 43) (ci := 9) (v := .int 0) hx hb hg hown I iw_9 0 rfl rfl 11 (by decide) mw1271 rfl dX9_isSolution_82 ?_
  refine lv_icmp_ge (tgt := 110) hx hb dX9_isSolution_85 (by decide) (fun _ => ?_) (fun c9 => absurd c9 (by decide))
  refine lv_iload_n hx hb dX9_isSolution_110 rfl (lv_at hl 1 rfl) ?_
  have I := I.subT (t' := []) [] rfl
  refine W.widen (k := 0) (n := 0) (Nat.le_of_ble_eq_true rfl) (Nat.le_of_ble_eq_true rfl) ?_
  exact z_zret hx hb hr hlocks rfl I ⟨rfl, rfl⟩ dX9_isSolution_111
set_option maxHeartbeats 4000000 in
set_option maxRecDepth 100000 in
theorem z_M_top (l : Launch) (dC : Nat → ClassId) (dI : Nat → Nat → Nat) (xq1 : Nat) (xq2 : Nat) (xq3 : Nat) (xq4 : Nat) (xq5 : Nat) (xq6 : Nat) (xq7 : Nat) (xq8 : Nat) (xq9 : Nat) (xq10 : Nat) (xq11 : Nat) (xq12 : Nat) (xq13 : Nat) (xq14 : Nat) (xq15 : Nat) (xq16 : Nat) (xq17 : Nat) (xq18 : Nat) (xq19 : Nat) (xq20 : Nat) (xq21 : Nat) (xq22 : Nat) (xq23 : Nat) (xq24 : Nat) (xq25 : Nat) (xq26 : Nat) (xq27 : Nat) (xq28 : Nat) (xq29 : Nat) (xq30 : Nat) (xq31 : Nat) (xq32 : Nat) (xq33 : Nat) (wb : Int64) (h0 : Nat) (sz : Nat) : Met l yX9_top (z_w yX9_top cX9_top 5 (some .long)) ({ frames := 8, cells := 0, slots := 0, locals := 140 }) (z_P dC dI [(h0, .inr (9, [.int 0, .ref xq1, .ref xq2, .ref xq3, .ref xq4, .ref xq5, .ref xq6, .ref xq7, .ref xq8, .ref xq9, .int 0, .int 0, .ref xq10, .ref xq11, .ref xq12, .ref xq13, .ref xq14, .ref xq15, .ref xq16, .ref xq17, .ref xq18, .ref xq19, .ref xq20, .ref xq21, .ref xq22, .ref xq23, .ref xq24, .ref xq25, .ref xq26, .long 0, .int 0, .int 0, .int 0, .int 0, .int 0, .ref xq27, .ref xq28, .ref xq29, .ref xq30, .ref xq31, .ref xq32, .ref xq33, .long wb]))] [] sz [.ref h0, .ref xq33]) (va_Ql (fun (r : Int64) (u : va_W × List (ClassId × FieldType)) => u = ([(h0, .inr (9, [.int 0, .ref xq1, .ref xq2, .ref xq3, .ref xq4, .ref xq5, .ref xq6, .ref xq7, .ref xq8, .ref xq9, .int 0, .int 0, .ref xq10, .ref xq11, .ref xq12, .ref xq13, .ref xq14, .ref xq15, .ref xq16, .ref xq17, .ref xq18, .ref xq19, .ref xq20, .ref xq21, .ref xq22, .ref xq23, .ref xq24, .ref xq25, .ref xq26, .long 0, .int 0, .int 0, .int 0, .int 0, .int 0, .ref xq27, .ref xq28, .ref xq29, .ref xq30, .ref xq31, .ref xq32, .ref xq33, .long wb]))], []) ∧ r = 0) (z_B dC dI (va_A [(h0, .inr (9, [.int 0, .ref xq1, .ref xq2, .ref xq3, .ref xq4, .ref xq5, .ref xq6, .ref xq7, .ref xq8, .ref xq9, .int 0, .int 0, .ref xq10, .ref xq11, .ref xq12, .ref xq13, .ref xq14, .ref xq15, .ref xq16, .ref xq17, .ref xq18, .ref xq19, .ref xq20, .ref xq21, .ref xq22, .ref xq23, .ref xq24, .ref xq25, .ref xq26, .long 0, .int 0, .int 0, .int 0, .int 0, .int 0, .ref xq27, .ref xq28, .ref xq29, .ref xq30, .ref xq31, .ref xq32, .ref xq33, .long wb]))] sz)) (va_A [(h0, .inr (9, [.int 0, .ref xq1, .ref xq2, .ref xq3, .ref xq4, .ref xq5, .ref xq6, .ref xq7, .ref xq8, .ref xq9, .int 0, .int 0, .ref xq10, .ref xq11, .ref xq12, .ref xq13, .ref xq14, .ref xq15, .ref xq16, .ref xq17, .ref xq18, .ref xq19, .ref xq20, .ref xq21, .ref xq22, .ref xq23, .ref xq24, .ref xq25, .ref xq26, .long 0, .int 0, .int 0, .int 0, .int 0, .int 0, .ref xq27, .ref xq28, .ref xq29, .ref xq30, .ref xq31, .ref xq32, .ref xq33, .long wb]))] sz)) 0 0 (va_A [(h0, .inr (9, [.int 0, .ref xq1, .ref xq2, .ref xq3, .ref xq4, .ref xq5, .ref xq6, .ref xq7, .ref xq8, .ref xq9, .int 0, .int 0, .ref xq10, .ref xq11, .ref xq12, .ref xq13, .ref xq14, .ref xq15, .ref xq16, .ref xq17, .ref xq18, .ref xq19, .ref xq20, .ref xq21, .ref xq22, .ref xq23, .ref xq24, .ref xq25, .ref xq26, .long 0, .int 0, .int 0, .int 0, .int 0, .int 0, .ref xq27, .ref xq28, .ref xq29, .ref xq30, .ref xq31, .ref xq32, .ref xq33, .long wb]))] sz) := by
  refine Met.ofW (cc := cX9_top) (maxL := 5) (ret := (some .long)) (by decide) rfl ?_
  intro p e s m args below meth c s₁ B hml hv
  obtain ⟨rfl, rfl, I⟩ := z_open hv
  have hx := B.exec
  have hb := B.bytes
  have hr := B.returns
  have hts := atoms_spec (ws := z_w yX9_top cX9_top 5 (some .long)) B.pre
  have hg : z_G _ s := z_G.of hts
  have hown : s.vm.findClass RX9 = some m.cls := findClass_of_methodNamed B.named
  have hlocks := B.notSynchronized
  generalize va_A [(h0, .inr (9, [.int 0, .ref xq1, .ref xq2, .ref xq3, .ref xq4, .ref xq5, .ref xq6, .ref xq7, .ref xq8, .ref xq9, .int 0, .int 0, .ref xq10, .ref xq11, .ref xq12, .ref xq13, .ref xq14, .ref xq15, .ref xq16, .ref xq17, .ref xq18, .ref xq19, .ref xq20, .ref xq21, .ref xq22, .ref xq23, .ref xq24, .ref xq25, .ref xq26, .long 0, .int 0, .int 0, .int 0, .int 0, .int 0, .ref xq27, .ref xq28, .ref xq29, .ref xq30, .ref xq31, .ref xq32, .ref xq33, .long wb]))] s.heap.size = A at I ⊢
  have hl := lv_entry ([.ref h0, .ref xq33]) (n := 5) (Nat.le_of_ble_eq_true rfl)
  rw [lg_entry_eq]
  generalize (lg_sl ([.ref h0, .ref xq33]) ++ List.replicate (5 - (lg_sl ([.ref h0, .ref xq33])).length) Slot.unset).toArray = ls at hl ⊢
  have hl : lv_has ls 5 [(0, .ref h0), (1, .ref xq33)] := hl
  refine lv_lconst (v := 0) hx hb dX9_top_0 (by decide) ?_
  refine lv_lstore_n (lv' := [(2, .long 0), (0, .ref h0), (1, .ref xq33)]) hx hb dX9_top_1 rfl hl (by decide) rfl (fun ls hl => ?_)
  refine lv_iconst (v := 0) hx hb dX9_top_2 (by decide) ?_
  refine lv_istore (lv' := [(4, .int 0), (2, .long 0), (0, .ref h0), (1, .ref xq33)]) hx hb dX9_top_3 hl (by decide) rfl (fun ls hl => ?_)
  refine lv_iload hx hb dX9_top_5 (lv_at hl 0 rfl) ?_
  refine lv_aload_n hx hb dX9_top_7 rfl (lv_at hl 2 rfl) ?_
  refine z_get (C := RX9) (T := TX9) (N := 43) (ci := 9) (v := .int 0) hx hb hg hown I iw_9 0 rfl rfl 10 (by decide) mw1270 rfl dX9_top_8 ?_
  refine lv_icmp_ge (tgt := 36) hx hb dX9_top_11 (by decide) (fun _ => ?_) (fun c9 => absurd c9 (by decide))
  refine lv_lload_n hx hb dX9_top_36 rfl (lv_at hl 1 rfl) ?_
  have I := I.subT (t' := []) [] rfl
  refine W.widen (k := 0) (n := 0) (Nat.le_of_ble_eq_true rfl) (Nat.le_of_ble_eq_true rfl) ?_
  exact z_lret hx hb hr hlocks I ⟨rfl, rfl⟩ dX9_top_37
