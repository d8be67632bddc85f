/-! the reference's public methods whose answers hang on the arguments -/
section ZM
variable {p : Program} {l : Launch} {e : Env} {R : Room} {s : State} {m : MethodId} {args : Array Value} {below : List Frame} {meth : Method} {c : Code} {H : Heap} {locs : List Loc} {cells slots : Nat} {Q : State → Prop}
variable {ls : Array Slot} {rest : List Value} {A : Nat → Prop} {tys : List (ClassId × FieldType)} {ws : va_W} {dC : Nat → ClassId} {dI : Nat → Nat → Nat}
theorem z_mergeI {M : Nat} {P : Int32 → Prop} {g : JFrame} (J : ∀ (v : Int32) (H : Heap) (locs : List Loc), P v → z_I A dC dI ws tys s H locs → W p l e R s m args below meth c H locs cells slots Q (F0 m M ls (.int v :: rest))) (k : (∀ (v : Int32) (H : Heap) (locs : List Loc), P v → z_I A dC dI ws tys s H locs → W p l e R s m args below meth c H locs cells slots Q (F0 m M ls (.int v :: rest))) → W p l e R s m args below meth c H locs cells slots Q g) : W p l e R s m args below meth c H locs cells slots Q g := k J
end ZM
set_option maxHeartbeats 4000000 in
set_option maxRecDepth 100000 in
theorem z_M_addColumn (l : Launch) (dC : Nat → ClassId) (dI : Nat → Nat → Nat) (xq1 : Nat) (xq2 : Nat) (xq3 : Nat) (xq4 : Nat) (xq5 : Nat) (xq6 : Nat) (xq7 : Nat) (xq8 : Nat) (xq9 : Nat) (xq10 : Nat) (xq11 : Nat) (xq12 : Nat) (xq13 : Nat) (xq14 : Nat) (xq15 : Nat) (xq16 : Nat) (xq17 : Nat) (xq18 : Nat) (xq19 : Nat) (xq20 : Nat) (xq21 : Nat) (xq22 : Nat) (xq23 : Nat) (xq24 : Nat) (xq25 : Nat) (xq26 : Nat) (xq27 : Nat) (xq28 : Nat) (xq29 : Nat) (xq30 : Nat) (xq31 : Nat) (xq32 : Nat) (xq33 : Nat) (xc34 : ClassId) (xf35 : Nat → Int32) (xc36 : ClassId) (xc37 : ClassId) (xc38 : ClassId) (xc39 : ClassId) (xc41 : ClassId) (h0 : Nat) (p0 : Int32) (p1 : Int32) (p2 : Int32) (p3 : Int32) (sz : Nat) : Met l yX9_addColumn (z_w yX9_addColumn cX9_addColumn 5 (some .int)) ({ frames := 10, cells := 0, slots := 0, locals := 200 }) (z_P dC dI [(h0, .inr (9, [.int 0, .ref xq1, .ref xq2, .ref xq3, .ref xq4, .ref xq5, .ref xq6, .ref xq7, .ref xq8, .ref xq9, .int 0, .int 0, .ref xq10, .ref xq11, .ref xq12, .ref xq13, .ref xq14, .ref xq15, .ref xq16, .ref xq17, .ref xq18, .ref xq19, .ref xq20, .ref xq21, .ref xq22, .ref xq23, .ref xq24, .ref xq25, .ref xq26, .long 0, .int 0, .int 0, .int 0, .int 0, .int 0, .ref xq27, .ref xq28, .ref xq29, .ref xq30, .ref xq31, .ref xq32, .ref xq33, .long 0])), (xq1, .inl (xc34, 4, .inl xf35)), (xq2, .inl (xc36, 4, .inl xf35)), (xq3, .inl (xc37, 4, .inl xf35)), (xq4, .inl (xc38, 4, .inl xf35)), (xq5, .inl (xc39, 4, .inl xf35)), (xq7, .inl (xc41, 4, .inl xf35))] [(xc34, .int), (xc36, .int), (xc37, .int), (xc38, .int), (xc39, .int), (xc41, .boolean)] sz [.ref h0, .int p0, .int p1, .int p2, .int p3]) (va_Qi (fun (r : Int32) (u : va_W × List (ClassId × FieldType)) => ∃ (y0 : Int32) (y10 : Int32), u = ([(h0, .inr (9, [.int y0, .ref xq1, .ref xq2, .ref xq3, .ref xq4, .ref xq5, .ref xq6, .ref xq7, .ref xq8, .ref xq9, .int y10, .int 0, .ref xq10, .ref xq11, .ref xq12, .ref xq13, .ref xq14, .ref xq15, .ref xq16, .ref xq17, .ref xq18, .ref xq19, .ref xq20, .ref xq21, .ref xq22, .ref xq23, .ref xq24, .ref xq25, .ref xq26, .long 0, .int 0, .int 0, .int 0, .int 0, .int 0, .ref xq27, .ref xq28, .ref xq29, .ref xq30, .ref xq31, .ref xq32, .ref xq33, .long 0]))], []) ∧ r = 0 ∧ y0 = z_cAC p0 p1 p2) (z_B dC dI (va_A [(h0, .inr (9, [.int 0, .ref xq1, .ref xq2, .ref xq3, .ref xq4, .ref xq5, .ref xq6, .ref xq7, .ref xq8, .ref xq9, .int 0, .int 0, .ref xq10, .ref xq11, .ref xq12, .ref xq13, .ref xq14, .ref xq15, .ref xq16, .ref xq17, .ref xq18, .ref xq19, .ref xq20, .ref xq21, .ref xq22, .ref xq23, .ref xq24, .ref xq25, .ref xq26, .long 0, .int 0, .int 0, .int 0, .int 0, .int 0, .ref xq27, .ref xq28, .ref xq29, .ref xq30, .ref xq31, .ref xq32, .ref xq33, .long 0])), (xq1, .inl (xc34, 4, .inl xf35)), (xq2, .inl (xc36, 4, .inl xf35)), (xq3, .inl (xc37, 4, .inl xf35)), (xq4, .inl (xc38, 4, .inl xf35)), (xq5, .inl (xc39, 4, .inl xf35)), (xq7, .inl (xc41, 4, .inl xf35))] sz)) (va_A [(h0, .inr (9, [.int 0, .ref xq1, .ref xq2, .ref xq3, .ref xq4, .ref xq5, .ref xq6, .ref xq7, .ref xq8, .ref xq9, .int 0, .int 0, .ref xq10, .ref xq11, .ref xq12, .ref xq13, .ref xq14, .ref xq15, .ref xq16, .ref xq17, .ref xq18, .ref xq19, .ref xq20, .ref xq21, .ref xq22, .ref xq23, .ref xq24, .ref xq25, .ref xq26, .long 0, .int 0, .int 0, .int 0, .int 0, .int 0, .ref xq27, .ref xq28, .ref xq29, .ref xq30, .ref xq31, .ref xq32, .ref xq33, .long 0])), (xq1, .inl (xc34, 4, .inl xf35)), (xq2, .inl (xc36, 4, .inl xf35)), (xq3, .inl (xc37, 4, .inl xf35)), (xq4, .inl (xc38, 4, .inl xf35)), (xq5, .inl (xc39, 4, .inl xf35)), (xq7, .inl (xc41, 4, .inl xf35))] sz)) 0 0 (va_A [(h0, .inr (9, [.int 0, .ref xq1, .ref xq2, .ref xq3, .ref xq4, .ref xq5, .ref xq6, .ref xq7, .ref xq8, .ref xq9, .int 0, .int 0, .ref xq10, .ref xq11, .ref xq12, .ref xq13, .ref xq14, .ref xq15, .ref xq16, .ref xq17, .ref xq18, .ref xq19, .ref xq20, .ref xq21, .ref xq22, .ref xq23, .ref xq24, .ref xq25, .ref xq26, .long 0, .int 0, .int 0, .int 0, .int 0, .int 0, .ref xq27, .ref xq28, .ref xq29, .ref xq30, .ref xq31, .ref xq32, .ref xq33, .long 0])), (xq1, .inl (xc34, 4, .inl xf35)), (xq2, .inl (xc36, 4, .inl xf35)), (xq3, .inl (xc37, 4, .inl xf35)), (xq4, .inl (xc38, 4, .inl xf35)), (xq5, .inl (xc39, 4, .inl xf35)), (xq7, .inl (xc41, 4, .inl xf35))] sz) := by
  refine Met.ofW (cc := cX9_addColumn) (maxL := 5) (ret := (some .int)) (by decide) rfl ?_
  intro p e s m args below meth c s₁ B hml hv
  obtain ⟨rfl, rfl, I⟩ := z_open hv
  have hx := B.exec
  have hb := B.bytes
  have hr := B.returns
  have hts := atoms_spec (ws := z_w yX9_addColumn cX9_addColumn 5 (some .int)) B.pre
  have hg : z_G _ s := z_G.of hts
  have hown : s.vm.findClass RX9 = some m.cls := findClass_of_methodNamed B.named
  have hlocks := B.notSynchronized
  generalize va_A [(h0, .inr (9, [.int 0, .ref xq1, .ref xq2, .ref xq3, .ref xq4, .ref xq5, .ref xq6, .ref xq7, .ref xq8, .ref xq9, .int 0, .int 0, .ref xq10, .ref xq11, .ref xq12, .ref xq13, .ref xq14, .ref xq15, .ref xq16, .ref xq17, .ref xq18, .ref xq19, .ref xq20, .ref xq21, .ref xq22, .ref xq23, .ref xq24, .ref xq25, .ref xq26, .long 0, .int 0, .int 0, .int 0, .int 0, .int 0, .ref xq27, .ref xq28, .ref xq29, .ref xq30, .ref xq31, .ref xq32, .ref xq33, .long 0])), (xq1, .inl (xc34, 4, .inl xf35)), (xq2, .inl (xc36, 4, .inl xf35)), (xq3, .inl (xc37, 4, .inl xf35)), (xq4, .inl (xc38, 4, .inl xf35)), (xq5, .inl (xc39, 4, .inl xf35)), (xq7, .inl (xc41, 4, .inl xf35))] s.heap.size = A at I ⊢
  have hl := lv_entry ([.ref h0, .int p0, .int p1, .int p2, .int p3]) (n := 5) (Nat.le_of_ble_eq_true rfl)
  rw [lg_entry_eq]
  generalize (lg_sl ([.ref h0, .int p0, .int p1, .int p2, .int p3]) ++ List.replicate (5 - (lg_sl ([.ref h0, .int p0, .int p1, .int p2, .int p3])).length) Slot.unset).toArray = ls at hl ⊢
  have hl : lv_has ls 5 [(0, .ref h0), (1, .int p0), (2, .int p1), (3, .int p2), (4, .int p3)] := hl
  refine lv_aload_n hx hb dX9_addColumn_0 rfl (lv_at hl 0 rfl) ?_
  refine lv_iconst (v := 0) hx hb dX9_addColumn_1 (by decide) ?_
  refine z_put (C := RX9) (T := TX9) (N := 43) (ci := 9) (v := .int 0) hx hb hg hown I iw_9 tyX9 tyX9_ok nmX9 0 rfl rfl 0 (by decide) mw1260 rfl rfl rfl (Nat.le_of_ble_eq_true rfl) dX9_addColumn_2 [(h0, .inr (9, [.int 0, .ref xq1, .ref xq2, .ref xq3, .ref xq4, .ref xq5, .ref xq6, .ref xq7, .ref xq8, .ref xq9, .int 0, .int 0, .ref xq10, .ref xq11, .ref xq12, .ref xq13, .ref xq14, .ref xq15, .ref xq16, .ref xq17, .ref xq18, .ref xq19, .ref xq20, .ref xq21, .ref xq22, .ref xq23, .ref xq24, .ref xq25, .ref xq26, .long 0, .int 0, .int 0, .int 0, .int 0, .int 0, .ref xq27, .ref xq28, .ref xq29, .ref xq30, .ref xq31, .ref xq32, .ref xq33, .long 0])), (xq1, .inl (xc34, 4, .inl xf35)), (xq2, .inl (xc36, 4, .inl xf35)), (xq3, .inl (xc37, 4, .inl xf35)), (xq4, .inl (xc38, 4, .inl xf35)), (xq5, .inl (xc39, 4, .inl xf35)), (xq7, .inl (xc41, 4, .inl xf35))] rfl (fun H locs I => ?_)
  refine lv_iload_n hx hb dX9_addColumn_5 rfl (lv_at hl 1 rfl) ?_
  refine lv_bipush (v := (-9)) hx hb dX9_addColumn_6 (by decide) ?_
  refine lv_bipush (v := 9) hx hb dX9_addColumn_8 (by decide) ?_
  refine z_calli (wr := [(h0, .inr (9, [.int 0, .ref xq1, .ref xq2, .ref xq3, .ref xq4, .ref xq5, .ref xq6, .ref xq7, .ref xq8, .ref xq9, .int 0, .int 0, .ref xq10, .ref xq11, .ref xq12, .ref xq13, .ref xq14, .ref xq15, .ref xq16, .ref xq17, .ref xq18, .ref xq19, .ref xq20, .ref xq21, .ref xq22, .ref xq23, .ref xq24, .ref xq25, .ref xq26, .long 0, .int 0, .int 0, .int 0, .int 0, .int 0, .ref xq27, .ref xq28, .ref xq29, .ref xq30, .ref xq31, .ref xq32, .ref xq33, .long 0])), (xq1, .inl (xc34, 4, .inl xf35)), (xq2, .inl (xc36, 4, .inl xf35)), (xq3, .inl (xc37, 4, .inl xf35)), (xq4, .inl (xc38, 4, .inl xf35)), (xq5, .inl (xc39, 4, .inl xf35)), (xq7, .inl (xc41, 4, .inl xf35))]) (va_runS (As := [.int p0, .int (-9), .int 9]) (rest := []) ⟨hx, hb, hml, hown, hts⟩ (z_M_isBetween l dC dI p0 (-9) 9  H.size) (va_cwS 3 hts (z_gS z_T.w mw1399 mw1400 mw10 mw1401) rfl rfl rfl (by decide +kernel) ⟨Nat.le_of_ble_eq_true rfl, Nat.le_of_ble_eq_true rfl⟩) (z_pre I [] [] rfl rfl rfl rfl) rfl rfl hl.1 rfl (lv_room (Nat.le_of_ble_eq_true rfl)) dX9_addColumn_10 ⟨Nat.le_of_ble_eq_true rfl, Nat.le_of_ble_eq_true rfl⟩) I [] [0, 1, 2, 3, 4, 5, 6] rfl rfl (by decide) (by decide) (fun r1 u1 H locs hw1 I => ?_)
  obtain ⟨hu1, hp1⟩ := hw1
  subst hu1
  have I : z_I A dC dI [(h0, .inr (9, [.int 0, .ref xq1, .ref xq2, .ref xq3, .ref xq4, .ref xq5, .ref xq6, .ref xq7, .ref xq8, .ref xq9, .int 0, .int 0, .ref xq10, .ref xq11, .ref xq12, .ref xq13, .ref xq14, .ref xq15, .ref xq16, .ref xq17, .ref xq18, .ref xq19, .ref xq20, .ref xq21, .ref xq22, .ref xq23, .ref xq24, .ref xq25, .ref xq26, .long 0, .int 0, .int 0, .int 0, .int 0, .int 0, .ref xq27, .ref xq28, .ref xq29, .ref xq30, .ref xq31, .ref xq32, .ref xq33, .long 0])), (xq1, .inl (xc34, 4, .inl xf35)), (xq2, .inl (xc36, 4, .inl xf35)), (xq3, .inl (xc37, 4, .inl xf35)), (xq4, .inl (xc38, 4, .inl xf35)), (xq5, .inl (xc39, 4, .inl xf35)), (xq7, .inl (xc41, 4, .inl xf35))] [(xc34, .int), (xc36, .int), (xc37, .int), (xc38, .int), (xc39, .int), (xc41, .boolean)] s H _ := I
  refine lv_if_eq (tgt := 37) hx hb dX9_addColumn_13 (by decide) (fun c2 => ?_) (fun c2 => ?_)
  · skip
    refine lv_aload_n hx hb dX9_addColumn_37 rfl (lv_at hl 0 rfl) ?_
    refine lv_iconst (v := 1) hx hb dX9_addColumn_38 (by decide) ?_
    refine z_calli (wr := [(xq1, .inl (xc34, 4, .inl xf35)), (xq2, .inl (xc36, 4, .inl xf35)), (xq3, .inl (xc37, 4, .inl xf35)), (xq4, .inl (xc38, 4, .inl xf35)), (xq5, .inl (xc39, 4, .inl xf35)), (xq7, .inl (xc41, 4, .inl xf35))]) (va_runV (As := [.int 1]) (rest := []) ⟨hx, hb, hml, hown, hts⟩ (z_M_fails l dC dI 0 xq1 xq2 xq3 xq4 xq5 xq6 xq7 xq8 xq9 0 0 xq10 xq11 xq12 xq13 xq14 xq15 xq16 xq17 xq18 xq19 xq20 xq21 xq22 xq23 xq24 xq25 xq26 0 0 0 0 0 0 xq27 xq28 xq29 xq30 xq31 xq32 xq33 0 h0 1  H.size) (cwV 1 hts (z_gV z_T.w mw1402 mw1404 mwp39 mw10 mw1405) rfl rfl rfl (by decide +kernel) ⟨Nat.le_of_ble_eq_true rfl, Nat.le_of_ble_eq_true rfl⟩) (z_preV I [0] [] rfl rfl rfl rfl (ci := 9) (q0 := 0) rfl rfl) rfl rfl hl.1 rfl (lv_room (Nat.le_of_ble_eq_true rfl)) dX9_addColumn_39 ⟨Nat.le_of_ble_eq_true rfl, Nat.le_of_ble_eq_true rfl⟩) I [0] [1, 2, 3, 4, 5, 6] rfl rfl (by decide) (by decide) (fun r3 u3 H locs hw3 I => ?_)
    obtain ⟨hu3, hp3⟩ := hw3
    subst hu3
    have I : z_I A dC dI [(xq1, .inl (xc34, 4, .inl xf35)), (xq2, .inl (xc36, 4, .inl xf35)), (xq3, .inl (xc37, 4, .inl xf35)), (xq4, .inl (xc38, 4, .inl xf35)), (xq5, .inl (xc39, 4, .inl xf35)), (xq7, .inl (xc41, 4, .inl xf35)), (h0, .inr (9, [.int 1, .ref xq1, .ref xq2, .ref xq3, .ref xq4, .ref xq5, .ref xq6, .ref xq7, .ref xq8, .ref xq9, .int 0, .int 0, .ref xq10, .ref xq11, .ref xq12, .ref xq13, .ref xq14, .ref xq15, .ref xq16, .ref xq17, .ref xq18, .ref xq19, .ref xq20, .ref xq21, .ref xq22, .ref xq23, .ref xq24, .ref xq25, .ref xq26, .long 0, .int 0, .int 0, .int 0, .int 0, .int 0, .ref xq27, .ref xq28, .ref xq29, .ref xq30, .ref xq31, .ref xq32, .ref xq33, .long 0]))] [(xc34, .int), (xc36, .int), (xc37, .int), (xc38, .int), (xc39, .int), (xc41, .boolean)] s H _ := I
    obtain rfl : r3 = 0 := hp3
    have I := I.sub (ws' := [(h0, .inr (9, [.int 1, .ref xq1, .ref xq2, .ref xq3, .ref xq4, .ref xq5, .ref xq6, .ref xq7, .ref xq8, .ref xq9, .int 0, .int 0, .ref xq10, .ref xq11, .ref xq12, .ref xq13, .ref xq14, .ref xq15, .ref xq16, .ref xq17, .ref xq18, .ref xq19, .ref xq20, .ref xq21, .ref xq22, .ref xq23, .ref xq24, .ref xq25, .ref xq26, .long 0, .int 0, .int 0, .int 0, .int 0, .int 0, .ref xq27, .ref xq28, .ref xq29, .ref xq30, .ref xq31, .ref xq32, .ref xq33, .long 0]))]) [6] rfl rfl rfl
    have I := I.subT (t' := []) [] rfl
    refine W.widen (k := 0) (n := 0) (Nat.le_of_ble_eq_true rfl) (Nat.le_of_ble_eq_true rfl) ?_
    exact z_iret hx hb hr hlocks I ⟨1, 0, rfl, rfl, (by simp [z_cAC, ← hp1, c2])⟩ dX9_addColumn_42
  · skip
    refine lv_iload_n hx hb dX9_addColumn_16 rfl (lv_at hl 2 rfl) ?_
    refine lv_bipush (v := (-9)) hx hb dX9_addColumn_17 (by decide) ?_
    refine lv_bipush (v := 9) hx hb dX9_addColumn_19 (by decide) ?_
    refine z_calli (wr := [(h0, .inr (9, [.int 0, .ref xq1, .ref xq2, .ref xq3, .ref xq4, .ref xq5, .ref xq6, .ref xq7, .ref xq8, .ref xq9, .int 0, .int 0, .ref xq10, .ref xq11, .ref xq12, .ref xq13, .ref xq14, .ref xq15, .ref xq16, .ref xq17, .ref xq18, .ref xq19, .ref xq20, .ref xq21, .ref xq22, .ref xq23, .ref xq24, .ref xq25, .ref xq26, .long 0, .int 0, .int 0, .int 0, .int 0, .int 0, .ref xq27, .ref xq28, .ref xq29, .ref xq30, .ref xq31, .ref xq32, .ref xq33, .long 0])), (xq1, .inl (xc34, 4, .inl xf35)), (xq2, .inl (xc36, 4, .inl xf35)), (xq3, .inl (xc37, 4, .inl xf35)), (xq4, .inl (xc38, 4, .inl xf35)), (xq5, .inl (xc39, 4, .inl xf35)), (xq7, .inl (xc41, 4, .inl xf35))]) (va_runS (As := [.int p1, .int (-9), .int 9]) (rest := []) ⟨hx, hb, hml, hown, hts⟩ (z_M_isBetween l dC dI p1 (-9) 9  H.size) (va_cwS 3 hts (z_gS z_T.w mw1399 mw1400 mw10 mw1401) rfl rfl rfl (by decide +kernel) ⟨Nat.le_of_ble_eq_true rfl, Nat.le_of_ble_eq_true rfl⟩) (z_pre I [] [] rfl rfl rfl rfl) rfl rfl hl.1 rfl (lv_room (Nat.le_of_ble_eq_true rfl)) dX9_addColumn_21 ⟨Nat.le_of_ble_eq_true rfl, Nat.le_of_ble_eq_true rfl⟩) I [] [0, 1, 2, 3, 4, 5, 6] rfl rfl (by decide) (by decide) (fun r4 u4 H locs hw4 I => ?_)
    obtain ⟨hu4, hp4⟩ := hw4
    subst hu4
    have I : z_I A dC dI [(h0, .inr (9, [.int 0, .ref xq1, .ref xq2, .ref xq3, .ref xq4, .ref xq5, .ref xq6, .ref xq7, .ref xq8, .ref xq9, .int 0, .int 0, .ref xq10, .ref xq11, .ref xq12, .ref xq13, .ref xq14, .ref xq15, .ref xq16, .ref xq17, .ref xq18, .ref xq19, .ref xq20, .ref xq21, .ref xq22, .ref xq23, .ref xq24, .ref xq25, .ref xq26, .long 0, .int 0, .int 0, .int 0, .int 0, .int 0, .ref xq27, .ref xq28, .ref xq29, .ref xq30, .ref xq31, .ref xq32, .ref xq33, .long 0])), (xq1, .inl (xc34, 4, .inl xf35)), (xq2, .inl (xc36, 4, .inl xf35)), (xq3, .inl (xc37, 4, .inl xf35)), (xq4, .inl (xc38, 4, .inl xf35)), (xq5, .inl (xc39, 4, .inl xf35)), (xq7, .inl (xc41, 4, .inl xf35))] [(xc34, .int), (xc36, .int), (xc37, .int), (xc38, .int), (xc39, .int), (xc41, .boolean)] s H _ := I
    refine lv_if_eq (tgt := 37) hx hb dX9_addColumn_24 (by decide) (fun c5 => ?_) (fun c5 => ?_)
    · skip
      refine lv_aload_n hx hb dX9_addColumn_37 rfl (lv_at hl 0 rfl) ?_
      refine lv_iconst (v := 1) hx hb dX9_addColumn_38 (by decide) ?_
      refine z_calli (wr := [(xq1, .inl (xc34, 4, .inl xf35)), (xq2, .inl (xc36, 4, .inl xf35)), (xq3, .inl (xc37, 4, .inl xf35)), (xq4, .inl (xc38, 4, .inl xf35)), (xq5, .inl (xc39, 4, .inl xf35)), (xq7, .inl (xc41, 4, .inl xf35))]) (va_runV (As := [.int 1]) (rest := []) ⟨hx, hb, hml, hown, hts⟩ (z_M_fails l dC dI 0 xq1 xq2 xq3 xq4 xq5 xq6 xq7 xq8 xq9 0 0 xq10 xq11 xq12 xq13 xq14 xq15 xq16 xq17 xq18 xq19 xq20 xq21 xq22 xq23 xq24 xq25 xq26 0 0 0 0 0 0 xq27 xq28 xq29 xq30 xq31 xq32 xq33 0 h0 1  H.size) (cwV 1 hts (z_gV z_T.w mw1402 mw1404 mwp39 mw10 mw1405) rfl rfl rfl (by decide +kernel) ⟨Nat.le_of_ble_eq_true rfl, Nat.le_of_ble_eq_true rfl⟩) (z_preV I [0] [] rfl rfl rfl rfl (ci := 9) (q0 := 0) rfl rfl) rfl rfl hl.1 rfl (lv_room (Nat.le_of_ble_eq_true rfl)) dX9_addColumn_39 ⟨Nat.le_of_ble_eq_true rfl, Nat.le_of_ble_eq_true rfl⟩) I [0] [1, 2, 3, 4, 5, 6] rfl rfl (by decide) (by decide) (fun r6 u6 H locs hw6 I => ?_)
      obtain ⟨hu6, hp6⟩ := hw6
      subst hu6
      have I : z_I A dC dI [(xq1, .inl (xc34, 4, .inl xf35)), (xq2, .inl (xc36, 4, .inl xf35)), (xq3, .inl (xc37, 4, .inl xf35)), (xq4, .inl (xc38, 4, .inl xf35)), (xq5, .inl (xc39, 4, .inl xf35)), (xq7, .inl (xc41, 4, .inl xf35)), (h0, .inr (9, [.int 1, .ref xq1, .ref xq2, .ref xq3, .ref xq4, .ref xq5, .ref xq6, .ref xq7, .ref xq8, .ref xq9, .int 0, .int 0, .ref xq10, .ref xq11, .ref xq12, .ref xq13, .ref xq14, .ref xq15, .ref xq16, .ref xq17, .ref xq18, .ref xq19, .ref xq20, .ref xq21, .ref xq22, .ref xq23, .ref xq24, .ref xq25, .ref xq26, .long 0, .int 0, .int 0, .int 0, .int 0, .int 0, .ref xq27, .ref xq28, .ref xq29, .ref xq30, .ref xq31, .ref xq32, .ref xq33, .long 0]))] [(xc34, .int), (xc36, .int), (xc37, .int), (xc38, .int), (xc39, .int), (xc41, .boolean)] s H _ := I
      obtain rfl : r6 = 0 := hp6
      have I := I.sub (ws' := [(h0, .inr (9, [.int 1, .ref xq1, .ref xq2, .ref xq3, .ref xq4, .ref xq5, .ref xq6, .ref xq7, .ref xq8, .ref xq9, .int 0, .int 0, .ref xq10, .ref xq11, .ref xq12, .ref xq13, .ref xq14, .ref xq15, .ref xq16, .ref xq17, .ref xq18, .ref xq19, .ref xq20, .ref xq21, .ref xq22, .ref xq23, .ref xq24, .ref xq25, .ref xq26, .long 0, .int 0, .int 0, .int 0, .int 0, .int 0, .ref xq27, .ref xq28, .ref xq29, .ref xq30, .ref xq31, .ref xq32, .ref xq33, .long 0]))]) [6] rfl rfl rfl
      have I := I.subT (t' := []) [] rfl
      refine W.widen (k := 0) (n := 0) (Nat.le_of_ble_eq_true rfl) (Nat.le_of_ble_eq_true rfl) ?_
      exact z_iret hx hb hr hlocks I ⟨1, 0, rfl, rfl, (by simp [z_cAC, ← hp1, c2, ← hp4, c5])⟩ dX9_addColumn_42
    · skip
      refine lv_iload_n hx hb dX9_addColumn_27 rfl (lv_at hl 3 rfl) ?_
      refine lv_iload_n hx hb dX9_addColumn_28 rfl (lv_at hl 2 rfl) ?_
      refine lv_bipush (v := 9) hx hb dX9_addColumn_29 (by decide) ?_
      refine z_calli (wr := [(h0, .inr (9, [.int 0, .ref xq1, .ref xq2, .ref xq3, .ref xq4, .ref xq5, .ref xq6, .ref xq7, .ref xq8, .ref xq9, .int 0, .int 0, .ref xq10, .ref xq11, .ref xq12, .ref xq13, .ref xq14, .ref xq15, .ref xq16, .ref xq17, .ref xq18, .ref xq19, .ref xq20, .ref xq21, .ref xq22, .ref xq23, .ref xq24, .ref xq25, .ref xq26, .long 0, .int 0, .int 0, .int 0, .int 0, .int 0, .ref xq27, .ref xq28, .ref xq29, .ref xq30, .ref xq31, .ref xq32, .ref xq33, .long 0])), (xq1, .inl (xc34, 4, .inl xf35)), (xq2, .inl (xc36, 4, .inl xf35)), (xq3, .inl (xc37, 4, .inl xf35)), (xq4, .inl (xc38, 4, .inl xf35)), (xq5, .inl (xc39, 4, .inl xf35)), (xq7, .inl (xc41, 4, .inl xf35))]) (va_runS (As := [.int p2, .int p1, .int 9]) (rest := []) ⟨hx, hb, hml, hown, hts⟩ (z_M_isBetween l dC dI p2 p1 9  H.size) (va_cwS 3 hts (z_gS z_T.w mw1399 mw1400 mw10 mw1401) rfl rfl rfl (by decide +kernel) ⟨Nat.le_of_ble_eq_true rfl, Nat.le_of_ble_eq_true rfl⟩) (z_pre I [] [] rfl rfl rfl rfl) rfl rfl hl.1 rfl (lv_room (Nat.le_of_ble_eq_true rfl)) dX9_addColumn_31 ⟨Nat.le_of_ble_eq_true rfl, Nat.le_of_ble_eq_true rfl⟩) I [] [0, 1, 2, 3, 4, 5, 6] rfl rfl (by decide) (by decide) (fun r7 u7 H locs hw7 I => ?_)
      obtain ⟨hu7, hp7⟩ := hw7
      subst hu7
      have I : z_I A dC dI [(h0, .inr (9, [.int 0, .ref xq1, .ref xq2, .ref xq3, .ref xq4, .ref xq5, .ref xq6, .ref xq7, .ref xq8, .ref xq9, .int 0, .int 0, .ref xq10, .ref xq11, .ref xq12, .ref xq13, .ref xq14, .ref xq15, .ref xq16, .ref xq17, .ref xq18, .ref xq19, .ref xq20, .ref xq21, .ref xq22, .ref xq23, .ref xq24, .ref xq25, .ref xq26, .long 0, .int 0, .int 0, .int 0, .int 0, .int 0, .ref xq27, .ref xq28, .ref xq29, .ref xq30, .ref xq31, .ref xq32, .ref xq33, .long 0])), (xq1, .inl (xc34, 4, .inl xf35)), (xq2, .inl (xc36, 4, .inl xf35)), (xq3, .inl (xc37, 4, .inl xf35)), (xq4, .inl (xc38, 4, .inl xf35)), (xq5, .inl (xc39, 4, .inl xf35)), (xq7, .inl (xc41, 4, .inl xf35))] [(xc34, .int), (xc36, .int), (xc37, .int), (xc38, .int), (xc39, .int), (xc41, .boolean)] s H _ := I
      refine lv_if_ne (tgt := 43) hx hb dX9_addColumn_34 (by decide) (fun c8 => ?_) (fun c8 => ?_)
      · skip
        refine lv_aload_n hx hb dX9_addColumn_43 rfl (lv_at hl 0 rfl) ?_
        refine z_get (C := RX9) (T := TX9) (N := 43) (ci := 9) (v := .int 0) hx hb hg hown I iw_9 0 rfl rfl 10 (by decide) mw1270 rfl dX9_addColumn_44 ?_
        refine lv_iconst (v := 4) hx hb dX9_addColumn_47 (by decide) ?_
        refine lv_icmp_eq (tgt := 65) hx hb dX9_addColumn_48 (by decide) (fun c9 => absurd c9 (by decide)) (fun _ => ?_)
        refine lv_aload_n hx hb dX9_addColumn_51 rfl (lv_at hl 0 rfl) ?_
        refine z_get (C := RX9) (T := TX9) (N := 43) (ci := 9) (v := .int 0) hx hb hg hown I iw_9 0 rfl rfl 11 (by decide) mw1271 rfl dX9_addColumn_52 ?_
        refine lv_if_gt (tgt := 65) hx hb dX9_addColumn_55 (by decide) (fun c9 => absurd c9 (by decide)) (fun _ => ?_)
        refine lv_aload_n hx hb dX9_addColumn_58 rfl (lv_at hl 0 rfl) ?_
        refine z_get (C := RX9) (T := TX9) (N := 43) (ci := 9) (v := .int 0) hx hb hg hown I iw_9 0 rfl rfl 30 (by decide) mw1290 rfl dX9_addColumn_59 ?_
        refine lv_if_le (tgt := 71) hx hb dX9_addColumn_62 (by decide) (fun _ => ?_) (fun c9 => absurd c9 (by decide))
        refine lv_aload_n hx hb dX9_addColumn_71 rfl (lv_at hl 0 rfl) ?_
        refine z_get (C := RX9) (T := TX9) (N := 43) (ci := 9) (v := .ref xq1) hx hb hg hown I iw_9 0 rfl rfl 1 (by decide) mw1261 rfl dX9_addColumn_72 ?_
        refine lv_aload_n hx hb dX9_addColumn_75 rfl (lv_at hl 0 rfl) ?_
        refine z_get (C := RX9) (T := TX9) (N := 43) (ci := 9) (v := .int 0) hx hb hg hown I iw_9 0 rfl rfl 10 (by decide) mw1270 rfl dX9_addColumn_76 ?_
        refine lv_iload_n hx hb dX9_addColumn_79 rfl (lv_at hl 1 rfl) ?_
        refine z_iast hx hb I 1 0 rfl rfl (by unfold vp_in; decide) dX9_addColumn_80 (fun g9 H locs eg9 I => ?_)
        have I : z_I A dC dI [(h0, .inr (9, [.int 0, .ref xq1, .ref xq2, .ref xq3, .ref xq4, .ref xq5, .ref xq6, .ref xq7, .ref xq8, .ref xq9, .int 0, .int 0, .ref xq10, .ref xq11, .ref xq12, .ref xq13, .ref xq14, .ref xq15, .ref xq16, .ref xq17, .ref xq18, .ref xq19, .ref xq20, .ref xq21, .ref xq22, .ref xq23, .ref xq24, .ref xq25, .ref xq26, .long 0, .int 0, .int 0, .int 0, .int 0, .int 0, .ref xq27, .ref xq28, .ref xq29, .ref xq30, .ref xq31, .ref xq32, .ref xq33, .long 0])), (xq1, .inl (xc34, 4, .inl g9)), (xq2, .inl (xc36, 4, .inl xf35)), (xq3, .inl (xc37, 4, .inl xf35)), (xq4, .inl (xc38, 4, .inl xf35)), (xq5, .inl (xc39, 4, .inl xf35)), (xq7, .inl (xc41, 4, .inl xf35))] [(xc34, .int), (xc36, .int), (xc37, .int), (xc38, .int), (xc39, .int), (xc41, .boolean)] s H _ := I
        refine lv_aload_n hx hb dX9_addColumn_81 rfl (lv_at hl 0 rfl) ?_
        refine z_get (C := RX9) (T := TX9) (N := 43) (ci := 9) (v := .ref xq2) hx hb hg hown I iw_9 0 rfl rfl 2 (by decide) mw1262 rfl dX9_addColumn_82 ?_
        refine lv_aload_n hx hb dX9_addColumn_85 rfl (lv_at hl 0 rfl) ?_
        refine z_get (C := RX9) (T := TX9) (N := 43) (ci := 9) (v := .int 0) hx hb hg hown I iw_9 0 rfl rfl 10 (by decide) mw1270 rfl dX9_addColumn_86 ?_
        refine lv_iload_n hx hb dX9_addColumn_89 rfl (lv_at hl 2 rfl) ?_
        refine z_iast hx hb I 2 1 rfl rfl (by unfold vp_in; decide) dX9_addColumn_90 (fun g10 H locs eg10 I => ?_)
        have I : z_I A dC dI [(h0, .inr (9, [.int 0, .ref xq1, .ref xq2, .ref xq3, .ref xq4, .ref xq5, .ref xq6, .ref xq7, .ref xq8, .ref xq9, .int 0, .int 0, .ref xq10, .ref xq11, .ref xq12, .ref xq13, .ref xq14, .ref xq15, .ref xq16, .ref xq17, .ref xq18, .ref xq19, .ref xq20, .ref xq21, .ref xq22, .ref xq23, .ref xq24, .ref xq25, .ref xq26, .long 0, .int 0, .int 0, .int 0, .int 0, .int 0, .ref xq27, .ref xq28, .ref xq29, .ref xq30, .ref xq31, .ref xq32, .ref xq33, .long 0])), (xq1, .inl (xc34, 4, .inl g9)), (xq2, .inl (xc36, 4, .inl g10)), (xq3, .inl (xc37, 4, .inl xf35)), (xq4, .inl (xc38, 4, .inl xf35)), (xq5, .inl (xc39, 4, .inl xf35)), (xq7, .inl (xc41, 4, .inl xf35))] [(xc34, .int), (xc36, .int), (xc37, .int), (xc38, .int), (xc39, .int), (xc41, .boolean)] s H _ := I
        refine lv_aload_n hx hb dX9_addColumn_91 rfl (lv_at hl 0 rfl) ?_
        refine z_get (C := RX9) (T := TX9) (N := 43) (ci := 9) (v := .ref xq3) hx hb hg hown I iw_9 0 rfl rfl 3 (by decide) mw1263 rfl dX9_addColumn_92 ?_
        refine lv_aload_n hx hb dX9_addColumn_95 rfl (lv_at hl 0 rfl) ?_
        refine z_get (C := RX9) (T := TX9) (N := 43) (ci := 9) (v := .int 0) hx hb hg hown I iw_9 0 rfl rfl 10 (by decide) mw1270 rfl dX9_addColumn_96 ?_
        refine lv_iload_n hx hb dX9_addColumn_99 rfl (lv_at hl 3 rfl) ?_
        refine z_iast hx hb I 3 2 rfl rfl (by unfold vp_in; decide) dX9_addColumn_100 (fun g11 H locs eg11 I => ?_)
        have I : z_I A dC dI [(h0, .inr (9, [.int 0, .ref xq1, .ref xq2, .ref xq3, .ref xq4, .ref xq5, .ref xq6, .ref xq7, .ref xq8, .ref xq9, .int 0, .int 0, .ref xq10, .ref xq11, .ref xq12, .ref xq13, .ref xq14, .ref xq15, .ref xq16, .ref xq17, .ref xq18, .ref xq19, .ref xq20, .ref xq21, .ref xq22, .ref xq23, .ref xq24, .ref xq25, .ref xq26, .long 0, .int 0, .int 0, .int 0, .int 0, .int 0, .ref xq27, .ref xq28, .ref xq29, .ref xq30, .ref xq31, .ref xq32, .ref xq33, .long 0])), (xq1, .inl (xc34, 4, .inl g9)), (xq2, .inl (xc36, 4, .inl g10)), (xq3, .inl (xc37, 4, .inl g11)), (xq4, .inl (xc38, 4, .inl xf35)), (xq5, .inl (xc39, 4, .inl xf35)), (xq7, .inl (xc41, 4, .inl xf35))] [(xc34, .int), (xc36, .int), (xc37, .int), (xc38, .int), (xc39, .int), (xc41, .boolean)] s H _ := I
        refine lv_aload_n hx hb dX9_addColumn_101 rfl (lv_at hl 0 rfl) ?_
        refine z_get (C := RX9) (T := TX9) (N := 43) (ci := 9) (v := .ref xq4) hx hb hg hown I iw_9 0 rfl rfl 4 (by decide) mw1264 rfl dX9_addColumn_102 ?_
        refine lv_aload_n hx hb dX9_addColumn_105 rfl (lv_at hl 0 rfl) ?_
        refine z_get (C := RX9) (T := TX9) (N := 43) (ci := 9) (v := .int 0) hx hb hg hown I iw_9 0 rfl rfl 10 (by decide) mw1270 rfl dX9_addColumn_106 ?_
        refine lv_iload_n hx hb dX9_addColumn_109 rfl (lv_at hl 2 rfl) ?_
        refine z_iast hx hb I 4 3 rfl rfl (by unfold vp_in; decide) dX9_addColumn_110 (fun g12 H locs eg12 I => ?_)
        have I : z_I A dC dI [(h0, .inr (9, [.int 0, .ref xq1, .ref xq2, .ref xq3, .ref xq4, .ref xq5, .ref xq6, .ref xq7, .ref xq8, .ref xq9, .int 0, .int 0, .ref xq10, .ref xq11, .ref xq12, .ref xq13, .ref xq14, .ref xq15, .ref xq16, .ref xq17, .ref xq18, .ref xq19, .ref xq20, .ref xq21, .ref xq22, .ref xq23, .ref xq24, .ref xq25, .ref xq26, .long 0, .int 0, .int 0, .int 0, .int 0, .int 0, .ref xq27, .ref xq28, .ref xq29, .ref xq30, .ref xq31, .ref xq32, .ref xq33, .long 0])), (xq1, .inl (xc34, 4, .inl g9)), (xq2, .inl (xc36, 4, .inl g10)), (xq3, .inl (xc37, 4, .inl g11)), (xq4, .inl (xc38, 4, .inl g12)), (xq5, .inl (xc39, 4, .inl xf35)), (xq7, .inl (xc41, 4, .inl xf35))] [(xc34, .int), (xc36, .int), (xc37, .int), (xc38, .int), (xc39, .int), (xc41, .boolean)] s H _ := I
        refine lv_aload_n hx hb dX9_addColumn_111 rfl (lv_at hl 0 rfl) ?_
        refine z_get (C := RX9) (T := TX9) (N := 43) (ci := 9) (v := .ref xq5) hx hb hg hown I iw_9 0 rfl rfl 5 (by decide) mw1265 rfl dX9_addColumn_112 ?_
        refine lv_aload_n hx hb dX9_addColumn_115 rfl (lv_at hl 0 rfl) ?_
        refine z_get (C := RX9) (T := TX9) (N := 43) (ci := 9) (v := .int 0) hx hb hg hown I iw_9 0 rfl rfl 10 (by decide) mw1270 rfl dX9_addColumn_116 ?_
        refine lv_iload_n hx hb dX9_addColumn_119 rfl (lv_at hl 3 rfl) ?_
        refine z_iast hx hb I 5 4 rfl rfl (by unfold vp_in; decide) dX9_addColumn_120 (fun g13 H locs eg13 I => ?_)
        have I : z_I A dC dI [(h0, .inr (9, [.int 0, .ref xq1, .ref xq2, .ref xq3, .ref xq4, .ref xq5, .ref xq6, .ref xq7, .ref xq8, .ref xq9, .int 0, .int 0, .ref xq10, .ref xq11, .ref xq12, .ref xq13, .ref xq14, .ref xq15, .ref xq16, .ref xq17, .ref xq18, .ref xq19, .ref xq20, .ref xq21, .ref xq22, .ref xq23, .ref xq24, .ref xq25, .ref xq26, .long 0, .int 0, .int 0, .int 0, .int 0, .int 0, .ref xq27, .ref xq28, .ref xq29, .ref xq30, .ref xq31, .ref xq32, .ref xq33, .long 0])), (xq1, .inl (xc34, 4, .inl g9)), (xq2, .inl (xc36, 4, .inl g10)), (xq3, .inl (xc37, 4, .inl g11)), (xq4, .inl (xc38, 4, .inl g12)), (xq5, .inl (xc39, 4, .inl g13)), (xq7, .inl (xc41, 4, .inl xf35))] [(xc34, .int), (xc36, .int), (xc37, .int), (xc38, .int), (xc39, .int), (xc41, .boolean)] s H _ := I
        refine lv_aload_n hx hb dX9_addColumn_121 rfl (lv_at hl 0 rfl) ?_
        refine z_get (C := RX9) (T := TX9) (N := 43) (ci := 9) (v := .ref xq7) hx hb hg hown I iw_9 0 rfl rfl 7 (by decide) mw1267 rfl dX9_addColumn_122 ?_
        refine lv_aload_n hx hb dX9_addColumn_125 rfl (lv_at hl 0 rfl) ?_
        refine z_get (C := RX9) (T := TX9) (N := 43) (ci := 9) (v := .int 0) hx hb hg hown I iw_9 0 rfl rfl 10 (by decide) mw1270 rfl dX9_addColumn_126 ?_
        refine lv_iload hx hb dX9_addColumn_129 (lv_at hl 4 rfl) ?_
        refine z_zast hx hb I 6 5 rfl rfl (by unfold vp_in; decide) dX9_addColumn_131 (fun g14 H locs eg14 I => ?_)
        have I : z_I A dC dI [(h0, .inr (9, [.int 0, .ref xq1, .ref xq2, .ref xq3, .ref xq4, .ref xq5, .ref xq6, .ref xq7, .ref xq8, .ref xq9, .int 0, .int 0, .ref xq10, .ref xq11, .ref xq12, .ref xq13, .ref xq14, .ref xq15, .ref xq16, .ref xq17, .ref xq18, .ref xq19, .ref xq20, .ref xq21, .ref xq22, .ref xq23, .ref xq24, .ref xq25, .ref xq26, .long 0, .int 0, .int 0, .int 0, .int 0, .int 0, .ref xq27, .ref xq28, .ref xq29, .ref xq30, .ref xq31, .ref xq32, .ref xq33, .long 0])), (xq1, .inl (xc34, 4, .inl g9)), (xq2, .inl (xc36, 4, .inl g10)), (xq3, .inl (xc37, 4, .inl g11)), (xq4, .inl (xc38, 4, .inl g12)), (xq5, .inl (xc39, 4, .inl g13)), (xq7, .inl (xc41, 4, .inl g14))] [(xc34, .int), (xc36, .int), (xc37, .int), (xc38, .int), (xc39, .int), (xc41, .boolean)] s H _ := I
        refine lv_aload_n hx hb dX9_addColumn_132 rfl (lv_at hl 0 rfl) ?_
        refine lv_dup hx hb dX9_addColumn_133 rfl ?_
        refine z_get (C := RX9) (T := TX9) (N := 43) (ci := 9) (v := .int 0) hx hb hg hown I iw_9 0 rfl rfl 10 (by decide) mw1270 rfl dX9_addColumn_134 ?_
        refine lv_iconst (v := 1) hx hb dX9_addColumn_137 (by decide) ?_
        refine lv_iadd hx hb dX9_addColumn_138 ?_
        refine lv_topi (fun w15 ew15 => ?_)
        obtain rfl : w15 = 1 := ew15.trans (by decide)
        refine z_put (C := RX9) (T := TX9) (N := 43) (ci := 9) (v := .int 1) hx hb hg hown I iw_9 tyX9 tyX9_ok nmX9 0 rfl rfl 10 (by decide) mw1270 rfl rfl rfl (Nat.le_of_ble_eq_true rfl) dX9_addColumn_139 [(h0, .inr (9, [.int 0, .ref xq1, .ref xq2, .ref xq3, .ref xq4, .ref xq5, .ref xq6, .ref xq7, .ref xq8, .ref xq9, .int 1, .int 0, .ref xq10, .ref xq11, .ref xq12, .ref xq13, .ref xq14, .ref xq15, .ref xq16, .ref xq17, .ref xq18, .ref xq19, .ref xq20, .ref xq21, .ref xq22, .ref xq23, .ref xq24, .ref xq25, .ref xq26, .long 0, .int 0, .int 0, .int 0, .int 0, .int 0, .ref xq27, .ref xq28, .ref xq29, .ref xq30, .ref xq31, .ref xq32, .ref xq33, .long 0])), (xq1, .inl (xc34, 4, .inl g9)), (xq2, .inl (xc36, 4, .inl g10)), (xq3, .inl (xc37, 4, .inl g11)), (xq4, .inl (xc38, 4, .inl g12)), (xq5, .inl (xc39, 4, .inl g13)), (xq7, .inl (xc41, 4, .inl g14))] rfl (fun H locs I => ?_)
        refine lv_aload_n hx hb dX9_addColumn_142 rfl (lv_at hl 0 rfl) ?_
        refine z_get (C := RX9) (T := TX9) (N := 43) (ci := 9) (v := .int 1) hx hb hg hown I iw_9 0 rfl rfl 10 (by decide) mw1270 rfl dX9_addColumn_143 ?_
        refine lv_iconst (v := 1) hx hb dX9_addColumn_146 (by decide) ?_
        refine lv_isub hx hb dX9_addColumn_147 ?_
        refine lv_topi (fun w16 ew16 => ?_)
        obtain rfl : w16 = 0 := ew16.trans (by decide)
        have I := I.sub (ws' := [(h0, .inr (9, [.int 0, .ref xq1, .ref xq2, .ref xq3, .ref xq4, .ref xq5, .ref xq6, .ref xq7, .ref xq8, .ref xq9, .int 1, .int 0, .ref xq10, .ref xq11, .ref xq12, .ref xq13, .ref xq14, .ref xq15, .ref xq16, .ref xq17, .ref xq18, .ref xq19, .ref xq20, .ref xq21, .ref xq22, .ref xq23, .ref xq24, .ref xq25, .ref xq26, .long 0, .int 0, .int 0, .int 0, .int 0, .int 0, .ref xq27, .ref xq28, .ref xq29, .ref xq30, .ref xq31, .ref xq32, .ref xq33, .long 0]))]) [0] rfl rfl rfl
        have I := I.subT (t' := []) [] rfl
        refine W.widen (k := 0) (n := 0) (Nat.le_of_ble_eq_true rfl) (Nat.le_of_ble_eq_true rfl) ?_
        exact z_iret hx hb hr hlocks I ⟨0, 1, rfl, rfl, (by simp [z_cAC, ← hp1, c2, ← hp4, c5, ← hp7, c8])⟩ dX9_addColumn_148
      · skip
        refine lv_aload_n hx hb dX9_addColumn_37 rfl (lv_at hl 0 rfl) ?_
        refine lv_iconst (v := 1) hx hb dX9_addColumn_38 (by decide) ?_
        refine z_calli (wr := [(xq1, .inl (xc34, 4, .inl xf35)), (xq2, .inl (xc36, 4, .inl xf35)), (xq3, .inl (xc37, 4, .inl xf35)), (xq4, .inl (xc38, 4, .inl xf35)), (xq5, .inl (xc39, 4, .inl xf35)), (xq7, .inl (xc41, 4, .inl xf35))]) (va_runV (As := [.int 1]) (rest := []) ⟨hx, hb, hml, hown, hts⟩ (z_M_fails l dC dI 0 xq1 xq2 xq3 xq4 xq5 xq6 xq7 xq8 xq9 0 0 xq10 xq11 xq12 xq13 xq14 xq15 xq16 xq17 xq18 xq19 xq20 xq21 xq22 xq23 xq24 xq25 xq26 0 0 0 0 0 0 xq27 xq28 xq29 xq30 xq31 xq32 xq33 0 h0 1  H.size) (cwV 1 hts (z_gV z_T.w mw1402 mw1404 mwp39 mw10 mw1405) rfl rfl rfl (by decide +kernel) ⟨Nat.le_of_ble_eq_true rfl, Nat.le_of_ble_eq_true rfl⟩) (z_preV I [0] [] rfl rfl rfl rfl (ci := 9) (q0 := 0) rfl rfl) rfl rfl hl.1 rfl (lv_room (Nat.le_of_ble_eq_true rfl)) dX9_addColumn_39 ⟨Nat.le_of_ble_eq_true rfl, Nat.le_of_ble_eq_true rfl⟩) I [0] [1, 2, 3, 4, 5, 6] rfl rfl (by decide) (by decide) (fun r17 u17 H locs hw17 I => ?_)
        obtain ⟨hu17, hp17⟩ := hw17
        subst hu17
        have I : z_I A dC dI [(xq1, .inl (xc34, 4, .inl xf35)), (xq2, .inl (xc36, 4, .inl xf35)), (xq3, .inl (xc37, 4, .inl xf35)), (xq4, .inl (xc38, 4, .inl xf35)), (xq5, .inl (xc39, 4, .inl xf35)), (xq7, .inl (xc41, 4, .inl xf35)), (h0, .inr (9, [.int 1, .ref xq1, .ref xq2, .ref xq3, .ref xq4, .ref xq5, .ref xq6, .ref xq7, .ref xq8, .ref xq9, .int 0, .int 0, .ref xq10, .ref xq11, .ref xq12, .ref xq13, .ref xq14, .ref xq15, .ref xq16, .ref xq17, .ref xq18, .ref xq19, .ref xq20, .ref xq21, .ref xq22, .ref xq23, .ref xq24, .ref xq25, .ref xq26, .long 0, .int 0, .int 0, .int 0, .int 0, .int 0, .ref xq27, .ref xq28, .ref xq29, .ref xq30, .ref xq31, .ref xq32, .ref xq33, .long 0]))] [(xc34, .int), (xc36, .int), (xc37, .int), (xc38, .int), (xc39, .int), (xc41, .boolean)] s H _ := I
        obtain rfl : r17 = 0 := hp17
        have I := I.sub (ws' := [(h0, .inr (9, [.int 1, .ref xq1, .ref xq2, .ref xq3, .ref xq4, .ref xq5, .ref xq6, .ref xq7, .ref xq8, .ref xq9, .int 0, .int 0, .ref xq10, .ref xq11, .ref xq12, .ref xq13, .ref xq14, .ref xq15, .ref xq16, .ref xq17, .ref xq18, .ref xq19, .ref xq20, .ref xq21, .ref xq22, .ref xq23, .ref xq24, .ref xq25, .ref xq26, .long 0, .int 0, .int 0, .int 0, .int 0, .int 0, .ref xq27, .ref xq28, .ref xq29, .ref xq30, .ref xq31, .ref xq32, .ref xq33, .long 0]))]) [6] rfl rfl rfl
        have I := I.subT (t' := []) [] rfl
        refine W.widen (k := 0) (n := 0) (Nat.le_of_ble_eq_true rfl) (Nat.le_of_ble_eq_true rfl) ?_
        exact z_iret hx hb hr hlocks I ⟨1, 0, rfl, rfl, (by simp [z_cAC, ← hp1, c2, ← hp4, c5, ← hp7, c8])⟩ dX9_addColumn_42
set_option maxHeartbeats 4000000 in
set_option maxRecDepth 100000 in
theorem z_M_solve (l : Launch) (dC : Nat → ClassId) (dI : Nat → Nat → Nat) (xq1 : Nat) (xq2 : Nat) (xq3 : Nat) (xq4 : Nat) (xq5 : Nat) (xq6 : Nat) (xq7 : Nat) (xq8 : Nat) (xq9 : Nat) (xq10 : Nat) (xq11 : Nat) (xq12 : Nat) (xq13 : Nat) (xq14 : Nat) (xq15 : Nat) (xq16 : Nat) (xq17 : Nat) (xq18 : Nat) (xq19 : Nat) (xq20 : Nat) (xq21 : Nat) (xq22 : Nat) (xq23 : Nat) (xq24 : Nat) (xq25 : Nat) (xq26 : Nat) (xq27 : Nat) (xq28 : Nat) (xq29 : Nat) (xq30 : Nat) (xq31 : Nat) (xq32 : Nat) (xq33 : Nat) (h0 : Nat) (p0 : Int32) (sz : Nat) : Met l yX9_solve (z_w yX9_solve cX9_solve 4 (some .int)) ({ frames := 10, cells := 0, slots := 0, locals := 200 }) (z_P dC dI [(h0, .inr (9, [.int 0, .ref xq1, .ref xq2, .ref xq3, .ref xq4, .ref xq5, .ref xq6, .ref xq7, .ref xq8, .ref xq9, .int 0, .int 0, .ref xq10, .ref xq11, .ref xq12, .ref xq13, .ref xq14, .ref xq15, .ref xq16, .ref xq17, .ref xq18, .ref xq19, .ref xq20, .ref xq21, .ref xq22, .ref xq23, .ref xq24, .ref xq25, .ref xq26, .long 0, .int 0, .int 0, .int 0, .int 0, .int 0, .ref xq27, .ref xq28, .ref xq29, .ref xq30, .ref xq31, .ref xq32, .ref xq33, .long 0]))] [] sz [.ref h0, .int p0]) (va_Qi (fun (r : Int32) (u : va_W × List (ClassId × FieldType)) => ∃ (y0 : Int32), u = ([(h0, .inr (9, [.int y0, .ref xq1, .ref xq2, .ref xq3, .ref xq4, .ref xq5, .ref xq6, .ref xq7, .ref xq8, .ref xq9, .int 0, .int 0, .ref xq10, .ref xq11, .ref xq12, .ref xq13, .ref xq14, .ref xq15, .ref xq16, .ref xq17, .ref xq18, .ref xq19, .ref xq20, .ref xq21, .ref xq22, .ref xq23, .ref xq24, .ref xq25, .ref xq26, .long 0, .int 0, .int 0, .int 0, .int 0, .int 0, .ref xq27, .ref xq28, .ref xq29, .ref xq30, .ref xq31, .ref xq32, .ref xq33, .long 0]))], []) ∧ r = 0 ∧ y0 = z_cS p0) (z_B dC dI (va_A [(h0, .inr (9, [.int 0, .ref xq1, .ref xq2, .ref xq3, .ref xq4, .ref xq5, .ref xq6, .ref xq7, .ref xq8, .ref xq9, .int 0, .int 0, .ref xq10, .ref xq11, .ref xq12, .ref xq13, .ref xq14, .ref xq15, .ref xq16, .ref xq17, .ref xq18, .ref xq19, .ref xq20, .ref xq21, .ref xq22, .ref xq23, .ref xq24, .ref xq25, .ref xq26, .long 0, .int 0, .int 0, .int 0, .int 0, .int 0, .ref xq27, .ref xq28, .ref xq29, .ref xq30, .ref xq31, .ref xq32, .ref xq33, .long 0]))] sz)) (va_A [(h0, .inr (9, [.int 0, .ref xq1, .ref xq2, .ref xq3, .ref xq4, .ref xq5, .ref xq6, .ref xq7, .ref xq8, .ref xq9, .int 0, .int 0, .ref xq10, .ref xq11, .ref xq12, .ref xq13, .ref xq14, .ref xq15, .ref xq16, .ref xq17, .ref xq18, .ref xq19, .ref xq20, .ref xq21, .ref xq22, .ref xq23, .ref xq24, .ref xq25, .ref xq26, .long 0, .int 0, .int 0, .int 0, .int 0, .int 0, .ref xq27, .ref xq28, .ref xq29, .ref xq30, .ref xq31, .ref xq32, .ref xq33, .long 0]))] sz)) 0 0 (va_A [(h0, .inr (9, [.int 0, .ref xq1, .ref xq2, .ref xq3, .ref xq4, .ref xq5, .ref xq6, .ref xq7, .ref xq8, .ref xq9, .int 0, .int 0, .ref xq10, .ref xq11, .ref xq12, .ref xq13, .ref xq14, .ref xq15, .ref xq16, .ref xq17, .ref xq18, .ref xq19, .ref xq20, .ref xq21, .ref xq22, .ref xq23, .ref xq24, .ref xq25, .ref xq26, .long 0, .int 0, .int 0, .int 0, .int 0, .int 0, .ref xq27, .ref xq28, .ref xq29, .ref xq30, .ref xq31, .ref xq32, .ref xq33, .long 0]))] sz) := by
  refine Met.ofW (cc := cX9_solve) (maxL := 4) (ret := (some .int)) (by decide) rfl ?_
  intro p e s m args below meth c s₁ B hml hv
  obtain ⟨rfl, rfl, I⟩ := z_open hv
  have hx := B.exec
  have hb := B.bytes
  have hr := B.returns
  have hts := atoms_spec (ws := z_w yX9_solve cX9_solve 4 (some .int)) B.pre
  have hg : z_G _ s := z_G.of hts
  have hown : s.vm.findClass RX9 = some m.cls := findClass_of_methodNamed B.named
  have hlocks := B.notSynchronized
  generalize va_A [(h0, .inr (9, [.int 0, .ref xq1, .ref xq2, .ref xq3, .ref xq4, .ref xq5, .ref xq6, .ref xq7, .ref xq8, .ref xq9, .int 0, .int 0, .ref xq10, .ref xq11, .ref xq12, .ref xq13, .ref xq14, .ref xq15, .ref xq16, .ref xq17, .ref xq18, .ref xq19, .ref xq20, .ref xq21, .ref xq22, .ref xq23, .ref xq24, .ref xq25, .ref xq26, .long 0, .int 0, .int 0, .int 0, .int 0, .int 0, .ref xq27, .ref xq28, .ref xq29, .ref xq30, .ref xq31, .ref xq32, .ref xq33, .long 0]))] s.heap.size = A at I ⊢
  have hl := lv_entry ([.ref h0, .int p0]) (n := 4) (Nat.le_of_ble_eq_true rfl)
  rw [lg_entry_eq]
  generalize (lg_sl ([.ref h0, .int p0]) ++ List.replicate (4 - (lg_sl ([.ref h0, .int p0])).length) Slot.unset).toArray = ls at hl ⊢
  have hl : lv_has ls 4 [(0, .ref h0), (1, .int p0)] := hl
  refine lv_aload_n hx hb dX9_solve_0 rfl (lv_at hl 0 rfl) ?_
  refine lv_iconst (v := 0) hx hb dX9_solve_1 (by decide) ?_
  refine z_put (C := RX9) (T := TX9) (N := 43) (ci := 9) (v := .int 0) hx hb hg hown I iw_9 tyX9 tyX9_ok nmX9 0 rfl rfl 0 (by decide) mw1260 rfl rfl rfl (Nat.le_of_ble_eq_true rfl) dX9_solve_2 [(h0, .inr (9, [.int 0, .ref xq1, .ref xq2, .ref xq3, .ref xq4, .ref xq5, .ref xq6, .ref xq7, .ref xq8, .ref xq9, .int 0, .int 0, .ref xq10, .ref xq11, .ref xq12, .ref xq13, .ref xq14, .ref xq15, .ref xq16, .ref xq17, .ref xq18, .ref xq19, .ref xq20, .ref xq21, .ref xq22, .ref xq23, .ref xq24, .ref xq25, .ref xq26, .long 0, .int 0, .int 0, .int 0, .int 0, .int 0, .ref xq27, .ref xq28, .ref xq29, .ref xq30, .ref xq31, .ref xq32, .ref xq33, .long 0]))] rfl (fun H locs I => ?_)
  refine lv_iload_n hx hb dX9_solve_5 rfl (lv_at hl 1 rfl) ?_
  refine lv_iconst (v := 1) hx hb dX9_solve_6 (by decide) ?_
  refine lv_bipush (v := 41) hx hb dX9_solve_7 (by decide) ?_
  refine z_calli (wr := [(h0, .inr (9, [.int 0, .ref xq1, .ref xq2, .ref xq3, .ref xq4, .ref xq5, .ref xq6, .ref xq7, .ref xq8, .ref xq9, .int 0, .int 0, .ref xq10, .ref xq11, .ref xq12, .ref xq13, .ref xq14, .ref xq15, .ref xq16, .ref xq17, .ref xq18, .ref xq19, .ref xq20, .ref xq21, .ref xq22, .ref xq23, .ref xq24, .ref xq25, .ref xq26, .long 0, .int 0, .int 0, .int 0, .int 0, .int 0, .ref xq27, .ref xq28, .ref xq29, .ref xq30, .ref xq31, .ref xq32, .ref xq33, .long 0]))]) (va_runS (As := [.int p0, .int 1, .int 41]) (rest := []) ⟨hx, hb, hml, hown, hts⟩ (z_M_isBetween l dC dI p0 1 41  H.size) (va_cwS 3 hts (z_gS z_T.w mw1399 mw1400 mw10 mw1401) rfl rfl rfl (by decide +kernel) ⟨Nat.le_of_ble_eq_true rfl, Nat.le_of_ble_eq_true rfl⟩) (z_pre I [] [] rfl rfl rfl rfl) rfl rfl hl.1 rfl (lv_room (Nat.le_of_ble_eq_true rfl)) dX9_solve_9 ⟨Nat.le_of_ble_eq_true rfl, Nat.le_of_ble_eq_true rfl⟩) I [] [0] rfl rfl (by decide) (by decide) (fun r1 u1 H locs hw1 I => ?_)
  obtain ⟨hu1, hp1⟩ := hw1
  subst hu1
  have I : z_I A dC dI [(h0, .inr (9, [.int 0, .ref xq1, .ref xq2, .ref xq3, .ref xq4, .ref xq5, .ref xq6, .ref xq7, .ref xq8, .ref xq9, .int 0, .int 0, .ref xq10, .ref xq11, .ref xq12, .ref xq13, .ref xq14, .ref xq15, .ref xq16, .ref xq17, .ref xq18, .ref xq19, .ref xq20, .ref xq21, .ref xq22, .ref xq23, .ref xq24, .ref xq25, .ref xq26, .long 0, .int 0, .int 0, .int 0, .int 0, .int 0, .ref xq27, .ref xq28, .ref xq29, .ref xq30, .ref xq31, .ref xq32, .ref xq33, .long 0]))] [] s H _ := I
  refine lv_if_ne (tgt := 21) hx hb dX9_solve_12 (by decide) (fun c2 => ?_) (fun c2 => ?_)
  · skip
    refine lv_aload_n hx hb dX9_solve_21 rfl (lv_at hl 0 rfl) ?_
    refine z_get (C := RX9) (T := TX9) (N := 43) (ci := 9) (v := .int 0) hx hb hg hown I iw_9 0 rfl rfl 30 (by decide) mw1290 rfl dX9_solve_22 ?_
    refine lv_if_ne (tgt := 34) hx hb dX9_solve_25 (by decide) (fun c9 => absurd c9 (by decide)) (fun _ => ?_)
    refine lv_aload_n hx hb dX9_solve_28 rfl (lv_at hl 0 rfl) ?_
    refine lv_iconst (v := 2) hx hb dX9_solve_29 (by decide) ?_
    refine z_calli (wr := []) (va_runV (As := [.int 2]) (rest := []) ⟨hx, hb, hml, hown, hts⟩ (z_M_fails l dC dI 0 xq1 xq2 xq3 xq4 xq5 xq6 xq7 xq8 xq9 0 0 xq10 xq11 xq12 xq13 xq14 xq15 xq16 xq17 xq18 xq19 xq20 xq21 xq22 xq23 xq24 xq25 xq26 0 0 0 0 0 0 xq27 xq28 xq29 xq30 xq31 xq32 xq33 0 h0 2  H.size) (cwV 1 hts (z_gV z_T.w mw1402 mw1404 mwp39 mw10 mw1405) rfl rfl rfl (by decide +kernel) ⟨Nat.le_of_ble_eq_true rfl, Nat.le_of_ble_eq_true rfl⟩) (z_preV I [0] [] rfl rfl rfl rfl (ci := 9) (q0 := 0) rfl rfl) rfl rfl hl.1 rfl (lv_room (Nat.le_of_ble_eq_true rfl)) dX9_solve_30 ⟨Nat.le_of_ble_eq_true rfl, Nat.le_of_ble_eq_true rfl⟩) I [0] [] rfl rfl (by decide) (by decide) (fun r3 u3 H locs hw3 I => ?_)
    obtain ⟨hu3, hp3⟩ := hw3
    subst hu3
    have I : z_I A dC dI [(h0, .inr (9, [.int 2, .ref xq1, .ref xq2, .ref xq3, .ref xq4, .ref xq5, .ref xq6, .ref xq7, .ref xq8, .ref xq9, .int 0, .int 0, .ref xq10, .ref xq11, .ref xq12, .ref xq13, .ref xq14, .ref xq15, .ref xq16, .ref xq17, .ref xq18, .ref xq19, .ref xq20, .ref xq21, .ref xq22, .ref xq23, .ref xq24, .ref xq25, .ref xq26, .long 0, .int 0, .int 0, .int 0, .int 0, .int 0, .ref xq27, .ref xq28, .ref xq29, .ref xq30, .ref xq31, .ref xq32, .ref xq33, .long 0]))] [] s H _ := I
    obtain rfl : r3 = 0 := hp3
    have I := I.subT (t' := []) [] rfl
    refine W.widen (k := 0) (n := 0) (Nat.le_of_ble_eq_true rfl) (Nat.le_of_ble_eq_true rfl) ?_
    exact z_iret hx hb hr hlocks I ⟨2, rfl, rfl, (by simp [z_cS, ← hp1, c2])⟩ dX9_solve_33
  · skip
    refine lv_aload_n hx hb dX9_solve_15 rfl (lv_at hl 0 rfl) ?_
    refine lv_iconst (v := 1) hx hb dX9_solve_16 (by decide) ?_
    refine z_calli (wr := []) (va_runV (As := [.int 1]) (rest := []) ⟨hx, hb, hml, hown, hts⟩ (z_M_fails l dC dI 0 xq1 xq2 xq3 xq4 xq5 xq6 xq7 xq8 xq9 0 0 xq10 xq11 xq12 xq13 xq14 xq15 xq16 xq17 xq18 xq19 xq20 xq21 xq22 xq23 xq24 xq25 xq26 0 0 0 0 0 0 xq27 xq28 xq29 xq30 xq31 xq32 xq33 0 h0 1  H.size) (cwV 1 hts (z_gV z_T.w mw1402 mw1404 mwp39 mw10 mw1405) rfl rfl rfl (by decide +kernel) ⟨Nat.le_of_ble_eq_true rfl, Nat.le_of_ble_eq_true rfl⟩) (z_preV I [0] [] rfl rfl rfl rfl (ci := 9) (q0 := 0) rfl rfl) rfl rfl hl.1 rfl (lv_room (Nat.le_of_ble_eq_true rfl)) dX9_solve_17 ⟨Nat.le_of_ble_eq_true rfl, Nat.le_of_ble_eq_true rfl⟩) I [0] [] rfl rfl (by decide) (by decide) (fun r4 u4 H locs hw4 I => ?_)
    obtain ⟨hu4, hp4⟩ := hw4
    subst hu4
    have I : z_I A dC dI [(h0, .inr (9, [.int 1, .ref xq1, .ref xq2, .ref xq3, .ref xq4, .ref xq5, .ref xq6, .ref xq7, .ref xq8, .ref xq9, .int 0, .int 0, .ref xq10, .ref xq11, .ref xq12, .ref xq13, .ref xq14, .ref xq15, .ref xq16, .ref xq17, .ref xq18, .ref xq19, .ref xq20, .ref xq21, .ref xq22, .ref xq23, .ref xq24, .ref xq25, .ref xq26, .long 0, .int 0, .int 0, .int 0, .int 0, .int 0, .ref xq27, .ref xq28, .ref xq29, .ref xq30, .ref xq31, .ref xq32, .ref xq33, .long 0]))] [] s H _ := I
    obtain rfl : r4 = 0 := hp4
    have I := I.subT (t' := []) [] rfl
    refine W.widen (k := 0) (n := 0) (Nat.le_of_ble_eq_true rfl) (Nat.le_of_ble_eq_true rfl) ?_
    exact z_iret hx hb hr hlocks I ⟨1, rfl, rfl, (by simp [z_cS, ← hp1, c2])⟩ dX9_solve_20
set_option maxHeartbeats 4000000 in
set_option maxRecDepth 100000 in
theorem z_M_begin (l : Launch) (dC : Nat → ClassId) (dI : Nat → Nat → Nat) (xq1 : Nat) (xq2 : Nat) (xq3 : Nat) (xq4 : Nat) (xq5 : Nat) (xq6 : Nat) (xq7 : Nat) (xq8 : Nat) (xq9 : Nat) (xq10 : Nat) (xq11 : Nat) (xq12 : Nat) (xq13 : Nat) (xq14 : Nat) (xq15 : Nat) (xq16 : Nat) (xq17 : Nat) (xq18 : Nat) (xq19 : Nat) (xq20 : Nat) (xq21 : Nat) (xq22 : Nat) (xq23 : Nat) (xq24 : Nat) (xq25 : Nat) (xq26 : Nat) (xq27 : Nat) (xq28 : Nat) (xq29 : Nat) (xq30 : Nat) (xq31 : Nat) (xq32 : Nat) (xq33 : Nat) (h0 : Nat) (p0 : Int32) (p1 : Int32) (sz : Nat) : Met l yX9_begin (z_w yX9_begin cX9_begin 5 (some .int)) ({ frames := 10, cells := 0, slots := 0, locals := 200 }) (z_P dC dI [(h0, .inr (9, [.int 0, .ref xq1, .ref xq2, .ref xq3, .ref xq4, .ref xq5, .ref xq6, .ref xq7, .ref xq8, .ref xq9, .int 0, .int 0, .ref xq10, .ref xq11, .ref xq12, .ref xq13, .ref xq14, .ref xq15, .ref xq16, .ref xq17, .ref xq18, .ref xq19, .ref xq20, .ref xq21, .ref xq22, .ref xq23, .ref xq24, .ref xq25, .ref xq26, .long 0, .int 0, .int 0, .int 0, .int 0, .int 0, .ref xq27, .ref xq28, .ref xq29, .ref xq30, .ref xq31, .ref xq32, .ref xq33, .long 0]))] [] sz [.ref h0, .int p0, .int p1]) (va_Qi (fun (r : Int32) (u : va_W × List (ClassId × FieldType)) => ∃ (y0 : Int32), u = ([(h0, .inr (9, [.int y0, .ref xq1, .ref xq2, .ref xq3, .ref xq4, .ref xq5, .ref xq6, .ref xq7, .ref xq8, .ref xq9, .int 0, .int 0, .ref xq10, .ref xq11, .ref xq12, .ref xq13, .ref xq14, .ref xq15, .ref xq16, .ref xq17, .ref xq18, .ref xq19, .ref xq20, .ref xq21, .ref xq22, .ref xq23, .ref xq24, .ref xq25, .ref xq26, .long 0, .int 0, .int 0, .int 0, .int 0, .int 0, .ref xq27, .ref xq28, .ref xq29, .ref xq30, .ref xq31, .ref xq32, .ref xq33, .long 0]))], []) ∧ r = 0 ∧ y0 = z_cB p0 p1) (z_B dC dI (va_A [(h0, .inr (9, [.int 0, .ref xq1, .ref xq2, .ref xq3, .ref xq4, .ref xq5, .ref xq6, .ref xq7, .ref xq8, .ref xq9, .int 0, .int 0, .ref xq10, .ref xq11, .ref xq12, .ref xq13, .ref xq14, .ref xq15, .ref xq16, .ref xq17, .ref xq18, .ref xq19, .ref xq20, .ref xq21, .ref xq22, .ref xq23, .ref xq24, .ref xq25, .ref xq26, .long 0, .int 0, .int 0, .int 0, .int 0, .int 0, .ref xq27, .ref xq28, .ref xq29, .ref xq30, .ref xq31, .ref xq32, .ref xq33, .long 0]))] sz)) (va_A [(h0, .inr (9, [.int 0, .ref xq1, .ref xq2, .ref xq3, .ref xq4, .ref xq5, .ref xq6, .ref xq7, .ref xq8, .ref xq9, .int 0, .int 0, .ref xq10, .ref xq11, .ref xq12, .ref xq13, .ref xq14, .ref xq15, .ref xq16, .ref xq17, .ref xq18, .ref xq19, .ref xq20, .ref xq21, .ref xq22, .ref xq23, .ref xq24, .ref xq25, .ref xq26, .long 0, .int 0, .int 0, .int 0, .int 0, .int 0, .ref xq27, .ref xq28, .ref xq29, .ref xq30, .ref xq31, .ref xq32, .ref xq33, .long 0]))] sz)) 0 0 (va_A [(h0, .inr (9, [.int 0, .ref xq1, .ref xq2, .ref xq3, .ref xq4, .ref xq5, .ref xq6, .ref xq7, .ref xq8, .ref xq9, .int 0, .int 0, .ref xq10, .ref xq11, .ref xq12, .ref xq13, .ref xq14, .ref xq15, .ref xq16, .ref xq17, .ref xq18, .ref xq19, .ref xq20, .ref xq21, .ref xq22, .ref xq23, .ref xq24, .ref xq25, .ref xq26, .long 0, .int 0, .int 0, .int 0, .int 0, .int 0, .ref xq27, .ref xq28, .ref xq29, .ref xq30, .ref xq31, .ref xq32, .ref xq33, .long 0]))] sz) := by
  refine Met.ofW (cc := cX9_begin) (maxL := 5) (ret := (some .int)) (by decide) rfl ?_
  intro p e s m args below meth c s₁ B hml hv
  obtain ⟨rfl, rfl, I⟩ := z_open hv
  have hx := B.exec
  have hb := B.bytes
  have hr := B.returns
  have hts := atoms_spec (ws := z_w yX9_begin cX9_begin 5 (some .int)) B.pre
  have hg : z_G _ s := z_G.of hts
  have hown : s.vm.findClass RX9 = some m.cls := findClass_of_methodNamed B.named
  have hlocks := B.notSynchronized
  generalize va_A [(h0, .inr (9, [.int 0, .ref xq1, .ref xq2, .ref xq3, .ref xq4, .ref xq5, .ref xq6, .ref xq7, .ref xq8, .ref xq9, .int 0, .int 0, .ref xq10, .ref xq11, .ref xq12, .ref xq13, .ref xq14, .ref xq15, .ref xq16, .ref xq17, .ref xq18, .ref xq19, .ref xq20, .ref xq21, .ref xq22, .ref xq23, .ref xq24, .ref xq25, .ref xq26, .long 0, .int 0, .int 0, .int 0, .int 0, .int 0, .ref xq27, .ref xq28, .ref xq29, .ref xq30, .ref xq31, .ref xq32, .ref xq33, .long 0]))] s.heap.size = A at I ⊢
  have hl := lv_entry ([.ref h0, .int p0, .int p1]) (n := 5) (Nat.le_of_ble_eq_true rfl)
  rw [lg_entry_eq]
  generalize (lg_sl ([.ref h0, .int p0, .int p1]) ++ List.replicate (5 - (lg_sl ([.ref h0, .int p0, .int p1])).length) Slot.unset).toArray = ls at hl ⊢
  have hl : lv_has ls 5 [(0, .ref h0), (1, .int p0), (2, .int p1)] := hl
  refine lv_aload_n hx hb dX9_begin_0 rfl (lv_at hl 0 rfl) ?_
  refine lv_iconst (v := 0) hx hb dX9_begin_1 (by decide) ?_
  refine z_put (C := RX9) (T := TX9) (N := 43) (ci := 9) (v := .int 0) hx hb hg hown I iw_9 tyX9 tyX9_ok nmX9 0 rfl rfl 0 (by decide) mw1260 rfl rfl rfl (Nat.le_of_ble_eq_true rfl) dX9_begin_2 [(h0, .inr (9, [.int 0, .ref xq1, .ref xq2, .ref xq3, .ref xq4, .ref xq5, .ref xq6, .ref xq7, .ref xq8, .ref xq9, .int 0, .int 0, .ref xq10, .ref xq11, .ref xq12, .ref xq13, .ref xq14, .ref xq15, .ref xq16, .ref xq17, .ref xq18, .ref xq19, .ref xq20, .ref xq21, .ref xq22, .ref xq23, .ref xq24, .ref xq25, .ref xq26, .long 0, .int 0, .int 0, .int 0, .int 0, .int 0, .ref xq27, .ref xq28, .ref xq29, .ref xq30, .ref xq31, .ref xq32, .ref xq33, .long 0]))] rfl (fun H locs I => ?_)
  refine z_mergeU (M := 17) (ls := ls) (P := z_so p0) (rest := []) (fun hjJ1 => ?_) (fun J1 => ?_)
  · skip
    refine z_mergeU (M := 41) (ls := ls) (P := z_sr p1) (rest := []) (fun hjJ2 => ?_) (fun J2 => ?_)
    · skip
      refine lv_aload_n hx hb dX9_begin_41 rfl (lv_at hl 0 rfl) ?_
      refine z_get (C := RX9) (T := TX9) (N := 43) (ci := 9) (v := .int 0) hx hb hg hown I iw_9 0 rfl rfl 10 (by decide) mw1270 rfl dX9_begin_42 ?_
      refine lv_if_ne (tgt := 54) hx hb dX9_begin_45 (by decide) (fun c9 => absurd c9 (by decide)) (fun _ => ?_)
      refine lv_aload_n hx hb dX9_begin_48 rfl (lv_at hl 0 rfl) ?_
      refine lv_iconst (v := 2) hx hb dX9_begin_49 (by decide) ?_
      refine z_calli (wr := []) (va_runV (As := [.int 2]) (rest := []) ⟨hx, hb, hml, hown, hts⟩ (z_M_fails l dC dI 0 xq1 xq2 xq3 xq4 xq5 xq6 xq7 xq8 xq9 0 0 xq10 xq11 xq12 xq13 xq14 xq15 xq16 xq17 xq18 xq19 xq20 xq21 xq22 xq23 xq24 xq25 xq26 0 0 0 0 0 0 xq27 xq28 xq29 xq30 xq31 xq32 xq33 0 h0 2  H.size) (cwV 1 hts (z_gV z_T.w mw1402 mw1404 mwp39 mw10 mw1405) rfl rfl rfl (by decide +kernel) ⟨Nat.le_of_ble_eq_true rfl, Nat.le_of_ble_eq_true rfl⟩) (z_preV I [0] [] rfl rfl rfl rfl (ci := 9) (q0 := 0) rfl rfl) rfl rfl hl.1 rfl (lv_room (Nat.le_of_ble_eq_true rfl)) dX9_begin_50 ⟨Nat.le_of_ble_eq_true rfl, Nat.le_of_ble_eq_true rfl⟩) I [0] [] rfl rfl (by decide) (by decide) (fun r3 u3 H locs hw3 I => ?_)
      obtain ⟨hu3, hp3⟩ := hw3
      subst hu3
      have I : z_I A dC dI [(h0, .inr (9, [.int 2, .ref xq1, .ref xq2, .ref xq3, .ref xq4, .ref xq5, .ref xq6, .ref xq7, .ref xq8, .ref xq9, .int 0, .int 0, .ref xq10, .ref xq11, .ref xq12, .ref xq13, .ref xq14, .ref xq15, .ref xq16, .ref xq17, .ref xq18, .ref xq19, .ref xq20, .ref xq21, .ref xq22, .ref xq23, .ref xq24, .ref xq25, .ref xq26, .long 0, .int 0, .int 0, .int 0, .int 0, .int 0, .ref xq27, .ref xq28, .ref xq29, .ref xq30, .ref xq31, .ref xq32, .ref xq33, .long 0]))] [] s H _ := I
      obtain rfl : r3 = 0 := hp3
      have I := I.subT (t' := []) [] rfl
      refine W.widen (k := 0) (n := 0) (Nat.le_of_ble_eq_true rfl) (Nat.le_of_ble_eq_true rfl) ?_
      exact z_iret hx hb hr hlocks I ⟨2, rfl, rfl, (by simp [z_cB, hjJ1, hjJ2])⟩ dX9_begin_53
    · skip
      refine lv_iload_n hx hb dX9_begin_17 rfl (lv_at hl 2 rfl) ?_
      refine lv_bipush (v := 102) hx hb dX9_begin_18 (by decide) ?_
      refine lv_icmp_eq (tgt := 41) hx hb dX9_begin_20 (by decide) (fun c4 => ?_) (fun c4 => ?_)
      · skip
        exact J2 (by simp [z_sr, hjJ1, c4])
      · skip
        refine lv_iload_n hx hb dX9_begin_23 rfl (lv_at hl 2 rfl) ?_
        refine lv_bipush (v := 104) hx hb dX9_begin_24 (by decide) ?_
        refine lv_icmp_eq (tgt := 41) hx hb dX9_begin_26 (by decide) (fun c5 => ?_) (fun c5 => ?_)
        · skip
          exact J2 (by simp [z_sr, hjJ1, c4, c5])
        · skip
          refine lv_iload_n hx hb dX9_begin_29 rfl (lv_at hl 2 rfl) ?_
          refine lv_bipush (v := 108) hx hb dX9_begin_30 (by decide) ?_
          refine lv_icmp_eq (tgt := 41) hx hb dX9_begin_32 (by decide) (fun c6 => ?_) (fun c6 => ?_)
          · skip
            exact J2 (by simp [z_sr, hjJ1, c4, c5, c6])
          · skip
            refine lv_aload_n hx hb dX9_begin_35 rfl (lv_at hl 0 rfl) ?_
            refine lv_iconst (v := 1) hx hb dX9_begin_36 (by decide) ?_
            refine z_calli (wr := []) (va_runV (As := [.int 1]) (rest := []) ⟨hx, hb, hml, hown, hts⟩ (z_M_fails l dC dI 0 xq1 xq2 xq3 xq4 xq5 xq6 xq7 xq8 xq9 0 0 xq10 xq11 xq12 xq13 xq14 xq15 xq16 xq17 xq18 xq19 xq20 xq21 xq22 xq23 xq24 xq25 xq26 0 0 0 0 0 0 xq27 xq28 xq29 xq30 xq31 xq32 xq33 0 h0 1  H.size) (cwV 1 hts (z_gV z_T.w mw1402 mw1404 mwp39 mw10 mw1405) rfl rfl rfl (by decide +kernel) ⟨Nat.le_of_ble_eq_true rfl, Nat.le_of_ble_eq_true rfl⟩) (z_preV I [0] [] rfl rfl rfl rfl (ci := 9) (q0 := 0) rfl rfl) rfl rfl hl.1 rfl (lv_room (Nat.le_of_ble_eq_true rfl)) dX9_begin_37 ⟨Nat.le_of_ble_eq_true rfl, Nat.le_of_ble_eq_true rfl⟩) I [0] [] rfl rfl (by decide) (by decide) (fun r7 u7 H locs hw7 I => ?_)
            obtain ⟨hu7, hp7⟩ := hw7
            subst hu7
            have I : z_I A dC dI [(h0, .inr (9, [.int 1, .ref xq1, .ref xq2, .ref xq3, .ref xq4, .ref xq5, .ref xq6, .ref xq7, .ref xq8, .ref xq9, .int 0, .int 0, .ref xq10, .ref xq11, .ref xq12, .ref xq13, .ref xq14, .ref xq15, .ref xq16, .ref xq17, .ref xq18, .ref xq19, .ref xq20, .ref xq21, .ref xq22, .ref xq23, .ref xq24, .ref xq25, .ref xq26, .long 0, .int 0, .int 0, .int 0, .int 0, .int 0, .ref xq27, .ref xq28, .ref xq29, .ref xq30, .ref xq31, .ref xq32, .ref xq33, .long 0]))] [] s H _ := I
            obtain rfl : r7 = 0 := hp7
            have I := I.subT (t' := []) [] rfl
            refine W.widen (k := 0) (n := 0) (Nat.le_of_ble_eq_true rfl) (Nat.le_of_ble_eq_true rfl) ?_
            exact z_iret hx hb hr hlocks I ⟨1, rfl, rfl, (by simp [z_cB, z_sr, hjJ1, c4, c5, c6])⟩ dX9_begin_40
  · skip
    refine lv_iload_n hx hb dX9_begin_5 rfl (lv_at hl 1 rfl) ?_
    refine lv_bipush (v := 98) hx hb dX9_begin_6 (by decide) ?_
    refine lv_icmp_eq (tgt := 17) hx hb dX9_begin_8 (by decide) (fun c8 => ?_) (fun c8 => ?_)
    · skip
      exact J1 (by simp [z_so, c8])
    · skip
      refine lv_iload_n hx hb dX9_begin_11 rfl (lv_at hl 1 rfl) ?_
      refine lv_bipush (v := 100) hx hb dX9_begin_12 (by decide) ?_
      refine lv_icmp_ne (tgt := 35) hx hb dX9_begin_14 (by decide) (fun c9 => ?_) (fun c9 => ?_)
      · skip
        refine lv_aload_n hx hb dX9_begin_35 rfl (lv_at hl 0 rfl) ?_
        refine lv_iconst (v := 1) hx hb dX9_begin_36 (by decide) ?_
        refine z_calli (wr := []) (va_runV (As := [.int 1]) (rest := []) ⟨hx, hb, hml, hown, hts⟩ (z_M_fails l dC dI 0 xq1 xq2 xq3 xq4 xq5 xq6 xq7 xq8 xq9 0 0 xq10 xq11 xq12 xq13 xq14 xq15 xq16 xq17 xq18 xq19 xq20 xq21 xq22 xq23 xq24 xq25 xq26 0 0 0 0 0 0 xq27 xq28 xq29 xq30 xq31 xq32 xq33 0 h0 1  H.size) (cwV 1 hts (z_gV z_T.w mw1402 mw1404 mwp39 mw10 mw1405) rfl rfl rfl (by decide +kernel) ⟨Nat.le_of_ble_eq_true rfl, Nat.le_of_ble_eq_true rfl⟩) (z_preV I [0] [] rfl rfl rfl rfl (ci := 9) (q0 := 0) rfl rfl) rfl rfl hl.1 rfl (lv_room (Nat.le_of_ble_eq_true rfl)) dX9_begin_37 ⟨Nat.le_of_ble_eq_true rfl, Nat.le_of_ble_eq_true rfl⟩) I [0] [] rfl rfl (by decide) (by decide) (fun r10 u10 H locs hw10 I => ?_)
        obtain ⟨hu10, hp10⟩ := hw10
        subst hu10
        have I : z_I A dC dI [(h0, .inr (9, [.int 1, .ref xq1, .ref xq2, .ref xq3, .ref xq4, .ref xq5, .ref xq6, .ref xq7, .ref xq8, .ref xq9, .int 0, .int 0, .ref xq10, .ref xq11, .ref xq12, .ref xq13, .ref xq14, .ref xq15, .ref xq16, .ref xq17, .ref xq18, .ref xq19, .ref xq20, .ref xq21, .ref xq22, .ref xq23, .ref xq24, .ref xq25, .ref xq26, .long 0, .int 0, .int 0, .int 0, .int 0, .int 0, .ref xq27, .ref xq28, .ref xq29, .ref xq30, .ref xq31, .ref xq32, .ref xq33, .long 0]))] [] s H _ := I
        obtain rfl : r10 = 0 := hp10
        have I := I.subT (t' := []) [] rfl
        refine W.widen (k := 0) (n := 0) (Nat.le_of_ble_eq_true rfl) (Nat.le_of_ble_eq_true rfl) ?_
        exact z_iret hx hb hr hlocks I ⟨1, rfl, rfl, (by simp [z_cB, z_so, c8, c9])⟩ dX9_begin_40
      · skip
        exact J1 (by simp [z_so, c8, c9])
set_option maxHeartbeats 4000000 in
set_option maxRecDepth 100000 in
theorem z_M_addRow (l : Launch) (dC : Nat → ClassId) (dI : Nat → Nat → Nat) (xq1 : Nat) (xq2 : Nat) (xq3 : Nat) (xq4 : Nat) (xq5 : Nat) (xq6 : Nat) (xq7 : Nat) (xq8 : Nat) (xq9 : Nat) (xq10 : Nat) (xq11 : Nat) (xq12 : Nat) (xq13 : Nat) (xq14 : Nat) (xq15 : Nat) (xq16 : Nat) (xq17 : Nat) (xq18 : Nat) (xq19 : Nat) (xq20 : Nat) (xq21 : Nat) (xq22 : Nat) (xq23 : Nat) (xq24 : Nat) (xq25 : Nat) (xq26 : Nat) (xq27 : Nat) (xq28 : Nat) (xq29 : Nat) (xq30 : Nat) (xq31 : Nat) (xq32 : Nat) (xq33 : Nat) (xf35 : Nat → Int32) (xc40 : ClassId) (xc42 : ClassId) (xf43 : Nat → Option Nat) (xq44 : Nat) (xc45 : ClassId) (xc46 : ClassId) (h0 : Nat) (p0 : Int32) (p1 : Int32) (p2 : Int32) (p3 : Int32) (p4 : Int32) (p5 : Int32) (sz : Nat) : Met l yX9_addRow (z_w yX9_addRow cX9_addRow 10 (some .int)) ({ frames := 10, cells := 1, slots := 4, locals := 200 }) (z_P dC dI [(h0, .inr (9, [.int 0, .ref xq1, .ref xq2, .ref xq3, .ref xq4, .ref xq5, .ref xq6, .ref xq7, .ref xq8, .ref xq9, .int 0, .int 0, .ref xq10, .ref xq11, .ref xq12, .ref xq13, .ref xq14, .ref xq15, .ref xq16, .ref xq17, .ref xq18, .ref xq19, .ref xq20, .ref xq21, .ref xq22, .ref xq23, .ref xq24, .ref xq25, .ref xq26, .long 0, .int 0, .int 0, .int 0, .int 0, .int 0, .ref xq27, .ref xq28, .ref xq29, .ref xq30, .ref xq31, .ref xq32, .ref xq33, .long 0])), (xq6, .inl (xc40, 8, .inl xf35)), (xq8, .inl (xc42, 8, .inr (.inr (.inr (.inr (va_up xf43 0 (some xq44))))))), (xq44, .inl (xc45, 4, .inl xf35)), (xq9, .inl (xc46, 8, .inl xf35))] [(xc40, .int), (xc42, .array .int), (xc45, .int), (xc46, .char)] sz [.ref h0, .int p0, .int p1, .int p2, .int p3, .int p4, .int p5]) (va_Qi (fun (r : Int32) (u : va_W × List (ClassId × FieldType)) => ∃ (y0 : Int32) (y11 : Int32), u = ([(h0, .inr (9, [.int y0, .ref xq1, .ref xq2, .ref xq3, .ref xq4, .ref xq5, .ref xq6, .ref xq7, .ref xq8, .ref xq9, .int 0, .int y11, .ref xq10, .ref xq11, .ref xq12, .ref xq13, .ref xq14, .ref xq15, .ref xq16, .ref xq17, .ref xq18, .ref xq19, .ref xq20, .ref xq21, .ref xq22, .ref xq23, .ref xq24, .ref xq25, .ref xq26, .long 0, .int 0, .int 0, .int 0, .int 0, .int 0, .ref xq27, .ref xq28, .ref xq29, .ref xq30, .ref xq31, .ref xq32, .ref xq33, .long 0]))], []) ∧ r = 0 ∧ y0 = z_cAR p0 p1 p2 p3 p4 p5) (z_B dC dI (va_A [(h0, .inr (9, [.int 0, .ref xq1, .ref xq2, .ref xq3, .ref xq4, .ref xq5, .ref xq6, .ref xq7, .ref xq8, .ref xq9, .int 0, .int 0, .ref xq10, .ref xq11, .ref xq12, .ref xq13, .ref xq14, .ref xq15, .ref xq16, .ref xq17, .ref xq18, .ref xq19, .ref xq20, .ref xq21, .ref xq22, .ref xq23, .ref xq24, .ref xq25, .ref xq26, .long 0, .int 0, .int 0, .int 0, .int 0, .int 0, .ref xq27, .ref xq28, .ref xq29, .ref xq30, .ref xq31, .ref xq32, .ref xq33, .long 0])), (xq6, .inl (xc40, 8, .inl xf35)), (xq8, .inl (xc42, 8, .inr (.inr (.inr (.inr (va_up xf43 0 (some xq44))))))), (xq44, .inl (xc45, 4, .inl xf35)), (xq9, .inl (xc46, 8, .inl xf35))] sz)) (va_A [(h0, .inr (9, [.int 0, .ref xq1, .ref xq2, .ref xq3, .ref xq4, .ref xq5, .ref xq6, .ref xq7, .ref xq8, .ref xq9, .int 0, .int 0, .ref xq10, .ref xq11, .ref xq12, .ref xq13, .ref xq14, .ref xq15, .ref xq16, .ref xq17, .ref xq18, .ref xq19, .ref xq20, .ref xq21, .ref xq22, .ref xq23, .ref xq24, .ref xq25, .ref xq26, .long 0, .int 0, .int 0, .int 0, .int 0, .int 0, .ref xq27, .ref xq28, .ref xq29, .ref xq30, .ref xq31, .ref xq32, .ref xq33, .long 0])), (xq6, .inl (xc40, 8, .inl xf35)), (xq8, .inl (xc42, 8, .inr (.inr (.inr (.inr (va_up xf43 0 (some xq44))))))), (xq44, .inl (xc45, 4, .inl xf35)), (xq9, .inl (xc46, 8, .inl xf35))] sz)) 1 4 (va_A [(h0, .inr (9, [.int 0, .ref xq1, .ref xq2, .ref xq3, .ref xq4, .ref xq5, .ref xq6, .ref xq7, .ref xq8, .ref xq9, .int 0, .int 0, .ref xq10, .ref xq11, .ref xq12, .ref xq13, .ref xq14, .ref xq15, .ref xq16, .ref xq17, .ref xq18, .ref xq19, .ref xq20, .ref xq21, .ref xq22, .ref xq23, .ref xq24, .ref xq25, .ref xq26, .long 0, .int 0, .int 0, .int 0, .int 0, .int 0, .ref xq27, .ref xq28, .ref xq29, .ref xq30, .ref xq31, .ref xq32, .ref xq33, .long 0])), (xq6, .inl (xc40, 8, .inl xf35)), (xq8, .inl (xc42, 8, .inr (.inr (.inr (.inr (va_up xf43 0 (some xq44))))))), (xq44, .inl (xc45, 4, .inl xf35)), (xq9, .inl (xc46, 8, .inl xf35))] sz) := by
  refine Met.ofW (cc := cX9_addRow) (maxL := 10) (ret := (some .int)) (by decide) rfl ?_
  intro p e s m args below meth c s₁ B hml hv
  obtain ⟨rfl, rfl, I⟩ := z_open hv
  have hx := B.exec
  have hb := B.bytes
  have hr := B.returns
  have hts := atoms_spec (ws := z_w yX9_addRow cX9_addRow 10 (some .int)) B.pre
  have hg : z_G _ s := z_G.of hts
  have hown : s.vm.findClass RX9 = some m.cls := findClass_of_methodNamed B.named
  have hlocks := B.notSynchronized
  generalize va_A [(h0, .inr (9, [.int 0, .ref xq1, .ref xq2, .ref xq3, .ref xq4, .ref xq5, .ref xq6, .ref xq7, .ref xq8, .ref xq9, .int 0, .int 0, .ref xq10, .ref xq11, .ref xq12, .ref xq13, .ref xq14, .ref xq15, .ref xq16, .ref xq17, .ref xq18, .ref xq19, .ref xq20, .ref xq21, .ref xq22, .ref xq23, .ref xq24, .ref xq25, .ref xq26, .long 0, .int 0, .int 0, .int 0, .int 0, .int 0, .ref xq27, .ref xq28, .ref xq29, .ref xq30, .ref xq31, .ref xq32, .ref xq33, .long 0])), (xq6, .inl (xc40, 8, .inl xf35)), (xq8, .inl (xc42, 8, .inr (.inr (.inr (.inr (va_up xf43 0 (some xq44))))))), (xq44, .inl (xc45, 4, .inl xf35)), (xq9, .inl (xc46, 8, .inl xf35))] s.heap.size = A at I ⊢
  have hl := lv_entry ([.ref h0, .int p0, .int p1, .int p2, .int p3, .int p4, .int p5]) (n := 10) (Nat.le_of_ble_eq_true rfl)
  rw [lg_entry_eq]
  generalize (lg_sl ([.ref h0, .int p0, .int p1, .int p2, .int p3, .int p4, .int p5]) ++ List.replicate (10 - (lg_sl ([.ref h0, .int p0, .int p1, .int p2, .int p3, .int p4, .int p5])).length) Slot.unset).toArray = ls at hl ⊢
  have hl : lv_has ls 10 [(0, .ref h0), (1, .int p0), (2, .int p1), (3, .int p2), (4, .int p3), (5, .int p4), (6, .int p5)] := hl
  refine lv_aload_n hx hb dX9_addRow_0 rfl (lv_at hl 0 rfl) ?_
  refine lv_iconst (v := 0) hx hb dX9_addRow_1 (by decide) ?_
  refine z_put (C := RX9) (T := TX9) (N := 43) (ci := 9) (v := .int 0) hx hb hg hown I iw_9 tyX9 tyX9_ok nmX9 0 rfl rfl 0 (by decide) mw1260 rfl rfl rfl (Nat.le_of_ble_eq_true rfl) dX9_addRow_2 [(h0, .inr (9, [.int 0, .ref xq1, .ref xq2, .ref xq3, .ref xq4, .ref xq5, .ref xq6, .ref xq7, .ref xq8, .ref xq9, .int 0, .int 0, .ref xq10, .ref xq11, .ref xq12, .ref xq13, .ref xq14, .ref xq15, .ref xq16, .ref xq17, .ref xq18, .ref xq19, .ref xq20, .ref xq21, .ref xq22, .ref xq23, .ref xq24, .ref xq25, .ref xq26, .long 0, .int 0, .int 0, .int 0, .int 0, .int 0, .ref xq27, .ref xq28, .ref xq29, .ref xq30, .ref xq31, .ref xq32, .ref xq33, .long 0])), (xq6, .inl (xc40, 8, .inl xf35)), (xq8, .inl (xc42, 8, .inr (.inr (.inr (.inr (va_up xf43 0 (some xq44))))))), (xq44, .inl (xc45, 4, .inl xf35)), (xq9, .inl (xc46, 8, .inl xf35))] rfl (fun H locs I => ?_)
  refine lv_iconst (v := 4) hx hb dX9_addRow_5 (by decide) ?_
  refine z_newa (atype := .int) (ty := .int) (N' := 4) (a0 := (4, .inl (fun _ => 0))) hx hb hg I mw75 rfl (fun _ => rfl) (by decide) (by decide) (Nat.le_of_ble_eq_true rfl) (Nat.le_of_ble_eq_true rfl) (Nat.le_of_ble_eq_true rfl) dX9_addRow_6 (fun q1 cA2 H I => ?_)
  have I : z_I A dC dI [(h0, .inr (9, [.int 0, .ref xq1, .ref xq2, .ref xq3, .ref xq4, .ref xq5, .ref xq6, .ref xq7, .ref xq8, .ref xq9, .int 0, .int 0, .ref xq10, .ref xq11, .ref xq12, .ref xq13, .ref xq14, .ref xq15, .ref xq16, .ref xq17, .ref xq18, .ref xq19, .ref xq20, .ref xq21, .ref xq22, .ref xq23, .ref xq24, .ref xq25, .ref xq26, .long 0, .int 0, .int 0, .int 0, .int 0, .int 0, .ref xq27, .ref xq28, .ref xq29, .ref xq30, .ref xq31, .ref xq32, .ref xq33, .long 0])), (xq6, .inl (xc40, 8, .inl xf35)), (xq8, .inl (xc42, 8, .inr (.inr (.inr (.inr (va_up xf43 0 (some xq44))))))), (xq44, .inl (xc45, 4, .inl xf35)), (xq9, .inl (xc46, 8, .inl xf35)), (q1, .inl (cA2, 4, .inl (fun _ => 0)))] [(xc40, .int), (xc42, .array .int), (xc45, .int), (xc46, .char), (cA2, .int)] s H _ := I
  refine W.widen (k := 1) (n := 4) (Nat.le_of_ble_eq_true rfl) (Nat.le_of_ble_eq_true rfl) ?_
  refine lv_dup hx hb dX9_addRow_8 rfl ?_
  refine lv_iconst (v := 0) hx hb dX9_addRow_9 (by decide) ?_
  refine lv_iload_n hx hb dX9_addRow_10 rfl (lv_at hl 3 rfl) ?_
  refine z_iast hx hb I 5 4 rfl rfl (by unfold vp_in; decide) dX9_addRow_11 (fun g3 H locs eg3 I => ?_)
  have I : z_I A dC dI [(h0, .inr (9, [.int 0, .ref xq1, .ref xq2, .ref xq3, .ref xq4, .ref xq5, .ref xq6, .ref xq7, .ref xq8, .ref xq9, .int 0, .int 0, .ref xq10, .ref xq11, .ref xq12, .ref xq13, .ref xq14, .ref xq15, .ref xq16, .ref xq17, .ref xq18, .ref xq19, .ref xq20, .ref xq21, .ref xq22, .ref xq23, .ref xq24, .ref xq25, .ref xq26, .long 0, .int 0, .int 0, .int 0, .int 0, .int 0, .ref xq27, .ref xq28, .ref xq29, .ref xq30, .ref xq31, .ref xq32, .ref xq33, .long 0])), (xq6, .inl (xc40, 8, .inl xf35)), (xq8, .inl (xc42, 8, .inr (.inr (.inr (.inr (va_up xf43 0 (some xq44))))))), (xq44, .inl (xc45, 4, .inl xf35)), (xq9, .inl (xc46, 8, .inl xf35)), (q1, .inl (cA2, 4, .inl g3))] [(xc40, .int), (xc42, .array .int), (xc45, .int), (xc46, .char), (cA2, .int)] s H _ := I
  have kg3_0 : g3 0 = p2 := by rw [eg3]; rfl
  refine lv_dup hx hb dX9_addRow_12 rfl ?_
  refine lv_iconst (v := 1) hx hb dX9_addRow_13 (by decide) ?_
  refine lv_iload hx hb dX9_addRow_14 (lv_at hl 4 rfl) ?_
  refine z_iast hx hb I 5 4 rfl rfl (by unfold vp_in; decide) dX9_addRow_16 (fun g4 H locs eg4 I => ?_)
  have I : z_I A dC dI [(h0, .inr (9, [.int 0, .ref xq1, .ref xq2, .ref xq3, .ref xq4, .ref xq5, .ref xq6, .ref xq7, .ref xq8, .ref xq9, .int 0, .int 0, .ref xq10, .ref xq11, .ref xq12, .ref xq13, .ref xq14, .ref xq15, .ref xq16, .ref xq17, .ref xq18, .ref xq19, .ref xq20, .ref xq21, .ref xq22, .ref xq23, .ref xq24, .ref xq25, .ref xq26, .long 0, .int 0, .int 0, .int 0, .int 0, .int 0, .ref xq27, .ref xq28, .ref xq29, .ref xq30, .ref xq31, .ref xq32, .ref xq33, .long 0])), (xq6, .inl (xc40, 8, .inl xf35)), (xq8, .inl (xc42, 8, .inr (.inr (.inr (.inr (va_up xf43 0 (some xq44))))))), (xq44, .inl (xc45, 4, .inl xf35)), (xq9, .inl (xc46, 8, .inl xf35)), (q1, .inl (cA2, 4, .inl g4))] [(xc40, .int), (xc42, .array .int), (xc45, .int), (xc46, .char), (cA2, .int)] s H _ := I
  have kg4_0 : g4 0 = p2 := by rw [eg4]; exact kg3_0
  have kg4_1 : g4 1 = p3 := by rw [eg4]; rfl
  refine lv_dup hx hb dX9_addRow_17 rfl ?_
  refine lv_iconst (v := 2) hx hb dX9_addRow_18 (by decide) ?_
  refine lv_iload hx hb dX9_addRow_19 (lv_at hl 5 rfl) ?_
  refine z_iast hx hb I 5 4 rfl rfl (by unfold vp_in; decide) dX9_addRow_21 (fun g5 H locs eg5 I => ?_)
  have I : z_I A dC dI [(h0, .inr (9, [.int 0, .ref xq1, .ref xq2, .ref xq3, .ref xq4, .ref xq5, .ref xq6, .ref xq7, .ref xq8, .ref xq9, .int 0, .int 0, .ref xq10, .ref xq11, .ref xq12, .ref xq13, .ref xq14, .ref xq15, .ref xq16, .ref xq17, .ref xq18, .ref xq19, .ref xq20, .ref xq21, .ref xq22, .ref xq23, .ref xq24, .ref xq25, .ref xq26, .long 0, .int 0, .int 0, .int 0, .int 0, .int 0, .ref xq27, .ref xq28, .ref xq29, .ref xq30, .ref xq31, .ref xq32, .ref xq33, .long 0])), (xq6, .inl (xc40, 8, .inl xf35)), (xq8, .inl (xc42, 8, .inr (.inr (.inr (.inr (va_up xf43 0 (some xq44))))))), (xq44, .inl (xc45, 4, .inl xf35)), (xq9, .inl (xc46, 8, .inl xf35)), (q1, .inl (cA2, 4, .inl g5))] [(xc40, .int), (xc42, .array .int), (xc45, .int), (xc46, .char), (cA2, .int)] s H _ := I
  have kg5_0 : g5 0 = p2 := by rw [eg5]; exact kg4_0
  have kg5_1 : g5 1 = p3 := by rw [eg5]; exact kg4_1
  have kg5_2 : g5 2 = p4 := by rw [eg5]; rfl
  refine lv_dup hx hb dX9_addRow_22 rfl ?_
  refine lv_iconst (v := 3) hx hb dX9_addRow_23 (by decide) ?_
  refine lv_iload hx hb dX9_addRow_24 (lv_at hl 6 rfl) ?_
  refine z_iast hx hb I 5 4 rfl rfl (by unfold vp_in; decide) dX9_addRow_26 (fun g6 H locs eg6 I => ?_)
  have I : z_I A dC dI [(h0, .inr (9, [.int 0, .ref xq1, .ref xq2, .ref xq3, .ref xq4, .ref xq5, .ref xq6, .ref xq7, .ref xq8, .ref xq9, .int 0, .int 0, .ref xq10, .ref xq11, .ref xq12, .ref xq13, .ref xq14, .ref xq15, .ref xq16, .ref xq17, .ref xq18, .ref xq19, .ref xq20, .ref xq21, .ref xq22, .ref xq23, .ref xq24, .ref xq25, .ref xq26, .long 0, .int 0, .int 0, .int 0, .int 0, .int 0, .ref xq27, .ref xq28, .ref xq29, .ref xq30, .ref xq31, .ref xq32, .ref xq33, .long 0])), (xq6, .inl (xc40, 8, .inl xf35)), (xq8, .inl (xc42, 8, .inr (.inr (.inr (.inr (va_up xf43 0 (some xq44))))))), (xq44, .inl (xc45, 4, .inl xf35)), (xq9, .inl (xc46, 8, .inl xf35)), (q1, .inl (cA2, 4, .inl g6))] [(xc40, .int), (xc42, .array .int), (xc45, .int), (xc46, .char), (cA2, .int)] s H _ := I
  have kg6_0 : g6 0 = p2 := by rw [eg6]; exact kg5_0
  have kg6_1 : g6 1 = p3 := by rw [eg6]; exact kg5_1
  have kg6_2 : g6 2 = p4 := by rw [eg6]; exact kg5_2
  have kg6_3 : g6 3 = p5 := by rw [eg6]; rfl
  refine lv_astore (lv' := [(7, .ref q1), (0, .ref h0), (1, .int p0), (2, .int p1), (3, .int p2), (4, .int p3), (5, .int p4), (6, .int p5)]) hx hb dX9_addRow_27 hl (by decide) rfl (fun ls hl => ?_)
  refine z_mergeI (M := 63) (ls := ls) (P := fun v => v = z_w0 p0 p1) (rest := []) (A := A) (dC := dC) (dI := dI) (ws := [(h0, .inr (9, [.int 0, .ref xq1, .ref xq2, .ref xq3, .ref xq4, .ref xq5, .ref xq6, .ref xq7, .ref xq8, .ref xq9, .int 0, .int 0, .ref xq10, .ref xq11, .ref xq12, .ref xq13, .ref xq14, .ref xq15, .ref xq16, .ref xq17, .ref xq18, .ref xq19, .ref xq20, .ref xq21, .ref xq22, .ref xq23, .ref xq24, .ref xq25, .ref xq26, .long 0, .int 0, .int 0, .int 0, .int 0, .int 0, .ref xq27, .ref xq28, .ref xq29, .ref xq30, .ref xq31, .ref xq32, .ref xq33, .long 0])), (xq6, .inl (xc40, 8, .inl xf35)), (xq8, .inl (xc42, 8, .inr (.inr (.inr (.inr (va_up xf43 0 (some xq44))))))), (xq44, .inl (xc45, 4, .inl xf35)), (xq9, .inl (xc46, 8, .inl xf35)), (q1, .inl (cA2, 4, .inl g6))]) (tys := [(xc40, .int), (xc42, .array .int), (xc45, .int), (xc46, .char), (cA2, .int)]) (fun v8 H locs hv8 I => ?_) (fun J7 => ?_)
  · skip
    refine lv_istore (lv' := [(8, .int v8), (7, .ref q1), (0, .ref h0), (1, .int p0), (2, .int p1), (3, .int p2), (4, .int p3), (5, .int p4), (6, .int p5)]) hx hb dX9_addRow_63 hl (by decide) rfl (fun ls hl => ?_)
    refine lv_iconst (v := 0) hx hb dX9_addRow_65 (by decide) ?_
    refine lv_istore (lv' := [(9, .int 0), (8, .int v8), (7, .ref q1), (0, .ref h0), (1, .int p0), (2, .int p1), (3, .int p2), (4, .int p3), (5, .int p4), (6, .int p5)]) hx hb dX9_addRow_66 hl (by decide) rfl (fun ls hl => ?_)
    refine lv_iload hx hb dX9_addRow_68 (lv_at hl 0 rfl) ?_
    refine lv_iconst (v := 4) hx hb dX9_addRow_70 (by decide) ?_
    refine lv_icmp_ge (tgt := 121) hx hb dX9_addRow_71 (by decide) (fun c9 => absurd c9 (by decide)) (fun _ => ?_)
    refine lv_iload hx hb dX9_addRow_74 (lv_at hl 1 rfl) ?_
    refine z_mergeI (M := 112) (ls := ls) (P := fun v => v = z_wr p2) (rest := [.int v8]) (A := A) (dC := dC) (dI := dI) (ws := [(h0, .inr (9, [.int 0, .ref xq1, .ref xq2, .ref xq3, .ref xq4, .ref xq5, .ref xq6, .ref xq7, .ref xq8, .ref xq9, .int 0, .int 0, .ref xq10, .ref xq11, .ref xq12, .ref xq13, .ref xq14, .ref xq15, .ref xq16, .ref xq17, .ref xq18, .ref xq19, .ref xq20, .ref xq21, .ref xq22, .ref xq23, .ref xq24, .ref xq25, .ref xq26, .long 0, .int 0, .int 0, .int 0, .int 0, .int 0, .ref xq27, .ref xq28, .ref xq29, .ref xq30, .ref xq31, .ref xq32, .ref xq33, .long 0])), (xq6, .inl (xc40, 8, .inl xf35)), (xq8, .inl (xc42, 8, .inr (.inr (.inr (.inr (va_up xf43 0 (some xq44))))))), (xq44, .inl (xc45, 4, .inl xf35)), (xq9, .inl (xc46, 8, .inl xf35)), (q1, .inl (cA2, 4, .inl g6))]) (tys := [(xc40, .int), (xc42, .array .int), (xc45, .int), (xc46, .char), (cA2, .int)]) (fun v10 H locs hv10 I => ?_) (fun J9 => ?_)
    · skip
      refine lv_ior hx hb dX9_addRow_112 ?_
      refine lv_istore (lv' := [(8, .int (v8 ||| v10)), (9, .int 0), (7, .ref q1), (0, .ref h0), (1, .int p0), (2, .int p1), (3, .int p2), (4, .int p3), (5, .int p4), (6, .int p5)]) hx hb dX9_addRow_113 hl (by decide) rfl (fun ls hl => ?_)
      refine lv_iinc (v := 1) (lv' := [(9, .int 1), (8, .int (v8 ||| v10)), (7, .ref q1), (0, .ref h0), (1, .int p0), (2, .int p1), (3, .int p2), (4, .int p3), (5, .int p4), (6, .int p5)]) hx hb dX9_addRow_115 hl (k := 1) rfl (by decide) (by decide) rfl (fun ls hl => ?_)
      refine lv_goto (tgt := 68) hx hb dX9_addRow_118 (by decide) ?_
      refine lv_iload hx hb dX9_addRow_68 (lv_at hl 0 rfl) ?_
      refine lv_iconst (v := 4) hx hb dX9_addRow_70 (by decide) ?_
      refine lv_icmp_ge (tgt := 121) hx hb dX9_addRow_71 (by decide) (fun c9 => absurd c9 (by decide)) (fun _ => ?_)
      refine lv_iload hx hb dX9_addRow_74 (lv_at hl 1 rfl) ?_
      refine z_mergeI (M := 112) (ls := ls) (P := fun v => v = z_wr p3) (rest := [.int (v8 ||| v10)]) (A := A) (dC := dC) (dI := dI) (ws := [(h0, .inr (9, [.int 0, .ref xq1, .ref xq2, .ref xq3, .ref xq4, .ref xq5, .ref xq6, .ref xq7, .ref xq8, .ref xq9, .int 0, .int 0, .ref xq10, .ref xq11, .ref xq12, .ref xq13, .ref xq14, .ref xq15, .ref xq16, .ref xq17, .ref xq18, .ref xq19, .ref xq20, .ref xq21, .ref xq22, .ref xq23, .ref xq24, .ref xq25, .ref xq26, .long 0, .int 0, .int 0, .int 0, .int 0, .int 0, .ref xq27, .ref xq28, .ref xq29, .ref xq30, .ref xq31, .ref xq32, .ref xq33, .long 0])), (xq6, .inl (xc40, 8, .inl xf35)), (xq8, .inl (xc42, 8, .inr (.inr (.inr (.inr (va_up xf43 0 (some xq44))))))), (xq44, .inl (xc45, 4, .inl xf35)), (xq9, .inl (xc46, 8, .inl xf35)), (q1, .inl (cA2, 4, .inl g6))]) (tys := [(xc40, .int), (xc42, .array .int), (xc45, .int), (xc46, .char), (cA2, .int)]) (fun v12 H locs hv12 I => ?_) (fun J11 => ?_)
      · skip
        refine lv_ior hx hb dX9_addRow_112 ?_
        refine lv_istore (lv' := [(8, .int ((v8 ||| v10) ||| v12)), (9, .int 1), (7, .ref q1), (0, .ref h0), (1, .int p0), (2, .int p1), (3, .int p2), (4, .int p3), (5, .int p4), (6, .int p5)]) hx hb dX9_addRow_113 hl (by decide) rfl (fun ls hl => ?_)
        refine lv_iinc (v := 2) (lv' := [(9, .int 2), (8, .int ((v8 ||| v10) ||| v12)), (7, .ref q1), (0, .ref h0), (1, .int p0), (2, .int p1), (3, .int p2), (4, .int p3), (5, .int p4), (6, .int p5)]) hx hb dX9_addRow_115 hl (k := 1) rfl (by decide) (by decide) rfl (fun ls hl => ?_)
        refine lv_goto (tgt := 68) hx hb dX9_addRow_118 (by decide) ?_
        refine lv_iload hx hb dX9_addRow_68 (lv_at hl 0 rfl) ?_
        refine lv_iconst (v := 4) hx hb dX9_addRow_70 (by decide) ?_
        refine lv_icmp_ge (tgt := 121) hx hb dX9_addRow_71 (by decide) (fun c9 => absurd c9 (by decide)) (fun _ => ?_)
        refine lv_iload hx hb dX9_addRow_74 (lv_at hl 1 rfl) ?_
        refine z_mergeI (M := 112) (ls := ls) (P := fun v => v = z_wr p4) (rest := [.int ((v8 ||| v10) ||| v12)]) (A := A) (dC := dC) (dI := dI) (ws := [(h0, .inr (9, [.int 0, .ref xq1, .ref xq2, .ref xq3, .ref xq4, .ref xq5, .ref xq6, .ref xq7, .ref xq8, .ref xq9, .int 0, .int 0, .ref xq10, .ref xq11, .ref xq12, .ref xq13, .ref xq14, .ref xq15, .ref xq16, .ref xq17, .ref xq18, .ref xq19, .ref xq20, .ref xq21, .ref xq22, .ref xq23, .ref xq24, .ref xq25, .ref xq26, .long 0, .int 0, .int 0, .int 0, .int 0, .int 0, .ref xq27, .ref xq28, .ref xq29, .ref xq30, .ref xq31, .ref xq32, .ref xq33, .long 0])), (xq6, .inl (xc40, 8, .inl xf35)), (xq8, .inl (xc42, 8, .inr (.inr (.inr (.inr (va_up xf43 0 (some xq44))))))), (xq44, .inl (xc45, 4, .inl xf35)), (xq9, .inl (xc46, 8, .inl xf35)), (q1, .inl (cA2, 4, .inl g6))]) (tys := [(xc40, .int), (xc42, .array .int), (xc45, .int), (xc46, .char), (cA2, .int)]) (fun v14 H locs hv14 I => ?_) (fun J13 => ?_)
        · skip
          refine lv_ior hx hb dX9_addRow_112 ?_
          refine lv_istore (lv' := [(8, .int (((v8 ||| v10) ||| v12) ||| v14)), (9, .int 2), (7, .ref q1), (0, .ref h0), (1, .int p0), (2, .int p1), (3, .int p2), (4, .int p3), (5, .int p4), (6, .int p5)]) hx hb dX9_addRow_113 hl (by decide) rfl (fun ls hl => ?_)
          refine lv_iinc (v := 3) (lv' := [(9, .int 3), (8, .int (((v8 ||| v10) ||| v12) ||| v14)), (7, .ref q1), (0, .ref h0), (1, .int p0), (2, .int p1), (3, .int p2), (4, .int p3), (5, .int p4), (6, .int p5)]) hx hb dX9_addRow_115 hl (k := 1) rfl (by decide) (by decide) rfl (fun ls hl => ?_)
          refine lv_goto (tgt := 68) hx hb dX9_addRow_118 (by decide) ?_
          refine lv_iload hx hb dX9_addRow_68 (lv_at hl 0 rfl) ?_
          refine lv_iconst (v := 4) hx hb dX9_addRow_70 (by decide) ?_
          refine lv_icmp_ge (tgt := 121) hx hb dX9_addRow_71 (by decide) (fun c9 => absurd c9 (by decide)) (fun _ => ?_)
          refine lv_iload hx hb dX9_addRow_74 (lv_at hl 1 rfl) ?_
          refine z_mergeI (M := 112) (ls := ls) (P := fun v => v = z_wr p5) (rest := [.int (((v8 ||| v10) ||| v12) ||| v14)]) (A := A) (dC := dC) (dI := dI) (ws := [(h0, .inr (9, [.int 0, .ref xq1, .ref xq2, .ref xq3, .ref xq4, .ref xq5, .ref xq6, .ref xq7, .ref xq8, .ref xq9, .int 0, .int 0, .ref xq10, .ref xq11, .ref xq12, .ref xq13, .ref xq14, .ref xq15, .ref xq16, .ref xq17, .ref xq18, .ref xq19, .ref xq20, .ref xq21, .ref xq22, .ref xq23, .ref xq24, .ref xq25, .ref xq26, .long 0, .int 0, .int 0, .int 0, .int 0, .int 0, .ref xq27, .ref xq28, .ref xq29, .ref xq30, .ref xq31, .ref xq32, .ref xq33, .long 0])), (xq6, .inl (xc40, 8, .inl xf35)), (xq8, .inl (xc42, 8, .inr (.inr (.inr (.inr (va_up xf43 0 (some xq44))))))), (xq44, .inl (xc45, 4, .inl xf35)), (xq9, .inl (xc46, 8, .inl xf35)), (q1, .inl (cA2, 4, .inl g6))]) (tys := [(xc40, .int), (xc42, .array .int), (xc45, .int), (xc46, .char), (cA2, .int)]) (fun v16 H locs hv16 I => ?_) (fun J15 => ?_)
          · skip
            refine lv_ior hx hb dX9_addRow_112 ?_
            refine lv_istore (lv' := [(8, .int ((((v8 ||| v10) ||| v12) ||| v14) ||| v16)), (9, .int 3), (7, .ref q1), (0, .ref h0), (1, .int p0), (2, .int p1), (3, .int p2), (4, .int p3), (5, .int p4), (6, .int p5)]) hx hb dX9_addRow_113 hl (by decide) rfl (fun ls hl => ?_)
            refine lv_iinc (v := 4) (lv' := [(9, .int 4), (8, .int ((((v8 ||| v10) ||| v12) ||| v14) ||| v16)), (7, .ref q1), (0, .ref h0), (1, .int p0), (2, .int p1), (3, .int p2), (4, .int p3), (5, .int p4), (6, .int p5)]) hx hb dX9_addRow_115 hl (k := 1) rfl (by decide) (by decide) rfl (fun ls hl => ?_)
            refine lv_goto (tgt := 68) hx hb dX9_addRow_118 (by decide) ?_
            refine lv_iload hx hb dX9_addRow_68 (lv_at hl 0 rfl) ?_
            refine lv_iconst (v := 4) hx hb dX9_addRow_70 (by decide) ?_
            refine lv_icmp_ge (tgt := 121) hx hb dX9_addRow_71 (by decide) (fun _ => ?_) (fun c9 => absurd c9 (by decide))
            refine lv_iload hx hb dX9_addRow_121 (lv_at hl 1 rfl) ?_
            refine lv_if_eq (tgt := 132) hx hb dX9_addRow_123 (by decide) (fun c17 => ?_) (fun c17 => ?_)
            · skip
              refine lv_aload_n hx hb dX9_addRow_132 rfl (lv_at hl 3 rfl) ?_
              refine z_get (C := RX9) (T := TX9) (N := 43) (ci := 9) (v := .int 0) hx hb hg hown I iw_9 0 rfl rfl 11 (by decide) mw1271 rfl dX9_addRow_133 ?_
              refine lv_bipush (v := 8) hx hb dX9_addRow_136 (by decide) ?_
              refine lv_icmp_ne (tgt := 147) hx hb dX9_addRow_138 (by decide) (fun _ => ?_) (fun c9 => absurd c9 (by decide))
              refine lv_iconst (v := 0) hx hb dX9_addRow_147 (by decide) ?_
              refine lv_istore (lv' := [(9, .int 0), (8, .int ((((v8 ||| v10) ||| v12) ||| v14) ||| v16)), (7, .ref q1), (0, .ref h0), (1, .int p0), (2, .int p1), (3, .int p2), (4, .int p3), (5, .int p4), (6, .int p5)]) hx hb dX9_addRow_148 hl (by decide) rfl (fun ls hl => ?_)
              refine lv_iload hx hb dX9_addRow_150 (lv_at hl 0 rfl) ?_
              refine lv_iconst (v := 4) hx hb dX9_addRow_152 (by decide) ?_
              refine lv_icmp_ge (tgt := 179) hx hb dX9_addRow_153 (by decide) (fun c9 => absurd c9 (by decide)) (fun _ => ?_)
              refine lv_aload_n hx hb dX9_addRow_156 rfl (lv_at hl 3 rfl) ?_
              refine z_get (C := RX9) (T := TX9) (N := 43) (ci := 9) (v := .ref xq8) hx hb hg hown I iw_9 0 rfl rfl 8 (by decide) mw1268 rfl dX9_addRow_157 ?_
              refine lv_aload_n hx hb dX9_addRow_160 rfl (lv_at hl 3 rfl) ?_
              refine z_get (C := RX9) (T := TX9) (N := 43) (ci := 9) (v := .int 0) hx hb hg hown I iw_9 0 rfl rfl 11 (by decide) mw1271 rfl dX9_addRow_161 ?_
              refine z_aald (v := .ref xq44) hx hb I 2 1 rfl rfl rfl (by unfold vp_in; decide) dX9_addRow_164 rfl ?_
              refine lv_iload hx hb dX9_addRow_165 (lv_at hl 0 rfl) ?_
              refine lv_aload hx hb dX9_addRow_167 (lv_at hl 2 rfl) ?_
              refine lv_iload hx hb dX9_addRow_169 (lv_at hl 0 rfl) ?_
              refine z_iald (v := p2) hx hb I 5 4 rfl rfl (by unfold vp_in; decide) dX9_addRow_171 kg6_0 ?_
              refine z_iast hx hb I 3 2 rfl rfl (by unfold vp_in; decide) dX9_addRow_172 (fun g18 H locs eg18 I => ?_)
              have I : z_I A dC dI [(h0, .inr (9, [.int 0, .ref xq1, .ref xq2, .ref xq3, .ref xq4, .ref xq5, .ref xq6, .ref xq7, .ref xq8, .ref xq9, .int 0, .int 0, .ref xq10, .ref xq11, .ref xq12, .ref xq13, .ref xq14, .ref xq15, .ref xq16, .ref xq17, .ref xq18, .ref xq19, .ref xq20, .ref xq21, .ref xq22, .ref xq23, .ref xq24, .ref xq25, .ref xq26, .long 0, .int 0, .int 0, .int 0, .int 0, .int 0, .ref xq27, .ref xq28, .ref xq29, .ref xq30, .ref xq31, .ref xq32, .ref xq33, .long 0])), (xq6, .inl (xc40, 8, .inl xf35)), (xq8, .inl (xc42, 8, .inr (.inr (.inr (.inr (va_up xf43 0 (some xq44))))))), (xq44, .inl (xc45, 4, .inl g18)), (xq9, .inl (xc46, 8, .inl xf35)), (q1, .inl (cA2, 4, .inl g6))] [(xc40, .int), (xc42, .array .int), (xc45, .int), (xc46, .char), (cA2, .int)] s H _ := I
              refine lv_iinc (v := 1) (lv' := [(9, .int 1), (8, .int ((((v8 ||| v10) ||| v12) ||| v14) ||| v16)), (7, .ref q1), (0, .ref h0), (1, .int p0), (2, .int p1), (3, .int p2), (4, .int p3), (5, .int p4), (6, .int p5)]) hx hb dX9_addRow_173 hl (k := 0) rfl (by decide) (by decide) rfl (fun ls hl => ?_)
              refine lv_goto (tgt := 150) hx hb dX9_addRow_176 (by decide) ?_
              refine lv_iload hx hb dX9_addRow_150 (lv_at hl 0 rfl) ?_
              refine lv_iconst (v := 4) hx hb dX9_addRow_152 (by decide) ?_
              refine lv_icmp_ge (tgt := 179) hx hb dX9_addRow_153 (by decide) (fun c9 => absurd c9 (by decide)) (fun _ => ?_)
              refine lv_aload_n hx hb dX9_addRow_156 rfl (lv_at hl 3 rfl) ?_
              refine z_get (C := RX9) (T := TX9) (N := 43) (ci := 9) (v := .ref xq8) hx hb hg hown I iw_9 0 rfl rfl 8 (by decide) mw1268 rfl dX9_addRow_157 ?_
              refine lv_aload_n hx hb dX9_addRow_160 rfl (lv_at hl 3 rfl) ?_
              refine z_get (C := RX9) (T := TX9) (N := 43) (ci := 9) (v := .int 0) hx hb hg hown I iw_9 0 rfl rfl 11 (by decide) mw1271 rfl dX9_addRow_161 ?_
              refine z_aald (v := .ref xq44) hx hb I 2 1 rfl rfl rfl (by unfold vp_in; decide) dX9_addRow_164 rfl ?_
              refine lv_iload hx hb dX9_addRow_165 (lv_at hl 0 rfl) ?_
              refine lv_aload hx hb dX9_addRow_167 (lv_at hl 2 rfl) ?_
              refine lv_iload hx hb dX9_addRow_169 (lv_at hl 0 rfl) ?_
              refine z_iald (v := p3) hx hb I 5 4 rfl rfl (by unfold vp_in; decide) dX9_addRow_171 kg6_1 ?_
              refine z_iast hx hb I 3 2 rfl rfl (by unfold vp_in; decide) dX9_addRow_172 (fun g19 H locs eg19 I => ?_)
              have I : z_I A dC dI [(h0, .inr (9, [.int 0, .ref xq1, .ref xq2, .ref xq3, .ref xq4, .ref xq5, .ref xq6, .ref xq7, .ref xq8, .ref xq9, .int 0, .int 0, .ref xq10, .ref xq11, .ref xq12, .ref xq13, .ref xq14, .ref xq15, .ref xq16, .ref xq17, .ref xq18, .ref xq19, .ref xq20, .ref xq21, .ref xq22, .ref xq23, .ref xq24, .ref xq25, .ref xq26, .long 0, .int 0, .int 0, .int 0, .int 0, .int 0, .ref xq27, .ref xq28, .ref xq29, .ref xq30, .ref xq31, .ref xq32, .ref xq33, .long 0])), (xq6, .inl (xc40, 8, .inl xf35)), (xq8, .inl (xc42, 8, .inr (.inr (.inr (.inr (va_up xf43 0 (some xq44))))))), (xq44, .inl (xc45, 4, .inl g19)), (xq9, .inl (xc46, 8, .inl xf35)), (q1, .inl (cA2, 4, .inl g6))] [(xc40, .int), (xc42, .array .int), (xc45, .int), (xc46, .char), (cA2, .int)] s H _ := I
              refine lv_iinc (v := 2) (lv' := [(9, .int 2), (8, .int ((((v8 ||| v10) ||| v12) ||| v14) ||| v16)), (7, .ref q1), (0, .ref h0), (1, .int p0), (2, .int p1), (3, .int p2), (4, .int p3), (5, .int p4), (6, .int p5)]) hx hb dX9_addRow_173 hl (k := 0) rfl (by decide) (by decide) rfl (fun ls hl => ?_)
              refine lv_goto (tgt := 150) hx hb dX9_addRow_176 (by decide) ?_
              refine lv_iload hx hb dX9_addRow_150 (lv_at hl 0 rfl) ?_
              refine lv_iconst (v := 4) hx hb dX9_addRow_152 (by decide) ?_
              refine lv_icmp_ge (tgt := 179) hx hb dX9_addRow_153 (by decide) (fun c9 => absurd c9 (by decide)) (fun _ => ?_)
              refine lv_aload_n hx hb dX9_addRow_156 rfl (lv_at hl 3 rfl) ?_
              refine z_get (C := RX9) (T := TX9) (N := 43) (ci := 9) (v := .ref xq8) hx hb hg hown I iw_9 0 rfl rfl 8 (by decide) mw1268 rfl dX9_addRow_157 ?_
              refine lv_aload_n hx hb dX9_addRow_160 rfl (lv_at hl 3 rfl) ?_
              refine z_get (C := RX9) (T := TX9) (N := 43) (ci := 9) (v := .int 0) hx hb hg hown I iw_9 0 rfl rfl 11 (by decide) mw1271 rfl dX9_addRow_161 ?_
              refine z_aald (v := .ref xq44) hx hb I 2 1 rfl rfl rfl (by unfold vp_in; decide) dX9_addRow_164 rfl ?_
              refine lv_iload hx hb dX9_addRow_165 (lv_at hl 0 rfl) ?_
              refine lv_aload hx hb dX9_addRow_167 (lv_at hl 2 rfl) ?_
              refine lv_iload hx hb dX9_addRow_169 (lv_at hl 0 rfl) ?_
              refine z_iald (v := p4) hx hb I 5 4 rfl rfl (by unfold vp_in; decide) dX9_addRow_171 kg6_2 ?_
              refine z_iast hx hb I 3 2 rfl rfl (by unfold vp_in; decide) dX9_addRow_172 (fun g20 H locs eg20 I => ?_)
              have I : z_I A dC dI [(h0, .inr (9, [.int 0, .ref xq1, .ref xq2, .ref xq3, .ref xq4, .ref xq5, .ref xq6, .ref xq7, .ref xq8, .ref xq9, .int 0, .int 0, .ref xq10, .ref xq11, .ref xq12, .ref xq13, .ref xq14, .ref xq15, .ref xq16, .ref xq17, .ref xq18, .ref xq19, .ref xq20, .ref xq21, .ref xq22, .ref xq23, .ref xq24, .ref xq25, .ref xq26, .long 0, .int 0, .int 0, .int 0, .int 0, .int 0, .ref xq27, .ref xq28, .ref xq29, .ref xq30, .ref xq31, .ref xq32, .ref xq33, .long 0])), (xq6, .inl (xc40, 8, .inl xf35)), (xq8, .inl (xc42, 8, .inr (.inr (.inr (.inr (va_up xf43 0 (some xq44))))))), (xq44, .inl (xc45, 4, .inl g20)), (xq9, .inl (xc46, 8, .inl xf35)), (q1, .inl (cA2, 4, .inl g6))] [(xc40, .int), (xc42, .array .int), (xc45, .int), (xc46, .char), (cA2, .int)] s H _ := I
              refine lv_iinc (v := 3) (lv' := [(9, .int 3), (8, .int ((((v8 ||| v10) ||| v12) ||| v14) ||| v16)), (7, .ref q1), (0, .ref h0), (1, .int p0), (2, .int p1), (3, .int p2), (4, .int p3), (5, .int p4), (6, .int p5)]) hx hb dX9_addRow_173 hl (k := 0) rfl (by decide) (by decide) rfl (fun ls hl => ?_)
              refine lv_goto (tgt := 150) hx hb dX9_addRow_176 (by decide) ?_
              refine lv_iload hx hb dX9_addRow_150 (lv_at hl 0 rfl) ?_
              refine lv_iconst (v := 4) hx hb dX9_addRow_152 (by decide) ?_
              refine lv_icmp_ge (tgt := 179) hx hb dX9_addRow_153 (by decide) (fun c9 => absurd c9 (by decide)) (fun _ => ?_)
              refine lv_aload_n hx hb dX9_addRow_156 rfl (lv_at hl 3 rfl) ?_
              refine z_get (C := RX9) (T := TX9) (N := 43) (ci := 9) (v := .ref xq8) hx hb hg hown I iw_9 0 rfl rfl 8 (by decide) mw1268 rfl dX9_addRow_157 ?_
              refine lv_aload_n hx hb dX9_addRow_160 rfl (lv_at hl 3 rfl) ?_
              refine z_get (C := RX9) (T := TX9) (N := 43) (ci := 9) (v := .int 0) hx hb hg hown I iw_9 0 rfl rfl 11 (by decide) mw1271 rfl dX9_addRow_161 ?_
              refine z_aald (v := .ref xq44) hx hb I 2 1 rfl rfl rfl (by unfold vp_in; decide) dX9_addRow_164 rfl ?_
              refine lv_iload hx hb dX9_addRow_165 (lv_at hl 0 rfl) ?_
              refine lv_aload hx hb dX9_addRow_167 (lv_at hl 2 rfl) ?_
              refine lv_iload hx hb dX9_addRow_169 (lv_at hl 0 rfl) ?_
              refine z_iald (v := p5) hx hb I 5 4 rfl rfl (by unfold vp_in; decide) dX9_addRow_171 kg6_3 ?_
              refine z_iast hx hb I 3 2 rfl rfl (by unfold vp_in; decide) dX9_addRow_172 (fun g21 H locs eg21 I => ?_)
              have I : z_I A dC dI [(h0, .inr (9, [.int 0, .ref xq1, .ref xq2, .ref xq3, .ref xq4, .ref xq5, .ref xq6, .ref xq7, .ref xq8, .ref xq9, .int 0, .int 0, .ref xq10, .ref xq11, .ref xq12, .ref xq13, .ref xq14, .ref xq15, .ref xq16, .ref xq17, .ref xq18, .ref xq19, .ref xq20, .ref xq21, .ref xq22, .ref xq23, .ref xq24, .ref xq25, .ref xq26, .long 0, .int 0, .int 0, .int 0, .int 0, .int 0, .ref xq27, .ref xq28, .ref xq29, .ref xq30, .ref xq31, .ref xq32, .ref xq33, .long 0])), (xq6, .inl (xc40, 8, .inl xf35)), (xq8, .inl (xc42, 8, .inr (.inr (.inr (.inr (va_up xf43 0 (some xq44))))))), (xq44, .inl (xc45, 4, .inl g21)), (xq9, .inl (xc46, 8, .inl xf35)), (q1, .inl (cA2, 4, .inl g6))] [(xc40, .int), (xc42, .array .int), (xc45, .int), (xc46, .char), (cA2, .int)] s H _ := I
              refine lv_iinc (v := 4) (lv' := [(9, .int 4), (8, .int ((((v8 ||| v10) ||| v12) ||| v14) ||| v16)), (7, .ref q1), (0, .ref h0), (1, .int p0), (2, .int p1), (3, .int p2), (4, .int p3), (5, .int p4), (6, .int p5)]) hx hb dX9_addRow_173 hl (k := 0) rfl (by decide) (by decide) rfl (fun ls hl => ?_)
              refine lv_goto (tgt := 150) hx hb dX9_addRow_176 (by decide) ?_
              refine lv_iload hx hb dX9_addRow_150 (lv_at hl 0 rfl) ?_
              refine lv_iconst (v := 4) hx hb dX9_addRow_152 (by decide) ?_
              refine lv_icmp_ge (tgt := 179) hx hb dX9_addRow_153 (by decide) (fun _ => ?_) (fun c9 => absurd c9 (by decide))
              refine lv_aload_n hx hb dX9_addRow_179 rfl (lv_at hl 3 rfl) ?_
              refine z_get (C := RX9) (T := TX9) (N := 43) (ci := 9) (v := .ref xq6) hx hb hg hown I iw_9 0 rfl rfl 6 (by decide) mw1266 rfl dX9_addRow_180 ?_
              refine lv_aload_n hx hb dX9_addRow_183 rfl (lv_at hl 3 rfl) ?_
              refine z_get (C := RX9) (T := TX9) (N := 43) (ci := 9) (v := .int 0) hx hb hg hown I iw_9 0 rfl rfl 11 (by decide) mw1271 rfl dX9_addRow_184 ?_
              refine lv_iload_n hx hb dX9_addRow_187 rfl (lv_at hl 5 rfl) ?_
              refine z_iast hx hb I 1 0 rfl rfl (by unfold vp_in; decide) dX9_addRow_188 (fun g22 H locs eg22 I => ?_)
              have I : z_I A dC dI [(h0, .inr (9, [.int 0, .ref xq1, .ref xq2, .ref xq3, .ref xq4, .ref xq5, .ref xq6, .ref xq7, .ref xq8, .ref xq9, .int 0, .int 0, .ref xq10, .ref xq11, .ref xq12, .ref xq13, .ref xq14, .ref xq15, .ref xq16, .ref xq17, .ref xq18, .ref xq19, .ref xq20, .ref xq21, .ref xq22, .ref xq23, .ref xq24, .ref xq25, .ref xq26, .long 0, .int 0, .int 0, .int 0, .int 0, .int 0, .ref xq27, .ref xq28, .ref xq29, .ref xq30, .ref xq31, .ref xq32, .ref xq33, .long 0])), (xq6, .inl (xc40, 8, .inl g22)), (xq8, .inl (xc42, 8, .inr (.inr (.inr (.inr (va_up xf43 0 (some xq44))))))), (xq44, .inl (xc45, 4, .inl g21)), (xq9, .inl (xc46, 8, .inl xf35)), (q1, .inl (cA2, 4, .inl g6))] [(xc40, .int), (xc42, .array .int), (xc45, .int), (xc46, .char), (cA2, .int)] s H _ := I
              refine lv_aload_n hx hb dX9_addRow_189 rfl (lv_at hl 3 rfl) ?_
              refine z_get (C := RX9) (T := TX9) (N := 43) (ci := 9) (v := .ref xq9) hx hb hg hown I iw_9 0 rfl rfl 9 (by decide) mw1269 rfl dX9_addRow_190 ?_
              refine lv_aload_n hx hb dX9_addRow_193 rfl (lv_at hl 3 rfl) ?_
              refine z_get (C := RX9) (T := TX9) (N := 43) (ci := 9) (v := .int 0) hx hb hg hown I iw_9 0 rfl rfl 11 (by decide) mw1271 rfl dX9_addRow_194 ?_
              refine lv_iload_n hx hb dX9_addRow_197 rfl (lv_at hl 4 rfl) ?_
              refine z_cast hx hb I 4 3 rfl rfl (by unfold vp_in; decide) dX9_addRow_198 (fun g23 H locs eg23 I => ?_)
              have I : z_I A dC dI [(h0, .inr (9, [.int 0, .ref xq1, .ref xq2, .ref xq3, .ref xq4, .ref xq5, .ref xq6, .ref xq7, .ref xq8, .ref xq9, .int 0, .int 0, .ref xq10, .ref xq11, .ref xq12, .ref xq13, .ref xq14, .ref xq15, .ref xq16, .ref xq17, .ref xq18, .ref xq19, .ref xq20, .ref xq21, .ref xq22, .ref xq23, .ref xq24, .ref xq25, .ref xq26, .long 0, .int 0, .int 0, .int 0, .int 0, .int 0, .ref xq27, .ref xq28, .ref xq29, .ref xq30, .ref xq31, .ref xq32, .ref xq33, .long 0])), (xq6, .inl (xc40, 8, .inl g22)), (xq8, .inl (xc42, 8, .inr (.inr (.inr (.inr (va_up xf43 0 (some xq44))))))), (xq44, .inl (xc45, 4, .inl g21)), (xq9, .inl (xc46, 8, .inl g23)), (q1, .inl (cA2, 4, .inl g6))] [(xc40, .int), (xc42, .array .int), (xc45, .int), (xc46, .char), (cA2, .int)] s H _ := I
              refine lv_aload_n hx hb dX9_addRow_199 rfl (lv_at hl 3 rfl) ?_
              refine lv_dup hx hb dX9_addRow_200 rfl ?_
              refine z_get (C := RX9) (T := TX9) (N := 43) (ci := 9) (v := .int 0) hx hb hg hown I iw_9 0 rfl rfl 11 (by decide) mw1271 rfl dX9_addRow_201 ?_
              refine lv_iconst (v := 1) hx hb dX9_addRow_204 (by decide) ?_
              refine lv_iadd hx hb dX9_addRow_205 ?_
              refine lv_topi (fun w24 ew24 => ?_)
              obtain rfl : w24 = 1 := ew24.trans (by decide)
              refine z_put (C := RX9) (T := TX9) (N := 43) (ci := 9) (v := .int 1) hx hb hg hown I iw_9 tyX9 tyX9_ok nmX9 0 rfl rfl 11 (by decide) mw1271 rfl rfl rfl (Nat.le_of_ble_eq_true rfl) dX9_addRow_206 [(h0, .inr (9, [.int 0, .ref xq1, .ref xq2, .ref xq3, .ref xq4, .ref xq5, .ref xq6, .ref xq7, .ref xq8, .ref xq9, .int 0, .int 1, .ref xq10, .ref xq11, .ref xq12, .ref xq13, .ref xq14, .ref xq15, .ref xq16, .ref xq17, .ref xq18, .ref xq19, .ref xq20, .ref xq21, .ref xq22, .ref xq23, .ref xq24, .ref xq25, .ref xq26, .long 0, .int 0, .int 0, .int 0, .int 0, .int 0, .ref xq27, .ref xq28, .ref xq29, .ref xq30, .ref xq31, .ref xq32, .ref xq33, .long 0])), (xq6, .inl (xc40, 8, .inl g22)), (xq8, .inl (xc42, 8, .inr (.inr (.inr (.inr (va_up xf43 0 (some xq44))))))), (xq44, .inl (xc45, 4, .inl g21)), (xq9, .inl (xc46, 8, .inl g23)), (q1, .inl (cA2, 4, .inl g6))] rfl (fun H locs I => ?_)
              refine lv_aload_n hx hb dX9_addRow_209 rfl (lv_at hl 3 rfl) ?_
              refine z_get (C := RX9) (T := TX9) (N := 43) (ci := 9) (v := .int 0) hx hb hg hown I iw_9 0 rfl rfl 30 (by decide) mw1290 rfl dX9_addRow_210 ?_
              refine lv_if_le (tgt := 220) hx hb dX9_addRow_213 (by decide) (fun _ => ?_) (fun c9 => absurd c9 (by decide))
              refine lv_aload_n hx hb dX9_addRow_220 rfl (lv_at hl 3 rfl) ?_
              refine z_get (C := RX9) (T := TX9) (N := 43) (ci := 9) (v := .int 1) hx hb hg hown I iw_9 0 rfl rfl 11 (by decide) mw1271 rfl dX9_addRow_221 ?_
              refine lv_iconst (v := 1) hx hb dX9_addRow_224 (by decide) ?_
              refine lv_isub hx hb dX9_addRow_225 ?_
              refine lv_topi (fun w25 ew25 => ?_)
              obtain rfl : w25 = 0 := ew25.trans (by decide)
              have I := I.sub (ws' := [(h0, .inr (9, [.int 0, .ref xq1, .ref xq2, .ref xq3, .ref xq4, .ref xq5, .ref xq6, .ref xq7, .ref xq8, .ref xq9, .int 0, .int 1, .ref xq10, .ref xq11, .ref xq12, .ref xq13, .ref xq14, .ref xq15, .ref xq16, .ref xq17, .ref xq18, .ref xq19, .ref xq20, .ref xq21, .ref xq22, .ref xq23, .ref xq24, .ref xq25, .ref xq26, .long 0, .int 0, .int 0, .int 0, .int 0, .int 0, .ref xq27, .ref xq28, .ref xq29, .ref xq30, .ref xq31, .ref xq32, .ref xq33, .long 0]))]) [0] rfl rfl rfl
              have I := I.subT (t' := []) [] rfl
              refine W.widen (k := 1) (n := 4) (Nat.le_of_ble_eq_true rfl) (Nat.le_of_ble_eq_true rfl) ?_
              exact z_iret hx hb hr hlocks I ⟨0, 1, rfl, rfl, (z_cAR_0 hv8 hv10 hv12 hv14 hv16 c17)⟩ dX9_addRow_226
            · skip
              refine lv_aload_n hx hb dX9_addRow_126 rfl (lv_at hl 3 rfl) ?_
              refine lv_iconst (v := 1) hx hb dX9_addRow_127 (by decide) ?_
              refine z_calli (wr := [(xq6, .inl (xc40, 8, .inl xf35)), (xq8, .inl (xc42, 8, .inr (.inr (.inr (.inr (va_up xf43 0 (some xq44))))))), (xq44, .inl (xc45, 4, .inl xf35)), (xq9, .inl (xc46, 8, .inl xf35)), (q1, .inl (cA2, 4, .inl g6))]) (va_runV (As := [.int 1]) (rest := []) ⟨hx, hb, hml, hown, hts⟩ (z_M_fails l dC dI 0 xq1 xq2 xq3 xq4 xq5 xq6 xq7 xq8 xq9 0 0 xq10 xq11 xq12 xq13 xq14 xq15 xq16 xq17 xq18 xq19 xq20 xq21 xq22 xq23 xq24 xq25 xq26 0 0 0 0 0 0 xq27 xq28 xq29 xq30 xq31 xq32 xq33 0 h0 1  H.size) (cwV 1 hts (z_gV z_T.w mw1402 mw1404 mwp39 mw10 mw1405) rfl rfl rfl (by decide +kernel) ⟨Nat.le_of_ble_eq_true rfl, Nat.le_of_ble_eq_true rfl⟩) (z_preV I [0] [] rfl rfl rfl rfl (ci := 9) (q0 := 0) rfl rfl) rfl rfl hl.1 rfl (lv_room (Nat.le_of_ble_eq_true rfl)) dX9_addRow_128 ⟨Nat.le_of_ble_eq_true rfl, Nat.le_of_ble_eq_true rfl⟩) I [0] [1, 2, 3, 4, 5] rfl rfl (by decide) (by decide) (fun r26 u26 H locs hw26 I => ?_)
              obtain ⟨hu26, hp26⟩ := hw26
              subst hu26
              have I : z_I A dC dI [(xq6, .inl (xc40, 8, .inl xf35)), (xq8, .inl (xc42, 8, .inr (.inr (.inr (.inr (va_up xf43 0 (some xq44))))))), (xq44, .inl (xc45, 4, .inl xf35)), (xq9, .inl (xc46, 8, .inl xf35)), (q1, .inl (cA2, 4, .inl g6)), (h0, .inr (9, [.int 1, .ref xq1, .ref xq2, .ref xq3, .ref xq4, .ref xq5, .ref xq6, .ref xq7, .ref xq8, .ref xq9, .int 0, .int 0, .ref xq10, .ref xq11, .ref xq12, .ref xq13, .ref xq14, .ref xq15, .ref xq16, .ref xq17, .ref xq18, .ref xq19, .ref xq20, .ref xq21, .ref xq22, .ref xq23, .ref xq24, .ref xq25, .ref xq26, .long 0, .int 0, .int 0, .int 0, .int 0, .int 0, .ref xq27, .ref xq28, .ref xq29, .ref xq30, .ref xq31, .ref xq32, .ref xq33, .long 0]))] [(xc40, .int), (xc42, .array .int), (xc45, .int), (xc46, .char), (cA2, .int)] s H _ := I
              obtain rfl : r26 = 0 := hp26
              have I := I.sub (ws' := [(h0, .inr (9, [.int 1, .ref xq1, .ref xq2, .ref xq3, .ref xq4, .ref xq5, .ref xq6, .ref xq7, .ref xq8, .ref xq9, .int 0, .int 0, .ref xq10, .ref xq11, .ref xq12, .ref xq13, .ref xq14, .ref xq15, .ref xq16, .ref xq17, .ref xq18, .ref xq19, .ref xq20, .ref xq21, .ref xq22, .ref xq23, .ref xq24, .ref xq25, .ref xq26, .long 0, .int 0, .int 0, .int 0, .int 0, .int 0, .ref xq27, .ref xq28, .ref xq29, .ref xq30, .ref xq31, .ref xq32, .ref xq33, .long 0]))]) [5] rfl rfl rfl
              have I := I.subT (t' := []) [] rfl
              refine W.widen (k := 1) (n := 4) (Nat.le_of_ble_eq_true rfl) (Nat.le_of_ble_eq_true rfl) ?_
              exact z_iret hx hb hr hlocks I ⟨1, 0, rfl, rfl, (z_cAR_1 hv8 hv10 hv12 hv14 hv16 c17)⟩ dX9_addRow_131
          · skip
            refine lv_aload hx hb dX9_addRow_76 (lv_at hl 2 rfl) ?_
            refine lv_iload hx hb dX9_addRow_78 (lv_at hl 0 rfl) ?_
            refine z_iald (v := p5) hx hb I 5 4 rfl rfl (by unfold vp_in; decide) dX9_addRow_80 kg6_3 ?_
            refine lv_bipush (v := (-5)) hx hb dX9_addRow_81 (by decide) ?_
            refine lv_iconst (v := 5) hx hb dX9_addRow_83 (by decide) ?_
            refine z_calli (wr := [(h0, .inr (9, [.int 0, .ref xq1, .ref xq2, .ref xq3, .ref xq4, .ref xq5, .ref xq6, .ref xq7, .ref xq8, .ref xq9, .int 0, .int 0, .ref xq10, .ref xq11, .ref xq12, .ref xq13, .ref xq14, .ref xq15, .ref xq16, .ref xq17, .ref xq18, .ref xq19, .ref xq20, .ref xq21, .ref xq22, .ref xq23, .ref xq24, .ref xq25, .ref xq26, .long 0, .int 0, .int 0, .int 0, .int 0, .int 0, .ref xq27, .ref xq28, .ref xq29, .ref xq30, .ref xq31, .ref xq32, .ref xq33, .long 0])), (xq6, .inl (xc40, 8, .inl xf35)), (xq8, .inl (xc42, 8, .inr (.inr (.inr (.inr (va_up xf43 0 (some xq44))))))), (xq44, .inl (xc45, 4, .inl xf35)), (xq9, .inl (xc46, 8, .inl xf35)), (q1, .inl (cA2, 4, .inl g6))]) (va_runS (As := [.int p5, .int (-5), .int 5]) (rest := [.int (((v8 ||| v10) ||| v12) ||| v14)]) ⟨hx, hb, hml, hown, hts⟩ (z_M_isBetween l dC dI p5 (-5) 5  H.size) (va_cwS 3 hts (z_gS z_T.w mw1399 mw1400 mw10 mw1401) rfl rfl rfl (by decide +kernel) ⟨Nat.le_of_ble_eq_true rfl, Nat.le_of_ble_eq_true rfl⟩) (z_pre I [] [] rfl rfl rfl rfl) rfl rfl hl.1 rfl (lv_room (Nat.le_of_ble_eq_true rfl)) dX9_addRow_84 ⟨Nat.le_of_ble_eq_true rfl, Nat.le_of_ble_eq_true rfl⟩) I [] [0, 1, 2, 3, 4, 5] rfl rfl (by decide) (by decide) (fun r27 u27 H locs hw27 I => ?_)
            obtain ⟨hu27, hp27⟩ := hw27
            subst hu27
            have I : z_I A dC dI [(h0, .inr (9, [.int 0, .ref xq1, .ref xq2, .ref xq3, .ref xq4, .ref xq5, .ref xq6, .ref xq7, .ref xq8, .ref xq9, .int 0, .int 0, .ref xq10, .ref xq11, .ref xq12, .ref xq13, .ref xq14, .ref xq15, .ref xq16, .ref xq17, .ref xq18, .ref xq19, .ref xq20, .ref xq21, .ref xq22, .ref xq23, .ref xq24, .ref xq25, .ref xq26, .long 0, .int 0, .int 0, .int 0, .int 0, .int 0, .ref xq27, .ref xq28, .ref xq29, .ref xq30, .ref xq31, .ref xq32, .ref xq33, .long 0])), (xq6, .inl (xc40, 8, .inl xf35)), (xq8, .inl (xc42, 8, .inr (.inr (.inr (.inr (va_up xf43 0 (some xq44))))))), (xq44, .inl (xc45, 4, .inl xf35)), (xq9, .inl (xc46, 8, .inl xf35)), (q1, .inl (cA2, 4, .inl g6))] [(xc40, .int), (xc42, .array .int), (xc45, .int), (xc46, .char), (cA2, .int)] s H _ := I
            refine lv_if_eq (tgt := 107) hx hb dX9_addRow_87 (by decide) (fun c28 => ?_) (fun c28 => ?_)
            · skip
              refine lv_iconst (v := 1) hx hb dX9_addRow_107 (by decide) ?_
              refine lv_goto (tgt := 112) hx hb dX9_addRow_108 (by decide) ?_
              exact J15 1 _ _ (by simp [z_wr, (by decide : ¬ z_bt (-5) 0 5 = 0), ← hp27, c28]) I
            · skip
              refine lv_aload hx hb dX9_addRow_90 (lv_at hl 2 rfl) ?_
              refine lv_iload hx hb dX9_addRow_92 (lv_at hl 0 rfl) ?_
              refine z_iald (v := p5) hx hb I 5 4 rfl rfl (by unfold vp_in; decide) dX9_addRow_94 kg6_3 ?_
              refine lv_if_eq (tgt := 111) hx hb dX9_addRow_95 (by decide) (fun c29 => ?_) (fun c29 => ?_)
              · skip
                refine lv_iconst (v := 0) hx hb dX9_addRow_111 (by decide) ?_
                exact J15 0 _ _ (by simp [z_wr, (by decide : ¬ z_bt (-5) 0 5 = 0), ← hp27, c28, c29]) I
              · skip
                refine lv_iload hx hb dX9_addRow_98 (lv_at hl 0 rfl) ?_
                refine lv_aload_n hx hb dX9_addRow_100 rfl (lv_at hl 3 rfl) ?_
                refine z_get (C := RX9) (T := TX9) (N := 43) (ci := 9) (v := .int 0) hx hb hg hown I iw_9 0 rfl rfl 10 (by decide) mw1270 rfl dX9_addRow_101 ?_
                refine lv_icmp_lt (tgt := 111) hx hb dX9_addRow_104 (by decide) (fun c9 => absurd c9 (by decide)) (fun _ => ?_)
                refine lv_iconst (v := 1) hx hb dX9_addRow_107 (by decide) ?_
                refine lv_goto (tgt := 112) hx hb dX9_addRow_108 (by decide) ?_
                exact J15 1 _ _ (by simp [z_wr, (by decide : ¬ z_bt (-5) 0 5 = 0), ← hp27, c28, c29]) I
        · skip
          refine lv_aload hx hb dX9_addRow_76 (lv_at hl 2 rfl) ?_
          refine lv_iload hx hb dX9_addRow_78 (lv_at hl 0 rfl) ?_
          refine z_iald (v := p4) hx hb I 5 4 rfl rfl (by unfold vp_in; decide) dX9_addRow_80 kg6_2 ?_
          refine lv_bipush (v := (-5)) hx hb dX9_addRow_81 (by decide) ?_
          refine lv_iconst (v := 5) hx hb dX9_addRow_83 (by decide) ?_
          refine z_calli (wr := [(h0, .inr (9, [.int 0, .ref xq1, .ref xq2, .ref xq3, .ref xq4, .ref xq5, .ref xq6, .ref xq7, .ref xq8, .ref xq9, .int 0, .int 0, .ref xq10, .ref xq11, .ref xq12, .ref xq13, .ref xq14, .ref xq15, .ref xq16, .ref xq17, .ref xq18, .ref xq19, .ref xq20, .ref xq21, .ref xq22, .ref xq23, .ref xq24, .ref xq25, .ref xq26, .long 0, .int 0, .int 0, .int 0, .int 0, .int 0, .ref xq27, .ref xq28, .ref xq29, .ref xq30, .ref xq31, .ref xq32, .ref xq33, .long 0])), (xq6, .inl (xc40, 8, .inl xf35)), (xq8, .inl (xc42, 8, .inr (.inr (.inr (.inr (va_up xf43 0 (some xq44))))))), (xq44, .inl (xc45, 4, .inl xf35)), (xq9, .inl (xc46, 8, .inl xf35)), (q1, .inl (cA2, 4, .inl g6))]) (va_runS (As := [.int p4, .int (-5), .int 5]) (rest := [.int ((v8 ||| v10) ||| v12)]) ⟨hx, hb, hml, hown, hts⟩ (z_M_isBetween l dC dI p4 (-5) 5  H.size) (va_cwS 3 hts (z_gS z_T.w mw1399 mw1400 mw10 mw1401) rfl rfl rfl (by decide +kernel) ⟨Nat.le_of_ble_eq_true rfl, Nat.le_of_ble_eq_true rfl⟩) (z_pre I [] [] rfl rfl rfl rfl) rfl rfl hl.1 rfl (lv_room (Nat.le_of_ble_eq_true rfl)) dX9_addRow_84 ⟨Nat.le_of_ble_eq_true rfl, Nat.le_of_ble_eq_true rfl⟩) I [] [0, 1, 2, 3, 4, 5] rfl rfl (by decide) (by decide) (fun r30 u30 H locs hw30 I => ?_)
          obtain ⟨hu30, hp30⟩ := hw30
          subst hu30
          have I : z_I A dC dI [(h0, .inr (9, [.int 0, .ref xq1, .ref xq2, .ref xq3, .ref xq4, .ref xq5, .ref xq6, .ref xq7, .ref xq8, .ref xq9, .int 0, .int 0, .ref xq10, .ref xq11, .ref xq12, .ref xq13, .ref xq14, .ref xq15, .ref xq16, .ref xq17, .ref xq18, .ref xq19, .ref xq20, .ref xq21, .ref xq22, .ref xq23, .ref xq24, .ref xq25, .ref xq26, .long 0, .int 0, .int 0, .int 0, .int 0, .int 0, .ref xq27, .ref xq28, .ref xq29, .ref xq30, .ref xq31, .ref xq32, .ref xq33, .long 0])), (xq6, .inl (xc40, 8, .inl xf35)), (xq8, .inl (xc42, 8, .inr (.inr (.inr (.inr (va_up xf43 0 (some xq44))))))), (xq44, .inl (xc45, 4, .inl xf35)), (xq9, .inl (xc46, 8, .inl xf35)), (q1, .inl (cA2, 4, .inl g6))] [(xc40, .int), (xc42, .array .int), (xc45, .int), (xc46, .char), (cA2, .int)] s H _ := I
          refine lv_if_eq (tgt := 107) hx hb dX9_addRow_87 (by decide) (fun c31 => ?_) (fun c31 => ?_)
          · skip
            refine lv_iconst (v := 1) hx hb dX9_addRow_107 (by decide) ?_
            refine lv_goto (tgt := 112) hx hb dX9_addRow_108 (by decide) ?_
            exact J13 1 _ _ (by simp [z_wr, (by decide : ¬ z_bt (-5) 0 5 = 0), ← hp30, c31]) I
          · skip
            refine lv_aload hx hb dX9_addRow_90 (lv_at hl 2 rfl) ?_
            refine lv_iload hx hb dX9_addRow_92 (lv_at hl 0 rfl) ?_
            refine z_iald (v := p4) hx hb I 5 4 rfl rfl (by unfold vp_in; decide) dX9_addRow_94 kg6_2 ?_
            refine lv_if_eq (tgt := 111) hx hb dX9_addRow_95 (by decide) (fun c32 => ?_) (fun c32 => ?_)
            · skip
              refine lv_iconst (v := 0) hx hb dX9_addRow_111 (by decide) ?_
              exact J13 0 _ _ (by simp [z_wr, (by decide : ¬ z_bt (-5) 0 5 = 0), ← hp30, c31, c32]) I
            · skip
              refine lv_iload hx hb dX9_addRow_98 (lv_at hl 0 rfl) ?_
              refine lv_aload_n hx hb dX9_addRow_100 rfl (lv_at hl 3 rfl) ?_
              refine z_get (C := RX9) (T := TX9) (N := 43) (ci := 9) (v := .int 0) hx hb hg hown I iw_9 0 rfl rfl 10 (by decide) mw1270 rfl dX9_addRow_101 ?_
              refine lv_icmp_lt (tgt := 111) hx hb dX9_addRow_104 (by decide) (fun c9 => absurd c9 (by decide)) (fun _ => ?_)
              refine lv_iconst (v := 1) hx hb dX9_addRow_107 (by decide) ?_
              refine lv_goto (tgt := 112) hx hb dX9_addRow_108 (by decide) ?_
              exact J13 1 _ _ (by simp [z_wr, (by decide : ¬ z_bt (-5) 0 5 = 0), ← hp30, c31, c32]) I
      · skip
        refine lv_aload hx hb dX9_addRow_76 (lv_at hl 2 rfl) ?_
        refine lv_iload hx hb dX9_addRow_78 (lv_at hl 0 rfl) ?_
        refine z_iald (v := p3) hx hb I 5 4 rfl rfl (by unfold vp_in; decide) dX9_addRow_80 kg6_1 ?_
        refine lv_bipush (v := (-5)) hx hb dX9_addRow_81 (by decide) ?_
        refine lv_iconst (v := 5) hx hb dX9_addRow_83 (by decide) ?_
        refine z_calli (wr := [(h0, .inr (9, [.int 0, .ref xq1, .ref xq2, .ref xq3, .ref xq4, .ref xq5, .ref xq6, .ref xq7, .ref xq8, .ref xq9, .int 0, .int 0, .ref xq10, .ref xq11, .ref xq12, .ref xq13, .ref xq14, .ref xq15, .ref xq16, .ref xq17, .ref xq18, .ref xq19, .ref xq20, .ref xq21, .ref xq22, .ref xq23, .ref xq24, .ref xq25, .ref xq26, .long 0, .int 0, .int 0, .int 0, .int 0, .int 0, .ref xq27, .ref xq28, .ref xq29, .ref xq30, .ref xq31, .ref xq32, .ref xq33, .long 0])), (xq6, .inl (xc40, 8, .inl xf35)), (xq8, .inl (xc42, 8, .inr (.inr (.inr (.inr (va_up xf43 0 (some xq44))))))), (xq44, .inl (xc45, 4, .inl xf35)), (xq9, .inl (xc46, 8, .inl xf35)), (q1, .inl (cA2, 4, .inl g6))]) (va_runS (As := [.int p3, .int (-5), .int 5]) (rest := [.int (v8 ||| v10)]) ⟨hx, hb, hml, hown, hts⟩ (z_M_isBetween l dC dI p3 (-5) 5  H.size) (va_cwS 3 hts (z_gS z_T.w mw1399 mw1400 mw10 mw1401) rfl rfl rfl (by decide +kernel) ⟨Nat.le_of_ble_eq_true rfl, Nat.le_of_ble_eq_true rfl⟩) (z_pre I [] [] rfl rfl rfl rfl) rfl rfl hl.1 rfl (lv_room (Nat.le_of_ble_eq_true rfl)) dX9_addRow_84 ⟨Nat.le_of_ble_eq_true rfl, Nat.le_of_ble_eq_true rfl⟩) I [] [0, 1, 2, 3, 4, 5] rfl rfl (by decide) (by decide) (fun r33 u33 H locs hw33 I => ?_)
        obtain ⟨hu33, hp33⟩ := hw33
        subst hu33
        have I : z_I A dC dI [(h0, .inr (9, [.int 0, .ref xq1, .ref xq2, .ref xq3, .ref xq4, .ref xq5, .ref xq6, .ref xq7, .ref xq8, .ref xq9, .int 0, .int 0, .ref xq10, .ref xq11, .ref xq12, .ref xq13, .ref xq14, .ref xq15, .ref xq16, .ref xq17, .ref xq18, .ref xq19, .ref xq20, .ref xq21, .ref xq22, .ref xq23, .ref xq24, .ref xq25, .ref xq26, .long 0, .int 0, .int 0, .int 0, .int 0, .int 0, .ref xq27, .ref xq28, .ref xq29, .ref xq30, .ref xq31, .ref xq32, .ref xq33, .long 0])), (xq6, .inl (xc40, 8, .inl xf35)), (xq8, .inl (xc42, 8, .inr (.inr (.inr (.inr (va_up xf43 0 (some xq44))))))), (xq44, .inl (xc45, 4, .inl xf35)), (xq9, .inl (xc46, 8, .inl xf35)), (q1, .inl (cA2, 4, .inl g6))] [(xc40, .int), (xc42, .array .int), (xc45, .int), (xc46, .char), (cA2, .int)] s H _ := I
        refine lv_if_eq (tgt := 107) hx hb dX9_addRow_87 (by decide) (fun c34 => ?_) (fun c34 => ?_)
        · skip
          refine lv_iconst (v := 1) hx hb dX9_addRow_107 (by decide) ?_
          refine lv_goto (tgt := 112) hx hb dX9_addRow_108 (by decide) ?_
          exact J11 1 _ _ (by simp [z_wr, (by decide : ¬ z_bt (-5) 0 5 = 0), ← hp33, c34]) I
        · skip
          refine lv_aload hx hb dX9_addRow_90 (lv_at hl 2 rfl) ?_
          refine lv_iload hx hb dX9_addRow_92 (lv_at hl 0 rfl) ?_
          refine z_iald (v := p3) hx hb I 5 4 rfl rfl (by unfold vp_in; decide) dX9_addRow_94 kg6_1 ?_
          refine lv_if_eq (tgt := 111) hx hb dX9_addRow_95 (by decide) (fun c35 => ?_) (fun c35 => ?_)
          · skip
            refine lv_iconst (v := 0) hx hb dX9_addRow_111 (by decide) ?_
            exact J11 0 _ _ (by simp [z_wr, (by decide : ¬ z_bt (-5) 0 5 = 0), ← hp33, c34, c35]) I
          · skip
            refine lv_iload hx hb dX9_addRow_98 (lv_at hl 0 rfl) ?_
            refine lv_aload_n hx hb dX9_addRow_100 rfl (lv_at hl 3 rfl) ?_
            refine z_get (C := RX9) (T := TX9) (N := 43) (ci := 9) (v := .int 0) hx hb hg hown I iw_9 0 rfl rfl 10 (by decide) mw1270 rfl dX9_addRow_101 ?_
            refine lv_icmp_lt (tgt := 111) hx hb dX9_addRow_104 (by decide) (fun c9 => absurd c9 (by decide)) (fun _ => ?_)
            refine lv_iconst (v := 1) hx hb dX9_addRow_107 (by decide) ?_
            refine lv_goto (tgt := 112) hx hb dX9_addRow_108 (by decide) ?_
            exact J11 1 _ _ (by simp [z_wr, (by decide : ¬ z_bt (-5) 0 5 = 0), ← hp33, c34, c35]) I
    · skip
      refine lv_aload hx hb dX9_addRow_76 (lv_at hl 2 rfl) ?_
      refine lv_iload hx hb dX9_addRow_78 (lv_at hl 0 rfl) ?_
      refine z_iald (v := p2) hx hb I 5 4 rfl rfl (by unfold vp_in; decide) dX9_addRow_80 kg6_0 ?_
      refine lv_bipush (v := (-5)) hx hb dX9_addRow_81 (by decide) ?_
      refine lv_iconst (v := 5) hx hb dX9_addRow_83 (by decide) ?_
      refine z_calli (wr := [(h0, .inr (9, [.int 0, .ref xq1, .ref xq2, .ref xq3, .ref xq4, .ref xq5, .ref xq6, .ref xq7, .ref xq8, .ref xq9, .int 0, .int 0, .ref xq10, .ref xq11, .ref xq12, .ref xq13, .ref xq14, .ref xq15, .ref xq16, .ref xq17, .ref xq18, .ref xq19, .ref xq20, .ref xq21, .ref xq22, .ref xq23, .ref xq24, .ref xq25, .ref xq26, .long 0, .int 0, .int 0, .int 0, .int 0, .int 0, .ref xq27, .ref xq28, .ref xq29, .ref xq30, .ref xq31, .ref xq32, .ref xq33, .long 0])), (xq6, .inl (xc40, 8, .inl xf35)), (xq8, .inl (xc42, 8, .inr (.inr (.inr (.inr (va_up xf43 0 (some xq44))))))), (xq44, .inl (xc45, 4, .inl xf35)), (xq9, .inl (xc46, 8, .inl xf35)), (q1, .inl (cA2, 4, .inl g6))]) (va_runS (As := [.int p2, .int (-5), .int 5]) (rest := [.int v8]) ⟨hx, hb, hml, hown, hts⟩ (z_M_isBetween l dC dI p2 (-5) 5  H.size) (va_cwS 3 hts (z_gS z_T.w mw1399 mw1400 mw10 mw1401) rfl rfl rfl (by decide +kernel) ⟨Nat.le_of_ble_eq_true rfl, Nat.le_of_ble_eq_true rfl⟩) (z_pre I [] [] rfl rfl rfl rfl) rfl rfl hl.1 rfl (lv_room (Nat.le_of_ble_eq_true rfl)) dX9_addRow_84 ⟨Nat.le_of_ble_eq_true rfl, Nat.le_of_ble_eq_true rfl⟩) I [] [0, 1, 2, 3, 4, 5] rfl rfl (by decide) (by decide) (fun r36 u36 H locs hw36 I => ?_)
      obtain ⟨hu36, hp36⟩ := hw36
      subst hu36
      have I : z_I A dC dI [(h0, .inr (9, [.int 0, .ref xq1, .ref xq2, .ref xq3, .ref xq4, .ref xq5, .ref xq6, .ref xq7, .ref xq8, .ref xq9, .int 0, .int 0, .ref xq10, .ref xq11, .ref xq12, .ref xq13, .ref xq14, .ref xq15, .ref xq16, .ref xq17, .ref xq18, .ref xq19, .ref xq20, .ref xq21, .ref xq22, .ref xq23, .ref xq24, .ref xq25, .ref xq26, .long 0, .int 0, .int 0, .int 0, .int 0, .int 0, .ref xq27, .ref xq28, .ref xq29, .ref xq30, .ref xq31, .ref xq32, .ref xq33, .long 0])), (xq6, .inl (xc40, 8, .inl xf35)), (xq8, .inl (xc42, 8, .inr (.inr (.inr (.inr (va_up xf43 0 (some xq44))))))), (xq44, .inl (xc45, 4, .inl xf35)), (xq9, .inl (xc46, 8, .inl xf35)), (q1, .inl (cA2, 4, .inl g6))] [(xc40, .int), (xc42, .array .int), (xc45, .int), (xc46, .char), (cA2, .int)] s H _ := I
      refine lv_if_eq (tgt := 107) hx hb dX9_addRow_87 (by decide) (fun c37 => ?_) (fun c37 => ?_)
      · skip
        refine lv_iconst (v := 1) hx hb dX9_addRow_107 (by decide) ?_
        refine lv_goto (tgt := 112) hx hb dX9_addRow_108 (by decide) ?_
        exact J9 1 _ _ (by simp [z_wr, (by decide : ¬ z_bt (-5) 0 5 = 0), ← hp36, c37]) I
      · skip
        refine lv_aload hx hb dX9_addRow_90 (lv_at hl 2 rfl) ?_
        refine lv_iload hx hb dX9_addRow_92 (lv_at hl 0 rfl) ?_
        refine z_iald (v := p2) hx hb I 5 4 rfl rfl (by unfold vp_in; decide) dX9_addRow_94 kg6_0 ?_
        refine lv_if_eq (tgt := 111) hx hb dX9_addRow_95 (by decide) (fun c38 => ?_) (fun c38 => ?_)
        · skip
          refine lv_iconst (v := 0) hx hb dX9_addRow_111 (by decide) ?_
          exact J9 0 _ _ (by simp [z_wr, (by decide : ¬ z_bt (-5) 0 5 = 0), ← hp36, c37, c38]) I
        · skip
          refine lv_iload hx hb dX9_addRow_98 (lv_at hl 0 rfl) ?_
          refine lv_aload_n hx hb dX9_addRow_100 rfl (lv_at hl 3 rfl) ?_
          refine z_get (C := RX9) (T := TX9) (N := 43) (ci := 9) (v := .int 0) hx hb hg hown I iw_9 0 rfl rfl 10 (by decide) mw1270 rfl dX9_addRow_101 ?_
          refine lv_icmp_lt (tgt := 111) hx hb dX9_addRow_104 (by decide) (fun c9 => absurd c9 (by decide)) (fun _ => ?_)
          refine lv_iconst (v := 1) hx hb dX9_addRow_107 (by decide) ?_
          refine lv_goto (tgt := 112) hx hb dX9_addRow_108 (by decide) ?_
          exact J9 1 _ _ (by simp [z_wr, (by decide : ¬ z_bt (-5) 0 5 = 0), ← hp36, c37, c38]) I
  · skip
    refine lv_iload_n hx hb dX9_addRow_29 rfl (lv_at hl 2 rfl) ?_
    refine lv_bipush (v := 108) hx hb dX9_addRow_30 (by decide) ?_
    refine lv_icmp_eq (tgt := 47) hx hb dX9_addRow_32 (by decide) (fun c39 => ?_) (fun c39 => ?_)
    · skip
      refine lv_iload_n hx hb dX9_addRow_47 rfl (lv_at hl 3 rfl) ?_
      refine lv_bipush (v := (-99)) hx hb dX9_addRow_48 (by decide) ?_
      refine lv_bipush (v := 99) hx hb dX9_addRow_50 (by decide) ?_
      refine z_calli (wr := [(h0, .inr (9, [.int 0, .ref xq1, .ref xq2, .ref xq3, .ref xq4, .ref xq5, .ref xq6, .ref xq7, .ref xq8, .ref xq9, .int 0, .int 0, .ref xq10, .ref xq11, .ref xq12, .ref xq13, .ref xq14, .ref xq15, .ref xq16, .ref xq17, .ref xq18, .ref xq19, .ref xq20, .ref xq21, .ref xq22, .ref xq23, .ref xq24, .ref xq25, .ref xq26, .long 0, .int 0, .int 0, .int 0, .int 0, .int 0, .ref xq27, .ref xq28, .ref xq29, .ref xq30, .ref xq31, .ref xq32, .ref xq33, .long 0])), (xq6, .inl (xc40, 8, .inl xf35)), (xq8, .inl (xc42, 8, .inr (.inr (.inr (.inr (va_up xf43 0 (some xq44))))))), (xq44, .inl (xc45, 4, .inl xf35)), (xq9, .inl (xc46, 8, .inl xf35)), (q1, .inl (cA2, 4, .inl g6))]) (va_runS (As := [.int p1, .int (-99), .int 99]) (rest := []) ⟨hx, hb, hml, hown, hts⟩ (z_M_isBetween l dC dI p1 (-99) 99  H.size) (va_cwS 3 hts (z_gS z_T.w mw1399 mw1400 mw10 mw1401) rfl rfl rfl (by decide +kernel) ⟨Nat.le_of_ble_eq_true rfl, Nat.le_of_ble_eq_true rfl⟩) (z_pre I [] [] rfl rfl rfl rfl) rfl rfl hl.1 rfl (lv_room (Nat.le_of_ble_eq_true rfl)) dX9_addRow_52 ⟨Nat.le_of_ble_eq_true rfl, Nat.le_of_ble_eq_true rfl⟩) I [] [0, 1, 2, 3, 4, 5] rfl rfl (by decide) (by decide) (fun r40 u40 H locs hw40 I => ?_)
      obtain ⟨hu40, hp40⟩ := hw40
      subst hu40
      have I : z_I A dC dI [(h0, .inr (9, [.int 0, .ref xq1, .ref xq2, .ref xq3, .ref xq4, .ref xq5, .ref xq6, .ref xq7, .ref xq8, .ref xq9, .int 0, .int 0, .ref xq10, .ref xq11, .ref xq12, .ref xq13, .ref xq14, .ref xq15, .ref xq16, .ref xq17, .ref xq18, .ref xq19, .ref xq20, .ref xq21, .ref xq22, .ref xq23, .ref xq24, .ref xq25, .ref xq26, .long 0, .int 0, .int 0, .int 0, .int 0, .int 0, .ref xq27, .ref xq28, .ref xq29, .ref xq30, .ref xq31, .ref xq32, .ref xq33, .long 0])), (xq6, .inl (xc40, 8, .inl xf35)), (xq8, .inl (xc42, 8, .inr (.inr (.inr (.inr (va_up xf43 0 (some xq44))))))), (xq44, .inl (xc45, 4, .inl xf35)), (xq9, .inl (xc46, 8, .inl xf35)), (q1, .inl (cA2, 4, .inl g6))] [(xc40, .int), (xc42, .array .int), (xc45, .int), (xc46, .char), (cA2, .int)] s H _ := I
      refine lv_if_ne (tgt := 62) hx hb dX9_addRow_55 (by decide) (fun c41 => ?_) (fun c41 => ?_)
      · skip
        refine lv_iconst (v := 0) hx hb dX9_addRow_62 (by decide) ?_
        exact J7 0 _ _ (by simp [z_w0, z_sn, c39, ← hp40, c41]) I
      · skip
        refine lv_iconst (v := 1) hx hb dX9_addRow_58 (by decide) ?_
        refine lv_goto (tgt := 63) hx hb dX9_addRow_59 (by decide) ?_
        exact J7 1 _ _ (by simp [z_w0, z_sn, c39, ← hp40, c41]) I
    · skip
      refine lv_iload_n hx hb dX9_addRow_35 rfl (lv_at hl 2 rfl) ?_
      refine lv_bipush (v := 103) hx hb dX9_addRow_36 (by decide) ?_
      refine lv_icmp_eq (tgt := 47) hx hb dX9_addRow_38 (by decide) (fun c42 => ?_) (fun c42 => ?_)
      · skip
        refine lv_iload_n hx hb dX9_addRow_47 rfl (lv_at hl 3 rfl) ?_
        refine lv_bipush (v := (-99)) hx hb dX9_addRow_48 (by decide) ?_
        refine lv_bipush (v := 99) hx hb dX9_addRow_50 (by decide) ?_
        refine z_calli (wr := [(h0, .inr (9, [.int 0, .ref xq1, .ref xq2, .ref xq3, .ref xq4, .ref xq5, .ref xq6, .ref xq7, .ref xq8, .ref xq9, .int 0, .int 0, .ref xq10, .ref xq11, .ref xq12, .ref xq13, .ref xq14, .ref xq15, .ref xq16, .ref xq17, .ref xq18, .ref xq19, .ref xq20, .ref xq21, .ref xq22, .ref xq23, .ref xq24, .ref xq25, .ref xq26, .long 0, .int 0, .int 0, .int 0, .int 0, .int 0, .ref xq27, .ref xq28, .ref xq29, .ref xq30, .ref xq31, .ref xq32, .ref xq33, .long 0])), (xq6, .inl (xc40, 8, .inl xf35)), (xq8, .inl (xc42, 8, .inr (.inr (.inr (.inr (va_up xf43 0 (some xq44))))))), (xq44, .inl (xc45, 4, .inl xf35)), (xq9, .inl (xc46, 8, .inl xf35)), (q1, .inl (cA2, 4, .inl g6))]) (va_runS (As := [.int p1, .int (-99), .int 99]) (rest := []) ⟨hx, hb, hml, hown, hts⟩ (z_M_isBetween l dC dI p1 (-99) 99  H.size) (va_cwS 3 hts (z_gS z_T.w mw1399 mw1400 mw10 mw1401) rfl rfl rfl (by decide +kernel) ⟨Nat.le_of_ble_eq_true rfl, Nat.le_of_ble_eq_true rfl⟩) (z_pre I [] [] rfl rfl rfl rfl) rfl rfl hl.1 rfl (lv_room (Nat.le_of_ble_eq_true rfl)) dX9_addRow_52 ⟨Nat.le_of_ble_eq_true rfl, Nat.le_of_ble_eq_true rfl⟩) I [] [0, 1, 2, 3, 4, 5] rfl rfl (by decide) (by decide) (fun r43 u43 H locs hw43 I => ?_)
        obtain ⟨hu43, hp43⟩ := hw43
        subst hu43
        have I : z_I A dC dI [(h0, .inr (9, [.int 0, .ref xq1, .ref xq2, .ref xq3, .ref xq4, .ref xq5, .ref xq6, .ref xq7, .ref xq8, .ref xq9, .int 0, .int 0, .ref xq10, .ref xq11, .ref xq12, .ref xq13, .ref xq14, .ref xq15, .ref xq16, .ref xq17, .ref xq18, .ref xq19, .ref xq20, .ref xq21, .ref xq22, .ref xq23, .ref xq24, .ref xq25, .ref xq26, .long 0, .int 0, .int 0, .int 0, .int 0, .int 0, .ref xq27, .ref xq28, .ref xq29, .ref xq30, .ref xq31, .ref xq32, .ref xq33, .long 0])), (xq6, .inl (xc40, 8, .inl xf35)), (xq8, .inl (xc42, 8, .inr (.inr (.inr (.inr (va_up xf43 0 (some xq44))))))), (xq44, .inl (xc45, 4, .inl xf35)), (xq9, .inl (xc46, 8, .inl xf35)), (q1, .inl (cA2, 4, .inl g6))] [(xc40, .int), (xc42, .array .int), (xc45, .int), (xc46, .char), (cA2, .int)] s H _ := I
        refine lv_if_ne (tgt := 62) hx hb dX9_addRow_55 (by decide) (fun c44 => ?_) (fun c44 => ?_)
        · skip
          refine lv_iconst (v := 0) hx hb dX9_addRow_62 (by decide) ?_
          exact J7 0 _ _ (by simp [z_w0, z_sn, c39, c42, ← hp43, c44]) I
        · skip
          refine lv_iconst (v := 1) hx hb dX9_addRow_58 (by decide) ?_
          refine lv_goto (tgt := 63) hx hb dX9_addRow_59 (by decide) ?_
          exact J7 1 _ _ (by simp [z_w0, z_sn, c39, c42, ← hp43, c44]) I
      · skip
        refine lv_iload_n hx hb dX9_addRow_41 rfl (lv_at hl 2 rfl) ?_
        refine lv_bipush (v := 101) hx hb dX9_addRow_42 (by decide) ?_
        refine lv_icmp_ne (tgt := 58) hx hb dX9_addRow_44 (by decide) (fun c45 => ?_) (fun c45 => ?_)
        · skip
          refine lv_iconst (v := 1) hx hb dX9_addRow_58 (by decide) ?_
          refine lv_goto (tgt := 63) hx hb dX9_addRow_59 (by decide) ?_
          exact J7 1 _ _ (by simp [z_w0, z_sn, c39, c42, c45]) I
        · skip
          refine lv_iload_n hx hb dX9_addRow_47 rfl (lv_at hl 3 rfl) ?_
          refine lv_bipush (v := (-99)) hx hb dX9_addRow_48 (by decide) ?_
          refine lv_bipush (v := 99) hx hb dX9_addRow_50 (by decide) ?_
          refine z_calli (wr := [(h0, .inr (9, [.int 0, .ref xq1, .ref xq2, .ref xq3, .ref xq4, .ref xq5, .ref xq6, .ref xq7, .ref xq8, .ref xq9, .int 0, .int 0, .ref xq10, .ref xq11, .ref xq12, .ref xq13, .ref xq14, .ref xq15, .ref xq16, .ref xq17, .ref xq18, .ref xq19, .ref xq20, .ref xq21, .ref xq22, .ref xq23, .ref xq24, .ref xq25, .ref xq26, .long 0, .int 0, .int 0, .int 0, .int 0, .int 0, .ref xq27, .ref xq28, .ref xq29, .ref xq30, .ref xq31, .ref xq32, .ref xq33, .long 0])), (xq6, .inl (xc40, 8, .inl xf35)), (xq8, .inl (xc42, 8, .inr (.inr (.inr (.inr (va_up xf43 0 (some xq44))))))), (xq44, .inl (xc45, 4, .inl xf35)), (xq9, .inl (xc46, 8, .inl xf35)), (q1, .inl (cA2, 4, .inl g6))]) (va_runS (As := [.int p1, .int (-99), .int 99]) (rest := []) ⟨hx, hb, hml, hown, hts⟩ (z_M_isBetween l dC dI p1 (-99) 99  H.size) (va_cwS 3 hts (z_gS z_T.w mw1399 mw1400 mw10 mw1401) rfl rfl rfl (by decide +kernel) ⟨Nat.le_of_ble_eq_true rfl, Nat.le_of_ble_eq_true rfl⟩) (z_pre I [] [] rfl rfl rfl rfl) rfl rfl hl.1 rfl (lv_room (Nat.le_of_ble_eq_true rfl)) dX9_addRow_52 ⟨Nat.le_of_ble_eq_true rfl, Nat.le_of_ble_eq_true rfl⟩) I [] [0, 1, 2, 3, 4, 5] rfl rfl (by decide) (by decide) (fun r46 u46 H locs hw46 I => ?_)
          obtain ⟨hu46, hp46⟩ := hw46
          subst hu46
          have I : z_I A dC dI [(h0, .inr (9, [.int 0, .ref xq1, .ref xq2, .ref xq3, .ref xq4, .ref xq5, .ref xq6, .ref xq7, .ref xq8, .ref xq9, .int 0, .int 0, .ref xq10, .ref xq11, .ref xq12, .ref xq13, .ref xq14, .ref xq15, .ref xq16, .ref xq17, .ref xq18, .ref xq19, .ref xq20, .ref xq21, .ref xq22, .ref xq23, .ref xq24, .ref xq25, .ref xq26, .long 0, .int 0, .int 0, .int 0, .int 0, .int 0, .ref xq27, .ref xq28, .ref xq29, .ref xq30, .ref xq31, .ref xq32, .ref xq33, .long 0])), (xq6, .inl (xc40, 8, .inl xf35)), (xq8, .inl (xc42, 8, .inr (.inr (.inr (.inr (va_up xf43 0 (some xq44))))))), (xq44, .inl (xc45, 4, .inl xf35)), (xq9, .inl (xc46, 8, .inl xf35)), (q1, .inl (cA2, 4, .inl g6))] [(xc40, .int), (xc42, .array .int), (xc45, .int), (xc46, .char), (cA2, .int)] s H _ := I
          refine lv_if_ne (tgt := 62) hx hb dX9_addRow_55 (by decide) (fun c47 => ?_) (fun c47 => ?_)
          · skip
            refine lv_iconst (v := 0) hx hb dX9_addRow_62 (by decide) ?_
            exact J7 0 _ _ (by simp [z_w0, z_sn, c39, c42, c45, ← hp46, c47]) I
          · skip
            refine lv_iconst (v := 1) hx hb dX9_addRow_58 (by decide) ?_
            refine lv_goto (tgt := 63) hx hb dX9_addRow_59 (by decide) ?_
            exact J7 1 _ _ (by simp [z_w0, z_sn, c39, c42, c45, ← hp46, c47]) I
set_option maxHeartbeats 4000000 in
set_option maxRecDepth 100000 in
theorem z_M_gap (l : Launch) (dC : Nat → ClassId) (dI : Nat → Nat → Nat) (xq1 : Nat) (xq2 : Nat) (xq3 : Nat) (xq4 : Nat) (xq5 : Nat) (xq6 : Nat) (xq7 : Nat) (xq8 : Nat) (xq9 : Nat) (xq10 : Nat) (xq11 : Nat) (xq12 : Nat) (xq13 : Nat) (xq14 : Nat) (xq15 : Nat) (xq16 : Nat) (xq17 : Nat) (xq18 : Nat) (xq19 : Nat) (xq20 : Nat) (xq21 : Nat) (xq22 : Nat) (xq23 : Nat) (xq24 : Nat) (xq25 : Nat) (xq26 : Nat) (xq27 : Nat) (xq28 : Nat) (xq29 : Nat) (xq30 : Nat) (xq31 : Nat) (xq32 : Nat) (xq33 : Nat) (h0 : Nat) (sz : Nat) : Met l yX9_gap (z_w yX9_gap cX9_gap 3 (some .float)) ({ frames := 10, cells := 0, slots := 0, locals := 200 }) (z_P dC dI [(h0, .inr (9, [.int 0, .ref xq1, .ref xq2, .ref xq3, .ref xq4, .ref xq5, .ref xq6, .ref xq7, .ref xq8, .ref xq9, .int 0, .int 0, .ref xq10, .ref xq11, .ref xq12, .ref xq13, .ref xq14, .ref xq15, .ref xq16, .ref xq17, .ref xq18, .ref xq19, .ref xq20, .ref xq21, .ref xq22, .ref xq23, .ref xq24, .ref xq25, .ref xq26, .long 0, .int 0, .int 0, .int 0, .int 0, .int 0, .ref xq27, .ref xq28, .ref xq29, .ref xq30, .ref xq31, .ref xq32, .ref xq33, .long 0]))] [] sz [.ref h0]) (va_Qf (fun (r : UInt32) (u : va_W × List (ClassId × FieldType)) => u = ([(h0, .inr (9, [.int 1, .ref xq1, .ref xq2, .ref xq3, .ref xq4, .ref xq5, .ref xq6, .ref xq7, .ref xq8, .ref xq9, .int 0, .int 0, .ref xq10, .ref xq11, .ref xq12, .ref xq13, .ref xq14, .ref xq15, .ref xq16, .ref xq17, .ref xq18, .ref xq19, .ref xq20, .ref xq21, .ref xq22, .ref xq23, .ref xq24, .ref xq25, .ref xq26, .long 0, .int 0, .int 0, .int 0, .int 0, .int 0, .ref xq27, .ref xq28, .ref xq29, .ref xq30, .ref xq31, .ref xq32, .ref xq33, .long 0]))], []) ∧ True) (z_B dC dI (va_A [(h0, .inr (9, [.int 0, .ref xq1, .ref xq2, .ref xq3, .ref xq4, .ref xq5, .ref xq6, .ref xq7, .ref xq8, .ref xq9, .int 0, .int 0, .ref xq10, .ref xq11, .ref xq12, .ref xq13, .ref xq14, .ref xq15, .ref xq16, .ref xq17, .ref xq18, .ref xq19, .ref xq20, .ref xq21, .ref xq22, .ref xq23, .ref xq24, .ref xq25, .ref xq26, .long 0, .int 0, .int 0, .int 0, .int 0, .int 0, .ref xq27, .ref xq28, .ref xq29, .ref xq30, .ref xq31, .ref xq32, .ref xq33, .long 0]))] sz)) (va_A [(h0, .inr (9, [.int 0, .ref xq1, .ref xq2, .ref xq3, .ref xq4, .ref xq5, .ref xq6, .ref xq7, .ref xq8, .ref xq9, .int 0, .int 0, .ref xq10, .ref xq11, .ref xq12, .ref xq13, .ref xq14, .ref xq15, .ref xq16, .ref xq17, .ref xq18, .ref xq19, .ref xq20, .ref xq21, .ref xq22, .ref xq23, .ref xq24, .ref xq25, .ref xq26, .long 0, .int 0, .int 0, .int 0, .int 0, .int 0, .ref xq27, .ref xq28, .ref xq29, .ref xq30, .ref xq31, .ref xq32, .ref xq33, .long 0]))] sz)) 0 0 (va_A [(h0, .inr (9, [.int 0, .ref xq1, .ref xq2, .ref xq3, .ref xq4, .ref xq5, .ref xq6, .ref xq7, .ref xq8, .ref xq9, .int 0, .int 0, .ref xq10, .ref xq11, .ref xq12, .ref xq13, .ref xq14, .ref xq15, .ref xq16, .ref xq17, .ref xq18, .ref xq19, .ref xq20, .ref xq21, .ref xq22, .ref xq23, .ref xq24, .ref xq25, .ref xq26, .long 0, .int 0, .int 0, .int 0, .int 0, .int 0, .ref xq27, .ref xq28, .ref xq29, .ref xq30, .ref xq31, .ref xq32, .ref xq33, .long 0]))] sz) := by
  refine Met.ofW (cc := cX9_gap) (maxL := 3) (ret := (some .float)) (by decide) rfl ?_
  intro p e s m args below meth c s₁ B hml hv
  obtain ⟨rfl, rfl, I⟩ := z_open hv
  have hx := B.exec
  have hb := B.bytes
  have hr := B.returns
  have hts := atoms_spec (ws := z_w yX9_gap cX9_gap 3 (some .float)) B.pre
  have hg : z_G _ s := z_G.of hts
  have hown : s.vm.findClass RX9 = some m.cls := findClass_of_methodNamed B.named
  have hlocks := B.notSynchronized
  generalize va_A [(h0, .inr (9, [.int 0, .ref xq1, .ref xq2, .ref xq3, .ref xq4, .ref xq5, .ref xq6, .ref xq7, .ref xq8, .ref xq9, .int 0, .int 0, .ref xq10, .ref xq11, .ref xq12, .ref xq13, .ref xq14, .ref xq15, .ref xq16, .ref xq17, .ref xq18, .ref xq19, .ref xq20, .ref xq21, .ref xq22, .ref xq23, .ref xq24, .ref xq25, .ref xq26, .long 0, .int 0, .int 0, .int 0, .int 0, .int 0, .ref xq27, .ref xq28, .ref xq29, .ref xq30, .ref xq31, .ref xq32, .ref xq33, .long 0]))] s.heap.size = A at I ⊢
  have hl := lv_entry ([.ref h0]) (n := 3) (Nat.le_of_ble_eq_true rfl)
  rw [lg_entry_eq]
  generalize (lg_sl ([.ref h0]) ++ List.replicate (3 - (lg_sl ([.ref h0])).length) Slot.unset).toArray = ls at hl ⊢
  have hl : lv_has ls 3 [(0, .ref h0)] := hl
  refine lv_aload_n hx hb dX9_gap_0 rfl (lv_at hl 0 rfl) ?_
  refine lv_iconst (v := 0) hx hb dX9_gap_1 (by decide) ?_
  refine z_put (C := RX9) (T := TX9) (N := 43) (ci := 9) (v := .int 0) hx hb hg hown I iw_9 tyX9 tyX9_ok nmX9 0 rfl rfl 0 (by decide) mw1260 rfl rfl rfl (Nat.le_of_ble_eq_true rfl) dX9_gap_2 [(h0, .inr (9, [.int 0, .ref xq1, .ref xq2, .ref xq3, .ref xq4, .ref xq5, .ref xq6, .ref xq7, .ref xq8, .ref xq9, .int 0, .int 0, .ref xq10, .ref xq11, .ref xq12, .ref xq13, .ref xq14, .ref xq15, .ref xq16, .ref xq17, .ref xq18, .ref xq19, .ref xq20, .ref xq21, .ref xq22, .ref xq23, .ref xq24, .ref xq25, .ref xq26, .long 0, .int 0, .int 0, .int 0, .int 0, .int 0, .ref xq27, .ref xq28, .ref xq29, .ref xq30, .ref xq31, .ref xq32, .ref xq33, .long 0]))] rfl (fun H locs I => ?_)
  refine lv_aload_n hx hb dX9_gap_5 rfl (lv_at hl 0 rfl) ?_
  refine z_get (C := RX9) (T := TX9) (N := 43) (ci := 9) (v := .int 0) hx hb hg hown I iw_9 0 rfl rfl 34 (by decide) mw1294 rfl dX9_gap_6 ?_
  refine lv_if_eq (tgt := 21) hx hb dX9_gap_9 (by decide) (fun _ => ?_) (fun c9 => absurd c9 (by decide))
  refine lv_aload_n hx hb dX9_gap_21 rfl (lv_at hl 0 rfl) ?_
  refine lv_iconst (v := 1) hx hb dX9_gap_22 (by decide) ?_
  refine z_calli (wr := []) (va_runV (As := [.int 1]) (rest := []) ⟨hx, hb, hml, hown, hts⟩ (z_M_fails l dC dI 0 xq1 xq2 xq3 xq4 xq5 xq6 xq7 xq8 xq9 0 0 xq10 xq11 xq12 xq13 xq14 xq15 xq16 xq17 xq18 xq19 xq20 xq21 xq22 xq23 xq24 xq25 xq26 0 0 0 0 0 0 xq27 xq28 xq29 xq30 xq31 xq32 xq33 0 h0 1  H.size) (cwV 1 hts (z_gV z_T.w mw1402 mw1404 mwp39 mw10 mw1405) rfl rfl rfl (by decide +kernel) ⟨Nat.le_of_ble_eq_true rfl, Nat.le_of_ble_eq_true rfl⟩) (z_preV I [0] [] rfl rfl rfl rfl (ci := 9) (q0 := 0) rfl rfl) rfl rfl hl.1 rfl (lv_room (Nat.le_of_ble_eq_true rfl)) dX9_gap_23 ⟨Nat.le_of_ble_eq_true rfl, Nat.le_of_ble_eq_true rfl⟩) I [0] [] rfl rfl (by decide) (by decide) (fun r1 u1 H locs hw1 I => ?_)
  obtain ⟨hu1, hp1⟩ := hw1
  subst hu1
  have I : z_I A dC dI [(h0, .inr (9, [.int 1, .ref xq1, .ref xq2, .ref xq3, .ref xq4, .ref xq5, .ref xq6, .ref xq7, .ref xq8, .ref xq9, .int 0, .int 0, .ref xq10, .ref xq11, .ref xq12, .ref xq13, .ref xq14, .ref xq15, .ref xq16, .ref xq17, .ref xq18, .ref xq19, .ref xq20, .ref xq21, .ref xq22, .ref xq23, .ref xq24, .ref xq25, .ref xq26, .long 0, .int 0, .int 0, .int 0, .int 0, .int 0, .ref xq27, .ref xq28, .ref xq29, .ref xq30, .ref xq31, .ref xq32, .ref xq33, .long 0]))] [] s H _ := I
  obtain rfl : r1 = 0 := hp1
  refine lv_i2f hx hb dX9_gap_26 ?_
  refine lv_topf (fun f2 ef2 => ?_)
  have I := I.subT (t' := []) [] rfl
  refine W.widen (k := 0) (n := 0) (Nat.le_of_ble_eq_true rfl) (Nat.le_of_ble_eq_true rfl) ?_
  exact z_fret hx hb hr hlocks I ⟨rfl, trivial⟩ dX9_gap_27
set_option maxHeartbeats 4000000 in
set_option maxRecDepth 100000 in
theorem z_M_meanDepth (l : Launch) (dC : Nat → ClassId) (dI : Nat → Nat → Nat) (xq1 : Nat) (xq2 : Nat) (xq3 : Nat) (xq4 : Nat) (xq5 : Nat) (xq6 : Nat) (xq7 : Nat) (xq8 : Nat) (xq9 : Nat) (xq10 : Nat) (xq11 : Nat) (xq12 : Nat) (xq13 : Nat) (xq14 : Nat) (xq15 : Nat) (xq16 : Nat) (xq17 : Nat) (xq18 : Nat) (xq19 : Nat) (xq20 : Nat) (xq21 : Nat) (xq22 : Nat) (xq23 : Nat) (xq24 : Nat) (xq25 : Nat) (xq26 : Nat) (xq27 : Nat) (xq28 : Nat) (xq29 : Nat) (xq30 : Nat) (xq31 : Nat) (xq32 : Nat) (xq33 : Nat) (h0 : Nat) (sz : Nat) : Met l yX9_meanDepth (z_w yX9_meanDepth cX9_meanDepth 4 (some .double)) ({ frames := 10, cells := 0, slots := 0, locals := 200 }) (z_P dC dI [(h0, .inr (9, [.int 0, .ref xq1, .ref xq2, .ref xq3, .ref xq4, .ref xq5, .ref xq6, .ref xq7, .ref xq8, .ref xq9, .int 0, .int 0, .ref xq10, .ref xq11, .ref xq12, .ref xq13, .ref xq14, .ref xq15, .ref xq16, .ref xq17, .ref xq18, .ref xq19, .ref xq20, .ref xq21, .ref xq22, .ref xq23, .ref xq24, .ref xq25, .ref xq26, .long 0, .int 0, .int 0, .int 0, .int 0, .int 0, .ref xq27, .ref xq28, .ref xq29, .ref xq30, .ref xq31, .ref xq32, .ref xq33, .long 0]))] [] sz [.ref h0]) (va_Qd (fun (r : UInt64) (u : va_W × List (ClassId × FieldType)) => u = ([(h0, .inr (9, [.int 1, .ref xq1, .ref xq2, .ref xq3, .ref xq4, .ref xq5, .ref xq6, .ref xq7, .ref xq8, .ref xq9, .int 0, .int 0, .ref xq10, .ref xq11, .ref xq12, .ref xq13, .ref xq14, .ref xq15, .ref xq16, .ref xq17, .ref xq18, .ref xq19, .ref xq20, .ref xq21, .ref xq22, .ref xq23, .ref xq24, .ref xq25, .ref xq26, .long 0, .int 0, .int 0, .int 0, .int 0, .int 0, .ref xq27, .ref xq28, .ref xq29, .ref xq30, .ref xq31, .ref xq32, .ref xq33, .long 0]))], []) ∧ True) (z_B dC dI (va_A [(h0, .inr (9, [.int 0, .ref xq1, .ref xq2, .ref xq3, .ref xq4, .ref xq5, .ref xq6, .ref xq7, .ref xq8, .ref xq9, .int 0, .int 0, .ref xq10, .ref xq11, .ref xq12, .ref xq13, .ref xq14, .ref xq15, .ref xq16, .ref xq17, .ref xq18, .ref xq19, .ref xq20, .ref xq21, .ref xq22, .ref xq23, .ref xq24, .ref xq25, .ref xq26, .long 0, .int 0, .int 0, .int 0, .int 0, .int 0, .ref xq27, .ref xq28, .ref xq29, .ref xq30, .ref xq31, .ref xq32, .ref xq33, .long 0]))] sz)) (va_A [(h0, .inr (9, [.int 0, .ref xq1, .ref xq2, .ref xq3, .ref xq4, .ref xq5, .ref xq6, .ref xq7, .ref xq8, .ref xq9, .int 0, .int 0, .ref xq10, .ref xq11, .ref xq12, .ref xq13, .ref xq14, .ref xq15, .ref xq16, .ref xq17, .ref xq18, .ref xq19, .ref xq20, .ref xq21, .ref xq22, .ref xq23, .ref xq24, .ref xq25, .ref xq26, .long 0, .int 0, .int 0, .int 0, .int 0, .int 0, .ref xq27, .ref xq28, .ref xq29, .ref xq30, .ref xq31, .ref xq32, .ref xq33, .long 0]))] sz)) 0 0 (va_A [(h0, .inr (9, [.int 0, .ref xq1, .ref xq2, .ref xq3, .ref xq4, .ref xq5, .ref xq6, .ref xq7, .ref xq8, .ref xq9, .int 0, .int 0, .ref xq10, .ref xq11, .ref xq12, .ref xq13, .ref xq14, .ref xq15, .ref xq16, .ref xq17, .ref xq18, .ref xq19, .ref xq20, .ref xq21, .ref xq22, .ref xq23, .ref xq24, .ref xq25, .ref xq26, .long 0, .int 0, .int 0, .int 0, .int 0, .int 0, .ref xq27, .ref xq28, .ref xq29, .ref xq30, .ref xq31, .ref xq32, .ref xq33, .long 0]))] sz) := by
  refine Met.ofW (cc := cX9_meanDepth) (maxL := 4) (ret := (some .double)) (by decide) rfl ?_
  intro p e s m args below meth c s₁ B hml hv
  obtain ⟨rfl, rfl, I⟩ := z_open hv
  have hx := B.exec
  have hb := B.bytes
  have hr := B.returns
  have hts := atoms_spec (ws := z_w yX9_meanDepth cX9_meanDepth 4 (some .double)) B.pre
  have hg : z_G _ s := z_G.of hts
  have hown : s.vm.findClass RX9 = some m.cls := findClass_of_methodNamed B.named
  have hlocks := B.notSynchronized
  generalize va_A [(h0, .inr (9, [.int 0, .ref xq1, .ref xq2, .ref xq3, .ref xq4, .ref xq5, .ref xq6, .ref xq7, .ref xq8, .ref xq9, .int 0, .int 0, .ref xq10, .ref xq11, .ref xq12, .ref xq13, .ref xq14, .ref xq15, .ref xq16, .ref xq17, .ref xq18, .ref xq19, .ref xq20, .ref xq21, .ref xq22, .ref xq23, .ref xq24, .ref xq25, .ref xq26, .long 0, .int 0, .int 0, .int 0, .int 0, .int 0, .ref xq27, .ref xq28, .ref xq29, .ref xq30, .ref xq31, .ref xq32, .ref xq33, .long 0]))] s.heap.size = A at I ⊢
  have hl := lv_entry ([.ref h0]) (n := 4) (Nat.le_of_ble_eq_true rfl)
  rw [lg_entry_eq]
  generalize (lg_sl ([.ref h0]) ++ List.replicate (4 - (lg_sl ([.ref h0])).length) Slot.unset).toArray = ls at hl ⊢
  have hl : lv_has ls 4 [(0, .ref h0)] := hl
  refine lv_aload_n hx hb dX9_meanDepth_0 rfl (lv_at hl 0 rfl) ?_
  refine lv_iconst (v := 0) hx hb dX9_meanDepth_1 (by decide) ?_
  refine z_put (C := RX9) (T := TX9) (N := 43) (ci := 9) (v := .int 0) hx hb hg hown I iw_9 tyX9 tyX9_ok nmX9 0 rfl rfl 0 (by decide) mw1260 rfl rfl rfl (Nat.le_of_ble_eq_true rfl) dX9_meanDepth_2 [(h0, .inr (9, [.int 0, .ref xq1, .ref xq2, .ref xq3, .ref xq4, .ref xq5, .ref xq6, .ref xq7, .ref xq8, .ref xq9, .int 0, .int 0, .ref xq10, .ref xq11, .ref xq12, .ref xq13, .ref xq14, .ref xq15, .ref xq16, .ref xq17, .ref xq18, .ref xq19, .ref xq20, .ref xq21, .ref xq22, .ref xq23, .ref xq24, .ref xq25, .ref xq26, .long 0, .int 0, .int 0, .int 0, .int 0, .int 0, .ref xq27, .ref xq28, .ref xq29, .ref xq30, .ref xq31, .ref xq32, .ref xq33, .long 0]))] rfl (fun H locs I => ?_)
  refine lv_aload_n hx hb dX9_meanDepth_5 rfl (lv_at hl 0 rfl) ?_
  refine z_get (C := RX9) (T := TX9) (N := 43) (ci := 9) (v := .int 0) hx hb hg hown I iw_9 0 rfl rfl 30 (by decide) mw1290 rfl dX9_meanDepth_6 ?_
  refine lv_if_ne (tgt := 19) hx hb dX9_meanDepth_9 (by decide) (fun c9 => absurd c9 (by decide)) (fun _ => ?_)
  refine lv_aload_n hx hb dX9_meanDepth_12 rfl (lv_at hl 0 rfl) ?_
  refine lv_iconst (v := 1) hx hb dX9_meanDepth_13 (by decide) ?_
  refine z_calli (wr := []) (va_runV (As := [.int 1]) (rest := []) ⟨hx, hb, hml, hown, hts⟩ (z_M_fails l dC dI 0 xq1 xq2 xq3 xq4 xq5 xq6 xq7 xq8 xq9 0 0 xq10 xq11 xq12 xq13 xq14 xq15 xq16 xq17 xq18 xq19 xq20 xq21 xq22 xq23 xq24 xq25 xq26 0 0 0 0 0 0 xq27 xq28 xq29 xq30 xq31 xq32 xq33 0 h0 1  H.size) (cwV 1 hts (z_gV z_T.w mw1402 mw1404 mwp39 mw10 mw1405) rfl rfl rfl (by decide +kernel) ⟨Nat.le_of_ble_eq_true rfl, Nat.le_of_ble_eq_true rfl⟩) (z_preV I [0] [] rfl rfl rfl rfl (ci := 9) (q0 := 0) rfl rfl) rfl rfl hl.1 rfl (lv_room (Nat.le_of_ble_eq_true rfl)) dX9_meanDepth_14 ⟨Nat.le_of_ble_eq_true rfl, Nat.le_of_ble_eq_true rfl⟩) I [0] [] rfl rfl (by decide) (by decide) (fun r1 u1 H locs hw1 I => ?_)
  obtain ⟨hu1, hp1⟩ := hw1
  subst hu1
  have I : z_I A dC dI [(h0, .inr (9, [.int 1, .ref xq1, .ref xq2, .ref xq3, .ref xq4, .ref xq5, .ref xq6, .ref xq7, .ref xq8, .ref xq9, .int 0, .int 0, .ref xq10, .ref xq11, .ref xq12, .ref xq13, .ref xq14, .ref xq15, .ref xq16, .ref xq17, .ref xq18, .ref xq19, .ref xq20, .ref xq21, .ref xq22, .ref xq23, .ref xq24, .ref xq25, .ref xq26, .long 0, .int 0, .int 0, .int 0, .int 0, .int 0, .ref xq27, .ref xq28, .ref xq29, .ref xq30, .ref xq31, .ref xq32, .ref xq33, .long 0]))] [] s H _ := I
  obtain rfl : r1 = 0 := hp1
  refine lv_i2d hx hb dX9_meanDepth_17 ?_
  refine lv_topd (fun d2 ed2 => ?_)
  have I := I.subT (t' := []) [] rfl
  refine W.widen (k := 0) (n := 0) (Nat.le_of_ble_eq_true rfl) (Nat.le_of_ble_eq_true rfl) ?_
  exact z_dret hx hb hr hlocks I ⟨rfl, trivial⟩ dX9_meanDepth_18
