/-! small methods of the class on a fresh object -/
set_option maxHeartbeats 4000000 in
set_option maxRecDepth 100000 in
theorem z_RX8_isWithin (l : Launch) (dC : Nat → ClassId) (dI : Nat → Nat → Nat) (p0 : Int32) (p1 : Int32) (p2 : Int32) (sz : Nat) : Met l yX8_isWithin (z_w yX8_isWithin cX8_isWithin 3 (some .boolean)) ({ frames := 8, cells := 0, slots := 0, locals := 140 }) (z_P dC dI [] [] sz [.int p0, .int p1, .int p2]) (va_Qi (fun (r : Int32) (u : va_W × List (ClassId × FieldType)) => u = ([], []) ∧ r = z_bt p1 p0 p2) (z_B dC dI (va_A [] sz)) (va_A [] sz)) 0 0 (va_A [] sz) := by
  refine Met.ofW (cc := cX8_isWithin) (maxL := 3) (ret := (some .boolean)) (by decide) rfl ?_
  intro p e s m args below meth c s₁ B hml hv
  obtain ⟨rfl, rfl, I⟩ := z_open hv
  have hx := B.exec
  have hb := B.bytes
  have hr := B.returns
  have hts := atoms_spec (ws := z_w yX8_isWithin cX8_isWithin 3 (some .boolean)) B.pre
  have hg : z_G _ s := z_G.of hts
  have hown : s.vm.findClass RX8 = some m.cls := findClass_of_methodNamed B.named
  have hlocks := B.notSynchronized
  generalize va_A [] s.heap.size = A at I ⊢
  have hl := lv_entry ([.int p0, .int p1, .int p2]) (n := 3) (Nat.le_of_ble_eq_true rfl)
  rw [lg_entry_eq]
  generalize (lg_sl ([.int p0, .int p1, .int p2]) ++ List.replicate (3 - (lg_sl ([.int p0, .int p1, .int p2])).length) Slot.unset).toArray = ls at hl ⊢
  have hl : lv_has ls 3 [(0, .int p0), (1, .int p1), (2, .int p2)] := hl
  refine lv_iload_n hx hb dX8_isWithin_0 rfl (lv_at hl 0 rfl) ?_
  refine lv_iload_n hx hb dX8_isWithin_1 rfl (lv_at hl 1 rfl) ?_
  refine lv_icmp_lt (tgt := 14) hx hb dX8_isWithin_2 (by decide) (fun c1 => ?_) (fun c1 => ?_)
  · skip
    refine lv_iconst (v := 0) hx hb dX8_isWithin_14 (by decide) ?_
    have I := I.subT (t' := []) [] rfl
    refine W.widen (k := 0) (n := 0) (Nat.le_of_ble_eq_true rfl) (Nat.le_of_ble_eq_true rfl) ?_
    exact z_zret hx hb hr hlocks rfl I ⟨rfl, (z_bt_a c1).symm⟩ dX8_isWithin_15
  · skip
    refine lv_iload_n hx hb dX8_isWithin_5 rfl (lv_at hl 0 rfl) ?_
    refine lv_iload_n hx hb dX8_isWithin_6 rfl (lv_at hl 2 rfl) ?_
    refine lv_icmp_gt (tgt := 14) hx hb dX8_isWithin_7 (by decide) (fun c2 => ?_) (fun c2 => ?_)
    · skip
      refine lv_iconst (v := 0) hx hb dX8_isWithin_14 (by decide) ?_
      have I := I.subT (t' := []) [] rfl
      refine W.widen (k := 0) (n := 0) (Nat.le_of_ble_eq_true rfl) (Nat.le_of_ble_eq_true rfl) ?_
      exact z_zret hx hb hr hlocks rfl I ⟨rfl, (z_bt_b c2).symm⟩ dX8_isWithin_15
    · skip
      refine lv_iconst (v := 1) hx hb dX8_isWithin_10 (by decide) ?_
      refine lv_goto (tgt := 15) hx hb dX8_isWithin_11 (by decide) ?_
      have I := I.subT (t' := []) [] rfl
      refine W.widen (k := 0) (n := 0) (Nat.le_of_ble_eq_true rfl) (Nat.le_of_ble_eq_true rfl) ?_
      exact z_zret hx hb hr hlocks rfl I ⟨rfl, (z_bt_1 c1 c2).symm⟩ dX8_isWithin_15
set_option maxHeartbeats 4000000 in
set_option maxRecDepth 100000 in
theorem z_RX7_hasNode (l : Launch) (dC : Nat → ClassId) (dI : Nat → Nat → Nat) (xq1 : Nat) (xq2 : Nat) (xq3 : Nat) (xq4 : Nat) (xq5 : Nat) (xq6 : Nat) (xq7 : Nat) (xq8 : Nat) (p0 : Int32) (sz : Nat) : Met l yX7_hasNode (z_w yX7_hasNode cX7_hasNode 2 (some .boolean)) ({ frames := 8, cells := 0, slots := 0, locals := 140 }) (z_P dC dI [(xq1, .inr (7, [.ref xq2, .ref xq3, .ref xq4, .ref xq5, .ref xq6, .ref xq7, .ref xq8, .int 0, .int 0, .int 0, .int 0, .int 0]))] [] sz [.ref xq1, .int p0]) (va_Qi (fun (r : Int32) (u : va_W × List (ClassId × FieldType)) => u = ([(xq1, .inr (7, [.ref xq2, .ref xq3, .ref xq4, .ref xq5, .ref xq6, .ref xq7, .ref xq8, .int 0, .int 0, .int 0, .int 0, .int 0]))], []) ∧ r = 0) (z_B dC dI (va_A [(xq1, .inr (7, [.ref xq2, .ref xq3, .ref xq4, .ref xq5, .ref xq6, .ref xq7, .ref xq8, .int 0, .int 0, .int 0, .int 0, .int 0]))] sz)) (va_A [(xq1, .inr (7, [.ref xq2, .ref xq3, .ref xq4, .ref xq5, .ref xq6, .ref xq7, .ref xq8, .int 0, .int 0, .int 0, .int 0, .int 0]))] sz)) 0 0 (va_A [(xq1, .inr (7, [.ref xq2, .ref xq3, .ref xq4, .ref xq5, .ref xq6, .ref xq7, .ref xq8, .int 0, .int 0, .int 0, .int 0, .int 0]))] sz) := by
  refine Met.ofW (cc := cX7_hasNode) (maxL := 2) (ret := (some .boolean)) (by decide) rfl ?_
  intro p e s m args below meth c s₁ B hml hv
  obtain ⟨rfl, rfl, I⟩ := z_open hv
  have hx := B.exec
  have hb := B.bytes
  have hr := B.returns
  have hts := atoms_spec (ws := z_w yX7_hasNode cX7_hasNode 2 (some .boolean)) B.pre
  have hg : z_G _ s := z_G.of hts
  have hown : s.vm.findClass RX7 = some m.cls := findClass_of_methodNamed B.named
  have hlocks := B.notSynchronized
  generalize va_A [(xq1, .inr (7, [.ref xq2, .ref xq3, .ref xq4, .ref xq5, .ref xq6, .ref xq7, .ref xq8, .int 0, .int 0, .int 0, .int 0, .int 0]))] s.heap.size = A at I ⊢
  have hl := lv_entry ([.ref xq1, .int p0]) (n := 2) (Nat.le_of_ble_eq_true rfl)
  rw [lg_entry_eq]
  generalize (lg_sl ([.ref xq1, .int p0]) ++ List.replicate (2 - (lg_sl ([.ref xq1, .int p0])).length) Slot.unset).toArray = ls at hl ⊢
  have hl : lv_has ls 2 [(0, .ref xq1), (1, .int p0)] := hl
  refine lv_iload_n hx hb dX7_hasNode_0 rfl (lv_at hl 1 rfl) ?_
  refine lv_if_lt (tgt := 16) hx hb dX7_hasNode_1 (by decide) (fun c1 => ?_) (fun c1 => ?_)
  · skip
    refine lv_iconst (v := 0) hx hb dX7_hasNode_16 (by decide) ?_
    have I := I.subT (t' := []) [] rfl
    refine W.widen (k := 0) (n := 0) (Nat.le_of_ble_eq_true rfl) (Nat.le_of_ble_eq_true rfl) ?_
    exact z_zret hx hb hr hlocks rfl I ⟨rfl, rfl⟩ dX7_hasNode_17
  · skip
    refine lv_iload_n hx hb dX7_hasNode_4 rfl (lv_at hl 1 rfl) ?_
    refine lv_aload_n hx hb dX7_hasNode_5 rfl (lv_at hl 0 rfl) ?_
    refine z_get (C := RX7) (T := TX7) (N := 12) (ci := 7) (v := .int 0) hx hb hg hown I iw_7 0 rfl rfl 7 (by decide) mw324 rfl dX7_hasNode_6 ?_
    refine lv_icmp_ge (tgt := 16) hx hb dX7_hasNode_9 (by decide) (fun c2 => ?_) (fun c2 => ?_)
    · skip
      refine lv_iconst (v := 0) hx hb dX7_hasNode_16 (by decide) ?_
      have I := I.subT (t' := []) [] rfl
      refine W.widen (k := 0) (n := 0) (Nat.le_of_ble_eq_true rfl) (Nat.le_of_ble_eq_true rfl) ?_
      exact z_zret hx hb hr hlocks rfl I ⟨rfl, rfl⟩ dX7_hasNode_17
    · skip
      refine lv_iconst (v := 1) hx hb dX7_hasNode_12 (by decide) ?_
      refine lv_goto (tgt := 17) hx hb dX7_hasNode_13 (by decide) ?_
      have I := I.subT (t' := []) [] rfl
      refine W.widen (k := 0) (n := 0) (Nat.le_of_ble_eq_true rfl) (Nat.le_of_ble_eq_true rfl) ?_
      exact z_zret hx hb hr hlocks rfl I ⟨rfl, (absurd (Int32.not_lt.mp c1) c2)⟩ dX7_hasNode_17
set_option maxHeartbeats 4000000 in
set_option maxRecDepth 100000 in
theorem z_RX7_hasCut (l : Launch) (dC : Nat → ClassId) (dI : Nat → Nat → Nat) (xq1 : Nat) (xq2 : Nat) (xq3 : Nat) (xq4 : Nat) (xq5 : Nat) (xq6 : Nat) (xq7 : Nat) (xq8 : Nat) (p0 : Int32) (sz : Nat) : Met l yX7_hasCut (z_w yX7_hasCut cX7_hasCut 2 (some .boolean)) ({ frames := 8, cells := 0, slots := 0, locals := 140 }) (z_P dC dI [(xq1, .inr (7, [.ref xq2, .ref xq3, .ref xq4, .ref xq5, .ref xq6, .ref xq7, .ref xq8, .int 0, .int 0, .int 0, .int 0, .int 0]))] [] sz [.ref xq1, .int p0]) (va_Qi (fun (r : Int32) (u : va_W × List (ClassId × FieldType)) => u = ([(xq1, .inr (7, [.ref xq2, .ref xq3, .ref xq4, .ref xq5, .ref xq6, .ref xq7, .ref xq8, .int 0, .int 0, .int 0, .int 0, .int 0]))], []) ∧ r = 0) (z_B dC dI (va_A [(xq1, .inr (7, [.ref xq2, .ref xq3, .ref xq4, .ref xq5, .ref xq6, .ref xq7, .ref xq8, .int 0, .int 0, .int 0, .int 0, .int 0]))] sz)) (va_A [(xq1, .inr (7, [.ref xq2, .ref xq3, .ref xq4, .ref xq5, .ref xq6, .ref xq7, .ref xq8, .int 0, .int 0, .int 0, .int 0, .int 0]))] sz)) 0 0 (va_A [(xq1, .inr (7, [.ref xq2, .ref xq3, .ref xq4, .ref xq5, .ref xq6, .ref xq7, .ref xq8, .int 0, .int 0, .int 0, .int 0, .int 0]))] sz) := by
  refine Met.ofW (cc := cX7_hasCut) (maxL := 2) (ret := (some .boolean)) (by decide) rfl ?_
  intro p e s m args below meth c s₁ B hml hv
  obtain ⟨rfl, rfl, I⟩ := z_open hv
  have hx := B.exec
  have hb := B.bytes
  have hr := B.returns
  have hts := atoms_spec (ws := z_w yX7_hasCut cX7_hasCut 2 (some .boolean)) B.pre
  have hg : z_G _ s := z_G.of hts
  have hown : s.vm.findClass RX7 = some m.cls := findClass_of_methodNamed B.named
  have hlocks := B.notSynchronized
  generalize va_A [(xq1, .inr (7, [.ref xq2, .ref xq3, .ref xq4, .ref xq5, .ref xq6, .ref xq7, .ref xq8, .int 0, .int 0, .int 0, .int 0, .int 0]))] s.heap.size = A at I ⊢
  have hl := lv_entry ([.ref xq1, .int p0]) (n := 2) (Nat.le_of_ble_eq_true rfl)
  rw [lg_entry_eq]
  generalize (lg_sl ([.ref xq1, .int p0]) ++ List.replicate (2 - (lg_sl ([.ref xq1, .int p0])).length) Slot.unset).toArray = ls at hl ⊢
  have hl : lv_has ls 2 [(0, .ref xq1), (1, .int p0)] := hl
  refine lv_iload_n hx hb dX7_hasCut_0 rfl (lv_at hl 1 rfl) ?_
  refine lv_if_lt (tgt := 16) hx hb dX7_hasCut_1 (by decide) (fun c1 => ?_) (fun c1 => ?_)
  · skip
    refine lv_iconst (v := 0) hx hb dX7_hasCut_16 (by decide) ?_
    have I := I.subT (t' := []) [] rfl
    refine W.widen (k := 0) (n := 0) (Nat.le_of_ble_eq_true rfl) (Nat.le_of_ble_eq_true rfl) ?_
    exact z_zret hx hb hr hlocks rfl I ⟨rfl, rfl⟩ dX7_hasCut_17
  · skip
    refine lv_iload_n hx hb dX7_hasCut_4 rfl (lv_at hl 1 rfl) ?_
    refine lv_aload_n hx hb dX7_hasCut_5 rfl (lv_at hl 0 rfl) ?_
    refine z_get (C := RX7) (T := TX7) (N := 12) (ci := 7) (v := .int 0) hx hb hg hown I iw_7 0 rfl rfl 8 (by decide) mw326 rfl dX7_hasCut_6 ?_
    refine lv_icmp_ge (tgt := 16) hx hb dX7_hasCut_9 (by decide) (fun c2 => ?_) (fun c2 => ?_)
    · skip
      refine lv_iconst (v := 0) hx hb dX7_hasCut_16 (by decide) ?_
      have I := I.subT (t' := []) [] rfl
      refine W.widen (k := 0) (n := 0) (Nat.le_of_ble_eq_true rfl) (Nat.le_of_ble_eq_true rfl) ?_
      exact z_zret hx hb hr hlocks rfl I ⟨rfl, rfl⟩ dX7_hasCut_17
    · skip
      refine lv_iconst (v := 1) hx hb dX7_hasCut_12 (by decide) ?_
      refine lv_goto (tgt := 17) hx hb dX7_hasCut_13 (by decide) ?_
      have I := I.subT (t' := []) [] rfl
      refine W.widen (k := 0) (n := 0) (Nat.le_of_ble_eq_true rfl) (Nat.le_of_ble_eq_true rfl) ?_
      exact z_zret hx hb hr hlocks rfl I ⟨rfl, (absurd (Int32.not_lt.mp c1) c2)⟩ dX7_hasCut_17
set_option maxHeartbeats 4000000 in
set_option maxRecDepth 100000 in
theorem z_RX5_hasColumn (l : Launch) (dC : Nat → ClassId) (dI : Nat → Nat → Nat) (xq2 : Nat) (xq9 : Nat) (xq10 : Nat) (xq11 : Nat) (xq12 : Nat) (xq13 : Nat) (xq14 : Nat) (xq15 : Nat) (xq16 : Nat) (xq17 : Nat) (xq18 : Nat) (xq19 : Nat) (p0 : Int32) (sz : Nat) : Met l yX5_hasColumn (z_w yX5_hasColumn cX5_hasColumn 2 (some .boolean)) ({ frames := 8, cells := 0, slots := 0, locals := 140 }) (z_P dC dI [(xq2, .inr (5, [.ref xq9, .ref xq10, .ref xq11, .ref xq12, .ref xq13, .ref xq14, .ref xq15, .ref xq16, .ref xq17, .ref xq18, .ref xq19, .int 0, .int 0]))] [] sz [.ref xq2, .int p0]) (va_Qi (fun (r : Int32) (u : va_W × List (ClassId × FieldType)) => u = ([(xq2, .inr (5, [.ref xq9, .ref xq10, .ref xq11, .ref xq12, .ref xq13, .ref xq14, .ref xq15, .ref xq16, .ref xq17, .ref xq18, .ref xq19, .int 0, .int 0]))], []) ∧ r = 0) (z_B dC dI (va_A [(xq2, .inr (5, [.ref xq9, .ref xq10, .ref xq11, .ref xq12, .ref xq13, .ref xq14, .ref xq15, .ref xq16, .ref xq17, .ref xq18, .ref xq19, .int 0, .int 0]))] sz)) (va_A [(xq2, .inr (5, [.ref xq9, .ref xq10, .ref xq11, .ref xq12, .ref xq13, .ref xq14, .ref xq15, .ref xq16, .ref xq17, .ref xq18, .ref xq19, .int 0, .int 0]))] sz)) 0 0 (va_A [(xq2, .inr (5, [.ref xq9, .ref xq10, .ref xq11, .ref xq12, .ref xq13, .ref xq14, .ref xq15, .ref xq16, .ref xq17, .ref xq18, .ref xq19, .int 0, .int 0]))] sz) := by
  refine Met.ofW (cc := cX5_hasColumn) (maxL := 2) (ret := (some .boolean)) (by decide) rfl ?_
  intro p e s m args below meth c s₁ B hml hv
  obtain ⟨rfl, rfl, I⟩ := z_open hv
  have hx := B.exec
  have hb := B.bytes
  have hr := B.returns
  have hts := atoms_spec (ws := z_w yX5_hasColumn cX5_hasColumn 2 (some .boolean)) B.pre
  have hg : z_G _ s := z_G.of hts
  have hown : s.vm.findClass RX5 = some m.cls := findClass_of_methodNamed B.named
  have hlocks := B.notSynchronized
  generalize va_A [(xq2, .inr (5, [.ref xq9, .ref xq10, .ref xq11, .ref xq12, .ref xq13, .ref xq14, .ref xq15, .ref xq16, .ref xq17, .ref xq18, .ref xq19, .int 0, .int 0]))] s.heap.size = A at I ⊢
  have hl := lv_entry ([.ref xq2, .int p0]) (n := 2) (Nat.le_of_ble_eq_true rfl)
  rw [lg_entry_eq]
  generalize (lg_sl ([.ref xq2, .int p0]) ++ List.replicate (2 - (lg_sl ([.ref xq2, .int p0])).length) Slot.unset).toArray = ls at hl ⊢
  have hl : lv_has ls 2 [(0, .ref xq2), (1, .int p0)] := hl
  refine lv_iload_n hx hb dX5_hasColumn_0 rfl (lv_at hl 1 rfl) ?_
  refine lv_if_lt (tgt := 16) hx hb dX5_hasColumn_1 (by decide) (fun c1 => ?_) (fun c1 => ?_)
  · skip
    refine lv_iconst (v := 0) hx hb dX5_hasColumn_16 (by decide) ?_
    have I := I.subT (t' := []) [] rfl
    refine W.widen (k := 0) (n := 0) (Nat.le_of_ble_eq_true rfl) (Nat.le_of_ble_eq_true rfl) ?_
    exact z_zret hx hb hr hlocks rfl I ⟨rfl, rfl⟩ dX5_hasColumn_17
  · skip
    refine lv_iload_n hx hb dX5_hasColumn_4 rfl (lv_at hl 1 rfl) ?_
    refine lv_aload_n hx hb dX5_hasColumn_5 rfl (lv_at hl 0 rfl) ?_
    refine z_get (C := RX5) (T := TX5) (N := 13) (ci := 5) (v := .int 0) hx hb hg hown I iw_5 0 rfl rfl 11 (by decide) mw170 rfl dX5_hasColumn_6 ?_
    refine lv_icmp_ge (tgt := 16) hx hb dX5_hasColumn_9 (by decide) (fun c2 => ?_) (fun c2 => ?_)
    · skip
      refine lv_iconst (v := 0) hx hb dX5_hasColumn_16 (by decide) ?_
      have I := I.subT (t' := []) [] rfl
      refine W.widen (k := 0) (n := 0) (Nat.le_of_ble_eq_true rfl) (Nat.le_of_ble_eq_true rfl) ?_
      exact z_zret hx hb hr hlocks rfl I ⟨rfl, rfl⟩ dX5_hasColumn_17
    · skip
      refine lv_iconst (v := 1) hx hb dX5_hasColumn_12 (by decide) ?_
      refine lv_goto (tgt := 17) hx hb dX5_hasColumn_13 (by decide) ?_
      have I := I.subT (t' := []) [] rfl
      refine W.widen (k := 0) (n := 0) (Nat.le_of_ble_eq_true rfl) (Nat.le_of_ble_eq_true rfl) ?_
      exact z_zret hx hb hr hlocks rfl I ⟨rfl, (absurd (Int32.not_lt.mp c1) c2)⟩ dX5_hasColumn_17
set_option maxHeartbeats 4000000 in
set_option maxRecDepth 100000 in
theorem z_RX5_hasRow (l : Launch) (dC : Nat → ClassId) (dI : Nat → Nat → Nat) (xq2 : Nat) (xq9 : Nat) (xq10 : Nat) (xq11 : Nat) (xq12 : Nat) (xq13 : Nat) (xq14 : Nat) (xq15 : Nat) (xq16 : Nat) (xq17 : Nat) (xq18 : Nat) (xq19 : Nat) (p0 : Int32) (sz : Nat) : Met l yX5_hasRow (z_w yX5_hasRow cX5_hasRow 2 (some .boolean)) ({ frames := 8, cells := 0, slots := 0, locals := 140 }) (z_P dC dI [(xq2, .inr (5, [.ref xq9, .ref xq10, .ref xq11, .ref xq12, .ref xq13, .ref xq14, .ref xq15, .ref xq16, .ref xq17, .ref xq18, .ref xq19, .int 0, .int 0]))] [] sz [.ref xq2, .int p0]) (va_Qi (fun (r : Int32) (u : va_W × List (ClassId × FieldType)) => u = ([(xq2, .inr (5, [.ref xq9, .ref xq10, .ref xq11, .ref xq12, .ref xq13, .ref xq14, .ref xq15, .ref xq16, .ref xq17, .ref xq18, .ref xq19, .int 0, .int 0]))], []) ∧ r = 0) (z_B dC dI (va_A [(xq2, .inr (5, [.ref xq9, .ref xq10, .ref xq11, .ref xq12, .ref xq13, .ref xq14, .ref xq15, .ref xq16, .ref xq17, .ref xq18, .ref xq19, .int 0, .int 0]))] sz)) (va_A [(xq2, .inr (5, [.ref xq9, .ref xq10, .ref xq11, .ref xq12, .ref xq13, .ref xq14, .ref xq15, .ref xq16, .ref xq17, .ref xq18, .ref xq19, .int 0, .int 0]))] sz)) 0 0 (va_A [(xq2, .inr (5, [.ref xq9, .ref xq10, .ref xq11, .ref xq12, .ref xq13, .ref xq14, .ref xq15, .ref xq16, .ref xq17, .ref xq18, .ref xq19, .int 0, .int 0]))] sz) := by
  refine Met.ofW (cc := cX5_hasRow) (maxL := 2) (ret := (some .boolean)) (by decide) rfl ?_
  intro p e s m args below meth c s₁ B hml hv
  obtain ⟨rfl, rfl, I⟩ := z_open hv
  have hx := B.exec
  have hb := B.bytes
  have hr := B.returns
  have hts := atoms_spec (ws := z_w yX5_hasRow cX5_hasRow 2 (some .boolean)) B.pre
  have hg : z_G _ s := z_G.of hts
  have hown : s.vm.findClass RX5 = some m.cls := findClass_of_methodNamed B.named
  have hlocks := B.notSynchronized
  generalize va_A [(xq2, .inr (5, [.ref xq9, .ref xq10, .ref xq11, .ref xq12, .ref xq13, .ref xq14, .ref xq15, .ref xq16, .ref xq17, .ref xq18, .ref xq19, .int 0, .int 0]))] s.heap.size = A at I ⊢
  have hl := lv_entry ([.ref xq2, .int p0]) (n := 2) (Nat.le_of_ble_eq_true rfl)
  rw [lg_entry_eq]
  generalize (lg_sl ([.ref xq2, .int p0]) ++ List.replicate (2 - (lg_sl ([.ref xq2, .int p0])).length) Slot.unset).toArray = ls at hl ⊢
  have hl : lv_has ls 2 [(0, .ref xq2), (1, .int p0)] := hl
  refine lv_iload_n hx hb dX5_hasRow_0 rfl (lv_at hl 1 rfl) ?_
  refine lv_if_lt (tgt := 16) hx hb dX5_hasRow_1 (by decide) (fun c1 => ?_) (fun c1 => ?_)
  · skip
    refine lv_iconst (v := 0) hx hb dX5_hasRow_16 (by decide) ?_
    have I := I.subT (t' := []) [] rfl
    refine W.widen (k := 0) (n := 0) (Nat.le_of_ble_eq_true rfl) (Nat.le_of_ble_eq_true rfl) ?_
    exact z_zret hx hb hr hlocks rfl I ⟨rfl, rfl⟩ dX5_hasRow_17
  · skip
    refine lv_iload_n hx hb dX5_hasRow_4 rfl (lv_at hl 1 rfl) ?_
    refine lv_aload_n hx hb dX5_hasRow_5 rfl (lv_at hl 0 rfl) ?_
    refine z_get (C := RX5) (T := TX5) (N := 13) (ci := 5) (v := .int 0) hx hb hg hown I iw_5 0 rfl rfl 12 (by decide) mw174 rfl dX5_hasRow_6 ?_
    refine lv_icmp_ge (tgt := 16) hx hb dX5_hasRow_9 (by decide) (fun c2 => ?_) (fun c2 => ?_)
    · skip
      refine lv_iconst (v := 0) hx hb dX5_hasRow_16 (by decide) ?_
      have I := I.subT (t' := []) [] rfl
      refine W.widen (k := 0) (n := 0) (Nat.le_of_ble_eq_true rfl) (Nat.le_of_ble_eq_true rfl) ?_
      exact z_zret hx hb hr hlocks rfl I ⟨rfl, rfl⟩ dX5_hasRow_17
    · skip
      refine lv_iconst (v := 1) hx hb dX5_hasRow_12 (by decide) ?_
      refine lv_goto (tgt := 17) hx hb dX5_hasRow_13 (by decide) ?_
      have I := I.subT (t' := []) [] rfl
      refine W.widen (k := 0) (n := 0) (Nat.le_of_ble_eq_true rfl) (Nat.le_of_ble_eq_true rfl) ?_
      exact z_zret hx hb hr hlocks rfl I ⟨rfl, (absurd (Int32.not_lt.mp c1) c2)⟩ dX5_hasRow_17
set_option maxHeartbeats 4000000 in
set_option maxRecDepth 100000 in
theorem z_RX7_isPlanted (l : Launch) (dC : Nat → ClassId) (dI : Nat → Nat → Nat) (xq1 : Nat) (xq2 : Nat) (xq3 : Nat) (xq4 : Nat) (xq5 : Nat) (xq6 : Nat) (xq7 : Nat) (xq8 : Nat) (sz : Nat) : Met l yX7_isPlanted (z_w yX7_isPlanted cX7_isPlanted 1 (some .boolean)) ({ frames := 8, cells := 0, slots := 0, locals := 140 }) (z_P dC dI [(xq1, .inr (7, [.ref xq2, .ref xq3, .ref xq4, .ref xq5, .ref xq6, .ref xq7, .ref xq8, .int 0, .int 0, .int 0, .int 0, .int 0]))] [] sz [.ref xq1]) (va_Qi (fun (r : Int32) (u : va_W × List (ClassId × FieldType)) => u = ([(xq1, .inr (7, [.ref xq2, .ref xq3, .ref xq4, .ref xq5, .ref xq6, .ref xq7, .ref xq8, .int 0, .int 0, .int 0, .int 0, .int 0]))], []) ∧ r = 0) (z_B dC dI (va_A [(xq1, .inr (7, [.ref xq2, .ref xq3, .ref xq4, .ref xq5, .ref xq6, .ref xq7, .ref xq8, .int 0, .int 0, .int 0, .int 0, .int 0]))] sz)) (va_A [(xq1, .inr (7, [.ref xq2, .ref xq3, .ref xq4, .ref xq5, .ref xq6, .ref xq7, .ref xq8, .int 0, .int 0, .int 0, .int 0, .int 0]))] sz)) 0 0 (va_A [(xq1, .inr (7, [.ref xq2, .ref xq3, .ref xq4, .ref xq5, .ref xq6, .ref xq7, .ref xq8, .int 0, .int 0, .int 0, .int 0, .int 0]))] sz) := by
  refine Met.ofW (cc := cX7_isPlanted) (maxL := 1) (ret := (some .boolean)) (by decide) rfl ?_
  intro p e s m args below meth c s₁ B hml hv
  obtain ⟨rfl, rfl, I⟩ := z_open hv
  have hx := B.exec
  have hb := B.bytes
  have hr := B.returns
  have hts := atoms_spec (ws := z_w yX7_isPlanted cX7_isPlanted 1 (some .boolean)) B.pre
  have hg : z_G _ s := z_G.of hts
  have hown : s.vm.findClass RX7 = some m.cls := findClass_of_methodNamed B.named
  have hlocks := B.notSynchronized
  generalize va_A [(xq1, .inr (7, [.ref xq2, .ref xq3, .ref xq4, .ref xq5, .ref xq6, .ref xq7, .ref xq8, .int 0, .int 0, .int 0, .int 0, .int 0]))] s.heap.size = A at I ⊢
  have hl := lv_entry ([.ref xq1]) (n := 1) (Nat.le_of_ble_eq_true rfl)
  rw [lg_entry_eq]
  generalize (lg_sl ([.ref xq1]) ++ List.replicate (1 - (lg_sl ([.ref xq1])).length) Slot.unset).toArray = ls at hl ⊢
  have hl : lv_has ls 1 [(0, .ref xq1)] := hl
  refine lv_aload_n hx hb dX7_isPlanted_0 rfl (lv_at hl 0 rfl) ?_
  refine z_get (C := RX7) (T := TX7) (N := 12) (ci := 7) (v := .int 0) hx hb hg hown I iw_7 0 rfl rfl 7 (by decide) mw324 rfl dX7_isPlanted_1 ?_
  refine lv_if_le (tgt := 11) hx hb dX7_isPlanted_4 (by decide) (fun _ => ?_) (fun c9 => absurd c9 (by decide))
  refine lv_iconst (v := 0) hx hb dX7_isPlanted_11 (by decide) ?_
  have I := I.subT (t' := []) [] rfl
  refine W.widen (k := 0) (n := 0) (Nat.le_of_ble_eq_true rfl) (Nat.le_of_ble_eq_true rfl) ?_
  exact z_zret hx hb hr hlocks rfl I ⟨rfl, rfl⟩ dX7_isPlanted_12
set_option maxHeartbeats 4000000 in
set_option maxRecDepth 100000 in
theorem z_RX7_openCount (l : Launch) (dC : Nat → ClassId) (dI : Nat → Nat → Nat) (xq1 : Nat) (xq2 : Nat) (xq3 : Nat) (xq4 : Nat) (xq5 : Nat) (xq6 : Nat) (xq7 : Nat) (xq8 : Nat) (sz : Nat) : Met l yX7_openCount (z_w yX7_openCount cX7_openCount 3 (some .int)) ({ frames := 8, cells := 0, slots := 0, locals := 140 }) (z_P dC dI [(xq1, .inr (7, [.ref xq2, .ref xq3, .ref xq4, .ref xq5, .ref xq6, .ref xq7, .ref xq8, .int 0, .int 0, .int 0, .int 0, .int 0]))] [] sz [.ref xq1]) (va_Qi (fun (r : Int32) (u : va_W × List (ClassId × FieldType)) => u = ([(xq1, .inr (7, [.ref xq2, .ref xq3, .ref xq4, .ref xq5, .ref xq6, .ref xq7, .ref xq8, .int 0, .int 0, .int 0, .int 0, .int 0]))], []) ∧ r = 0) (z_B dC dI (va_A [(xq1, .inr (7, [.ref xq2, .ref xq3, .ref xq4, .ref xq5, .ref xq6, .ref xq7, .ref xq8, .int 0, .int 0, .int 0, .int 0, .int 0]))] sz)) (va_A [(xq1, .inr (7, [.ref xq2, .ref xq3, .ref xq4, .ref xq5, .ref xq6, .ref xq7, .ref xq8, .int 0, .int 0, .int 0, .int 0, .int 0]))] sz)) 0 0 (va_A [(xq1, .inr (7, [.ref xq2, .ref xq3, .ref xq4, .ref xq5, .ref xq6, .ref xq7, .ref xq8, .int 0, .int 0, .int 0, .int 0, .int 0]))] sz) := by
  refine Met.ofW (cc := cX7_openCount) (maxL := 3) (ret := (some .int)) (by decide) rfl ?_
  intro p e s m args below meth c s₁ B hml hv
  obtain ⟨rfl, rfl, I⟩ := z_open hv
  have hx := B.exec
  have hb := B.bytes
  have hr := B.returns
  have hts := atoms_spec (ws := z_w yX7_openCount cX7_openCount 3 (some .int)) B.pre
  have hg : z_G _ s := z_G.of hts
  have hown : s.vm.findClass RX7 = some m.cls := findClass_of_methodNamed B.named
  have hlocks := B.notSynchronized
  generalize va_A [(xq1, .inr (7, [.ref xq2, .ref xq3, .ref xq4, .ref xq5, .ref xq6, .ref xq7, .ref xq8, .int 0, .int 0, .int 0, .int 0, .int 0]))] s.heap.size = A at I ⊢
  have hl := lv_entry ([.ref xq1]) (n := 3) (Nat.le_of_ble_eq_true rfl)
  rw [lg_entry_eq]
  generalize (lg_sl ([.ref xq1]) ++ List.replicate (3 - (lg_sl ([.ref xq1])).length) Slot.unset).toArray = ls at hl ⊢
  have hl : lv_has ls 3 [(0, .ref xq1)] := hl
  refine lv_iconst (v := 0) hx hb dX7_openCount_0 (by decide) ?_
  refine lv_istore_n (lv' := [(1, .int 0), (0, .ref xq1)]) hx hb dX7_openCount_1 rfl hl (by decide) rfl (fun ls hl => ?_)
  refine lv_iconst (v := 0) hx hb dX7_openCount_2 (by decide) ?_
  refine lv_istore_n (lv' := [(2, .int 0), (1, .int 0), (0, .ref xq1)]) hx hb dX7_openCount_3 rfl hl (by decide) rfl (fun ls hl => ?_)
  refine lv_iload_n hx hb dX7_openCount_4 rfl (lv_at hl 0 rfl) ?_
  refine lv_aload_n hx hb dX7_openCount_5 rfl (lv_at hl 2 rfl) ?_
  refine z_get (C := RX7) (T := TX7) (N := 12) (ci := 7) (v := .int 0) hx hb hg hown I iw_7 0 rfl rfl 7 (by decide) mw324 rfl dX7_openCount_6 ?_
  refine lv_icmp_ge (tgt := 35) hx hb dX7_openCount_9 (by decide) (fun _ => ?_) (fun c9 => absurd c9 (by decide))
  refine lv_iload_n hx hb dX7_openCount_35 rfl (lv_at hl 1 rfl) ?_
  have I := I.subT (t' := []) [] rfl
  refine W.widen (k := 0) (n := 0) (Nat.le_of_ble_eq_true rfl) (Nat.le_of_ble_eq_true rfl) ?_
  exact z_iret hx hb hr hlocks I ⟨rfl, rfl⟩ dX7_openCount_36
set_option maxHeartbeats 4000000 in
set_option maxRecDepth 100000 in
theorem z_RX7_boundPoint (l : Launch) (dC : Nat → ClassId) (dI : Nat → Nat → Nat) (xq1 : Nat) (xq2 : Nat) (xq3 : Nat) (xq4 : Nat) (xq5 : Nat) (xq6 : Nat) (xq7 : Nat) (xq8 : Nat) (sz : Nat) : Met l yX7_boundPoint (z_w yX7_boundPoint cX7_boundPoint 4 (some (.object "BranchQuarry$Point"))) ({ frames := 10, cells := 0, slots := 0, locals := 200 }) (z_P dC dI [(xq1, .inr (7, [.ref xq2, .ref xq3, .ref xq4, .ref xq5, .ref xq6, .ref xq7, .ref xq8, .int 0, .int 0, .int 0, .int 0, .int 0]))] [] sz [.ref xq1]) (va_Qq (fun (r : Option Nat) (u : va_W × List (ClassId × FieldType)) => u = ([(xq1, .inr (7, [.ref xq2, .ref xq3, .ref xq4, .ref xq5, .ref xq6, .ref xq7, .ref xq8, .int 0, .int 0, .int 0, .int 0, .int 0]))], []) ∧ r = none) (z_B dC dI (va_A [(xq1, .inr (7, [.ref xq2, .ref xq3, .ref xq4, .ref xq5, .ref xq6, .ref xq7, .ref xq8, .int 0, .int 0, .int 0, .int 0, .int 0]))] sz)) (va_A [(xq1, .inr (7, [.ref xq2, .ref xq3, .ref xq4, .ref xq5, .ref xq6, .ref xq7, .ref xq8, .int 0, .int 0, .int 0, .int 0, .int 0]))] sz)) 0 0 (va_A [(xq1, .inr (7, [.ref xq2, .ref xq3, .ref xq4, .ref xq5, .ref xq6, .ref xq7, .ref xq8, .int 0, .int 0, .int 0, .int 0, .int 0]))] sz) := by
  refine Met.ofW (cc := cX7_boundPoint) (maxL := 4) (ret := (some (.object "BranchQuarry$Point"))) (by decide) rfl ?_
  intro p e s m args below meth c s₁ B hml hv
  obtain ⟨rfl, rfl, I⟩ := z_open hv
  have hx := B.exec
  have hb := B.bytes
  have hr := B.returns
  have hts := atoms_spec (ws := z_w yX7_boundPoint cX7_boundPoint 4 (some (.object "BranchQuarry$Point"))) B.pre
  have hg : z_G _ s := z_G.of hts
  have hown : s.vm.findClass RX7 = some m.cls := findClass_of_methodNamed B.named
  have hlocks := B.notSynchronized
  generalize va_A [(xq1, .inr (7, [.ref xq2, .ref xq3, .ref xq4, .ref xq5, .ref xq6, .ref xq7, .ref xq8, .int 0, .int 0, .int 0, .int 0, .int 0]))] s.heap.size = A at I ⊢
  have hl := lv_entry ([.ref xq1]) (n := 4) (Nat.le_of_ble_eq_true rfl)
  rw [lg_entry_eq]
  generalize (lg_sl ([.ref xq1]) ++ List.replicate (4 - (lg_sl ([.ref xq1])).length) Slot.unset).toArray = ls at hl ⊢
  have hl : lv_has ls 4 [(0, .ref xq1)] := hl
  refine lv_aload_n hx hb dX7_boundPoint_0 rfl (lv_at hl 0 rfl) ?_
  refine z_calli (wr := []) (va_runV (As := []) (rest := []) ⟨hx, hb, hml, hown, hts⟩ (z_RX7_isPlanted l dC dI xq1 xq2 xq3 xq4 xq5 xq6 xq7 xq8  s.heap.size) (cwV 0 hts (z_gV z_T.w mw511 mw465 mw466 mw2 mw467) rfl rfl rfl (by decide +kernel) ⟨Nat.le_of_ble_eq_true rfl, Nat.le_of_ble_eq_true rfl⟩) (z_preV I [0] [] rfl rfl rfl rfl (ci := 7) (q0 := 0) rfl rfl) rfl rfl hl.1 rfl (lv_room (Nat.le_of_ble_eq_true rfl)) dX7_boundPoint_1 ⟨Nat.le_of_ble_eq_true rfl, Nat.le_of_ble_eq_true rfl⟩) I [0] [] rfl rfl (by decide) (by decide) (fun r1 u1 H locs hw1 I => ?_)
  obtain ⟨hu1, hp1⟩ := hw1
  subst hu1
  have I : z_I A dC dI [(xq1, .inr (7, [.ref xq2, .ref xq3, .ref xq4, .ref xq5, .ref xq6, .ref xq7, .ref xq8, .int 0, .int 0, .int 0, .int 0, .int 0]))] [] s H _ := I
  obtain rfl : r1 = 0 := hp1
  refine lv_if_eq (tgt := 21) hx hb dX7_boundPoint_4 (by decide) (fun _ => ?_) (fun c9 => absurd c9 (by decide))
  refine lv_null hx hb dX7_boundPoint_21 ?_
  have I := I.subT (t' := []) [] rfl
  refine W.widen (k := 0) (n := 0) (Nat.le_of_ble_eq_true rfl) (Nat.le_of_ble_eq_true rfl) ?_
  exact z_nret hx hb hr hlocks (Or.inl ⟨_, rfl⟩) I ⟨rfl, rfl⟩ dX7_boundPoint_22
set_option maxHeartbeats 4000000 in
set_option maxRecDepth 100000 in
theorem z_RX7_meetRow (l : Launch) (dC : Nat → ClassId) (dI : Nat → Nat → Nat) (xq1 : Nat) (xq2 : Nat) (xq3 : Nat) (xq4 : Nat) (xq5 : Nat) (xq6 : Nat) (xq7 : Nat) (xq8 : Nat) (xq31 : Nat) (sz : Nat) : Met l yX7_meetRow (z_w yX7_meetRow cX7_meetRow 3 none) ({ frames := 10, cells := 0, slots := 0, locals := 200 }) (z_P dC dI [(xq1, .inr (7, [.ref xq2, .ref xq3, .ref xq4, .ref xq5, .ref xq6, .ref xq7, .ref xq8, .int 0, .int 0, .int 0, .int 0, .int 0]))] [] sz [.ref xq1, .ref xq31]) (va_Qv (fun u : va_W × List (ClassId × FieldType) => u = ([(xq1, .inr (7, [.ref xq2, .ref xq3, .ref xq4, .ref xq5, .ref xq6, .ref xq7, .ref xq8, .int 0, .int 0, .int 0, .int 0, .int 0]))], []) ∧ True) (z_B dC dI (va_A [(xq1, .inr (7, [.ref xq2, .ref xq3, .ref xq4, .ref xq5, .ref xq6, .ref xq7, .ref xq8, .int 0, .int 0, .int 0, .int 0, .int 0]))] sz)) (va_A [(xq1, .inr (7, [.ref xq2, .ref xq3, .ref xq4, .ref xq5, .ref xq6, .ref xq7, .ref xq8, .int 0, .int 0, .int 0, .int 0, .int 0]))] sz)) 0 0 (va_A [(xq1, .inr (7, [.ref xq2, .ref xq3, .ref xq4, .ref xq5, .ref xq6, .ref xq7, .ref xq8, .int 0, .int 0, .int 0, .int 0, .int 0]))] sz) := by
  refine Met.ofW (cc := cX7_meetRow) (maxL := 3) (ret := none) (by decide) rfl ?_
  intro p e s m args below meth c s₁ B hml hv
  obtain ⟨rfl, rfl, I⟩ := z_open hv
  have hx := B.exec
  have hb := B.bytes
  have hr := B.returns
  have hts := atoms_spec (ws := z_w yX7_meetRow cX7_meetRow 3 none) B.pre
  have hg : z_G _ s := z_G.of hts
  have hown : s.vm.findClass RX7 = some m.cls := findClass_of_methodNamed B.named
  have hlocks := B.notSynchronized
  generalize va_A [(xq1, .inr (7, [.ref xq2, .ref xq3, .ref xq4, .ref xq5, .ref xq6, .ref xq7, .ref xq8, .int 0, .int 0, .int 0, .int 0, .int 0]))] s.heap.size = A at I ⊢
  have hl := lv_entry ([.ref xq1, .ref xq31]) (n := 3) (Nat.le_of_ble_eq_true rfl)
  rw [lg_entry_eq]
  generalize (lg_sl ([.ref xq1, .ref xq31]) ++ List.replicate (3 - (lg_sl ([.ref xq1, .ref xq31])).length) Slot.unset).toArray = ls at hl ⊢
  have hl : lv_has ls 3 [(0, .ref xq1), (1, .ref xq31)] := hl
  refine lv_aload_n hx hb dX7_meetRow_0 rfl (lv_at hl 0 rfl) ?_
  refine z_calli (wr := []) (va_runV (As := []) (rest := []) ⟨hx, hb, hml, hown, hts⟩ (z_RX7_isPlanted l dC dI xq1 xq2 xq3 xq4 xq5 xq6 xq7 xq8  s.heap.size) (cwV 0 hts (z_gV z_T.w mw511 mw465 mw466 mw2 mw467) rfl rfl rfl (by decide +kernel) ⟨Nat.le_of_ble_eq_true rfl, Nat.le_of_ble_eq_true rfl⟩) (z_preV I [0] [] rfl rfl rfl rfl (ci := 7) (q0 := 0) rfl rfl) rfl rfl hl.1 rfl (lv_room (Nat.le_of_ble_eq_true rfl)) dX7_meetRow_1 ⟨Nat.le_of_ble_eq_true rfl, Nat.le_of_ble_eq_true rfl⟩) I [0] [] rfl rfl (by decide) (by decide) (fun r1 u1 H locs hw1 I => ?_)
  obtain ⟨hu1, hp1⟩ := hw1
  subst hu1
  have I : z_I A dC dI [(xq1, .inr (7, [.ref xq2, .ref xq3, .ref xq4, .ref xq5, .ref xq6, .ref xq7, .ref xq8, .int 0, .int 0, .int 0, .int 0, .int 0]))] [] s H _ := I
  obtain rfl : r1 = 0 := hp1
  refine lv_if_ne (tgt := 8) hx hb dX7_meetRow_4 (by decide) (fun c9 => absurd c9 (by decide)) (fun _ => ?_)
  have I := I.subT (t' := []) [] rfl
  refine W.widen (k := 0) (n := 0) (Nat.le_of_ble_eq_true rfl) (Nat.le_of_ble_eq_true rfl) ?_
  exact z_vret hx hb hr hlocks I ⟨rfl, trivial⟩ dX7_meetRow_7
set_option maxHeartbeats 4000000 in
set_option maxRecDepth 100000 in
theorem z_RX5_keepColumn (l : Launch) (dC : Nat → ClassId) (dI : Nat → Nat → Nat) (xq2 : Nat) (xq9 : Nat) (xq10 : Nat) (xq11 : Nat) (xq12 : Nat) (xq13 : Nat) (xq14 : Nat) (xq15 : Nat) (xq16 : Nat) (xq17 : Nat) (xq18 : Nat) (xq19 : Nat) (xc20 : ClassId) (xf21 : Nat → Int32) (xc22 : ClassId) (xc23 : ClassId) (xc24 : ClassId) (xc25 : ClassId) (xc26 : ClassId) (p0 : Int32) (p1 : Int32) (p2 : Int32) (p3 : Int32) (sz : Nat) : Met l yX5_keepColumn (z_w yX5_keepColumn cX5_keepColumn 6 (some .int)) ({ frames := 8, cells := 0, slots := 0, locals := 140 }) (z_P dC dI [(xq2, .inr (5, [.ref xq9, .ref xq10, .ref xq11, .ref xq12, .ref xq13, .ref xq14, .ref xq15, .ref xq16, .ref xq17, .ref xq18, .ref xq19, .int 0, .int 0])), (xq9, .inl (xc20, 4, .inl xf21)), (xq10, .inl (xc22, 4, .inl xf21)), (xq11, .inl (xc23, 4, .inl xf21)), (xq12, .inl (xc24, 4, .inl xf21)), (xq13, .inl (xc25, 4, .inl xf21)), (xq14, .inl (xc26, 4, .inl xf21))] [(xc20, .int), (xc22, .int), (xc23, .int), (xc24, .boolean), (xc25, .int), (xc26, .int)] sz [.ref xq2, .int p0, .int p1, .int p2, .int p3]) (va_Qi (fun (r : Int32) (u : va_W × List (ClassId × FieldType)) => u = ([], []) ∧ r = 0) (z_B dC dI (va_A [(xq2, .inr (5, [.ref xq9, .ref xq10, .ref xq11, .ref xq12, .ref xq13, .ref xq14, .ref xq15, .ref xq16, .ref xq17, .ref xq18, .ref xq19, .int 0, .int 0])), (xq9, .inl (xc20, 4, .inl xf21)), (xq10, .inl (xc22, 4, .inl xf21)), (xq11, .inl (xc23, 4, .inl xf21)), (xq12, .inl (xc24, 4, .inl xf21)), (xq13, .inl (xc25, 4, .inl xf21)), (xq14, .inl (xc26, 4, .inl xf21))] sz)) (va_A [(xq2, .inr (5, [.ref xq9, .ref xq10, .ref xq11, .ref xq12, .ref xq13, .ref xq14, .ref xq15, .ref xq16, .ref xq17, .ref xq18, .ref xq19, .int 0, .int 0])), (xq9, .inl (xc20, 4, .inl xf21)), (xq10, .inl (xc22, 4, .inl xf21)), (xq11, .inl (xc23, 4, .inl xf21)), (xq12, .inl (xc24, 4, .inl xf21)), (xq13, .inl (xc25, 4, .inl xf21)), (xq14, .inl (xc26, 4, .inl xf21))] sz)) 0 0 (va_A [(xq2, .inr (5, [.ref xq9, .ref xq10, .ref xq11, .ref xq12, .ref xq13, .ref xq14, .ref xq15, .ref xq16, .ref xq17, .ref xq18, .ref xq19, .int 0, .int 0])), (xq9, .inl (xc20, 4, .inl xf21)), (xq10, .inl (xc22, 4, .inl xf21)), (xq11, .inl (xc23, 4, .inl xf21)), (xq12, .inl (xc24, 4, .inl xf21)), (xq13, .inl (xc25, 4, .inl xf21)), (xq14, .inl (xc26, 4, .inl xf21))] sz) := by
  refine Met.ofW (cc := cX5_keepColumn) (maxL := 6) (ret := (some .int)) (by decide) rfl ?_
  intro p e s m args below meth c s₁ B hml hv
  obtain ⟨rfl, rfl, I⟩ := z_open hv
  have hx := B.exec
  have hb := B.bytes
  have hr := B.returns
  have hts := atoms_spec (ws := z_w yX5_keepColumn cX5_keepColumn 6 (some .int)) B.pre
  have hg : z_G _ s := z_G.of hts
  have hown : s.vm.findClass RX5 = some m.cls := findClass_of_methodNamed B.named
  have hlocks := B.notSynchronized
  generalize va_A [(xq2, .inr (5, [.ref xq9, .ref xq10, .ref xq11, .ref xq12, .ref xq13, .ref xq14, .ref xq15, .ref xq16, .ref xq17, .ref xq18, .ref xq19, .int 0, .int 0])), (xq9, .inl (xc20, 4, .inl xf21)), (xq10, .inl (xc22, 4, .inl xf21)), (xq11, .inl (xc23, 4, .inl xf21)), (xq12, .inl (xc24, 4, .inl xf21)), (xq13, .inl (xc25, 4, .inl xf21)), (xq14, .inl (xc26, 4, .inl xf21))] s.heap.size = A at I ⊢
  have hl := lv_entry ([.ref xq2, .int p0, .int p1, .int p2, .int p3]) (n := 6) (Nat.le_of_ble_eq_true rfl)
  rw [lg_entry_eq]
  generalize (lg_sl ([.ref xq2, .int p0, .int p1, .int p2, .int p3]) ++ List.replicate (6 - (lg_sl ([.ref xq2, .int p0, .int p1, .int p2, .int p3])).length) Slot.unset).toArray = ls at hl ⊢
  have hl : lv_has ls 6 [(0, .ref xq2), (1, .int p0), (2, .int p1), (3, .int p2), (4, .int p3)] := hl
  refine lv_aload_n hx hb dX5_keepColumn_0 rfl (lv_at hl 0 rfl) ?_
  refine z_get (C := RX5) (T := TX5) (N := 13) (ci := 5) (v := .int 0) hx hb hg hown I iw_5 0 rfl rfl 11 (by decide) mw170 rfl dX5_keepColumn_1 ?_
  refine lv_istore (lv' := [(5, .int 0), (0, .ref xq2), (1, .int p0), (2, .int p1), (3, .int p2), (4, .int p3)]) hx hb dX5_keepColumn_4 hl (by decide) rfl (fun ls hl => ?_)
  refine lv_aload_n hx hb dX5_keepColumn_6 rfl (lv_at hl 1 rfl) ?_
  refine z_get (C := RX5) (T := TX5) (N := 13) (ci := 5) (v := .ref xq9) hx hb hg hown I iw_5 0 rfl rfl 0 (by decide) mw148 rfl dX5_keepColumn_7 ?_
  refine lv_iload hx hb dX5_keepColumn_10 (lv_at hl 0 rfl) ?_
  refine lv_iload_n hx hb dX5_keepColumn_12 rfl (lv_at hl 2 rfl) ?_
  refine z_iast hx hb I 1 0 rfl rfl (by unfold vp_in; decide) dX5_keepColumn_13 (fun g1 H locs eg1 I => ?_)
  have I : z_I A dC dI [(xq2, .inr (5, [.ref xq9, .ref xq10, .ref xq11, .ref xq12, .ref xq13, .ref xq14, .ref xq15, .ref xq16, .ref xq17, .ref xq18, .ref xq19, .int 0, .int 0])), (xq9, .inl (xc20, 4, .inl g1)), (xq10, .inl (xc22, 4, .inl xf21)), (xq11, .inl (xc23, 4, .inl xf21)), (xq12, .inl (xc24, 4, .inl xf21)), (xq13, .inl (xc25, 4, .inl xf21)), (xq14, .inl (xc26, 4, .inl xf21))] [(xc20, .int), (xc22, .int), (xc23, .int), (xc24, .boolean), (xc25, .int), (xc26, .int)] s H _ := I
  refine lv_aload_n hx hb dX5_keepColumn_14 rfl (lv_at hl 1 rfl) ?_
  refine z_get (C := RX5) (T := TX5) (N := 13) (ci := 5) (v := .ref xq10) hx hb hg hown I iw_5 0 rfl rfl 1 (by decide) mw150 rfl dX5_keepColumn_15 ?_
  refine lv_iload hx hb dX5_keepColumn_18 (lv_at hl 0 rfl) ?_
  refine lv_iload_n hx hb dX5_keepColumn_20 rfl (lv_at hl 3 rfl) ?_
  refine z_iast hx hb I 2 1 rfl rfl (by unfold vp_in; decide) dX5_keepColumn_21 (fun g2 H locs eg2 I => ?_)
  have I : z_I A dC dI [(xq2, .inr (5, [.ref xq9, .ref xq10, .ref xq11, .ref xq12, .ref xq13, .ref xq14, .ref xq15, .ref xq16, .ref xq17, .ref xq18, .ref xq19, .int 0, .int 0])), (xq9, .inl (xc20, 4, .inl g1)), (xq10, .inl (xc22, 4, .inl g2)), (xq11, .inl (xc23, 4, .inl xf21)), (xq12, .inl (xc24, 4, .inl xf21)), (xq13, .inl (xc25, 4, .inl xf21)), (xq14, .inl (xc26, 4, .inl xf21))] [(xc20, .int), (xc22, .int), (xc23, .int), (xc24, .boolean), (xc25, .int), (xc26, .int)] s H _ := I
  refine lv_aload_n hx hb dX5_keepColumn_22 rfl (lv_at hl 1 rfl) ?_
  refine z_get (C := RX5) (T := TX5) (N := 13) (ci := 5) (v := .ref xq11) hx hb hg hown I iw_5 0 rfl rfl 2 (by decide) mw151 rfl dX5_keepColumn_23 ?_
  refine lv_iload hx hb dX5_keepColumn_26 (lv_at hl 0 rfl) ?_
  refine lv_iload_n hx hb dX5_keepColumn_28 rfl (lv_at hl 4 rfl) ?_
  refine z_iast hx hb I 3 2 rfl rfl (by unfold vp_in; decide) dX5_keepColumn_29 (fun g3 H locs eg3 I => ?_)
  have I : z_I A dC dI [(xq2, .inr (5, [.ref xq9, .ref xq10, .ref xq11, .ref xq12, .ref xq13, .ref xq14, .ref xq15, .ref xq16, .ref xq17, .ref xq18, .ref xq19, .int 0, .int 0])), (xq9, .inl (xc20, 4, .inl g1)), (xq10, .inl (xc22, 4, .inl g2)), (xq11, .inl (xc23, 4, .inl g3)), (xq12, .inl (xc24, 4, .inl xf21)), (xq13, .inl (xc25, 4, .inl xf21)), (xq14, .inl (xc26, 4, .inl xf21))] [(xc20, .int), (xc22, .int), (xc23, .int), (xc24, .boolean), (xc25, .int), (xc26, .int)] s H _ := I
  refine lv_aload_n hx hb dX5_keepColumn_30 rfl (lv_at hl 1 rfl) ?_
  refine z_get (C := RX5) (T := TX5) (N := 13) (ci := 5) (v := .ref xq13) hx hb hg hown I iw_5 0 rfl rfl 4 (by decide) mw154 rfl dX5_keepColumn_31 ?_
  refine lv_iload hx hb dX5_keepColumn_34 (lv_at hl 0 rfl) ?_
  refine lv_iload_n hx hb dX5_keepColumn_36 rfl (lv_at hl 3 rfl) ?_
  refine z_iast hx hb I 5 4 rfl rfl (by unfold vp_in; decide) dX5_keepColumn_37 (fun g4 H locs eg4 I => ?_)
  have I : z_I A dC dI [(xq2, .inr (5, [.ref xq9, .ref xq10, .ref xq11, .ref xq12, .ref xq13, .ref xq14, .ref xq15, .ref xq16, .ref xq17, .ref xq18, .ref xq19, .int 0, .int 0])), (xq9, .inl (xc20, 4, .inl g1)), (xq10, .inl (xc22, 4, .inl g2)), (xq11, .inl (xc23, 4, .inl g3)), (xq12, .inl (xc24, 4, .inl xf21)), (xq13, .inl (xc25, 4, .inl g4)), (xq14, .inl (xc26, 4, .inl xf21))] [(xc20, .int), (xc22, .int), (xc23, .int), (xc24, .boolean), (xc25, .int), (xc26, .int)] s H _ := I
  refine lv_aload_n hx hb dX5_keepColumn_38 rfl (lv_at hl 1 rfl) ?_
  refine z_get (C := RX5) (T := TX5) (N := 13) (ci := 5) (v := .ref xq14) hx hb hg hown I iw_5 0 rfl rfl 5 (by decide) mw157 rfl dX5_keepColumn_39 ?_
  refine lv_iload hx hb dX5_keepColumn_42 (lv_at hl 0 rfl) ?_
  refine lv_iload_n hx hb dX5_keepColumn_44 rfl (lv_at hl 4 rfl) ?_
  refine z_iast hx hb I 6 5 rfl rfl (by unfold vp_in; decide) dX5_keepColumn_45 (fun g5 H locs eg5 I => ?_)
  have I : z_I A dC dI [(xq2, .inr (5, [.ref xq9, .ref xq10, .ref xq11, .ref xq12, .ref xq13, .ref xq14, .ref xq15, .ref xq16, .ref xq17, .ref xq18, .ref xq19, .int 0, .int 0])), (xq9, .inl (xc20, 4, .inl g1)), (xq10, .inl (xc22, 4, .inl g2)), (xq11, .inl (xc23, 4, .inl g3)), (xq12, .inl (xc24, 4, .inl xf21)), (xq13, .inl (xc25, 4, .inl g4)), (xq14, .inl (xc26, 4, .inl g5))] [(xc20, .int), (xc22, .int), (xc23, .int), (xc24, .boolean), (xc25, .int), (xc26, .int)] s H _ := I
  refine lv_aload_n hx hb dX5_keepColumn_46 rfl (lv_at hl 1 rfl) ?_
  refine z_get (C := RX5) (T := TX5) (N := 13) (ci := 5) (v := .ref xq12) hx hb hg hown I iw_5 0 rfl rfl 3 (by decide) mw152 rfl dX5_keepColumn_47 ?_
  refine lv_iload hx hb dX5_keepColumn_50 (lv_at hl 0 rfl) ?_
  refine lv_iload hx hb dX5_keepColumn_52 (lv_at hl 5 rfl) ?_
  refine z_zast hx hb I 4 3 rfl rfl (by unfold vp_in; decide) dX5_keepColumn_54 (fun g6 H locs eg6 I => ?_)
  have I : z_I A dC dI [(xq2, .inr (5, [.ref xq9, .ref xq10, .ref xq11, .ref xq12, .ref xq13, .ref xq14, .ref xq15, .ref xq16, .ref xq17, .ref xq18, .ref xq19, .int 0, .int 0])), (xq9, .inl (xc20, 4, .inl g1)), (xq10, .inl (xc22, 4, .inl g2)), (xq11, .inl (xc23, 4, .inl g3)), (xq12, .inl (xc24, 4, .inl g6)), (xq13, .inl (xc25, 4, .inl g4)), (xq14, .inl (xc26, 4, .inl g5))] [(xc20, .int), (xc22, .int), (xc23, .int), (xc24, .boolean), (xc25, .int), (xc26, .int)] s H _ := I
  refine lv_aload_n hx hb dX5_keepColumn_55 rfl (lv_at hl 1 rfl) ?_
  refine lv_dup hx hb dX5_keepColumn_56 rfl ?_
  refine z_get (C := RX5) (T := TX5) (N := 13) (ci := 5) (v := .int 0) hx hb hg hown I iw_5 0 rfl rfl 11 (by decide) mw170 rfl dX5_keepColumn_57 ?_
  refine lv_iconst (v := 1) hx hb dX5_keepColumn_60 (by decide) ?_
  refine lv_iadd hx hb dX5_keepColumn_61 ?_
  refine lv_topi (fun w7 ew7 => ?_)
  obtain rfl : w7 = 1 := ew7.trans (by decide)
  refine z_put (C := RX5) (T := TX5) (N := 13) (ci := 5) (v := .int 1) hx hb hg hown I iw_5 tyX5 tyX5_ok nmX5 0 rfl rfl 11 (by decide) mw170 rfl rfl rfl (Nat.le_of_ble_eq_true rfl) dX5_keepColumn_62 [(xq2, .inr (5, [.ref xq9, .ref xq10, .ref xq11, .ref xq12, .ref xq13, .ref xq14, .ref xq15, .ref xq16, .ref xq17, .ref xq18, .ref xq19, .int 1, .int 0])), (xq9, .inl (xc20, 4, .inl g1)), (xq10, .inl (xc22, 4, .inl g2)), (xq11, .inl (xc23, 4, .inl g3)), (xq12, .inl (xc24, 4, .inl g6)), (xq13, .inl (xc25, 4, .inl g4)), (xq14, .inl (xc26, 4, .inl g5))] rfl (fun H locs I => ?_)
  refine lv_iload hx hb dX5_keepColumn_65 (lv_at hl 0 rfl) ?_
  have I := I.sub (ws' := []) [] rfl rfl rfl
  have I := I.subT (t' := []) [] rfl
  refine W.widen (k := 0) (n := 0) (Nat.le_of_ble_eq_true rfl) (Nat.le_of_ble_eq_true rfl) ?_
  exact z_iret hx hb hr hlocks I ⟨rfl, rfl⟩ dX5_keepColumn_67
set_option maxHeartbeats 4000000 in
set_option maxRecDepth 100000 in
theorem z_RX5_canMultiply0 (l : Launch) (dC : Nat → ClassId) (dI : Nat → Nat → Nat) (xq2 : Nat) (xq9 : Nat) (xq10 : Nat) (xq11 : Nat) (xq12 : Nat) (xq13 : Nat) (xq14 : Nat) (xq15 : Nat) (xq16 : Nat) (xq17 : Nat) (xq18 : Nat) (xq19 : Nat) (p1 : Int32) (sz : Nat) : Met l yX5_canMultiply (z_w yX5_canMultiply cX5_canMultiply 3 (some .boolean)) ({ frames := 10, cells := 0, slots := 0, locals := 200 }) (z_P dC dI [(xq2, .inr (5, [.ref xq9, .ref xq10, .ref xq11, .ref xq12, .ref xq13, .ref xq14, .ref xq15, .ref xq16, .ref xq17, .ref xq18, .ref xq19, .int 0, .int 0]))] [] sz [.ref xq2, .int 0, .int p1]) (va_Qi (fun (r : Int32) (u : va_W × List (ClassId × FieldType)) => u = ([(xq2, .inr (5, [.ref xq9, .ref xq10, .ref xq11, .ref xq12, .ref xq13, .ref xq14, .ref xq15, .ref xq16, .ref xq17, .ref xq18, .ref xq19, .int 0, .int 0]))], []) ∧ r = z_cm p1) (z_B dC dI (va_A [(xq2, .inr (5, [.ref xq9, .ref xq10, .ref xq11, .ref xq12, .ref xq13, .ref xq14, .ref xq15, .ref xq16, .ref xq17, .ref xq18, .ref xq19, .int 0, .int 0]))] sz)) (va_A [(xq2, .inr (5, [.ref xq9, .ref xq10, .ref xq11, .ref xq12, .ref xq13, .ref xq14, .ref xq15, .ref xq16, .ref xq17, .ref xq18, .ref xq19, .int 0, .int 0]))] sz)) 0 0 (va_A [(xq2, .inr (5, [.ref xq9, .ref xq10, .ref xq11, .ref xq12, .ref xq13, .ref xq14, .ref xq15, .ref xq16, .ref xq17, .ref xq18, .ref xq19, .int 0, .int 0]))] sz) := by
  refine Met.ofW (cc := cX5_canMultiply) (maxL := 3) (ret := (some .boolean)) (by decide) rfl ?_
  intro p e s m args below meth c s₁ B hml hv
  obtain ⟨rfl, rfl, I⟩ := z_open hv
  have hx := B.exec
  have hb := B.bytes
  have hr := B.returns
  have hts := atoms_spec (ws := z_w yX5_canMultiply cX5_canMultiply 3 (some .boolean)) B.pre
  have hg : z_G _ s := z_G.of hts
  have hown : s.vm.findClass RX5 = some m.cls := findClass_of_methodNamed B.named
  have hlocks := B.notSynchronized
  generalize va_A [(xq2, .inr (5, [.ref xq9, .ref xq10, .ref xq11, .ref xq12, .ref xq13, .ref xq14, .ref xq15, .ref xq16, .ref xq17, .ref xq18, .ref xq19, .int 0, .int 0]))] s.heap.size = A at I ⊢
  have hl := lv_entry ([.ref xq2, .int 0, .int p1]) (n := 3) (Nat.le_of_ble_eq_true rfl)
  rw [lg_entry_eq]
  generalize (lg_sl ([.ref xq2, .int 0, .int p1]) ++ List.replicate (3 - (lg_sl ([.ref xq2, .int 0, .int p1])).length) Slot.unset).toArray = ls at hl ⊢
  have hl : lv_has ls 3 [(0, .ref xq2), (1, .int 0), (2, .int p1)] := hl
  refine lv_iload_n hx hb dX5_canMultiply_0 rfl (lv_at hl 2 rfl) ?_
  refine lv_bipush (v := (-5)) hx hb dX5_canMultiply_1 (by decide) ?_
  refine lv_iconst (v := 5) hx hb dX5_canMultiply_3 (by decide) ?_
  refine z_calli (wr := [(xq2, .inr (5, [.ref xq9, .ref xq10, .ref xq11, .ref xq12, .ref xq13, .ref xq14, .ref xq15, .ref xq16, .ref xq17, .ref xq18, .ref xq19, .int 0, .int 0]))]) (va_runSN (As := [.int p1, .int (-5), .int 5]) (rest := []) ⟨hx, hb, hml, hown, hts⟩ (z_RX8_isWithin l dC dI p1 (-5) 5  s.heap.size) ⟨va_cnB 3 hts (z_goodW z_T.w mw391) rfl rfl rfl (z_nest RX5 65 yX8_isWithin "BranchQuarry" I 6 rfl) (hg _ mw1 rfl) (by decide +kernel) ⟨Nat.le_of_ble_eq_true rfl, Nat.le_of_ble_eq_true rfl⟩, (hg _ mw390 rfl), trivial⟩ (z_pre I [] [] rfl rfl rfl rfl) rfl rfl hl.1 rfl (lv_room (Nat.le_of_ble_eq_true rfl)) dX5_canMultiply_4 ⟨Nat.le_of_ble_eq_true rfl, Nat.le_of_ble_eq_true rfl⟩) I [] [0] rfl rfl (by decide) (by decide) (fun r1 u1 H locs hw1 I => ?_)
  obtain ⟨hu1, hp1⟩ := hw1
  subst hu1
  have I : z_I A dC dI [(xq2, .inr (5, [.ref xq9, .ref xq10, .ref xq11, .ref xq12, .ref xq13, .ref xq14, .ref xq15, .ref xq16, .ref xq17, .ref xq18, .ref xq19, .int 0, .int 0]))] [] s H _ := I
  refine lv_if_eq (tgt := 26) hx hb dX5_canMultiply_7 (by decide) (fun c2 => ?_) (fun c2 => ?_)
  · skip
    refine lv_iconst (v := 0) hx hb dX5_canMultiply_26 (by decide) ?_
    have I := I.subT (t' := []) [] rfl
    refine W.widen (k := 0) (n := 0) (Nat.le_of_ble_eq_true rfl) (Nat.le_of_ble_eq_true rfl) ?_
    exact z_zret hx hb hr hlocks rfl I ⟨rfl, (by simp [z_cm, z_wr, (by decide : ¬ z_bt (-5) 0 5 = 0), ← hp1, c2])⟩ dX5_canMultiply_27
  · skip
    refine lv_iload_n hx hb dX5_canMultiply_10 rfl (lv_at hl 2 rfl) ?_
    refine lv_if_eq (tgt := 22) hx hb dX5_canMultiply_11 (by decide) (fun c3 => ?_) (fun c3 => ?_)
    · skip
      refine lv_iconst (v := 1) hx hb dX5_canMultiply_22 (by decide) ?_
      refine lv_goto (tgt := 27) hx hb dX5_canMultiply_23 (by decide) ?_
      have I := I.subT (t' := []) [] rfl
      refine W.widen (k := 0) (n := 0) (Nat.le_of_ble_eq_true rfl) (Nat.le_of_ble_eq_true rfl) ?_
      exact z_zret hx hb hr hlocks rfl I ⟨rfl, (by simp [z_cm, z_wr, (by decide : ¬ z_bt (-5) 0 5 = 0), ← hp1, c2, c3])⟩ dX5_canMultiply_27
    · skip
      refine lv_iload_n hx hb dX5_canMultiply_14 rfl (lv_at hl 1 rfl) ?_
      refine lv_aload_n hx hb dX5_canMultiply_15 rfl (lv_at hl 0 rfl) ?_
      refine z_get (C := RX5) (T := TX5) (N := 13) (ci := 5) (v := .int 0) hx hb hg hown I iw_5 0 rfl rfl 11 (by decide) mw170 rfl dX5_canMultiply_16 ?_
      refine lv_icmp_ge (tgt := 26) hx hb dX5_canMultiply_19 (by decide) (fun _ => ?_) (fun c9 => absurd c9 (by decide))
      refine lv_iconst (v := 0) hx hb dX5_canMultiply_26 (by decide) ?_
      have I := I.subT (t' := []) [] rfl
      refine W.widen (k := 0) (n := 0) (Nat.le_of_ble_eq_true rfl) (Nat.le_of_ble_eq_true rfl) ?_
      exact z_zret hx hb hr hlocks rfl I ⟨rfl, (by simp [z_cm, z_wr, (by decide : ¬ z_bt (-5) 0 5 = 0), ← hp1, c2, c3])⟩ dX5_canMultiply_27
set_option maxHeartbeats 4000000 in
set_option maxRecDepth 100000 in
theorem z_RX5_canMultiply1 (l : Launch) (dC : Nat → ClassId) (dI : Nat → Nat → Nat) (xq2 : Nat) (xq9 : Nat) (xq10 : Nat) (xq11 : Nat) (xq12 : Nat) (xq13 : Nat) (xq14 : Nat) (xq15 : Nat) (xq16 : Nat) (xq17 : Nat) (xq18 : Nat) (xq19 : Nat) (p1 : Int32) (sz : Nat) : Met l yX5_canMultiply (z_w yX5_canMultiply cX5_canMultiply 3 (some .boolean)) ({ frames := 10, cells := 0, slots := 0, locals := 200 }) (z_P dC dI [(xq2, .inr (5, [.ref xq9, .ref xq10, .ref xq11, .ref xq12, .ref xq13, .ref xq14, .ref xq15, .ref xq16, .ref xq17, .ref xq18, .ref xq19, .int 0, .int 0]))] [] sz [.ref xq2, .int 1, .int p1]) (va_Qi (fun (r : Int32) (u : va_W × List (ClassId × FieldType)) => u = ([(xq2, .inr (5, [.ref xq9, .ref xq10, .ref xq11, .ref xq12, .ref xq13, .ref xq14, .ref xq15, .ref xq16, .ref xq17, .ref xq18, .ref xq19, .int 0, .int 0]))], []) ∧ r = z_cm p1) (z_B dC dI (va_A [(xq2, .inr (5, [.ref xq9, .ref xq10, .ref xq11, .ref xq12, .ref xq13, .ref xq14, .ref xq15, .ref xq16, .ref xq17, .ref xq18, .ref xq19, .int 0, .int 0]))] sz)) (va_A [(xq2, .inr (5, [.ref xq9, .ref xq10, .ref xq11, .ref xq12, .ref xq13, .ref xq14, .ref xq15, .ref xq16, .ref xq17, .ref xq18, .ref xq19, .int 0, .int 0]))] sz)) 0 0 (va_A [(xq2, .inr (5, [.ref xq9, .ref xq10, .ref xq11, .ref xq12, .ref xq13, .ref xq14, .ref xq15, .ref xq16, .ref xq17, .ref xq18, .ref xq19, .int 0, .int 0]))] sz) := by
  refine Met.ofW (cc := cX5_canMultiply) (maxL := 3) (ret := (some .boolean)) (by decide) rfl ?_
  intro p e s m args below meth c s₁ B hml hv
  obtain ⟨rfl, rfl, I⟩ := z_open hv
  have hx := B.exec
  have hb := B.bytes
  have hr := B.returns
  have hts := atoms_spec (ws := z_w yX5_canMultiply cX5_canMultiply 3 (some .boolean)) B.pre
  have hg : z_G _ s := z_G.of hts
  have hown : s.vm.findClass RX5 = some m.cls := findClass_of_methodNamed B.named
  have hlocks := B.notSynchronized
  generalize va_A [(xq2, .inr (5, [.ref xq9, .ref xq10, .ref xq11, .ref xq12, .ref xq13, .ref xq14, .ref xq15, .ref xq16, .ref xq17, .ref xq18, .ref xq19, .int 0, .int 0]))] s.heap.size = A at I ⊢
  have hl := lv_entry ([.ref xq2, .int 1, .int p1]) (n := 3) (Nat.le_of_ble_eq_true rfl)
  rw [lg_entry_eq]
  generalize (lg_sl ([.ref xq2, .int 1, .int p1]) ++ List.replicate (3 - (lg_sl ([.ref xq2, .int 1, .int p1])).length) Slot.unset).toArray = ls at hl ⊢
  have hl : lv_has ls 3 [(0, .ref xq2), (1, .int 1), (2, .int p1)] := hl
  refine lv_iload_n hx hb dX5_canMultiply_0 rfl (lv_at hl 2 rfl) ?_
  refine lv_bipush (v := (-5)) hx hb dX5_canMultiply_1 (by decide) ?_
  refine lv_iconst (v := 5) hx hb dX5_canMultiply_3 (by decide) ?_
  refine z_calli (wr := [(xq2, .inr (5, [.ref xq9, .ref xq10, .ref xq11, .ref xq12, .ref xq13, .ref xq14, .ref xq15, .ref xq16, .ref xq17, .ref xq18, .ref xq19, .int 0, .int 0]))]) (va_runSN (As := [.int p1, .int (-5), .int 5]) (rest := []) ⟨hx, hb, hml, hown, hts⟩ (z_RX8_isWithin l dC dI p1 (-5) 5  s.heap.size) ⟨va_cnB 3 hts (z_goodW z_T.w mw391) rfl rfl rfl (z_nest RX5 65 yX8_isWithin "BranchQuarry" I 6 rfl) (hg _ mw1 rfl) (by decide +kernel) ⟨Nat.le_of_ble_eq_true rfl, Nat.le_of_ble_eq_true rfl⟩, (hg _ mw390 rfl), trivial⟩ (z_pre I [] [] rfl rfl rfl rfl) rfl rfl hl.1 rfl (lv_room (Nat.le_of_ble_eq_true rfl)) dX5_canMultiply_4 ⟨Nat.le_of_ble_eq_true rfl, Nat.le_of_ble_eq_true rfl⟩) I [] [0] rfl rfl (by decide) (by decide) (fun r1 u1 H locs hw1 I => ?_)
  obtain ⟨hu1, hp1⟩ := hw1
  subst hu1
  have I : z_I A dC dI [(xq2, .inr (5, [.ref xq9, .ref xq10, .ref xq11, .ref xq12, .ref xq13, .ref xq14, .ref xq15, .ref xq16, .ref xq17, .ref xq18, .ref xq19, .int 0, .int 0]))] [] s H _ := I
  refine lv_if_eq (tgt := 26) hx hb dX5_canMultiply_7 (by decide) (fun c2 => ?_) (fun c2 => ?_)
  · skip
    refine lv_iconst (v := 0) hx hb dX5_canMultiply_26 (by decide) ?_
    have I := I.subT (t' := []) [] rfl
    refine W.widen (k := 0) (n := 0) (Nat.le_of_ble_eq_true rfl) (Nat.le_of_ble_eq_true rfl) ?_
    exact z_zret hx hb hr hlocks rfl I ⟨rfl, (by simp [z_cm, z_wr, (by decide : ¬ z_bt (-5) 0 5 = 0), ← hp1, c2])⟩ dX5_canMultiply_27
  · skip
    refine lv_iload_n hx hb dX5_canMultiply_10 rfl (lv_at hl 2 rfl) ?_
    refine lv_if_eq (tgt := 22) hx hb dX5_canMultiply_11 (by decide) (fun c3 => ?_) (fun c3 => ?_)
    · skip
      refine lv_iconst (v := 1) hx hb dX5_canMultiply_22 (by decide) ?_
      refine lv_goto (tgt := 27) hx hb dX5_canMultiply_23 (by decide) ?_
      have I := I.subT (t' := []) [] rfl
      refine W.widen (k := 0) (n := 0) (Nat.le_of_ble_eq_true rfl) (Nat.le_of_ble_eq_true rfl) ?_
      exact z_zret hx hb hr hlocks rfl I ⟨rfl, (by simp [z_cm, z_wr, (by decide : ¬ z_bt (-5) 0 5 = 0), ← hp1, c2, c3])⟩ dX5_canMultiply_27
    · skip
      refine lv_iload_n hx hb dX5_canMultiply_14 rfl (lv_at hl 1 rfl) ?_
      refine lv_aload_n hx hb dX5_canMultiply_15 rfl (lv_at hl 0 rfl) ?_
      refine z_get (C := RX5) (T := TX5) (N := 13) (ci := 5) (v := .int 0) hx hb hg hown I iw_5 0 rfl rfl 11 (by decide) mw170 rfl dX5_canMultiply_16 ?_
      refine lv_icmp_ge (tgt := 26) hx hb dX5_canMultiply_19 (by decide) (fun _ => ?_) (fun c9 => absurd c9 (by decide))
      refine lv_iconst (v := 0) hx hb dX5_canMultiply_26 (by decide) ?_
      have I := I.subT (t' := []) [] rfl
      refine W.widen (k := 0) (n := 0) (Nat.le_of_ble_eq_true rfl) (Nat.le_of_ble_eq_true rfl) ?_
      exact z_zret hx hb hr hlocks rfl I ⟨rfl, (by simp [z_cm, z_wr, (by decide : ¬ z_bt (-5) 0 5 = 0), ← hp1, c2, c3])⟩ dX5_canMultiply_27
set_option maxHeartbeats 4000000 in
set_option maxRecDepth 100000 in
theorem z_RX5_canMultiply2 (l : Launch) (dC : Nat → ClassId) (dI : Nat → Nat → Nat) (xq2 : Nat) (xq9 : Nat) (xq10 : Nat) (xq11 : Nat) (xq12 : Nat) (xq13 : Nat) (xq14 : Nat) (xq15 : Nat) (xq16 : Nat) (xq17 : Nat) (xq18 : Nat) (xq19 : Nat) (p1 : Int32) (sz : Nat) : Met l yX5_canMultiply (z_w yX5_canMultiply cX5_canMultiply 3 (some .boolean)) ({ frames := 10, cells := 0, slots := 0, locals := 200 }) (z_P dC dI [(xq2, .inr (5, [.ref xq9, .ref xq10, .ref xq11, .ref xq12, .ref xq13, .ref xq14, .ref xq15, .ref xq16, .ref xq17, .ref xq18, .ref xq19, .int 0, .int 0]))] [] sz [.ref xq2, .int 2, .int p1]) (va_Qi (fun (r : Int32) (u : va_W × List (ClassId × FieldType)) => u = ([(xq2, .inr (5, [.ref xq9, .ref xq10, .ref xq11, .ref xq12, .ref xq13, .ref xq14, .ref xq15, .ref xq16, .ref xq17, .ref xq18, .ref xq19, .int 0, .int 0]))], []) ∧ r = z_cm p1) (z_B dC dI (va_A [(xq2, .inr (5, [.ref xq9, .ref xq10, .ref xq11, .ref xq12, .ref xq13, .ref xq14, .ref xq15, .ref xq16, .ref xq17, .ref xq18, .ref xq19, .int 0, .int 0]))] sz)) (va_A [(xq2, .inr (5, [.ref xq9, .ref xq10, .ref xq11, .ref xq12, .ref xq13, .ref xq14, .ref xq15, .ref xq16, .ref xq17, .ref xq18, .ref xq19, .int 0, .int 0]))] sz)) 0 0 (va_A [(xq2, .inr (5, [.ref xq9, .ref xq10, .ref xq11, .ref xq12, .ref xq13, .ref xq14, .ref xq15, .ref xq16, .ref xq17, .ref xq18, .ref xq19, .int 0, .int 0]))] sz) := by
  refine Met.ofW (cc := cX5_canMultiply) (maxL := 3) (ret := (some .boolean)) (by decide) rfl ?_
  intro p e s m args below meth c s₁ B hml hv
  obtain ⟨rfl, rfl, I⟩ := z_open hv
  have hx := B.exec
  have hb := B.bytes
  have hr := B.returns
  have hts := atoms_spec (ws := z_w yX5_canMultiply cX5_canMultiply 3 (some .boolean)) B.pre
  have hg : z_G _ s := z_G.of hts
  have hown : s.vm.findClass RX5 = some m.cls := findClass_of_methodNamed B.named
  have hlocks := B.notSynchronized
  generalize va_A [(xq2, .inr (5, [.ref xq9, .ref xq10, .ref xq11, .ref xq12, .ref xq13, .ref xq14, .ref xq15, .ref xq16, .ref xq17, .ref xq18, .ref xq19, .int 0, .int 0]))] s.heap.size = A at I ⊢
  have hl := lv_entry ([.ref xq2, .int 2, .int p1]) (n := 3) (Nat.le_of_ble_eq_true rfl)
  rw [lg_entry_eq]
  generalize (lg_sl ([.ref xq2, .int 2, .int p1]) ++ List.replicate (3 - (lg_sl ([.ref xq2, .int 2, .int p1])).length) Slot.unset).toArray = ls at hl ⊢
  have hl : lv_has ls 3 [(0, .ref xq2), (1, .int 2), (2, .int p1)] := hl
  refine lv_iload_n hx hb dX5_canMultiply_0 rfl (lv_at hl 2 rfl) ?_
  refine lv_bipush (v := (-5)) hx hb dX5_canMultiply_1 (by decide) ?_
  refine lv_iconst (v := 5) hx hb dX5_canMultiply_3 (by decide) ?_
  refine z_calli (wr := [(xq2, .inr (5, [.ref xq9, .ref xq10, .ref xq11, .ref xq12, .ref xq13, .ref xq14, .ref xq15, .ref xq16, .ref xq17, .ref xq18, .ref xq19, .int 0, .int 0]))]) (va_runSN (As := [.int p1, .int (-5), .int 5]) (rest := []) ⟨hx, hb, hml, hown, hts⟩ (z_RX8_isWithin l dC dI p1 (-5) 5  s.heap.size) ⟨va_cnB 3 hts (z_goodW z_T.w mw391) rfl rfl rfl (z_nest RX5 65 yX8_isWithin "BranchQuarry" I 6 rfl) (hg _ mw1 rfl) (by decide +kernel) ⟨Nat.le_of_ble_eq_true rfl, Nat.le_of_ble_eq_true rfl⟩, (hg _ mw390 rfl), trivial⟩ (z_pre I [] [] rfl rfl rfl rfl) rfl rfl hl.1 rfl (lv_room (Nat.le_of_ble_eq_true rfl)) dX5_canMultiply_4 ⟨Nat.le_of_ble_eq_true rfl, Nat.le_of_ble_eq_true rfl⟩) I [] [0] rfl rfl (by decide) (by decide) (fun r1 u1 H locs hw1 I => ?_)
  obtain ⟨hu1, hp1⟩ := hw1
  subst hu1
  have I : z_I A dC dI [(xq2, .inr (5, [.ref xq9, .ref xq10, .ref xq11, .ref xq12, .ref xq13, .ref xq14, .ref xq15, .ref xq16, .ref xq17, .ref xq18, .ref xq19, .int 0, .int 0]))] [] s H _ := I
  refine lv_if_eq (tgt := 26) hx hb dX5_canMultiply_7 (by decide) (fun c2 => ?_) (fun c2 => ?_)
  · skip
    refine lv_iconst (v := 0) hx hb dX5_canMultiply_26 (by decide) ?_
    have I := I.subT (t' := []) [] rfl
    refine W.widen (k := 0) (n := 0) (Nat.le_of_ble_eq_true rfl) (Nat.le_of_ble_eq_true rfl) ?_
    exact z_zret hx hb hr hlocks rfl I ⟨rfl, (by simp [z_cm, z_wr, (by decide : ¬ z_bt (-5) 0 5 = 0), ← hp1, c2])⟩ dX5_canMultiply_27
  · skip
    refine lv_iload_n hx hb dX5_canMultiply_10 rfl (lv_at hl 2 rfl) ?_
    refine lv_if_eq (tgt := 22) hx hb dX5_canMultiply_11 (by decide) (fun c3 => ?_) (fun c3 => ?_)
    · skip
      refine lv_iconst (v := 1) hx hb dX5_canMultiply_22 (by decide) ?_
      refine lv_goto (tgt := 27) hx hb dX5_canMultiply_23 (by decide) ?_
      have I := I.subT (t' := []) [] rfl
      refine W.widen (k := 0) (n := 0) (Nat.le_of_ble_eq_true rfl) (Nat.le_of_ble_eq_true rfl) ?_
      exact z_zret hx hb hr hlocks rfl I ⟨rfl, (by simp [z_cm, z_wr, (by decide : ¬ z_bt (-5) 0 5 = 0), ← hp1, c2, c3])⟩ dX5_canMultiply_27
    · skip
      refine lv_iload_n hx hb dX5_canMultiply_14 rfl (lv_at hl 1 rfl) ?_
      refine lv_aload_n hx hb dX5_canMultiply_15 rfl (lv_at hl 0 rfl) ?_
      refine z_get (C := RX5) (T := TX5) (N := 13) (ci := 5) (v := .int 0) hx hb hg hown I iw_5 0 rfl rfl 11 (by decide) mw170 rfl dX5_canMultiply_16 ?_
      refine lv_icmp_ge (tgt := 26) hx hb dX5_canMultiply_19 (by decide) (fun _ => ?_) (fun c9 => absurd c9 (by decide))
      refine lv_iconst (v := 0) hx hb dX5_canMultiply_26 (by decide) ?_
      have I := I.subT (t' := []) [] rfl
      refine W.widen (k := 0) (n := 0) (Nat.le_of_ble_eq_true rfl) (Nat.le_of_ble_eq_true rfl) ?_
      exact z_zret hx hb hr hlocks rfl I ⟨rfl, (by simp [z_cm, z_wr, (by decide : ¬ z_bt (-5) 0 5 = 0), ← hp1, c2, c3])⟩ dX5_canMultiply_27
set_option maxHeartbeats 4000000 in
set_option maxRecDepth 100000 in
theorem z_RX5_canMultiply3 (l : Launch) (dC : Nat → ClassId) (dI : Nat → Nat → Nat) (xq2 : Nat) (xq9 : Nat) (xq10 : Nat) (xq11 : Nat) (xq12 : Nat) (xq13 : Nat) (xq14 : Nat) (xq15 : Nat) (xq16 : Nat) (xq17 : Nat) (xq18 : Nat) (xq19 : Nat) (p1 : Int32) (sz : Nat) : Met l yX5_canMultiply (z_w yX5_canMultiply cX5_canMultiply 3 (some .boolean)) ({ frames := 10, cells := 0, slots := 0, locals := 200 }) (z_P dC dI [(xq2, .inr (5, [.ref xq9, .ref xq10, .ref xq11, .ref xq12, .ref xq13, .ref xq14, .ref xq15, .ref xq16, .ref xq17, .ref xq18, .ref xq19, .int 0, .int 0]))] [] sz [.ref xq2, .int 3, .int p1]) (va_Qi (fun (r : Int32) (u : va_W × List (ClassId × FieldType)) => u = ([(xq2, .inr (5, [.ref xq9, .ref xq10, .ref xq11, .ref xq12, .ref xq13, .ref xq14, .ref xq15, .ref xq16, .ref xq17, .ref xq18, .ref xq19, .int 0, .int 0]))], []) ∧ r = z_cm p1) (z_B dC dI (va_A [(xq2, .inr (5, [.ref xq9, .ref xq10, .ref xq11, .ref xq12, .ref xq13, .ref xq14, .ref xq15, .ref xq16, .ref xq17, .ref xq18, .ref xq19, .int 0, .int 0]))] sz)) (va_A [(xq2, .inr (5, [.ref xq9, .ref xq10, .ref xq11, .ref xq12, .ref xq13, .ref xq14, .ref xq15, .ref xq16, .ref xq17, .ref xq18, .ref xq19, .int 0, .int 0]))] sz)) 0 0 (va_A [(xq2, .inr (5, [.ref xq9, .ref xq10, .ref xq11, .ref xq12, .ref xq13, .ref xq14, .ref xq15, .ref xq16, .ref xq17, .ref xq18, .ref xq19, .int 0, .int 0]))] sz) := by
  refine Met.ofW (cc := cX5_canMultiply) (maxL := 3) (ret := (some .boolean)) (by decide) rfl ?_
  intro p e s m args below meth c s₁ B hml hv
  obtain ⟨rfl, rfl, I⟩ := z_open hv
  have hx := B.exec
  have hb := B.bytes
  have hr := B.returns
  have hts := atoms_spec (ws := z_w yX5_canMultiply cX5_canMultiply 3 (some .boolean)) B.pre
  have hg : z_G _ s := z_G.of hts
  have hown : s.vm.findClass RX5 = some m.cls := findClass_of_methodNamed B.named
  have hlocks := B.notSynchronized
  generalize va_A [(xq2, .inr (5, [.ref xq9, .ref xq10, .ref xq11, .ref xq12, .ref xq13, .ref xq14, .ref xq15, .ref xq16, .ref xq17, .ref xq18, .ref xq19, .int 0, .int 0]))] s.heap.size = A at I ⊢
  have hl := lv_entry ([.ref xq2, .int 3, .int p1]) (n := 3) (Nat.le_of_ble_eq_true rfl)
  rw [lg_entry_eq]
  generalize (lg_sl ([.ref xq2, .int 3, .int p1]) ++ List.replicate (3 - (lg_sl ([.ref xq2, .int 3, .int p1])).length) Slot.unset).toArray = ls at hl ⊢
  have hl : lv_has ls 3 [(0, .ref xq2), (1, .int 3), (2, .int p1)] := hl
  refine lv_iload_n hx hb dX5_canMultiply_0 rfl (lv_at hl 2 rfl) ?_
  refine lv_bipush (v := (-5)) hx hb dX5_canMultiply_1 (by decide) ?_
  refine lv_iconst (v := 5) hx hb dX5_canMultiply_3 (by decide) ?_
  refine z_calli (wr := [(xq2, .inr (5, [.ref xq9, .ref xq10, .ref xq11, .ref xq12, .ref xq13, .ref xq14, .ref xq15, .ref xq16, .ref xq17, .ref xq18, .ref xq19, .int 0, .int 0]))]) (va_runSN (As := [.int p1, .int (-5), .int 5]) (rest := []) ⟨hx, hb, hml, hown, hts⟩ (z_RX8_isWithin l dC dI p1 (-5) 5  s.heap.size) ⟨va_cnB 3 hts (z_goodW z_T.w mw391) rfl rfl rfl (z_nest RX5 65 yX8_isWithin "BranchQuarry" I 6 rfl) (hg _ mw1 rfl) (by decide +kernel) ⟨Nat.le_of_ble_eq_true rfl, Nat.le_of_ble_eq_true rfl⟩, (hg _ mw390 rfl), trivial⟩ (z_pre I [] [] rfl rfl rfl rfl) rfl rfl hl.1 rfl (lv_room (Nat.le_of_ble_eq_true rfl)) dX5_canMultiply_4 ⟨Nat.le_of_ble_eq_true rfl, Nat.le_of_ble_eq_true rfl⟩) I [] [0] rfl rfl (by decide) (by decide) (fun r1 u1 H locs hw1 I => ?_)
  obtain ⟨hu1, hp1⟩ := hw1
  subst hu1
  have I : z_I A dC dI [(xq2, .inr (5, [.ref xq9, .ref xq10, .ref xq11, .ref xq12, .ref xq13, .ref xq14, .ref xq15, .ref xq16, .ref xq17, .ref xq18, .ref xq19, .int 0, .int 0]))] [] s H _ := I
  refine lv_if_eq (tgt := 26) hx hb dX5_canMultiply_7 (by decide) (fun c2 => ?_) (fun c2 => ?_)
  · skip
    refine lv_iconst (v := 0) hx hb dX5_canMultiply_26 (by decide) ?_
    have I := I.subT (t' := []) [] rfl
    refine W.widen (k := 0) (n := 0) (Nat.le_of_ble_eq_true rfl) (Nat.le_of_ble_eq_true rfl) ?_
    exact z_zret hx hb hr hlocks rfl I ⟨rfl, (by simp [z_cm, z_wr, (by decide : ¬ z_bt (-5) 0 5 = 0), ← hp1, c2])⟩ dX5_canMultiply_27
  · skip
    refine lv_iload_n hx hb dX5_canMultiply_10 rfl (lv_at hl 2 rfl) ?_
    refine lv_if_eq (tgt := 22) hx hb dX5_canMultiply_11 (by decide) (fun c3 => ?_) (fun c3 => ?_)
    · skip
      refine lv_iconst (v := 1) hx hb dX5_canMultiply_22 (by decide) ?_
      refine lv_goto (tgt := 27) hx hb dX5_canMultiply_23 (by decide) ?_
      have I := I.subT (t' := []) [] rfl
      refine W.widen (k := 0) (n := 0) (Nat.le_of_ble_eq_true rfl) (Nat.le_of_ble_eq_true rfl) ?_
      exact z_zret hx hb hr hlocks rfl I ⟨rfl, (by simp [z_cm, z_wr, (by decide : ¬ z_bt (-5) 0 5 = 0), ← hp1, c2, c3])⟩ dX5_canMultiply_27
    · skip
      refine lv_iload_n hx hb dX5_canMultiply_14 rfl (lv_at hl 1 rfl) ?_
      refine lv_aload_n hx hb dX5_canMultiply_15 rfl (lv_at hl 0 rfl) ?_
      refine z_get (C := RX5) (T := TX5) (N := 13) (ci := 5) (v := .int 0) hx hb hg hown I iw_5 0 rfl rfl 11 (by decide) mw170 rfl dX5_canMultiply_16 ?_
      refine lv_icmp_ge (tgt := 26) hx hb dX5_canMultiply_19 (by decide) (fun _ => ?_) (fun c9 => absurd c9 (by decide))
      refine lv_iconst (v := 0) hx hb dX5_canMultiply_26 (by decide) ?_
      have I := I.subT (t' := []) [] rfl
      refine W.widen (k := 0) (n := 0) (Nat.le_of_ble_eq_true rfl) (Nat.le_of_ble_eq_true rfl) ?_
      exact z_zret hx hb hr hlocks rfl I ⟨rfl, (by simp [z_cm, z_wr, (by decide : ¬ z_bt (-5) 0 5 = 0), ← hp1, c2, c3])⟩ dX5_canMultiply_27
set_option maxHeartbeats 4000000 in
set_option maxRecDepth 100000 in
theorem z_RX5_keepNarrowed (l : Launch) (dC : Nat → ClassId) (dI : Nat → Nat → Nat) (xq2 : Nat) (xq9 : Nat) (xq10 : Nat) (xq11 : Nat) (xq12 : Nat) (xq13 : Nat) (xq14 : Nat) (xq15 : Nat) (xq16 : Nat) (xq17 : Nat) (xq18 : Nat) (xq19 : Nat) (sz : Nat) : Met l yX5_keepNarrowed (z_w yX5_keepNarrowed cX5_keepNarrowed 3 (some .int)) ({ frames := 8, cells := 0, slots := 0, locals := 140 }) (z_P dC dI [(xq2, .inr (5, [.ref xq9, .ref xq10, .ref xq11, .ref xq12, .ref xq13, .ref xq14, .ref xq15, .ref xq16, .ref xq17, .ref xq18, .ref xq19, .int 0, .int 0]))] [] sz [.ref xq2]) (va_Qi (fun (r : Int32) (u : va_W × List (ClassId × FieldType)) => u = ([(xq2, .inr (5, [.ref xq9, .ref xq10, .ref xq11, .ref xq12, .ref xq13, .ref xq14, .ref xq15, .ref xq16, .ref xq17, .ref xq18, .ref xq19, .int 0, .int 0]))], []) ∧ r = 0) (z_B dC dI (va_A [(xq2, .inr (5, [.ref xq9, .ref xq10, .ref xq11, .ref xq12, .ref xq13, .ref xq14, .ref xq15, .ref xq16, .ref xq17, .ref xq18, .ref xq19, .int 0, .int 0]))] sz)) (va_A [(xq2, .inr (5, [.ref xq9, .ref xq10, .ref xq11, .ref xq12, .ref xq13, .ref xq14, .ref xq15, .ref xq16, .ref xq17, .ref xq18, .ref xq19, .int 0, .int 0]))] sz)) 0 0 (va_A [(xq2, .inr (5, [.ref xq9, .ref xq10, .ref xq11, .ref xq12, .ref xq13, .ref xq14, .ref xq15, .ref xq16, .ref xq17, .ref xq18, .ref xq19, .int 0, .int 0]))] sz) := by
  refine Met.ofW (cc := cX5_keepNarrowed) (maxL := 3) (ret := (some .int)) (by decide) rfl ?_
  intro p e s m args below meth c s₁ B hml hv
  obtain ⟨rfl, rfl, I⟩ := z_open hv
  have hx := B.exec
  have hb := B.bytes
  have hr := B.returns
  have hts := atoms_spec (ws := z_w yX5_keepNarrowed cX5_keepNarrowed 3 (some .int)) B.pre
  have hg : z_G _ s := z_G.of hts
  have hown : s.vm.findClass RX5 = some m.cls := findClass_of_methodNamed B.named
  have hlocks := B.notSynchronized
  generalize va_A [(xq2, .inr (5, [.ref xq9, .ref xq10, .ref xq11, .ref xq12, .ref xq13, .ref xq14, .ref xq15, .ref xq16, .ref xq17, .ref xq18, .ref xq19, .int 0, .int 0]))] s.heap.size = A at I ⊢
  have hl := lv_entry ([.ref xq2]) (n := 3) (Nat.le_of_ble_eq_true rfl)
  rw [lg_entry_eq]
  generalize (lg_sl ([.ref xq2]) ++ List.replicate (3 - (lg_sl ([.ref xq2])).length) Slot.unset).toArray = ls at hl ⊢
  have hl : lv_has ls 3 [(0, .ref xq2)] := hl
  refine lv_iconst (v := 0) hx hb dX5_keepNarrowed_0 (by decide) ?_
  refine lv_istore_n (lv' := [(1, .int 0), (0, .ref xq2)]) hx hb dX5_keepNarrowed_1 rfl hl (by decide) rfl (fun ls hl => ?_)
  refine lv_iconst (v := 0) hx hb dX5_keepNarrowed_2 (by decide) ?_
  refine lv_istore_n (lv' := [(2, .int 0), (1, .int 0), (0, .ref xq2)]) hx hb dX5_keepNarrowed_3 rfl hl (by decide) rfl (fun ls hl => ?_)
  refine lv_iload_n hx hb dX5_keepNarrowed_4 rfl (lv_at hl 0 rfl) ?_
  refine lv_aload_n hx hb dX5_keepNarrowed_5 rfl (lv_at hl 2 rfl) ?_
  refine z_get (C := RX5) (T := TX5) (N := 13) (ci := 5) (v := .int 0) hx hb hg hown I iw_5 0 rfl rfl 11 (by decide) mw170 rfl dX5_keepNarrowed_6 ?_
  refine lv_icmp_ge (tgt := 88) hx hb dX5_keepNarrowed_9 (by decide) (fun _ => ?_) (fun c9 => absurd c9 (by decide))
  refine lv_iload_n hx hb dX5_keepNarrowed_88 rfl (lv_at hl 1 rfl) ?_
  have I := I.subT (t' := []) [] rfl
  refine W.widen (k := 0) (n := 0) (Nat.le_of_ble_eq_true rfl) (Nat.le_of_ble_eq_true rfl) ?_
  exact z_iret hx hb hr hlocks I ⟨rfl, rfl⟩ dX5_keepNarrowed_89
set_option maxHeartbeats 4000000 in
set_option maxRecDepth 100000 in
theorem z_RX5_narrowBounds (l : Launch) (dC : Nat → ClassId) (dI : Nat → Nat → Nat) (xq2 : Nat) (xq9 : Nat) (xq10 : Nat) (xq11 : Nat) (xq12 : Nat) (xq13 : Nat) (xq14 : Nat) (xq15 : Nat) (xq16 : Nat) (xq17 : Nat) (xq18 : Nat) (xq19 : Nat) (xf21 : Nat → Int32) (xc25 : ClassId) (xc26 : ClassId) (xc27 : ClassId) (xc28 : ClassId) (sz : Nat) : Met l yX5_narrowBounds (z_w yX5_narrowBounds cX5_narrowBounds 4 (some .int)) ({ frames := 10, cells := 0, slots := 0, locals := 200 }) (z_P dC dI [(xq2, .inr (5, [.ref xq9, .ref xq10, .ref xq11, .ref xq12, .ref xq13, .ref xq14, .ref xq15, .ref xq16, .ref xq17, .ref xq18, .ref xq19, .int 0, .int 0])), (xq13, .inl (xc25, 4, .inl xf21)), (xq14, .inl (xc26, 4, .inl xf21)), (xq15, .inl (xc27, 4, .inl xf21)), (xq16, .inl (xc28, 4, .inl xf21))] [(xc25, .int), (xc26, .int), (xc27, .int), (xc28, .int)] sz [.ref xq2]) (va_Qi (fun (r : Int32) (u : va_W × List (ClassId × FieldType)) => u = ([], []) ∧ r = 0) (z_B dC dI (va_A [(xq2, .inr (5, [.ref xq9, .ref xq10, .ref xq11, .ref xq12, .ref xq13, .ref xq14, .ref xq15, .ref xq16, .ref xq17, .ref xq18, .ref xq19, .int 0, .int 0])), (xq13, .inl (xc25, 4, .inl xf21)), (xq14, .inl (xc26, 4, .inl xf21)), (xq15, .inl (xc27, 4, .inl xf21)), (xq16, .inl (xc28, 4, .inl xf21))] sz)) (va_A [(xq2, .inr (5, [.ref xq9, .ref xq10, .ref xq11, .ref xq12, .ref xq13, .ref xq14, .ref xq15, .ref xq16, .ref xq17, .ref xq18, .ref xq19, .int 0, .int 0])), (xq13, .inl (xc25, 4, .inl xf21)), (xq14, .inl (xc26, 4, .inl xf21)), (xq15, .inl (xc27, 4, .inl xf21)), (xq16, .inl (xc28, 4, .inl xf21))] sz)) 0 0 (va_A [(xq2, .inr (5, [.ref xq9, .ref xq10, .ref xq11, .ref xq12, .ref xq13, .ref xq14, .ref xq15, .ref xq16, .ref xq17, .ref xq18, .ref xq19, .int 0, .int 0])), (xq13, .inl (xc25, 4, .inl xf21)), (xq14, .inl (xc26, 4, .inl xf21)), (xq15, .inl (xc27, 4, .inl xf21)), (xq16, .inl (xc28, 4, .inl xf21))] sz) := by
  refine Met.ofW (cc := cX5_narrowBounds) (maxL := 4) (ret := (some .int)) (by decide) rfl ?_
  intro p e s m args below meth c s₁ B hml hv
  obtain ⟨rfl, rfl, I⟩ := z_open hv
  have hx := B.exec
  have hb := B.bytes
  have hr := B.returns
  have hts := atoms_spec (ws := z_w yX5_narrowBounds cX5_narrowBounds 4 (some .int)) B.pre
  have hg : z_G _ s := z_G.of hts
  have hown : s.vm.findClass RX5 = some m.cls := findClass_of_methodNamed B.named
  have hlocks := B.notSynchronized
  generalize va_A [(xq2, .inr (5, [.ref xq9, .ref xq10, .ref xq11, .ref xq12, .ref xq13, .ref xq14, .ref xq15, .ref xq16, .ref xq17, .ref xq18, .ref xq19, .int 0, .int 0])), (xq13, .inl (xc25, 4, .inl xf21)), (xq14, .inl (xc26, 4, .inl xf21)), (xq15, .inl (xc27, 4, .inl xf21)), (xq16, .inl (xc28, 4, .inl xf21))] s.heap.size = A at I ⊢
  have hl := lv_entry ([.ref xq2]) (n := 4) (Nat.le_of_ble_eq_true rfl)
  rw [lg_entry_eq]
  generalize (lg_sl ([.ref xq2]) ++ List.replicate (4 - (lg_sl ([.ref xq2])).length) Slot.unset).toArray = ls at hl ⊢
  have hl : lv_has ls 4 [(0, .ref xq2)] := hl
  refine lv_aload_n hx hb dX5_narrowBounds_0 rfl (lv_at hl 0 rfl) ?_
  refine z_get (C := RX5) (T := TX5) (N := 13) (ci := 5) (v := .ref xq13) hx hb hg hown I iw_5 0 rfl rfl 4 (by decide) mw154 rfl dX5_narrowBounds_1 ?_
  refine lv_iconst (v := 0) hx hb dX5_narrowBounds_4 (by decide) ?_
  refine lv_aload_n hx hb dX5_narrowBounds_5 rfl (lv_at hl 0 rfl) ?_
  refine z_get (C := RX5) (T := TX5) (N := 13) (ci := 5) (v := .ref xq15) hx hb hg hown I iw_5 0 rfl rfl 6 (by decide) mw160 rfl dX5_narrowBounds_6 ?_
  refine lv_iconst (v := 0) hx hb dX5_narrowBounds_9 (by decide) ?_
  refine lv_iconst (v := 4) hx hb dX5_narrowBounds_10 (by decide) ?_
  refine z_copyi hx hb hg hown hml hl.1 I mw560 mw546 mw545 mw16 1 3 0 2 rfl rfl rfl rfl (by decide) (by decide) (by decide) (by decide) (by decide) (Nat.le_of_ble_eq_true rfl) (Nat.le_of_ble_eq_true (by decide +kernel)) dX5_narrowBounds_11 (fun g1 H locs I => ?_)
  have I : z_I A dC dI [(xq2, .inr (5, [.ref xq9, .ref xq10, .ref xq11, .ref xq12, .ref xq13, .ref xq14, .ref xq15, .ref xq16, .ref xq17, .ref xq18, .ref xq19, .int 0, .int 0])), (xq13, .inl (xc25, 4, .inl xf21)), (xq14, .inl (xc26, 4, .inl xf21)), (xq15, .inl (xc27, 4, .inl g1)), (xq16, .inl (xc28, 4, .inl xf21))] [(xc25, .int), (xc26, .int), (xc27, .int), (xc28, .int)] s H _ := I
  refine lv_aload_n hx hb dX5_narrowBounds_14 rfl (lv_at hl 0 rfl) ?_
  refine z_get (C := RX5) (T := TX5) (N := 13) (ci := 5) (v := .ref xq14) hx hb hg hown I iw_5 0 rfl rfl 5 (by decide) mw157 rfl dX5_narrowBounds_15 ?_
  refine lv_iconst (v := 0) hx hb dX5_narrowBounds_18 (by decide) ?_
  refine lv_aload_n hx hb dX5_narrowBounds_19 rfl (lv_at hl 0 rfl) ?_
  refine z_get (C := RX5) (T := TX5) (N := 13) (ci := 5) (v := .ref xq16) hx hb hg hown I iw_5 0 rfl rfl 7 (by decide) mw161 rfl dX5_narrowBounds_20 ?_
  refine lv_iconst (v := 0) hx hb dX5_narrowBounds_23 (by decide) ?_
  refine lv_iconst (v := 4) hx hb dX5_narrowBounds_24 (by decide) ?_
  refine z_copyi hx hb hg hown hml hl.1 I mw560 mw546 mw545 mw16 2 4 1 3 rfl rfl rfl rfl (by decide) (by decide) (by decide) (by decide) (by decide) (Nat.le_of_ble_eq_true rfl) (Nat.le_of_ble_eq_true (by decide +kernel)) dX5_narrowBounds_25 (fun g2 H locs I => ?_)
  have I : z_I A dC dI [(xq2, .inr (5, [.ref xq9, .ref xq10, .ref xq11, .ref xq12, .ref xq13, .ref xq14, .ref xq15, .ref xq16, .ref xq17, .ref xq18, .ref xq19, .int 0, .int 0])), (xq13, .inl (xc25, 4, .inl xf21)), (xq14, .inl (xc26, 4, .inl xf21)), (xq15, .inl (xc27, 4, .inl g1)), (xq16, .inl (xc28, 4, .inl g2))] [(xc25, .int), (xc26, .int), (xc27, .int), (xc28, .int)] s H _ := I
  refine lv_iconst (v := 1) hx hb dX5_narrowBounds_28 (by decide) ?_
  refine lv_istore_n (lv' := [(1, .int 1), (0, .ref xq2)]) hx hb dX5_narrowBounds_29 rfl hl (by decide) rfl (fun ls hl => ?_)
  refine lv_iconst (v := 0) hx hb dX5_narrowBounds_30 (by decide) ?_
  refine lv_istore_n (lv' := [(2, .int 0), (1, .int 1), (0, .ref xq2)]) hx hb dX5_narrowBounds_31 rfl hl (by decide) rfl (fun ls hl => ?_)
  refine lv_iload_n hx hb dX5_narrowBounds_32 rfl (lv_at hl 1 rfl) ?_
  refine lv_if_eq (tgt := 90) hx hb dX5_narrowBounds_33 (by decide) (fun c9 => absurd c9 (by decide)) (fun _ => ?_)
  refine lv_iload_n hx hb dX5_narrowBounds_36 rfl (lv_at hl 0 rfl) ?_
  refine lv_bipush (v := 100) hx hb dX5_narrowBounds_37 (by decide) ?_
  refine lv_icmp_ge (tgt := 90) hx hb dX5_narrowBounds_39 (by decide) (fun c9 => absurd c9 (by decide)) (fun _ => ?_)
  refine lv_iconst (v := 0) hx hb dX5_narrowBounds_42 (by decide) ?_
  refine lv_istore_n (lv' := [(1, .int 0), (2, .int 0), (0, .ref xq2)]) hx hb dX5_narrowBounds_43 rfl hl (by decide) rfl (fun ls hl => ?_)
  refine lv_iconst (v := 0) hx hb dX5_narrowBounds_44 (by decide) ?_
  refine lv_istore_n (lv' := [(3, .int 0), (1, .int 0), (2, .int 0), (0, .ref xq2)]) hx hb dX5_narrowBounds_45 rfl hl (by decide) rfl (fun ls hl => ?_)
  refine lv_iload_n hx hb dX5_narrowBounds_46 rfl (lv_at hl 0 rfl) ?_
  refine lv_aload_n hx hb dX5_narrowBounds_47 rfl (lv_at hl 3 rfl) ?_
  refine z_get (C := RX5) (T := TX5) (N := 13) (ci := 5) (v := .int 0) hx hb hg hown I iw_5 0 rfl rfl 12 (by decide) mw174 rfl dX5_narrowBounds_48 ?_
  refine lv_icmp_ge (tgt := 84) hx hb dX5_narrowBounds_51 (by decide) (fun _ => ?_) (fun c9 => absurd c9 (by decide))
  refine lv_iinc (v := 1) (lv' := [(2, .int 1), (3, .int 0), (1, .int 0), (0, .ref xq2)]) hx hb dX5_narrowBounds_84 hl (k := 2) rfl (by decide) (by decide) rfl (fun ls hl => ?_)
  refine lv_goto (tgt := 32) hx hb dX5_narrowBounds_87 (by decide) ?_
  refine lv_iload_n hx hb dX5_narrowBounds_32 rfl (lv_at hl 2 rfl) ?_
  refine lv_if_eq (tgt := 90) hx hb dX5_narrowBounds_33 (by decide) (fun _ => ?_) (fun c9 => absurd c9 (by decide))
  refine lv_aload_n hx hb dX5_narrowBounds_90 rfl (lv_at hl 3 rfl) ?_
  refine z_calli (wr := [(xq13, .inl (xc25, 4, .inl xf21)), (xq14, .inl (xc26, 4, .inl xf21)), (xq15, .inl (xc27, 4, .inl g1)), (xq16, .inl (xc28, 4, .inl g2))]) (va_runV (As := []) (rest := []) ⟨hx, hb, hml, hown, hts⟩ (z_RX5_keepNarrowed l dC dI xq2 xq9 xq10 xq11 xq12 xq13 xq14 xq15 xq16 xq17 xq18 xq19  H.size) (cwV 0 hts (z_gV z_T.w mw587 mw589 mwp9 mw3 mw590) rfl rfl rfl (by decide +kernel) ⟨Nat.le_of_ble_eq_true rfl, Nat.le_of_ble_eq_true rfl⟩) (z_preV I [0] [] rfl rfl rfl rfl (ci := 5) (q0 := 0) rfl rfl) rfl rfl hl.1 rfl (lv_room (Nat.le_of_ble_eq_true rfl)) dX5_narrowBounds_91 ⟨Nat.le_of_ble_eq_true rfl, Nat.le_of_ble_eq_true rfl⟩) I [0] [1, 2, 3, 4] rfl rfl (by decide) (by decide) (fun r3 u3 H locs hw3 I => ?_)
  obtain ⟨hu3, hp3⟩ := hw3
  subst hu3
  have I : z_I A dC dI [(xq13, .inl (xc25, 4, .inl xf21)), (xq14, .inl (xc26, 4, .inl xf21)), (xq15, .inl (xc27, 4, .inl g1)), (xq16, .inl (xc28, 4, .inl g2)), (xq2, .inr (5, [.ref xq9, .ref xq10, .ref xq11, .ref xq12, .ref xq13, .ref xq14, .ref xq15, .ref xq16, .ref xq17, .ref xq18, .ref xq19, .int 0, .int 0]))] [(xc25, .int), (xc26, .int), (xc27, .int), (xc28, .int)] s H _ := I
  obtain rfl : r3 = 0 := hp3
  have I := I.sub (ws' := []) [] rfl rfl rfl
  have I := I.subT (t' := []) [] rfl
  refine W.widen (k := 0) (n := 0) (Nat.le_of_ble_eq_true rfl) (Nat.le_of_ble_eq_true rfl) ?_
  exact z_iret hx hb hr hlocks I ⟨rfl, rfl⟩ dX5_narrowBounds_94
set_option maxHeartbeats 4000000 in
set_option maxRecDepth 100000 in
theorem z_RX5_wholeCount (l : Launch) (dC : Nat → ClassId) (dI : Nat → Nat → Nat) (xq2 : Nat) (xq9 : Nat) (xq10 : Nat) (xq11 : Nat) (xq12 : Nat) (xq13 : Nat) (xq14 : Nat) (xq15 : Nat) (xq16 : Nat) (xq17 : Nat) (xq18 : Nat) (xq19 : Nat) (sz : Nat) : Met l yX5_wholeCount (z_w yX5_wholeCount cX5_wholeCount 3 (some .int)) ({ frames := 8, cells := 0, slots := 0, locals := 140 }) (z_P dC dI [(xq2, .inr (5, [.ref xq9, .ref xq10, .ref xq11, .ref xq12, .ref xq13, .ref xq14, .ref xq15, .ref xq16, .ref xq17, .ref xq18, .ref xq19, .int 0, .int 0]))] [] sz [.ref xq2]) (va_Qi (fun (r : Int32) (u : va_W × List (ClassId × FieldType)) => u = ([(xq2, .inr (5, [.ref xq9, .ref xq10, .ref xq11, .ref xq12, .ref xq13, .ref xq14, .ref xq15, .ref xq16, .ref xq17, .ref xq18, .ref xq19, .int 0, .int 0]))], []) ∧ r = 0) (z_B dC dI (va_A [(xq2, .inr (5, [.ref xq9, .ref xq10, .ref xq11, .ref xq12, .ref xq13, .ref xq14, .ref xq15, .ref xq16, .ref xq17, .ref xq18, .ref xq19, .int 0, .int 0]))] sz)) (va_A [(xq2, .inr (5, [.ref xq9, .ref xq10, .ref xq11, .ref xq12, .ref xq13, .ref xq14, .ref xq15, .ref xq16, .ref xq17, .ref xq18, .ref xq19, .int 0, .int 0]))] sz)) 0 0 (va_A [(xq2, .inr (5, [.ref xq9, .ref xq10, .ref xq11, .ref xq12, .ref xq13, .ref xq14, .ref xq15, .ref xq16, .ref xq17, .ref xq18, .ref xq19, .int 0, .int 0]))] sz) := by
  refine Met.ofW (cc := cX5_wholeCount) (maxL := 3) (ret := (some .int)) (by decide) rfl ?_
  intro p e s m args below meth c s₁ B hml hv
  obtain ⟨rfl, rfl, I⟩ := z_open hv
  have hx := B.exec
  have hb := B.bytes
  have hr := B.returns
  have hts := atoms_spec (ws := z_w yX5_wholeCount cX5_wholeCount 3 (some .int)) B.pre
  have hg : z_G _ s := z_G.of hts
  have hown : s.vm.findClass RX5 = some m.cls := findClass_of_methodNamed B.named
  have hlocks := B.notSynchronized
  generalize va_A [(xq2, .inr (5, [.ref xq9, .ref xq10, .ref xq11, .ref xq12, .ref xq13, .ref xq14, .ref xq15, .ref xq16, .ref xq17, .ref xq18, .ref xq19, .int 0, .int 0]))] s.heap.size = A at I ⊢
  have hl := lv_entry ([.ref xq2]) (n := 3) (Nat.le_of_ble_eq_true rfl)
  rw [lg_entry_eq]
  generalize (lg_sl ([.ref xq2]) ++ List.replicate (3 - (lg_sl ([.ref xq2])).length) Slot.unset).toArray = ls at hl ⊢
  have hl : lv_has ls 3 [(0, .ref xq2)] := hl
  refine lv_iconst (v := 0) hx hb dX5_wholeCount_0 (by decide) ?_
  refine lv_istore_n (lv' := [(1, .int 0), (0, .ref xq2)]) hx hb dX5_wholeCount_1 rfl hl (by decide) rfl (fun ls hl => ?_)
  refine lv_iconst (v := 0) hx hb dX5_wholeCount_2 (by decide) ?_
  refine lv_istore_n (lv' := [(2, .int 0), (1, .int 0), (0, .ref xq2)]) hx hb dX5_wholeCount_3 rfl hl (by decide) rfl (fun ls hl => ?_)
  refine lv_iload_n hx hb dX5_wholeCount_4 rfl (lv_at hl 0 rfl) ?_
  refine lv_aload_n hx hb dX5_wholeCount_5 rfl (lv_at hl 2 rfl) ?_
  refine z_get (C := RX5) (T := TX5) (N := 13) (ci := 5) (v := .int 0) hx hb hg hown I iw_5 0 rfl rfl 11 (by decide) mw170 rfl dX5_wholeCount_6 ?_
  refine lv_icmp_ge (tgt := 30) hx hb dX5_wholeCount_9 (by decide) (fun _ => ?_) (fun c9 => absurd c9 (by decide))
  refine lv_iload_n hx hb dX5_wholeCount_30 rfl (lv_at hl 1 rfl) ?_
  have I := I.subT (t' := []) [] rfl
  refine W.widen (k := 0) (n := 0) (Nat.le_of_ble_eq_true rfl) (Nat.le_of_ble_eq_true rfl) ?_
  exact z_iret hx hb hr hlocks I ⟨rfl, rfl⟩ dX5_wholeCount_31
set_option maxHeartbeats 4000000 in
set_option maxRecDepth 100000 in
theorem z_RX5_pointCount (l : Launch) (dC : Nat → ClassId) (dI : Nat → Nat → Nat) (xq2 : Nat) (xq9 : Nat) (xq10 : Nat) (xq11 : Nat) (xq12 : Nat) (xq13 : Nat) (xq14 : Nat) (xq15 : Nat) (xq16 : Nat) (xq17 : Nat) (xq18 : Nat) (xq19 : Nat) (sz : Nat) : Met l yX5_pointCount (z_w yX5_pointCount cX5_pointCount 3 (some .int)) ({ frames := 8, cells := 0, slots := 0, locals := 140 }) (z_P dC dI [(xq2, .inr (5, [.ref xq9, .ref xq10, .ref xq11, .ref xq12, .ref xq13, .ref xq14, .ref xq15, .ref xq16, .ref xq17, .ref xq18, .ref xq19, .int 0, .int 0]))] [] sz [.ref xq2]) (va_Qi (fun (r : Int32) (u : va_W × List (ClassId × FieldType)) => u = ([(xq2, .inr (5, [.ref xq9, .ref xq10, .ref xq11, .ref xq12, .ref xq13, .ref xq14, .ref xq15, .ref xq16, .ref xq17, .ref xq18, .ref xq19, .int 0, .int 0]))], []) ∧ r = 1) (z_B dC dI (va_A [(xq2, .inr (5, [.ref xq9, .ref xq10, .ref xq11, .ref xq12, .ref xq13, .ref xq14, .ref xq15, .ref xq16, .ref xq17, .ref xq18, .ref xq19, .int 0, .int 0]))] sz)) (va_A [(xq2, .inr (5, [.ref xq9, .ref xq10, .ref xq11, .ref xq12, .ref xq13, .ref xq14, .ref xq15, .ref xq16, .ref xq17, .ref xq18, .ref xq19, .int 0, .int 0]))] sz)) 0 0 (va_A [(xq2, .inr (5, [.ref xq9, .ref xq10, .ref xq11, .ref xq12, .ref xq13, .ref xq14, .ref xq15, .ref xq16, .ref xq17, .ref xq18, .ref xq19, .int 0, .int 0]))] sz) := by
  refine Met.ofW (cc := cX5_pointCount) (maxL := 3) (ret := (some .int)) (by decide) rfl ?_
  intro p e s m args below meth c s₁ B hml hv
  obtain ⟨rfl, rfl, I⟩ := z_open hv
  have hx := B.exec
  have hb := B.bytes
  have hr := B.returns
  have hts := atoms_spec (ws := z_w yX5_pointCount cX5_pointCount 3 (some .int)) B.pre
  have hg : z_G _ s := z_G.of hts
  have hown : s.vm.findClass RX5 = some m.cls := findClass_of_methodNamed B.named
  have hlocks := B.notSynchronized
  generalize va_A [(xq2, .inr (5, [.ref xq9, .ref xq10, .ref xq11, .ref xq12, .ref xq13, .ref xq14, .ref xq15, .ref xq16, .ref xq17, .ref xq18, .ref xq19, .int 0, .int 0]))] s.heap.size = A at I ⊢
  have hl := lv_entry ([.ref xq2]) (n := 3) (Nat.le_of_ble_eq_true rfl)
  rw [lg_entry_eq]
  generalize (lg_sl ([.ref xq2]) ++ List.replicate (3 - (lg_sl ([.ref xq2])).length) Slot.unset).toArray = ls at hl ⊢
  have hl : lv_has ls 3 [(0, .ref xq2)] := hl
  refine lv_iconst (v := 1) hx hb dX5_pointCount_0 (by decide) ?_
  refine lv_istore_n (lv' := [(1, .int 1), (0, .ref xq2)]) hx hb dX5_pointCount_1 rfl hl (by decide) rfl (fun ls hl => ?_)
  refine lv_iconst (v := 0) hx hb dX5_pointCount_2 (by decide) ?_
  refine lv_istore_n (lv' := [(2, .int 0), (1, .int 1), (0, .ref xq2)]) hx hb dX5_pointCount_3 rfl hl (by decide) rfl (fun ls hl => ?_)
  refine lv_iload_n hx hb dX5_pointCount_4 rfl (lv_at hl 0 rfl) ?_
  refine lv_aload_n hx hb dX5_pointCount_5 rfl (lv_at hl 2 rfl) ?_
  refine z_get (C := RX5) (T := TX5) (N := 13) (ci := 5) (v := .int 0) hx hb hg hown I iw_5 0 rfl rfl 11 (by decide) mw170 rfl dX5_pointCount_6 ?_
  refine lv_icmp_ge (tgt := 36) hx hb dX5_pointCount_9 (by decide) (fun _ => ?_) (fun c9 => absurd c9 (by decide))
  refine lv_iload_n hx hb dX5_pointCount_36 rfl (lv_at hl 1 rfl) ?_
  have I := I.subT (t' := []) [] rfl
  refine W.widen (k := 0) (n := 0) (Nat.le_of_ble_eq_true rfl) (Nat.le_of_ble_eq_true rfl) ?_
  exact z_iret hx hb hr hlocks I ⟨rfl, rfl⟩ dX5_pointCount_37
set_option maxHeartbeats 4000000 in
set_option maxRecDepth 100000 in
theorem z_RX0_start (l : Launch) (dC : Nat → ClassId) (dI : Nat → Nat → Nat) (xq9 : Nat) (xq10 : Nat) (xq11 : Nat) (xq19 : Nat) (xq35 : Nat) (xq36 : Nat) (xq37 : Nat) (xq38 : Nat) (xq39 : Nat) (xq40 : Nat) (xq41 : Nat) (xq42 : Nat) (sz : Nat) : Met l yX0_start (z_w yX0_start cX0_start 7 none) ({ frames := 8, cells := 0, slots := 0, locals := 140 }) (z_P dC dI [(xq19, .inr (0, [.ref xq35, .ref xq36, .ref xq37, .ref xq38, .ref xq39, .ref xq40, .ref xq41, .int 0, .int 0])), (xq35, .inr (4, [.ref xq42, .long 1, .long 0]))] [] sz [.ref xq19, .int 0, .ref xq9, .ref xq10, .ref xq11]) (va_Qv (fun u : va_W × List (ClassId × FieldType) => u = ([(xq19, .inr (0, [.ref xq35, .ref xq36, .ref xq37, .ref xq38, .ref xq39, .ref xq40, .ref xq41, .int 0, .int 0])), (xq35, .inr (4, [.ref xq42, .long 1, .long 0]))], []) ∧ True) (z_B dC dI (va_A [(xq19, .inr (0, [.ref xq35, .ref xq36, .ref xq37, .ref xq38, .ref xq39, .ref xq40, .ref xq41, .int 0, .int 0])), (xq35, .inr (4, [.ref xq42, .long 1, .long 0]))] sz)) (va_A [(xq19, .inr (0, [.ref xq35, .ref xq36, .ref xq37, .ref xq38, .ref xq39, .ref xq40, .ref xq41, .int 0, .int 0])), (xq35, .inr (4, [.ref xq42, .long 1, .long 0]))] sz)) 0 0 (va_A [(xq19, .inr (0, [.ref xq35, .ref xq36, .ref xq37, .ref xq38, .ref xq39, .ref xq40, .ref xq41, .int 0, .int 0])), (xq35, .inr (4, [.ref xq42, .long 1, .long 0]))] sz) := by
  refine Met.ofW (cc := cX0_start) (maxL := 7) (ret := none) (by decide) rfl ?_
  intro p e s m args below meth c s₁ B hml hv
  obtain ⟨rfl, rfl, I⟩ := z_open hv
  have hx := B.exec
  have hb := B.bytes
  have hr := B.returns
  have hts := atoms_spec (ws := z_w yX0_start cX0_start 7 none) B.pre
  have hg : z_G _ s := z_G.of hts
  have hown : s.vm.findClass RX0 = some m.cls := findClass_of_methodNamed B.named
  have hlocks := B.notSynchronized
  generalize va_A [(xq19, .inr (0, [.ref xq35, .ref xq36, .ref xq37, .ref xq38, .ref xq39, .ref xq40, .ref xq41, .int 0, .int 0])), (xq35, .inr (4, [.ref xq42, .long 1, .long 0]))] s.heap.size = A at I ⊢
  have hl := lv_entry ([.ref xq19, .int 0, .ref xq9, .ref xq10, .ref xq11]) (n := 7) (Nat.le_of_ble_eq_true rfl)
  rw [lg_entry_eq]
  generalize (lg_sl ([.ref xq19, .int 0, .ref xq9, .ref xq10, .ref xq11]) ++ List.replicate (7 - (lg_sl ([.ref xq19, .int 0, .ref xq9, .ref xq10, .ref xq11])).length) Slot.unset).toArray = ls at hl ⊢
  have hl : lv_has ls 7 [(0, .ref xq19), (1, .int 0), (2, .ref xq9), (3, .ref xq10), (4, .ref xq11)] := hl
  refine lv_aload_n hx hb dX0_start_0 rfl (lv_at hl 0 rfl) ?_
  refine lv_iload_n hx hb dX0_start_1 rfl (lv_at hl 1 rfl) ?_
  refine lv_iconst (v := 4) hx hb dX0_start_2 (by decide) ?_
  refine va_mmin hx hb (hml.trans hl.1.symm) hown (hg _ mw690 rfl) (hg _ mw574 rfl) (hg _ mw17 rfl) (hg _ mw575 rfl) (Nat.le_of_ble_eq_true rfl) (Nat.le_of_ble_eq_true rfl) (Nat.le_of_ble_eq_true rfl) (Nat.le_of_ble_eq_true rfl) dX0_start_3 ?_
  refine lv_topi (fun w1 ew1 => ?_)
  obtain rfl : w1 = 0 := ew1.trans (by decide)
  refine z_put (C := RX0) (T := TX0) (N := 9) (ci := 0) (v := .int 0) hx hb hg hown I iw_0 tyX0 tyX0_ok nmX0 0 rfl rfl 8 (by decide) mw99 rfl rfl rfl (Nat.le_of_ble_eq_true rfl) dX0_start_6 [(xq19, .inr (0, [.ref xq35, .ref xq36, .ref xq37, .ref xq38, .ref xq39, .ref xq40, .ref xq41, .int 0, .int 0])), (xq35, .inr (4, [.ref xq42, .long 1, .long 0]))] rfl (fun H locs I => ?_)
  refine lv_aload_n hx hb dX0_start_9 rfl (lv_at hl 0 rfl) ?_
  refine lv_iconst (v := 0) hx hb dX0_start_10 (by decide) ?_
  refine z_put (C := RX0) (T := TX0) (N := 9) (ci := 0) (v := .int 0) hx hb hg hown I iw_0 tyX0 tyX0_ok nmX0 0 rfl rfl 7 (by decide) mw98 rfl rfl rfl (Nat.le_of_ble_eq_true rfl) dX0_start_11 [(xq19, .inr (0, [.ref xq35, .ref xq36, .ref xq37, .ref xq38, .ref xq39, .ref xq40, .ref xq41, .int 0, .int 0])), (xq35, .inr (4, [.ref xq42, .long 1, .long 0]))] rfl (fun H locs I => ?_)
  refine lv_aload_n hx hb dX0_start_14 rfl (lv_at hl 0 rfl) ?_
  refine z_get (C := RX0) (T := TX0) (N := 9) (ci := 0) (v := .ref xq35) hx hb hg hown I iw_0 0 rfl rfl 0 (by decide) mw90 rfl dX0_start_15 ?_
  refine lv_lconst (v := 1) hx hb dX0_start_18 (by decide) ?_
  refine z_put (C := RX4) (T := TX4) (N := 3) (ci := 4) (v := .long 1) hx hb hg hown I iw_4 tyX4 tyX4_ok nmX4 1 rfl rfl 1 (by decide) mw62 rfl rfl rfl (Nat.le_of_ble_eq_true rfl) dX0_start_19 [(xq19, .inr (0, [.ref xq35, .ref xq36, .ref xq37, .ref xq38, .ref xq39, .ref xq40, .ref xq41, .int 0, .int 0])), (xq35, .inr (4, [.ref xq42, .long 1, .long 0]))] rfl (fun H locs I => ?_)
  refine lv_iconst (v := 0) hx hb dX0_start_22 (by decide) ?_
  refine lv_istore (lv' := [(5, .int 0), (0, .ref xq19), (1, .int 0), (2, .ref xq9), (3, .ref xq10), (4, .ref xq11)]) hx hb dX0_start_23 hl (by decide) rfl (fun ls hl => ?_)
  refine lv_iload hx hb dX0_start_25 (lv_at hl 0 rfl) ?_
  refine lv_aload_n hx hb dX0_start_27 rfl (lv_at hl 1 rfl) ?_
  refine z_get (C := RX0) (T := TX0) (N := 9) (ci := 0) (v := .int 0) hx hb hg hown I iw_0 0 rfl rfl 8 (by decide) mw99 rfl dX0_start_28 ?_
  refine lv_icmp_ge (tgt := 169) hx hb dX0_start_31 (by decide) (fun _ => ?_) (fun c9 => absurd c9 (by decide))
  have I := I.subT (t' := []) [] rfl
  refine W.widen (k := 0) (n := 0) (Nat.le_of_ble_eq_true rfl) (Nat.le_of_ble_eq_true rfl) ?_
  exact z_vret hx hb hr hlocks I ⟨rfl, trivial⟩ dX0_start_169
set_option maxHeartbeats 4000000 in
set_option maxRecDepth 100000 in
theorem z_RX0_firstBroken (l : Launch) (dC : Nat → ClassId) (dI : Nat → Nat → Nat) (xq19 : Nat) (xq35 : Nat) (xq36 : Nat) (xq37 : Nat) (xq38 : Nat) (xq39 : Nat) (xq40 : Nat) (xq41 : Nat) (sz : Nat) : Met l yX0_firstBroken (z_w yX0_firstBroken cX0_firstBroken 2 (some .int)) ({ frames := 8, cells := 0, slots := 0, locals := 140 }) (z_P dC dI [(xq19, .inr (0, [.ref xq35, .ref xq36, .ref xq37, .ref xq38, .ref xq39, .ref xq40, .ref xq41, .int 0, .int 0]))] [] sz [.ref xq19]) (va_Qi (fun (r : Int32) (u : va_W × List (ClassId × FieldType)) => u = ([(xq19, .inr (0, [.ref xq35, .ref xq36, .ref xq37, .ref xq38, .ref xq39, .ref xq40, .ref xq41, .int 0, .int 0]))], []) ∧ r = (-1)) (z_B dC dI (va_A [(xq19, .inr (0, [.ref xq35, .ref xq36, .ref xq37, .ref xq38, .ref xq39, .ref xq40, .ref xq41, .int 0, .int 0]))] sz)) (va_A [(xq19, .inr (0, [.ref xq35, .ref xq36, .ref xq37, .ref xq38, .ref xq39, .ref xq40, .ref xq41, .int 0, .int 0]))] sz)) 0 0 (va_A [(xq19, .inr (0, [.ref xq35, .ref xq36, .ref xq37, .ref xq38, .ref xq39, .ref xq40, .ref xq41, .int 0, .int 0]))] sz) := by
  refine Met.ofW (cc := cX0_firstBroken) (maxL := 2) (ret := (some .int)) (by decide) rfl ?_
  intro p e s m args below meth c s₁ B hml hv
  obtain ⟨rfl, rfl, I⟩ := z_open hv
  have hx := B.exec
  have hb := B.bytes
  have hr := B.returns
  have hts := atoms_spec (ws := z_w yX0_firstBroken cX0_firstBroken 2 (some .int)) B.pre
  have hg : z_G _ s := z_G.of hts
  have hown : s.vm.findClass RX0 = some m.cls := findClass_of_methodNamed B.named
  have hlocks := B.notSynchronized
  generalize va_A [(xq19, .inr (0, [.ref xq35, .ref xq36, .ref xq37, .ref xq38, .ref xq39, .ref xq40, .ref xq41, .int 0, .int 0]))] s.heap.size = A at I ⊢
  have hl := lv_entry ([.ref xq19]) (n := 2) (Nat.le_of_ble_eq_true rfl)
  rw [lg_entry_eq]
  generalize (lg_sl ([.ref xq19]) ++ List.replicate (2 - (lg_sl ([.ref xq19])).length) Slot.unset).toArray = ls at hl ⊢
  have hl : lv_has ls 2 [(0, .ref xq19)] := hl
  refine lv_iconst (v := 0) hx hb dX0_firstBroken_0 (by decide) ?_
  refine lv_istore_n (lv' := [(1, .int 0), (0, .ref xq19)]) hx hb dX0_firstBroken_1 rfl hl (by decide) rfl (fun ls hl => ?_)
  refine lv_iload_n hx hb dX0_firstBroken_2 rfl (lv_at hl 0 rfl) ?_
  refine lv_aload_n hx hb dX0_firstBroken_3 rfl (lv_at hl 1 rfl) ?_
  refine z_get (C := RX0) (T := TX0) (N := 9) (ci := 0) (v := .int 0) hx hb hg hown I iw_0 0 rfl rfl 7 (by decide) mw98 rfl dX0_firstBroken_4 ?_
  refine lv_icmp_ge (tgt := 28) hx hb dX0_firstBroken_7 (by decide) (fun _ => ?_) (fun c9 => absurd c9 (by decide))
  refine lv_iconst (v := (-1)) hx hb dX0_firstBroken_28 (by decide) ?_
  have I := I.subT (t' := []) [] rfl
  refine W.widen (k := 0) (n := 0) (Nat.le_of_ble_eq_true rfl) (Nat.le_of_ble_eq_true rfl) ?_
  exact z_iret hx hb hr hlocks I ⟨rfl, rfl⟩ dX0_firstBroken_29
set_option maxHeartbeats 4000000 in
set_option maxRecDepth 100000 in
theorem z_RX0_search (l : Launch) (dC : Nat → ClassId) (dI : Nat → Nat → Nat) (xq19 : Nat) (xq35 : Nat) (xq36 : Nat) (xq37 : Nat) (xq38 : Nat) (xq39 : Nat) (xq40 : Nat) (xq41 : Nat) (sz : Nat) : Met l yX0_search (z_w yX0_search cX0_search 4 (some .boolean)) ({ frames := 10, cells := 0, slots := 0, locals := 200 }) (z_P dC dI [(xq19, .inr (0, [.ref xq35, .ref xq36, .ref xq37, .ref xq38, .ref xq39, .ref xq40, .ref xq41, .int 0, .int 0]))] [] sz [.ref xq19]) (va_Qi (fun (r : Int32) (u : va_W × List (ClassId × FieldType)) => u = ([(xq19, .inr (0, [.ref xq35, .ref xq36, .ref xq37, .ref xq38, .ref xq39, .ref xq40, .ref xq41, .int 0, .int 0]))], []) ∧ r = 1) (z_B dC dI (va_A [(xq19, .inr (0, [.ref xq35, .ref xq36, .ref xq37, .ref xq38, .ref xq39, .ref xq40, .ref xq41, .int 0, .int 0]))] sz)) (va_A [(xq19, .inr (0, [.ref xq35, .ref xq36, .ref xq37, .ref xq38, .ref xq39, .ref xq40, .ref xq41, .int 0, .int 0]))] sz)) 0 0 (va_A [(xq19, .inr (0, [.ref xq35, .ref xq36, .ref xq37, .ref xq38, .ref xq39, .ref xq40, .ref xq41, .int 0, .int 0]))] sz) := by
  refine Met.ofW (cc := cX0_search) (maxL := 4) (ret := (some .boolean)) (by decide) rfl ?_
  intro p e s m args below meth c s₁ B hml hv
  obtain ⟨rfl, rfl, I⟩ := z_open hv
  have hx := B.exec
  have hb := B.bytes
  have hr := B.returns
  have hts := atoms_spec (ws := z_w yX0_search cX0_search 4 (some .boolean)) B.pre
  have hg : z_G _ s := z_G.of hts
  have hown : s.vm.findClass RX0 = some m.cls := findClass_of_methodNamed B.named
  have hlocks := B.notSynchronized
  generalize va_A [(xq19, .inr (0, [.ref xq35, .ref xq36, .ref xq37, .ref xq38, .ref xq39, .ref xq40, .ref xq41, .int 0, .int 0]))] s.heap.size = A at I ⊢
  have hl := lv_entry ([.ref xq19]) (n := 4) (Nat.le_of_ble_eq_true rfl)
  rw [lg_entry_eq]
  generalize (lg_sl ([.ref xq19]) ++ List.replicate (4 - (lg_sl ([.ref xq19])).length) Slot.unset).toArray = ls at hl ⊢
  have hl : lv_has ls 4 [(0, .ref xq19)] := hl
  refine lv_iconst (v := 0) hx hb dX0_search_0 (by decide) ?_
  refine lv_istore_n (lv' := [(1, .int 0), (0, .ref xq19)]) hx hb dX0_search_1 rfl hl (by decide) rfl (fun ls hl => ?_)
  refine lv_iload_n hx hb dX0_search_2 rfl (lv_at hl 0 rfl) ?_
  refine lv_ldc (v := 100000) hx hb hown (hg _ mw708 rfl) dX0_search_3 ?_
  refine lv_icmp_ge (tgt := 51) hx hb dX0_search_5 (by decide) (fun c9 => absurd c9 (by decide)) (fun _ => ?_)
  refine lv_aload_n hx hb dX0_search_8 rfl (lv_at hl 1 rfl) ?_
  refine z_calli (wr := []) (va_runV (As := []) (rest := []) ⟨hx, hb, hml, hown, hts⟩ (z_RX0_firstBroken l dC dI xq19 xq35 xq36 xq37 xq38 xq39 xq40 xq41  s.heap.size) (cwV 0 hts (z_gV z_T.w mw709 mw711 mwp13 mw5 mw712) rfl rfl rfl (by decide +kernel) ⟨Nat.le_of_ble_eq_true rfl, Nat.le_of_ble_eq_true rfl⟩) (z_preV I [0] [] rfl rfl rfl rfl (ci := 0) (q0 := 0) rfl rfl) rfl rfl hl.1 rfl (lv_room (Nat.le_of_ble_eq_true rfl)) dX0_search_9 ⟨Nat.le_of_ble_eq_true rfl, Nat.le_of_ble_eq_true rfl⟩) I [0] [] rfl rfl (by decide) (by decide) (fun r1 u1 H locs hw1 I => ?_)
  obtain ⟨hu1, hp1⟩ := hw1
  subst hu1
  have I : z_I A dC dI [(xq19, .inr (0, [.ref xq35, .ref xq36, .ref xq37, .ref xq38, .ref xq39, .ref xq40, .ref xq41, .int 0, .int 0]))] [] s H _ := I
  obtain rfl : r1 = (-1) := hp1
  refine lv_istore_n (lv' := [(2, .int (-1)), (1, .int 0), (0, .ref xq19)]) hx hb dX0_search_12 rfl hl (by decide) rfl (fun ls hl => ?_)
  refine lv_iload_n hx hb dX0_search_13 rfl (lv_at hl 0 rfl) ?_
  refine lv_if_ge (tgt := 19) hx hb dX0_search_14 (by decide) (fun c9 => absurd c9 (by decide)) (fun _ => ?_)
  refine lv_iconst (v := 1) hx hb dX0_search_17 (by decide) ?_
  have I := I.subT (t' := []) [] rfl
  refine W.widen (k := 0) (n := 0) (Nat.le_of_ble_eq_true rfl) (Nat.le_of_ble_eq_true rfl) ?_
  exact z_zret hx hb hr hlocks rfl I ⟨rfl, rfl⟩ dX0_search_18
set_option maxHeartbeats 4000000 in
set_option maxRecDepth 100000 in
theorem z_RX5_canHoldTogether (l : Launch) (dC : Nat → ClassId) (dI : Nat → Nat → Nat) (xq2 : Nat) (xq9 : Nat) (xq10 : Nat) (xq11 : Nat) (xq12 : Nat) (xq13 : Nat) (xq14 : Nat) (xq15 : Nat) (xq16 : Nat) (xq17 : Nat) (xq18 : Nat) (xq19 : Nat) (xq35 : Nat) (xq36 : Nat) (xq37 : Nat) (xq38 : Nat) (xq39 : Nat) (xq40 : Nat) (xq41 : Nat) (xq42 : Nat) (sz : Nat) : Met l yX5_canHoldTogether (z_w yX5_canHoldTogether cX5_canHoldTogether 3 (some .boolean)) ({ frames := 12, cells := 0, slots := 0, locals := 260 }) (z_P dC dI [(xq2, .inr (5, [.ref xq9, .ref xq10, .ref xq11, .ref xq12, .ref xq13, .ref xq14, .ref xq15, .ref xq16, .ref xq17, .ref xq18, .ref xq19, .int 0, .int 0])), (xq19, .inr (0, [.ref xq35, .ref xq36, .ref xq37, .ref xq38, .ref xq39, .ref xq40, .ref xq41, .int 0, .int 0])), (xq35, .inr (4, [.ref xq42, .long 1, .long 0]))] [] sz [.ref xq2, .int 0]) (va_Qi (fun (r : Int32) (u : va_W × List (ClassId × FieldType)) => u = ([(xq2, .inr (5, [.ref xq9, .ref xq10, .ref xq11, .ref xq12, .ref xq13, .ref xq14, .ref xq15, .ref xq16, .ref xq17, .ref xq18, .ref xq19, .int 0, .int 0])), (xq35, .inr (4, [.ref xq42, .long 1, .long 0])), (xq19, .inr (0, [.ref xq35, .ref xq36, .ref xq37, .ref xq38, .ref xq39, .ref xq40, .ref xq41, .int 0, .int 0]))], []) ∧ r = 1) (z_B dC dI (va_A [(xq2, .inr (5, [.ref xq9, .ref xq10, .ref xq11, .ref xq12, .ref xq13, .ref xq14, .ref xq15, .ref xq16, .ref xq17, .ref xq18, .ref xq19, .int 0, .int 0])), (xq19, .inr (0, [.ref xq35, .ref xq36, .ref xq37, .ref xq38, .ref xq39, .ref xq40, .ref xq41, .int 0, .int 0])), (xq35, .inr (4, [.ref xq42, .long 1, .long 0]))] sz)) (va_A [(xq2, .inr (5, [.ref xq9, .ref xq10, .ref xq11, .ref xq12, .ref xq13, .ref xq14, .ref xq15, .ref xq16, .ref xq17, .ref xq18, .ref xq19, .int 0, .int 0])), (xq19, .inr (0, [.ref xq35, .ref xq36, .ref xq37, .ref xq38, .ref xq39, .ref xq40, .ref xq41, .int 0, .int 0])), (xq35, .inr (4, [.ref xq42, .long 1, .long 0]))] sz)) 0 0 (va_A [(xq2, .inr (5, [.ref xq9, .ref xq10, .ref xq11, .ref xq12, .ref xq13, .ref xq14, .ref xq15, .ref xq16, .ref xq17, .ref xq18, .ref xq19, .int 0, .int 0])), (xq19, .inr (0, [.ref xq35, .ref xq36, .ref xq37, .ref xq38, .ref xq39, .ref xq40, .ref xq41, .int 0, .int 0])), (xq35, .inr (4, [.ref xq42, .long 1, .long 0]))] sz) := by
  refine Met.ofW (cc := cX5_canHoldTogether) (maxL := 3) (ret := (some .boolean)) (by decide) rfl ?_
  intro p e s m args below meth c s₁ B hml hv
  obtain ⟨rfl, rfl, I⟩ := z_open hv
  have hx := B.exec
  have hb := B.bytes
  have hr := B.returns
  have hts := atoms_spec (ws := z_w yX5_canHoldTogether cX5_canHoldTogether 3 (some .boolean)) B.pre
  have hg : z_G _ s := z_G.of hts
  have hown : s.vm.findClass RX5 = some m.cls := findClass_of_methodNamed B.named
  have hlocks := B.notSynchronized
  generalize va_A [(xq2, .inr (5, [.ref xq9, .ref xq10, .ref xq11, .ref xq12, .ref xq13, .ref xq14, .ref xq15, .ref xq16, .ref xq17, .ref xq18, .ref xq19, .int 0, .int 0])), (xq19, .inr (0, [.ref xq35, .ref xq36, .ref xq37, .ref xq38, .ref xq39, .ref xq40, .ref xq41, .int 0, .int 0])), (xq35, .inr (4, [.ref xq42, .long 1, .long 0]))] s.heap.size = A at I ⊢
  have hl := lv_entry ([.ref xq2, .int 0]) (n := 3) (Nat.le_of_ble_eq_true rfl)
  rw [lg_entry_eq]
  generalize (lg_sl ([.ref xq2, .int 0]) ++ List.replicate (3 - (lg_sl ([.ref xq2, .int 0])).length) Slot.unset).toArray = ls at hl ⊢
  have hl : lv_has ls 3 [(0, .ref xq2), (1, .int 0)] := hl
  refine lv_aload_n hx hb dX5_canHoldTogether_0 rfl (lv_at hl 0 rfl) ?_
  refine z_get (C := RX5) (T := TX5) (N := 13) (ci := 5) (v := .ref xq19) hx hb hg hown I iw_5 0 rfl rfl 10 (by decide) mw168 rfl dX5_canHoldTogether_1 ?_
  refine lv_aload_n hx hb dX5_canHoldTogether_4 rfl (lv_at hl 0 rfl) ?_
  refine z_get (C := RX5) (T := TX5) (N := 13) (ci := 5) (v := .int 0) hx hb hg hown I iw_5 0 rfl rfl 11 (by decide) mw170 rfl dX5_canHoldTogether_5 ?_
  refine lv_aload_n hx hb dX5_canHoldTogether_8 rfl (lv_at hl 0 rfl) ?_
  refine z_get (C := RX5) (T := TX5) (N := 13) (ci := 5) (v := .ref xq9) hx hb hg hown I iw_5 0 rfl rfl 0 (by decide) mw148 rfl dX5_canHoldTogether_9 ?_
  refine lv_aload_n hx hb dX5_canHoldTogether_12 rfl (lv_at hl 0 rfl) ?_
  refine z_get (C := RX5) (T := TX5) (N := 13) (ci := 5) (v := .ref xq10) hx hb hg hown I iw_5 0 rfl rfl 1 (by decide) mw150 rfl dX5_canHoldTogether_13 ?_
  refine lv_aload_n hx hb dX5_canHoldTogether_16 rfl (lv_at hl 0 rfl) ?_
  refine z_get (C := RX5) (T := TX5) (N := 13) (ci := 5) (v := .ref xq11) hx hb hg hown I iw_5 0 rfl rfl 2 (by decide) mw151 rfl dX5_canHoldTogether_17 ?_
  refine z_callv (wr := [(xq2, .inr (5, [.ref xq9, .ref xq10, .ref xq11, .ref xq12, .ref xq13, .ref xq14, .ref xq15, .ref xq16, .ref xq17, .ref xq18, .ref xq19, .int 0, .int 0]))]) (va_runV (As := [.int 0, .ref xq9, .ref xq10, .ref xq11]) (rest := []) ⟨hx, hb, hml, hown, hts⟩ (z_RX0_start l dC dI xq9 xq10 xq11 xq19 xq35 xq36 xq37 xq38 xq39 xq40 xq41 xq42  s.heap.size) (cwV 4 hts (z_gV z_T.w mw686 mw687 mw688 mw5 mw689) rfl rfl rfl (by decide +kernel) ⟨Nat.le_of_ble_eq_true rfl, Nat.le_of_ble_eq_true rfl⟩) (z_preV I [1, 2] [] rfl rfl rfl rfl (ci := 0) (q0 := 1) rfl rfl) rfl rfl hl.1 rfl (lv_room (Nat.le_of_ble_eq_true rfl)) dX5_canHoldTogether_20 ⟨Nat.le_of_ble_eq_true rfl, Nat.le_of_ble_eq_true rfl⟩) I [1, 2] [0] rfl rfl (by decide) (by decide) (fun u1 H locs hw1 I => ?_)
  obtain ⟨hu1, hp1⟩ := hw1
  subst hu1
  have I : z_I A dC dI [(xq2, .inr (5, [.ref xq9, .ref xq10, .ref xq11, .ref xq12, .ref xq13, .ref xq14, .ref xq15, .ref xq16, .ref xq17, .ref xq18, .ref xq19, .int 0, .int 0])), (xq19, .inr (0, [.ref xq35, .ref xq36, .ref xq37, .ref xq38, .ref xq39, .ref xq40, .ref xq41, .int 0, .int 0])), (xq35, .inr (4, [.ref xq42, .long 1, .long 0]))] [] s H _ := I
  refine lv_iconst (v := 0) hx hb dX5_canHoldTogether_23 (by decide) ?_
  refine lv_istore_n (lv' := [(2, .int 0), (0, .ref xq2), (1, .int 0)]) hx hb dX5_canHoldTogether_24 rfl hl (by decide) rfl (fun ls hl => ?_)
  refine lv_iload_n hx hb dX5_canHoldTogether_25 rfl (lv_at hl 0 rfl) ?_
  refine lv_aload_n hx hb dX5_canHoldTogether_26 rfl (lv_at hl 1 rfl) ?_
  refine z_get (C := RX5) (T := TX5) (N := 13) (ci := 5) (v := .int 0) hx hb hg hown I iw_5 0 rfl rfl 12 (by decide) mw174 rfl dX5_canHoldTogether_27 ?_
  refine lv_icmp_ge (tgt := 60) hx hb dX5_canHoldTogether_30 (by decide) (fun _ => ?_) (fun c9 => absurd c9 (by decide))
  refine lv_aload_n hx hb dX5_canHoldTogether_60 rfl (lv_at hl 1 rfl) ?_
  refine z_get (C := RX5) (T := TX5) (N := 13) (ci := 5) (v := .ref xq19) hx hb hg hown I iw_5 0 rfl rfl 10 (by decide) mw168 rfl dX5_canHoldTogether_61 ?_
  refine z_calli (wr := [(xq2, .inr (5, [.ref xq9, .ref xq10, .ref xq11, .ref xq12, .ref xq13, .ref xq14, .ref xq15, .ref xq16, .ref xq17, .ref xq18, .ref xq19, .int 0, .int 0])), (xq35, .inr (4, [.ref xq42, .long 1, .long 0]))]) (va_runV (As := []) (rest := []) ⟨hx, hb, hml, hown, hts⟩ (z_RX0_search l dC dI xq19 xq35 xq36 xq37 xq38 xq39 xq40 xq41  H.size) (cwV 0 hts (z_gV z_T.w mw704 mw705 mw706 mw5 mw707) rfl rfl rfl (by decide +kernel) ⟨Nat.le_of_ble_eq_true rfl, Nat.le_of_ble_eq_true rfl⟩) (z_preV I [1] [] rfl rfl rfl rfl (ci := 0) (q0 := 1) rfl rfl) rfl rfl hl.1 rfl (lv_room (Nat.le_of_ble_eq_true rfl)) dX5_canHoldTogether_64 ⟨Nat.le_of_ble_eq_true rfl, Nat.le_of_ble_eq_true rfl⟩) I [1] [0, 2] rfl rfl (by decide) (by decide) (fun r2 u2 H locs hw2 I => ?_)
  obtain ⟨hu2, hp2⟩ := hw2
  subst hu2
  have I : z_I A dC dI [(xq2, .inr (5, [.ref xq9, .ref xq10, .ref xq11, .ref xq12, .ref xq13, .ref xq14, .ref xq15, .ref xq16, .ref xq17, .ref xq18, .ref xq19, .int 0, .int 0])), (xq35, .inr (4, [.ref xq42, .long 1, .long 0])), (xq19, .inr (0, [.ref xq35, .ref xq36, .ref xq37, .ref xq38, .ref xq39, .ref xq40, .ref xq41, .int 0, .int 0]))] [] s H _ := I
  obtain rfl : r2 = 1 := hp2
  have I := I.subT (t' := []) [] rfl
  refine W.widen (k := 0) (n := 0) (Nat.le_of_ble_eq_true rfl) (Nat.le_of_ble_eq_true rfl) ?_
  exact z_zret hx hb hr hlocks rfl I ⟨rfl, rfl⟩ dX5_canHoldTogether_67
set_option maxHeartbeats 4000000 in
set_option maxRecDepth 100000 in
theorem z_RX5_clashingRows (l : Launch) (dC : Nat → ClassId) (dI : Nat → Nat → Nat) (xq2 : Nat) (xq9 : Nat) (xq10 : Nat) (xq11 : Nat) (xq12 : Nat) (xq13 : Nat) (xq14 : Nat) (xq15 : Nat) (xq16 : Nat) (xq17 : Nat) (xq18 : Nat) (xq19 : Nat) (xq35 : Nat) (xq36 : Nat) (xq37 : Nat) (xq38 : Nat) (xq39 : Nat) (xq40 : Nat) (xq41 : Nat) (xq42 : Nat) (sz : Nat) : Met l yX5_clashingRows (z_w yX5_clashingRows cX5_clashingRows 4 (some .int)) ({ frames := 14, cells := 0, slots := 0, locals := 320 }) (z_P dC dI [(xq2, .inr (5, [.ref xq9, .ref xq10, .ref xq11, .ref xq12, .ref xq13, .ref xq14, .ref xq15, .ref xq16, .ref xq17, .ref xq18, .ref xq19, .int 0, .int 0])), (xq19, .inr (0, [.ref xq35, .ref xq36, .ref xq37, .ref xq38, .ref xq39, .ref xq40, .ref xq41, .int 0, .int 0])), (xq35, .inr (4, [.ref xq42, .long 1, .long 0]))] [] sz [.ref xq2]) (va_Qi (fun (r : Int32) (u : va_W × List (ClassId × FieldType)) => u = ([(xq2, .inr (5, [.ref xq9, .ref xq10, .ref xq11, .ref xq12, .ref xq13, .ref xq14, .ref xq15, .ref xq16, .ref xq17, .ref xq18, .ref xq19, .int 0, .int 0])), (xq35, .inr (4, [.ref xq42, .long 1, .long 0])), (xq19, .inr (0, [.ref xq35, .ref xq36, .ref xq37, .ref xq38, .ref xq39, .ref xq40, .ref xq41, .int 0, .int 0]))], []) ∧ r = 0) (z_B dC dI (va_A [(xq2, .inr (5, [.ref xq9, .ref xq10, .ref xq11, .ref xq12, .ref xq13, .ref xq14, .ref xq15, .ref xq16, .ref xq17, .ref xq18, .ref xq19, .int 0, .int 0])), (xq19, .inr (0, [.ref xq35, .ref xq36, .ref xq37, .ref xq38, .ref xq39, .ref xq40, .ref xq41, .int 0, .int 0])), (xq35, .inr (4, [.ref xq42, .long 1, .long 0]))] sz)) (va_A [(xq2, .inr (5, [.ref xq9, .ref xq10, .ref xq11, .ref xq12, .ref xq13, .ref xq14, .ref xq15, .ref xq16, .ref xq17, .ref xq18, .ref xq19, .int 0, .int 0])), (xq19, .inr (0, [.ref xq35, .ref xq36, .ref xq37, .ref xq38, .ref xq39, .ref xq40, .ref xq41, .int 0, .int 0])), (xq35, .inr (4, [.ref xq42, .long 1, .long 0]))] sz)) 0 0 (va_A [(xq2, .inr (5, [.ref xq9, .ref xq10, .ref xq11, .ref xq12, .ref xq13, .ref xq14, .ref xq15, .ref xq16, .ref xq17, .ref xq18, .ref xq19, .int 0, .int 0])), (xq19, .inr (0, [.ref xq35, .ref xq36, .ref xq37, .ref xq38, .ref xq39, .ref xq40, .ref xq41, .int 0, .int 0])), (xq35, .inr (4, [.ref xq42, .long 1, .long 0]))] sz) := by
  refine Met.ofW (cc := cX5_clashingRows) (maxL := 4) (ret := (some .int)) (by decide) rfl ?_
  intro p e s m args below meth c s₁ B hml hv
  obtain ⟨rfl, rfl, I⟩ := z_open hv
  have hx := B.exec
  have hb := B.bytes
  have hr := B.returns
  have hts := atoms_spec (ws := z_w yX5_clashingRows cX5_clashingRows 4 (some .int)) B.pre
  have hg : z_G _ s := z_G.of hts
  have hown : s.vm.findClass RX5 = some m.cls := findClass_of_methodNamed B.named
  have hlocks := B.notSynchronized
  generalize va_A [(xq2, .inr (5, [.ref xq9, .ref xq10, .ref xq11, .ref xq12, .ref xq13, .ref xq14, .ref xq15, .ref xq16, .ref xq17, .ref xq18, .ref xq19, .int 0, .int 0])), (xq19, .inr (0, [.ref xq35, .ref xq36, .ref xq37, .ref xq38, .ref xq39, .ref xq40, .ref xq41, .int 0, .int 0])), (xq35, .inr (4, [.ref xq42, .long 1, .long 0]))] s.heap.size = A at I ⊢
  have hl := lv_entry ([.ref xq2]) (n := 4) (Nat.le_of_ble_eq_true rfl)
  rw [lg_entry_eq]
  generalize (lg_sl ([.ref xq2]) ++ List.replicate (4 - (lg_sl ([.ref xq2])).length) Slot.unset).toArray = ls at hl ⊢
  have hl : lv_has ls 4 [(0, .ref xq2)] := hl
  refine lv_iconst (v := 1) hx hb dX5_clashingRows_0 (by decide) ?_
  refine lv_aload_n hx hb dX5_clashingRows_1 rfl (lv_at hl 0 rfl) ?_
  refine z_get (C := RX5) (T := TX5) (N := 13) (ci := 5) (v := .int 0) hx hb hg hown I iw_5 0 rfl rfl 12 (by decide) mw174 rfl dX5_clashingRows_2 ?_
  refine lv_ishl hx hb dX5_clashingRows_5 ?_
  refine lv_topi (fun w1 ew1 => ?_)
  obtain rfl : w1 = 1 := ew1.trans (by decide)
  refine lv_iconst (v := 1) hx hb dX5_clashingRows_6 (by decide) ?_
  refine lv_isub hx hb dX5_clashingRows_7 ?_
  refine lv_topi (fun w2 ew2 => ?_)
  obtain rfl : w2 = 0 := ew2.trans (by decide)
  refine lv_istore_n (lv' := [(1, .int 0), (0, .ref xq2)]) hx hb dX5_clashingRows_8 rfl hl (by decide) rfl (fun ls hl => ?_)
  refine lv_aload_n hx hb dX5_clashingRows_9 rfl (lv_at hl 1 rfl) ?_
  refine lv_iload_n hx hb dX5_clashingRows_10 rfl (lv_at hl 0 rfl) ?_
  refine z_calli (wr := []) (va_runV (As := [.int 0]) (rest := []) ⟨hx, hb, hml, hown, hts⟩ (z_RX5_canHoldTogether l dC dI xq2 xq9 xq10 xq11 xq12 xq13 xq14 xq15 xq16 xq17 xq18 xq19 xq35 xq36 xq37 xq38 xq39 xq40 xq41 xq42  s.heap.size) (cwV 1 hts (z_gV z_T.w mw682 mw684 mwp10 mw3 mw685) rfl rfl rfl (by decide +kernel) ⟨Nat.le_of_ble_eq_true rfl, Nat.le_of_ble_eq_true rfl⟩) (z_preV I [0, 1, 2] [] rfl rfl rfl rfl (ci := 5) (q0 := 0) rfl rfl) rfl rfl hl.1 rfl (lv_room (Nat.le_of_ble_eq_true rfl)) dX5_clashingRows_11 ⟨Nat.le_of_ble_eq_true rfl, Nat.le_of_ble_eq_true rfl⟩) I [0, 1, 2] [] rfl rfl (by decide) (by decide) (fun r3 u3 H locs hw3 I => ?_)
  obtain ⟨hu3, hp3⟩ := hw3
  subst hu3
  have I : z_I A dC dI [(xq2, .inr (5, [.ref xq9, .ref xq10, .ref xq11, .ref xq12, .ref xq13, .ref xq14, .ref xq15, .ref xq16, .ref xq17, .ref xq18, .ref xq19, .int 0, .int 0])), (xq35, .inr (4, [.ref xq42, .long 1, .long 0])), (xq19, .inr (0, [.ref xq35, .ref xq36, .ref xq37, .ref xq38, .ref xq39, .ref xq40, .ref xq41, .int 0, .int 0]))] [] s H _ := I
  obtain rfl : r3 = 1 := hp3
  refine lv_if_eq (tgt := 19) hx hb dX5_clashingRows_14 (by decide) (fun c9 => absurd c9 (by decide)) (fun _ => ?_)
  refine lv_iconst (v := 0) hx hb dX5_clashingRows_17 (by decide) ?_
  have I := I.subT (t' := []) [] rfl
  refine W.widen (k := 0) (n := 0) (Nat.le_of_ble_eq_true rfl) (Nat.le_of_ble_eq_true rfl) ?_
  exact z_iret hx hb hr hlocks I ⟨rfl, rfl⟩ dX5_clashingRows_18
set_option maxHeartbeats 4000000 in
set_option maxRecDepth 100000 in
theorem z_RX4_setWhole (l : Launch) (dC : Nat → ClassId) (dI : Nat → Nat → Nat) (xq18 : Nat) (xq32 : Nat) (xc33 : ClassId) (xf34 : Nat → Int64) (p0 : Int32) (p1 : Int32) (p2 : Int32) (p3 : Int32) (sz : Nat) : Met l yX4_setWhole (z_w yX4_setWhole cX4_setWhole 5 none) ({ frames := 8, cells := 0, slots := 0, locals := 140 }) (z_P dC dI [(xq18, .inr (4, [.ref xq32, .long 1, .long 0])), (xq32, .inl (xc33, 4, .inr (.inl xf34)))] [(xc33, .long)] sz [.ref xq18, .int p0, .int p1, .int p2, .int p3]) (va_Qv (fun u : va_W × List (ClassId × FieldType) => ∃ (xf1 : Nat → Int64), u = ([(xq18, .inr (4, [.ref xq32, .long 1, .long 0])), (xq32, .inl (xc33, 4, .inr (.inl xf1)))], []) ∧ True) (z_B dC dI (va_A [(xq18, .inr (4, [.ref xq32, .long 1, .long 0])), (xq32, .inl (xc33, 4, .inr (.inl xf34)))] sz)) (va_A [(xq18, .inr (4, [.ref xq32, .long 1, .long 0])), (xq32, .inl (xc33, 4, .inr (.inl xf34)))] sz)) 0 0 (va_A [(xq18, .inr (4, [.ref xq32, .long 1, .long 0])), (xq32, .inl (xc33, 4, .inr (.inl xf34)))] sz) := by
  refine Met.ofW (cc := cX4_setWhole) (maxL := 5) (ret := none) (by decide) rfl ?_
  intro p e s m args below meth c s₁ B hml hv
  obtain ⟨rfl, rfl, I⟩ := z_open hv
  have hx := B.exec
  have hb := B.bytes
  have hr := B.returns
  have hts := atoms_spec (ws := z_w yX4_setWhole cX4_setWhole 5 none) B.pre
  have hg : z_G _ s := z_G.of hts
  have hown : s.vm.findClass RX4 = some m.cls := findClass_of_methodNamed B.named
  have hlocks := B.notSynchronized
  generalize va_A [(xq18, .inr (4, [.ref xq32, .long 1, .long 0])), (xq32, .inl (xc33, 4, .inr (.inl xf34)))] s.heap.size = A at I ⊢
  have hl := lv_entry ([.ref xq18, .int p0, .int p1, .int p2, .int p3]) (n := 5) (Nat.le_of_ble_eq_true rfl)
  rw [lg_entry_eq]
  generalize (lg_sl ([.ref xq18, .int p0, .int p1, .int p2, .int p3]) ++ List.replicate (5 - (lg_sl ([.ref xq18, .int p0, .int p1, .int p2, .int p3])).length) Slot.unset).toArray = ls at hl ⊢
  have hl : lv_has ls 5 [(0, .ref xq18), (1, .int p0), (2, .int p1), (3, .int p2), (4, .int p3)] := hl
  refine lv_aload_n hx hb dX4_setWhole_0 rfl (lv_at hl 0 rfl) ?_
  refine z_get (C := RX4) (T := TX4) (N := 3) (ci := 4) (v := .ref xq32) hx hb hg hown I iw_4 0 rfl rfl 0 (by decide) mw56 rfl dX4_setWhole_1 ?_
  refine lv_iconst (v := 0) hx hb dX4_setWhole_4 (by decide) ?_
  refine lv_iload_n hx hb dX4_setWhole_5 rfl (lv_at hl 1 rfl) ?_
  refine lv_i2l (v := (p0).toInt64) hx hb dX4_setWhole_6 rfl ?_
  refine z_last hx hb I 1 0 rfl rfl (by unfold vp_in; decide) dX4_setWhole_7 (fun g1 H locs eg1 I => ?_)
  have I : z_I A dC dI [(xq18, .inr (4, [.ref xq32, .long 1, .long 0])), (xq32, .inl (xc33, 4, .inr (.inl g1)))] [(xc33, .long)] s H _ := I
  refine lv_aload_n hx hb dX4_setWhole_8 rfl (lv_at hl 0 rfl) ?_
  refine z_get (C := RX4) (T := TX4) (N := 3) (ci := 4) (v := .ref xq32) hx hb hg hown I iw_4 0 rfl rfl 0 (by decide) mw56 rfl dX4_setWhole_9 ?_
  refine lv_iconst (v := 1) hx hb dX4_setWhole_12 (by decide) ?_
  refine lv_iload_n hx hb dX4_setWhole_13 rfl (lv_at hl 2 rfl) ?_
  refine lv_i2l (v := (p1).toInt64) hx hb dX4_setWhole_14 rfl ?_
  refine z_last hx hb I 1 0 rfl rfl (by unfold vp_in; decide) dX4_setWhole_15 (fun g2 H locs eg2 I => ?_)
  have I : z_I A dC dI [(xq18, .inr (4, [.ref xq32, .long 1, .long 0])), (xq32, .inl (xc33, 4, .inr (.inl g2)))] [(xc33, .long)] s H _ := I
  refine lv_aload_n hx hb dX4_setWhole_16 rfl (lv_at hl 0 rfl) ?_
  refine z_get (C := RX4) (T := TX4) (N := 3) (ci := 4) (v := .ref xq32) hx hb hg hown I iw_4 0 rfl rfl 0 (by decide) mw56 rfl dX4_setWhole_17 ?_
  refine lv_iconst (v := 2) hx hb dX4_setWhole_20 (by decide) ?_
  refine lv_iload_n hx hb dX4_setWhole_21 rfl (lv_at hl 3 rfl) ?_
  refine lv_i2l (v := (p2).toInt64) hx hb dX4_setWhole_22 rfl ?_
  refine z_last hx hb I 1 0 rfl rfl (by unfold vp_in; decide) dX4_setWhole_23 (fun g3 H locs eg3 I => ?_)
  have I : z_I A dC dI [(xq18, .inr (4, [.ref xq32, .long 1, .long 0])), (xq32, .inl (xc33, 4, .inr (.inl g3)))] [(xc33, .long)] s H _ := I
  refine lv_aload_n hx hb dX4_setWhole_24 rfl (lv_at hl 0 rfl) ?_
  refine z_get (C := RX4) (T := TX4) (N := 3) (ci := 4) (v := .ref xq32) hx hb hg hown I iw_4 0 rfl rfl 0 (by decide) mw56 rfl dX4_setWhole_25 ?_
  refine lv_iconst (v := 3) hx hb dX4_setWhole_28 (by decide) ?_
  refine lv_iload hx hb dX4_setWhole_29 (lv_at hl 4 rfl) ?_
  refine lv_i2l (v := (p3).toInt64) hx hb dX4_setWhole_31 rfl ?_
  refine z_last hx hb I 1 0 rfl rfl (by unfold vp_in; decide) dX4_setWhole_32 (fun g4 H locs eg4 I => ?_)
  have I : z_I A dC dI [(xq18, .inr (4, [.ref xq32, .long 1, .long 0])), (xq32, .inl (xc33, 4, .inr (.inl g4)))] [(xc33, .long)] s H _ := I
  refine lv_aload_n hx hb dX4_setWhole_33 rfl (lv_at hl 0 rfl) ?_
  refine lv_lconst (v := 1) hx hb dX4_setWhole_34 (by decide) ?_
  refine z_put (C := RX4) (T := TX4) (N := 3) (ci := 4) (v := .long 1) hx hb hg hown I iw_4 tyX4 tyX4_ok nmX4 0 rfl rfl 1 (by decide) mw61 rfl rfl rfl (Nat.le_of_ble_eq_true rfl) dX4_setWhole_35 [(xq18, .inr (4, [.ref xq32, .long 1, .long 0])), (xq32, .inl (xc33, 4, .inr (.inl g4)))] rfl (fun H locs I => ?_)
  have I := I.subT (t' := []) [] rfl
  refine W.widen (k := 0) (n := 0) (Nat.le_of_ble_eq_true rfl) (Nat.le_of_ble_eq_true rfl) ?_
  exact z_vret hx hb hr hlocks I ⟨g4, rfl, trivial⟩ dX4_setWhole_38
set_option maxHeartbeats 4000000 in
set_option maxRecDepth 100000 in
theorem z_RX6_setFactors (l : Launch) (dC : Nat → ClassId) (dI : Nat → Nat → Nat) (xq31 : Nat) (xq45 : Nat) (xc46 : ClassId) (xf47 : Nat → Int32) (w1 : Int32) (w2 : Int32) (p0 : Int32) (p1 : Int32) (p2 : Int32) (p3 : Int32) (sz : Nat) : Met l yX6_setFactors (z_w yX6_setFactors cX6_setFactors 5 none) ({ frames := 8, cells := 0, slots := 0, locals := 140 }) (z_P dC dI [(xq31, .inr (6, [.ref xq45, .int w1, .int w2])), (xq45, .inl (xc46, 4, .inl xf47))] [(xc46, .int)] sz [.ref xq31, .int p0, .int p1, .int p2, .int p3]) (va_Qv (fun u : va_W × List (ClassId × FieldType) => ∃ (xf1 : Nat → Int32), u = ([(xq31, .inr (6, [.ref xq45, .int w1, .int w2])), (xq45, .inl (xc46, 4, .inl xf1))], []) ∧ True) (z_B dC dI (va_A [(xq31, .inr (6, [.ref xq45, .int w1, .int w2])), (xq45, .inl (xc46, 4, .inl xf47))] sz)) (va_A [(xq31, .inr (6, [.ref xq45, .int w1, .int w2])), (xq45, .inl (xc46, 4, .inl xf47))] sz)) 0 0 (va_A [(xq31, .inr (6, [.ref xq45, .int w1, .int w2])), (xq45, .inl (xc46, 4, .inl xf47))] sz) := by
  refine Met.ofW (cc := cX6_setFactors) (maxL := 5) (ret := none) (by decide) rfl ?_
  intro p e s m args below meth c s₁ B hml hv
  obtain ⟨rfl, rfl, I⟩ := z_open hv
  have hx := B.exec
  have hb := B.bytes
  have hr := B.returns
  have hts := atoms_spec (ws := z_w yX6_setFactors cX6_setFactors 5 none) B.pre
  have hg : z_G _ s := z_G.of hts
  have hown : s.vm.findClass RX6 = some m.cls := findClass_of_methodNamed B.named
  have hlocks := B.notSynchronized
  generalize va_A [(xq31, .inr (6, [.ref xq45, .int w1, .int w2])), (xq45, .inl (xc46, 4, .inl xf47))] s.heap.size = A at I ⊢
  have hl := lv_entry ([.ref xq31, .int p0, .int p1, .int p2, .int p3]) (n := 5) (Nat.le_of_ble_eq_true rfl)
  rw [lg_entry_eq]
  generalize (lg_sl ([.ref xq31, .int p0, .int p1, .int p2, .int p3]) ++ List.replicate (5 - (lg_sl ([.ref xq31, .int p0, .int p1, .int p2, .int p3])).length) Slot.unset).toArray = ls at hl ⊢
  have hl : lv_has ls 5 [(0, .ref xq31), (1, .int p0), (2, .int p1), (3, .int p2), (4, .int p3)] := hl
  refine lv_aload_n hx hb dX6_setFactors_0 rfl (lv_at hl 0 rfl) ?_
  refine z_get (C := RX6) (T := TX6) (N := 3) (ci := 6) (v := .ref xq45) hx hb hg hown I iw_6 0 rfl rfl 0 (by decide) mw124 rfl dX6_setFactors_1 ?_
  refine lv_iconst (v := 0) hx hb dX6_setFactors_4 (by decide) ?_
  refine lv_iload_n hx hb dX6_setFactors_5 rfl (lv_at hl 1 rfl) ?_
  refine z_iast hx hb I 1 0 rfl rfl (by unfold vp_in; decide) dX6_setFactors_6 (fun g1 H locs eg1 I => ?_)
  have I : z_I A dC dI [(xq31, .inr (6, [.ref xq45, .int w1, .int w2])), (xq45, .inl (xc46, 4, .inl g1))] [(xc46, .int)] s H _ := I
  refine lv_aload_n hx hb dX6_setFactors_7 rfl (lv_at hl 0 rfl) ?_
  refine z_get (C := RX6) (T := TX6) (N := 3) (ci := 6) (v := .ref xq45) hx hb hg hown I iw_6 0 rfl rfl 0 (by decide) mw124 rfl dX6_setFactors_8 ?_
  refine lv_iconst (v := 1) hx hb dX6_setFactors_11 (by decide) ?_
  refine lv_iload_n hx hb dX6_setFactors_12 rfl (lv_at hl 2 rfl) ?_
  refine z_iast hx hb I 1 0 rfl rfl (by unfold vp_in; decide) dX6_setFactors_13 (fun g2 H locs eg2 I => ?_)
  have I : z_I A dC dI [(xq31, .inr (6, [.ref xq45, .int w1, .int w2])), (xq45, .inl (xc46, 4, .inl g2))] [(xc46, .int)] s H _ := I
  refine lv_aload_n hx hb dX6_setFactors_14 rfl (lv_at hl 0 rfl) ?_
  refine z_get (C := RX6) (T := TX6) (N := 3) (ci := 6) (v := .ref xq45) hx hb hg hown I iw_6 0 rfl rfl 0 (by decide) mw124 rfl dX6_setFactors_15 ?_
  refine lv_iconst (v := 2) hx hb dX6_setFactors_18 (by decide) ?_
  refine lv_iload_n hx hb dX6_setFactors_19 rfl (lv_at hl 3 rfl) ?_
  refine z_iast hx hb I 1 0 rfl rfl (by unfold vp_in; decide) dX6_setFactors_20 (fun g3 H locs eg3 I => ?_)
  have I : z_I A dC dI [(xq31, .inr (6, [.ref xq45, .int w1, .int w2])), (xq45, .inl (xc46, 4, .inl g3))] [(xc46, .int)] s H _ := I
  refine lv_aload_n hx hb dX6_setFactors_21 rfl (lv_at hl 0 rfl) ?_
  refine z_get (C := RX6) (T := TX6) (N := 3) (ci := 6) (v := .ref xq45) hx hb hg hown I iw_6 0 rfl rfl 0 (by decide) mw124 rfl dX6_setFactors_22 ?_
  refine lv_iconst (v := 3) hx hb dX6_setFactors_25 (by decide) ?_
  refine lv_iload hx hb dX6_setFactors_26 (lv_at hl 4 rfl) ?_
  refine z_iast hx hb I 1 0 rfl rfl (by unfold vp_in; decide) dX6_setFactors_28 (fun g4 H locs eg4 I => ?_)
  have I : z_I A dC dI [(xq31, .inr (6, [.ref xq45, .int w1, .int w2])), (xq45, .inl (xc46, 4, .inl g4))] [(xc46, .int)] s H _ := I
  have I := I.subT (t' := []) [] rfl
  refine W.widen (k := 0) (n := 0) (Nat.le_of_ble_eq_true rfl) (Nat.le_of_ble_eq_true rfl) ?_
  exact z_vret hx hb hr hlocks I ⟨g4, rfl, trivial⟩ dX6_setFactors_29
set_option maxHeartbeats 4000000 in
set_option maxRecDepth 100000 in
theorem z_RX5_price (l : Launch) (dC : Nat → ClassId) (dI : Nat → Nat → Nat) (xq2 : Nat) (xq9 : Nat) (xq10 : Nat) (xq11 : Nat) (xq12 : Nat) (xq13 : Nat) (xq14 : Nat) (xq15 : Nat) (xq16 : Nat) (xq17 : Nat) (xq18 : Nat) (xq19 : Nat) (xq32 : Nat) (sz : Nat) : Met l yX5_price (z_w yX5_price cX5_price 5 none) ({ frames := 8, cells := 0, slots := 0, locals := 140 }) (z_P dC dI [(xq2, .inr (5, [.ref xq9, .ref xq10, .ref xq11, .ref xq12, .ref xq13, .ref xq14, .ref xq15, .ref xq16, .ref xq17, .ref xq18, .ref xq19, .int 0, .int 0])), (xq18, .inr (4, [.ref xq32, .long 1, .long 0]))] [] sz [.ref xq2, .ref xq18]) (va_Qv (fun u : va_W × List (ClassId × FieldType) => u = ([(xq2, .inr (5, [.ref xq9, .ref xq10, .ref xq11, .ref xq12, .ref xq13, .ref xq14, .ref xq15, .ref xq16, .ref xq17, .ref xq18, .ref xq19, .int 0, .int 0])), (xq18, .inr (4, [.ref xq32, .long 1, .long 0]))], []) ∧ True) (z_B dC dI (va_A [(xq2, .inr (5, [.ref xq9, .ref xq10, .ref xq11, .ref xq12, .ref xq13, .ref xq14, .ref xq15, .ref xq16, .ref xq17, .ref xq18, .ref xq19, .int 0, .int 0])), (xq18, .inr (4, [.ref xq32, .long 1, .long 0]))] sz)) (va_A [(xq2, .inr (5, [.ref xq9, .ref xq10, .ref xq11, .ref xq12, .ref xq13, .ref xq14, .ref xq15, .ref xq16, .ref xq17, .ref xq18, .ref xq19, .int 0, .int 0])), (xq18, .inr (4, [.ref xq32, .long 1, .long 0]))] sz)) 0 0 (va_A [(xq2, .inr (5, [.ref xq9, .ref xq10, .ref xq11, .ref xq12, .ref xq13, .ref xq14, .ref xq15, .ref xq16, .ref xq17, .ref xq18, .ref xq19, .int 0, .int 0])), (xq18, .inr (4, [.ref xq32, .long 1, .long 0]))] sz) := by
  refine Met.ofW (cc := cX5_price) (maxL := 5) (ret := none) (by decide) rfl ?_
  intro p e s m args below meth c s₁ B hml hv
  obtain ⟨rfl, rfl, I⟩ := z_open hv
  have hx := B.exec
  have hb := B.bytes
  have hr := B.returns
  have hts := atoms_spec (ws := z_w yX5_price cX5_price 5 none) B.pre
  have hg : z_G _ s := z_G.of hts
  have hown : s.vm.findClass RX5 = some m.cls := findClass_of_methodNamed B.named
  have hlocks := B.notSynchronized
  generalize va_A [(xq2, .inr (5, [.ref xq9, .ref xq10, .ref xq11, .ref xq12, .ref xq13, .ref xq14, .ref xq15, .ref xq16, .ref xq17, .ref xq18, .ref xq19, .int 0, .int 0])), (xq18, .inr (4, [.ref xq32, .long 1, .long 0]))] s.heap.size = A at I ⊢
  have hl := lv_entry ([.ref xq2, .ref xq18]) (n := 5) (Nat.le_of_ble_eq_true rfl)
  rw [lg_entry_eq]
  generalize (lg_sl ([.ref xq2, .ref xq18]) ++ List.replicate (5 - (lg_sl ([.ref xq2, .ref xq18])).length) Slot.unset).toArray = ls at hl ⊢
  have hl : lv_has ls 5 [(0, .ref xq2), (1, .ref xq18)] := hl
  refine lv_lconst (v := 0) hx hb dX5_price_0 (by decide) ?_
  refine lv_lstore_n (lv' := [(2, .long 0), (0, .ref xq2), (1, .ref xq18)]) hx hb dX5_price_1 rfl hl (by decide) rfl (fun ls hl => ?_)
  refine lv_iconst (v := 0) hx hb dX5_price_2 (by decide) ?_
  refine lv_istore (lv' := [(4, .int 0), (2, .long 0), (0, .ref xq2), (1, .ref xq18)]) hx hb dX5_price_3 hl (by decide) rfl (fun ls hl => ?_)
  refine lv_iload hx hb dX5_price_5 (lv_at hl 0 rfl) ?_
  refine lv_aload_n hx hb dX5_price_7 rfl (lv_at hl 2 rfl) ?_
  refine z_get (C := RX5) (T := TX5) (N := 13) (ci := 5) (v := .int 0) hx hb hg hown I iw_5 0 rfl rfl 11 (by decide) mw170 rfl dX5_price_8 ?_
  refine lv_icmp_ge (tgt := 39) hx hb dX5_price_11 (by decide) (fun _ => ?_) (fun c9 => absurd c9 (by decide))
  refine lv_aload_n hx hb dX5_price_39 rfl (lv_at hl 3 rfl) ?_
  refine lv_lload_n hx hb dX5_price_40 rfl (lv_at hl 1 rfl) ?_
  refine z_put (C := RX4) (T := TX4) (N := 3) (ci := 4) (v := .long 0) hx hb hg hown I iw_4 tyX4 tyX4_ok nmX4 1 rfl rfl 2 (by decide) mw67 rfl rfl rfl (Nat.le_of_ble_eq_true rfl) dX5_price_41 [(xq2, .inr (5, [.ref xq9, .ref xq10, .ref xq11, .ref xq12, .ref xq13, .ref xq14, .ref xq15, .ref xq16, .ref xq17, .ref xq18, .ref xq19, .int 0, .int 0])), (xq18, .inr (4, [.ref xq32, .long 1, .long 0]))] rfl (fun H locs I => ?_)
  have I := I.subT (t' := []) [] rfl
  refine W.widen (k := 0) (n := 0) (Nat.le_of_ble_eq_true rfl) (Nat.le_of_ble_eq_true rfl) ?_
  exact z_vret hx hb hr hlocks I ⟨rfl, trivial⟩ dX5_price_44
set_option maxHeartbeats 4000000 in
set_option maxRecDepth 100000 in
theorem z_RX5_keepsRows (l : Launch) (dC : Nat → ClassId) (dI : Nat → Nat → Nat) (xq2 : Nat) (xq9 : Nat) (xq10 : Nat) (xq11 : Nat) (xq12 : Nat) (xq13 : Nat) (xq14 : Nat) (xq15 : Nat) (xq16 : Nat) (xq17 : Nat) (xq18 : Nat) (xq19 : Nat) (sz : Nat) : Met l yX5_keepsRows (z_w yX5_keepsRows cX5_keepsRows 3 (some .boolean)) ({ frames := 8, cells := 0, slots := 0, locals := 140 }) (z_P dC dI [(xq2, .inr (5, [.ref xq9, .ref xq10, .ref xq11, .ref xq12, .ref xq13, .ref xq14, .ref xq15, .ref xq16, .ref xq17, .ref xq18, .ref xq19, .int 0, .int 0]))] [] sz [.ref xq2, .ref xq18]) (va_Qi (fun (r : Int32) (u : va_W × List (ClassId × FieldType)) => u = ([(xq2, .inr (5, [.ref xq9, .ref xq10, .ref xq11, .ref xq12, .ref xq13, .ref xq14, .ref xq15, .ref xq16, .ref xq17, .ref xq18, .ref xq19, .int 0, .int 0]))], []) ∧ r = 1) (z_B dC dI (va_A [(xq2, .inr (5, [.ref xq9, .ref xq10, .ref xq11, .ref xq12, .ref xq13, .ref xq14, .ref xq15, .ref xq16, .ref xq17, .ref xq18, .ref xq19, .int 0, .int 0]))] sz)) (va_A [(xq2, .inr (5, [.ref xq9, .ref xq10, .ref xq11, .ref xq12, .ref xq13, .ref xq14, .ref xq15, .ref xq16, .ref xq17, .ref xq18, .ref xq19, .int 0, .int 0]))] sz)) 0 0 (va_A [(xq2, .inr (5, [.ref xq9, .ref xq10, .ref xq11, .ref xq12, .ref xq13, .ref xq14, .ref xq15, .ref xq16, .ref xq17, .ref xq18, .ref xq19, .int 0, .int 0]))] sz) := by
  refine Met.ofW (cc := cX5_keepsRows) (maxL := 3) (ret := (some .boolean)) (by decide) rfl ?_
  intro p e s m args below meth c s₁ B hml hv
  obtain ⟨rfl, rfl, I⟩ := z_open hv
  have hx := B.exec
  have hb := B.bytes
  have hr := B.returns
  have hts := atoms_spec (ws := z_w yX5_keepsRows cX5_keepsRows 3 (some .boolean)) B.pre
  have hg : z_G _ s := z_G.of hts
  have hown : s.vm.findClass RX5 = some m.cls := findClass_of_methodNamed B.named
  have hlocks := B.notSynchronized
  generalize va_A [(xq2, .inr (5, [.ref xq9, .ref xq10, .ref xq11, .ref xq12, .ref xq13, .ref xq14, .ref xq15, .ref xq16, .ref xq17, .ref xq18, .ref xq19, .int 0, .int 0]))] s.heap.size = A at I ⊢
  have hl := lv_entry ([.ref xq2, .ref xq18]) (n := 3) (Nat.le_of_ble_eq_true rfl)
  rw [lg_entry_eq]
  generalize (lg_sl ([.ref xq2, .ref xq18]) ++ List.replicate (3 - (lg_sl ([.ref xq2, .ref xq18])).length) Slot.unset).toArray = ls at hl ⊢
  have hl : lv_has ls 3 [(0, .ref xq2), (1, .ref xq18)] := hl
  refine lv_iconst (v := 0) hx hb dX5_keepsRows_0 (by decide) ?_
  refine lv_istore_n (lv' := [(2, .int 0), (0, .ref xq2), (1, .ref xq18)]) hx hb dX5_keepsRows_1 rfl hl (by decide) rfl (fun ls hl => ?_)
  refine lv_iload_n hx hb dX5_keepsRows_2 rfl (lv_at hl 0 rfl) ?_
  refine lv_aload_n hx hb dX5_keepsRows_3 rfl (lv_at hl 1 rfl) ?_
  refine z_get (C := RX5) (T := TX5) (N := 13) (ci := 5) (v := .int 0) hx hb hg hown I iw_5 0 rfl rfl 12 (by decide) mw174 rfl dX5_keepsRows_4 ?_
  refine lv_icmp_ge (tgt := 31) hx hb dX5_keepsRows_7 (by decide) (fun _ => ?_) (fun c9 => absurd c9 (by decide))
  refine lv_iconst (v := 1) hx hb dX5_keepsRows_31 (by decide) ?_
  have I := I.subT (t' := []) [] rfl
  refine W.widen (k := 0) (n := 0) (Nat.le_of_ble_eq_true rfl) (Nat.le_of_ble_eq_true rfl) ?_
  exact z_zret hx hb hr hlocks rfl I ⟨rfl, rfl⟩ dX5_keepsRows_32
set_option maxHeartbeats 4000000 in
set_option maxRecDepth 100000 in
theorem z_RX5_advanceTrial (l : Launch) (dC : Nat → ClassId) (dI : Nat → Nat → Nat) (xq2 : Nat) (xq9 : Nat) (xq10 : Nat) (xq11 : Nat) (xq12 : Nat) (xq13 : Nat) (xq14 : Nat) (xq15 : Nat) (xq16 : Nat) (xq17 : Nat) (xq18 : Nat) (xq19 : Nat) (sz : Nat) : Met l yX5_advanceTrial (z_w yX5_advanceTrial cX5_advanceTrial 2 none) ({ frames := 8, cells := 0, slots := 0, locals := 140 }) (z_P dC dI [(xq2, .inr (5, [.ref xq9, .ref xq10, .ref xq11, .ref xq12, .ref xq13, .ref xq14, .ref xq15, .ref xq16, .ref xq17, .ref xq18, .ref xq19, .int 0, .int 0]))] [] sz [.ref xq2]) (va_Qv (fun u : va_W × List (ClassId × FieldType) => u = ([(xq2, .inr (5, [.ref xq9, .ref xq10, .ref xq11, .ref xq12, .ref xq13, .ref xq14, .ref xq15, .ref xq16, .ref xq17, .ref xq18, .ref xq19, .int 0, .int 0]))], []) ∧ True) (z_B dC dI (va_A [(xq2, .inr (5, [.ref xq9, .ref xq10, .ref xq11, .ref xq12, .ref xq13, .ref xq14, .ref xq15, .ref xq16, .ref xq17, .ref xq18, .ref xq19, .int 0, .int 0]))] sz)) (va_A [(xq2, .inr (5, [.ref xq9, .ref xq10, .ref xq11, .ref xq12, .ref xq13, .ref xq14, .ref xq15, .ref xq16, .ref xq17, .ref xq18, .ref xq19, .int 0, .int 0]))] sz)) 0 0 (va_A [(xq2, .inr (5, [.ref xq9, .ref xq10, .ref xq11, .ref xq12, .ref xq13, .ref xq14, .ref xq15, .ref xq16, .ref xq17, .ref xq18, .ref xq19, .int 0, .int 0]))] sz) := by
  refine Met.ofW (cc := cX5_advanceTrial) (maxL := 2) (ret := none) (by decide) rfl ?_
  intro p e s m args below meth c s₁ B hml hv
  obtain ⟨rfl, rfl, I⟩ := z_open hv
  have hx := B.exec
  have hb := B.bytes
  have hr := B.returns
  have hts := atoms_spec (ws := z_w yX5_advanceTrial cX5_advanceTrial 2 none) B.pre
  have hg : z_G _ s := z_G.of hts
  have hown : s.vm.findClass RX5 = some m.cls := findClass_of_methodNamed B.named
  have hlocks := B.notSynchronized
  generalize va_A [(xq2, .inr (5, [.ref xq9, .ref xq10, .ref xq11, .ref xq12, .ref xq13, .ref xq14, .ref xq15, .ref xq16, .ref xq17, .ref xq18, .ref xq19, .int 0, .int 0]))] s.heap.size = A at I ⊢
  have hl := lv_entry ([.ref xq2]) (n := 2) (Nat.le_of_ble_eq_true rfl)
  rw [lg_entry_eq]
  generalize (lg_sl ([.ref xq2]) ++ List.replicate (2 - (lg_sl ([.ref xq2])).length) Slot.unset).toArray = ls at hl ⊢
  have hl : lv_has ls 2 [(0, .ref xq2)] := hl
  refine lv_iconst (v := 0) hx hb dX5_advanceTrial_0 (by decide) ?_
  refine lv_istore_n (lv' := [(1, .int 0), (0, .ref xq2)]) hx hb dX5_advanceTrial_1 rfl hl (by decide) rfl (fun ls hl => ?_)
  refine lv_iload_n hx hb dX5_advanceTrial_2 rfl (lv_at hl 0 rfl) ?_
  refine lv_aload_n hx hb dX5_advanceTrial_3 rfl (lv_at hl 1 rfl) ?_
  refine z_get (C := RX5) (T := TX5) (N := 13) (ci := 5) (v := .int 0) hx hb hg hown I iw_5 0 rfl rfl 11 (by decide) mw170 rfl dX5_advanceTrial_4 ?_
  refine lv_icmp_ge (tgt := 66) hx hb dX5_advanceTrial_7 (by decide) (fun _ => ?_) (fun c9 => absurd c9 (by decide))
  have I := I.subT (t' := []) [] rfl
  refine W.widen (k := 0) (n := 0) (Nat.le_of_ble_eq_true rfl) (Nat.le_of_ble_eq_true rfl) ?_
  exact z_vret hx hb hr hlocks I ⟨rfl, trivial⟩ dX5_advanceTrial_66
set_option maxHeartbeats 4000000 in
set_option maxRecDepth 100000 in
theorem z_RX5_leastCost (l : Launch) (dC : Nat → ClassId) (dI : Nat → Nat → Nat) (xq2 : Nat) (xq9 : Nat) (xq10 : Nat) (xq11 : Nat) (xq12 : Nat) (xq13 : Nat) (xq14 : Nat) (xq15 : Nat) (xq16 : Nat) (xq17 : Nat) (xq18 : Nat) (xq19 : Nat) (xf21 : Nat → Int32) (xc22 : ClassId) (xq32 : Nat) (xc33 : ClassId) (xf34 : Nat → Int64) (sz : Nat) : Met l yX5_leastCost (z_w yX5_leastCost cX5_leastCost 4 (some .int)) ({ frames := 10, cells := 0, slots := 0, locals := 200 }) (z_P dC dI [(xq2, .inr (5, [.ref xq9, .ref xq10, .ref xq11, .ref xq12, .ref xq13, .ref xq14, .ref xq15, .ref xq16, .ref xq17, .ref xq18, .ref xq19, .int 0, .int 0])), (xq10, .inl (xc22, 4, .inl xf21)), (xq18, .inr (4, [.ref xq32, .long 1, .long 0])), (xq32, .inl (xc33, 4, .inr (.inl xf34)))] [(xc22, .int), (xc33, .long)] sz [.ref xq2]) (va_Qi (fun (r : Int32) (u : va_W × List (ClassId × FieldType)) => u = ([], []) ∧ r = 0) (z_B dC dI (va_A [(xq2, .inr (5, [.ref xq9, .ref xq10, .ref xq11, .ref xq12, .ref xq13, .ref xq14, .ref xq15, .ref xq16, .ref xq17, .ref xq18, .ref xq19, .int 0, .int 0])), (xq10, .inl (xc22, 4, .inl xf21)), (xq18, .inr (4, [.ref xq32, .long 1, .long 0])), (xq32, .inl (xc33, 4, .inr (.inl xf34)))] sz)) (va_A [(xq2, .inr (5, [.ref xq9, .ref xq10, .ref xq11, .ref xq12, .ref xq13, .ref xq14, .ref xq15, .ref xq16, .ref xq17, .ref xq18, .ref xq19, .int 0, .int 0])), (xq10, .inl (xc22, 4, .inl xf21)), (xq18, .inr (4, [.ref xq32, .long 1, .long 0])), (xq32, .inl (xc33, 4, .inr (.inl xf34)))] sz)) 0 0 (va_A [(xq2, .inr (5, [.ref xq9, .ref xq10, .ref xq11, .ref xq12, .ref xq13, .ref xq14, .ref xq15, .ref xq16, .ref xq17, .ref xq18, .ref xq19, .int 0, .int 0])), (xq10, .inl (xc22, 4, .inl xf21)), (xq18, .inr (4, [.ref xq32, .long 1, .long 0])), (xq32, .inl (xc33, 4, .inr (.inl xf34)))] sz) := by
  refine Met.ofW (cc := cX5_leastCost) (maxL := 4) (ret := (some .int)) (by decide) rfl ?_
  intro p e s m args below meth c s₁ B hml hv
  obtain ⟨rfl, rfl, I⟩ := z_open hv
  have hx := B.exec
  have hb := B.bytes
  have hr := B.returns
  have hts := atoms_spec (ws := z_w yX5_leastCost cX5_leastCost 4 (some .int)) B.pre
  have hg : z_G _ s := z_G.of hts
  have hown : s.vm.findClass RX5 = some m.cls := findClass_of_methodNamed B.named
  have hlocks := B.notSynchronized
  generalize va_A [(xq2, .inr (5, [.ref xq9, .ref xq10, .ref xq11, .ref xq12, .ref xq13, .ref xq14, .ref xq15, .ref xq16, .ref xq17, .ref xq18, .ref xq19, .int 0, .int 0])), (xq10, .inl (xc22, 4, .inl xf21)), (xq18, .inr (4, [.ref xq32, .long 1, .long 0])), (xq32, .inl (xc33, 4, .inr (.inl xf34)))] s.heap.size = A at I ⊢
  have hl := lv_entry ([.ref xq2]) (n := 4) (Nat.le_of_ble_eq_true rfl)
  rw [lg_entry_eq]
  generalize (lg_sl ([.ref xq2]) ++ List.replicate (4 - (lg_sl ([.ref xq2])).length) Slot.unset).toArray = ls at hl ⊢
  have hl : lv_has ls 4 [(0, .ref xq2)] := hl
  refine lv_aload_n hx hb dX5_leastCost_0 rfl (lv_at hl 0 rfl) ?_
  refine z_get (C := RX5) (T := TX5) (N := 13) (ci := 5) (v := .ref xq18) hx hb hg hown I iw_5 0 rfl rfl 9 (by decide) mw165 rfl dX5_leastCost_1 ?_
  refine lv_aload_n hx hb dX5_leastCost_4 rfl (lv_at hl 0 rfl) ?_
  refine z_get (C := RX5) (T := TX5) (N := 13) (ci := 5) (v := .ref xq10) hx hb hg hown I iw_5 0 rfl rfl 1 (by decide) mw150 rfl dX5_leastCost_5 ?_
  refine lv_iconst (v := 0) hx hb dX5_leastCost_8 (by decide) ?_
  obtain ⟨v1, ev1⟩ : ∃ y, y = xf21 (Int32.toNatClampNeg 0) := ⟨_, rfl⟩
  refine z_iald (v := v1) hx hb I 1 0 rfl rfl (by unfold vp_in; decide) dX5_leastCost_9 ev1.symm ?_
  refine lv_aload_n hx hb dX5_leastCost_10 rfl (lv_at hl 0 rfl) ?_
  refine z_get (C := RX5) (T := TX5) (N := 13) (ci := 5) (v := .ref xq10) hx hb hg hown I iw_5 0 rfl rfl 1 (by decide) mw150 rfl dX5_leastCost_11 ?_
  refine lv_iconst (v := 1) hx hb dX5_leastCost_14 (by decide) ?_
  obtain ⟨v2, ev2⟩ : ∃ y, y = xf21 (Int32.toNatClampNeg 1) := ⟨_, rfl⟩
  refine z_iald (v := v2) hx hb I 1 0 rfl rfl (by unfold vp_in; decide) dX5_leastCost_15 ev2.symm ?_
  refine lv_aload_n hx hb dX5_leastCost_16 rfl (lv_at hl 0 rfl) ?_
  refine z_get (C := RX5) (T := TX5) (N := 13) (ci := 5) (v := .ref xq10) hx hb hg hown I iw_5 0 rfl rfl 1 (by decide) mw150 rfl dX5_leastCost_17 ?_
  refine lv_iconst (v := 2) hx hb dX5_leastCost_20 (by decide) ?_
  obtain ⟨v3, ev3⟩ : ∃ y, y = xf21 (Int32.toNatClampNeg 2) := ⟨_, rfl⟩
  refine z_iald (v := v3) hx hb I 1 0 rfl rfl (by unfold vp_in; decide) dX5_leastCost_21 ev3.symm ?_
  refine lv_aload_n hx hb dX5_leastCost_22 rfl (lv_at hl 0 rfl) ?_
  refine z_get (C := RX5) (T := TX5) (N := 13) (ci := 5) (v := .ref xq10) hx hb hg hown I iw_5 0 rfl rfl 1 (by decide) mw150 rfl dX5_leastCost_23 ?_
  refine lv_iconst (v := 3) hx hb dX5_leastCost_26 (by decide) ?_
  obtain ⟨v4, ev4⟩ : ∃ y, y = xf21 (Int32.toNatClampNeg 3) := ⟨_, rfl⟩
  refine z_iald (v := v4) hx hb I 1 0 rfl rfl (by unfold vp_in; decide) dX5_leastCost_27 ev4.symm ?_
  refine z_callv (wr := [(xq2, .inr (5, [.ref xq9, .ref xq10, .ref xq11, .ref xq12, .ref xq13, .ref xq14, .ref xq15, .ref xq16, .ref xq17, .ref xq18, .ref xq19, .int 0, .int 0])), (xq10, .inl (xc22, 4, .inl xf21))]) (va_runV (As := [.int v1, .int v2, .int v3, .int v4]) (rest := []) ⟨hx, hb, hml, hown, hts⟩ (z_RX4_setWhole l dC dI xq18 xq32 xc33 xf34 v1 v2 v3 v4  s.heap.size) (cwV 4 hts (z_gV z_T.w mw1060 mw996 mw997 mw4 mw998) rfl rfl rfl (by decide +kernel) ⟨Nat.le_of_ble_eq_true rfl, Nat.le_of_ble_eq_true rfl⟩) (z_preV I [2, 3] [1] rfl rfl rfl rfl (ci := 4) (q0 := 2) rfl rfl) rfl rfl hl.1 rfl (lv_room (Nat.le_of_ble_eq_true rfl)) dX5_leastCost_28 ⟨Nat.le_of_ble_eq_true rfl, Nat.le_of_ble_eq_true rfl⟩) I [2, 3] [0, 1] rfl rfl (by decide) (by decide) (fun u5 H locs hw5 I => ?_)
  obtain ⟨xf6, hu5, hp5⟩ := hw5
  subst hu5
  have I : z_I A dC dI [(xq2, .inr (5, [.ref xq9, .ref xq10, .ref xq11, .ref xq12, .ref xq13, .ref xq14, .ref xq15, .ref xq16, .ref xq17, .ref xq18, .ref xq19, .int 0, .int 0])), (xq10, .inl (xc22, 4, .inl xf21)), (xq18, .inr (4, [.ref xq32, .long 1, .long 0])), (xq32, .inl (xc33, 4, .inr (.inl xf6)))] [(xc22, .int), (xc33, .long)] s H _ := I
  refine lv_sipush (v := 1000) hx hb dX5_leastCost_31 (by decide) ?_
  refine lv_istore_n (lv' := [(1, .int 1000), (0, .ref xq2)]) hx hb dX5_leastCost_34 rfl hl (by decide) rfl (fun ls hl => ?_)
  refine lv_aload_n hx hb dX5_leastCost_35 rfl (lv_at hl 1 rfl) ?_
  refine z_calli (wr := [(xq10, .inl (xc22, 4, .inl xf21)), (xq18, .inr (4, [.ref xq32, .long 1, .long 0])), (xq32, .inl (xc33, 4, .inr (.inl xf6)))]) (va_runV (As := []) (rest := []) ⟨hx, hb, hml, hown, hts⟩ (z_RX5_pointCount l dC dI xq2 xq9 xq10 xq11 xq12 xq13 xq14 xq15 xq16 xq17 xq18 xq19  H.size) (cwV 0 hts (z_gV z_T.w mw1061 mw1052 mw1053 mw3 mw1054) rfl rfl rfl (by decide +kernel) ⟨Nat.le_of_ble_eq_true rfl, Nat.le_of_ble_eq_true rfl⟩) (z_preV I [0] [] rfl rfl rfl rfl (ci := 5) (q0 := 0) rfl rfl) rfl rfl hl.1 rfl (lv_room (Nat.le_of_ble_eq_true rfl)) dX5_leastCost_36 ⟨Nat.le_of_ble_eq_true rfl, Nat.le_of_ble_eq_true rfl⟩) I [0] [1, 2, 3] rfl rfl (by decide) (by decide) (fun r7 u7 H locs hw7 I => ?_)
  obtain ⟨hu7, hp7⟩ := hw7
  subst hu7
  have I : z_I A dC dI [(xq10, .inl (xc22, 4, .inl xf21)), (xq18, .inr (4, [.ref xq32, .long 1, .long 0])), (xq32, .inl (xc33, 4, .inr (.inl xf6))), (xq2, .inr (5, [.ref xq9, .ref xq10, .ref xq11, .ref xq12, .ref xq13, .ref xq14, .ref xq15, .ref xq16, .ref xq17, .ref xq18, .ref xq19, .int 0, .int 0]))] [(xc22, .int), (xc33, .long)] s H _ := I
  obtain rfl : r7 = 1 := hp7
  refine lv_sipush (v := 6000) hx hb dX5_leastCost_39 (by decide) ?_
  refine va_mmin hx hb (hml.trans hl.1.symm) hown (hg _ mw573 rfl) (hg _ mw574 rfl) (hg _ mw17 rfl) (hg _ mw575 rfl) (Nat.le_of_ble_eq_true rfl) (Nat.le_of_ble_eq_true rfl) (Nat.le_of_ble_eq_true rfl) (Nat.le_of_ble_eq_true rfl) dX5_leastCost_42 ?_
  refine lv_topi (fun w8 ew8 => ?_)
  obtain rfl : w8 = 1 := ew8.trans (by decide)
  refine lv_istore_n (lv' := [(2, .int 1), (1, .int 1000), (0, .ref xq2)]) hx hb dX5_leastCost_45 rfl hl (by decide) rfl (fun ls hl => ?_)
  refine lv_iconst (v := 0) hx hb dX5_leastCost_46 (by decide) ?_
  refine lv_istore_n (lv' := [(3, .int 0), (2, .int 1), (1, .int 1000), (0, .ref xq2)]) hx hb dX5_leastCost_47 rfl hl (by decide) rfl (fun ls hl => ?_)
  refine lv_iload_n hx hb dX5_leastCost_48 rfl (lv_at hl 0 rfl) ?_
  refine lv_iload_n hx hb dX5_leastCost_49 rfl (lv_at hl 1 rfl) ?_
  refine lv_icmp_ge (tgt := 104) hx hb dX5_leastCost_50 (by decide) (fun c9 => absurd c9 (by decide)) (fun _ => ?_)
  refine lv_aload_n hx hb dX5_leastCost_53 rfl (lv_at hl 3 rfl) ?_
  refine lv_aload_n hx hb dX5_leastCost_54 rfl (lv_at hl 3 rfl) ?_
  refine z_get (C := RX5) (T := TX5) (N := 13) (ci := 5) (v := .ref xq18) hx hb hg hown I iw_5 3 rfl rfl 9 (by decide) mw165 rfl dX5_leastCost_55 ?_
  refine z_callv (wr := [(xq10, .inl (xc22, 4, .inl xf21)), (xq32, .inl (xc33, 4, .inr (.inl xf6)))]) (va_runV (As := [.ref xq18]) (rest := []) ⟨hx, hb, hml, hown, hts⟩ (z_RX5_price l dC dI xq2 xq9 xq10 xq11 xq12 xq13 xq14 xq15 xq16 xq17 xq18 xq19 xq32  H.size) (cwV 1 hts (z_gV z_T.w mw1062 mw808 mw809 mw3 mw810) rfl rfl rfl (by decide +kernel) ⟨Nat.le_of_ble_eq_true rfl, Nat.le_of_ble_eq_true rfl⟩) (z_preV I [3, 1] [] rfl rfl rfl rfl (ci := 5) (q0 := 3) rfl rfl) rfl rfl hl.1 rfl (lv_room (Nat.le_of_ble_eq_true rfl)) dX5_leastCost_58 ⟨Nat.le_of_ble_eq_true rfl, Nat.le_of_ble_eq_true rfl⟩) I [3, 1] [0, 2] rfl rfl (by decide) (by decide) (fun u9 H locs hw9 I => ?_)
  obtain ⟨hu9, hp9⟩ := hw9
  subst hu9
  have I : z_I A dC dI [(xq10, .inl (xc22, 4, .inl xf21)), (xq32, .inl (xc33, 4, .inr (.inl xf6))), (xq2, .inr (5, [.ref xq9, .ref xq10, .ref xq11, .ref xq12, .ref xq13, .ref xq14, .ref xq15, .ref xq16, .ref xq17, .ref xq18, .ref xq19, .int 0, .int 0])), (xq18, .inr (4, [.ref xq32, .long 1, .long 0]))] [(xc22, .int), (xc33, .long)] s H _ := I
  refine lv_aload_n hx hb dX5_leastCost_61 rfl (lv_at hl 3 rfl) ?_
  refine z_get (C := RX5) (T := TX5) (N := 13) (ci := 5) (v := .ref xq18) hx hb hg hown I iw_5 2 rfl rfl 9 (by decide) mw165 rfl dX5_leastCost_62 ?_
  refine z_get (C := RX4) (T := TX4) (N := 3) (ci := 4) (v := .long 0) hx hb hg hown I iw_4 3 rfl rfl 2 (by decide) mw67 rfl dX5_leastCost_65 ?_
  refine lv_iload_n hx hb dX5_leastCost_68 rfl (lv_at hl 2 rfl) ?_
  refine lv_i2l (v := 1000) hx hb dX5_leastCost_69 (by decide) ?_
  refine W.lcmp hx hb dX5_leastCost_70 ?_
  refine lv_topi (fun w10 ew10 => ?_)
  obtain rfl : w10 = (-1) := ew10.trans (by decide)
  refine lv_if_ge (tgt := 94) hx hb dX5_leastCost_71 (by decide) (fun c9 => absurd c9 (by decide)) (fun _ => ?_)
  refine lv_aload_n hx hb dX5_leastCost_74 rfl (lv_at hl 3 rfl) ?_
  refine lv_aload_n hx hb dX5_leastCost_75 rfl (lv_at hl 3 rfl) ?_
  refine z_get (C := RX5) (T := TX5) (N := 13) (ci := 5) (v := .ref xq18) hx hb hg hown I iw_5 2 rfl rfl 9 (by decide) mw165 rfl dX5_leastCost_76 ?_
  refine z_calli (wr := [(xq10, .inl (xc22, 4, .inl xf21)), (xq32, .inl (xc33, 4, .inr (.inl xf6))), (xq18, .inr (4, [.ref xq32, .long 1, .long 0]))]) (va_runV (As := [.ref xq18]) (rest := []) ⟨hx, hb, hml, hown, hts⟩ (z_RX5_keepsRows l dC dI xq2 xq9 xq10 xq11 xq12 xq13 xq14 xq15 xq16 xq17 xq18 xq19  H.size) (cwV 1 hts (z_gV z_T.w mw1008 mw1010 mwp31 mw3 mw1011) rfl rfl rfl (by decide +kernel) ⟨Nat.le_of_ble_eq_true rfl, Nat.le_of_ble_eq_true rfl⟩) (z_preV I [2] [] rfl rfl rfl rfl (ci := 5) (q0 := 2) rfl rfl) rfl rfl hl.1 rfl (lv_room (Nat.le_of_ble_eq_true rfl)) dX5_leastCost_79 ⟨Nat.le_of_ble_eq_true rfl, Nat.le_of_ble_eq_true rfl⟩) I [2] [0, 1, 3] rfl rfl (by decide) (by decide) (fun r11 u11 H locs hw11 I => ?_)
  obtain ⟨hu11, hp11⟩ := hw11
  subst hu11
  have I : z_I A dC dI [(xq10, .inl (xc22, 4, .inl xf21)), (xq32, .inl (xc33, 4, .inr (.inl xf6))), (xq18, .inr (4, [.ref xq32, .long 1, .long 0])), (xq2, .inr (5, [.ref xq9, .ref xq10, .ref xq11, .ref xq12, .ref xq13, .ref xq14, .ref xq15, .ref xq16, .ref xq17, .ref xq18, .ref xq19, .int 0, .int 0]))] [(xc22, .int), (xc33, .long)] s H _ := I
  obtain rfl : r11 = 1 := hp11
  refine lv_if_eq (tgt := 94) hx hb dX5_leastCost_82 (by decide) (fun c9 => absurd c9 (by decide)) (fun _ => ?_)
  refine lv_aload_n hx hb dX5_leastCost_85 rfl (lv_at hl 3 rfl) ?_
  refine z_get (C := RX5) (T := TX5) (N := 13) (ci := 5) (v := .ref xq18) hx hb hg hown I iw_5 3 rfl rfl 9 (by decide) mw165 rfl dX5_leastCost_86 ?_
  refine z_get (C := RX4) (T := TX4) (N := 3) (ci := 4) (v := .long 0) hx hb hg hown I iw_4 2 rfl rfl 2 (by decide) mw67 rfl dX5_leastCost_89 ?_
  refine lv_l2i (v := 0) hx hb dX5_leastCost_92 (by decide) ?_
  refine lv_istore_n (lv' := [(1, .int 0), (3, .int 0), (2, .int 1), (0, .ref xq2)]) hx hb dX5_leastCost_93 rfl hl (by decide) rfl (fun ls hl => ?_)
  refine lv_aload_n hx hb dX5_leastCost_94 rfl (lv_at hl 3 rfl) ?_
  refine z_callv (wr := [(xq10, .inl (xc22, 4, .inl xf21)), (xq32, .inl (xc33, 4, .inr (.inl xf6))), (xq18, .inr (4, [.ref xq32, .long 1, .long 0]))]) (va_runV (As := []) (rest := []) ⟨hx, hb, hml, hown, hts⟩ (z_RX5_advanceTrial l dC dI xq2 xq9 xq10 xq11 xq12 xq13 xq14 xq15 xq16 xq17 xq18 xq19  H.size) (cwV 0 hts (z_gV z_T.w mw1063 mw1065 mwp32 mw3 mw1066) rfl rfl rfl (by decide +kernel) ⟨Nat.le_of_ble_eq_true rfl, Nat.le_of_ble_eq_true rfl⟩) (z_preV I [3] [] rfl rfl rfl rfl (ci := 5) (q0 := 3) rfl rfl) rfl rfl hl.1 rfl (lv_room (Nat.le_of_ble_eq_true rfl)) dX5_leastCost_95 ⟨Nat.le_of_ble_eq_true rfl, Nat.le_of_ble_eq_true rfl⟩) I [3] [0, 1, 2] rfl rfl (by decide) (by decide) (fun u12 H locs hw12 I => ?_)
  obtain ⟨hu12, hp12⟩ := hw12
  subst hu12
  have I : z_I A dC dI [(xq10, .inl (xc22, 4, .inl xf21)), (xq32, .inl (xc33, 4, .inr (.inl xf6))), (xq18, .inr (4, [.ref xq32, .long 1, .long 0])), (xq2, .inr (5, [.ref xq9, .ref xq10, .ref xq11, .ref xq12, .ref xq13, .ref xq14, .ref xq15, .ref xq16, .ref xq17, .ref xq18, .ref xq19, .int 0, .int 0]))] [(xc22, .int), (xc33, .long)] s H _ := I
  refine lv_iinc (v := 1) (lv' := [(3, .int 1), (1, .int 0), (2, .int 1), (0, .ref xq2)]) hx hb dX5_leastCost_98 hl (k := 1) rfl (by decide) (by decide) rfl (fun ls hl => ?_)
  refine lv_goto (tgt := 48) hx hb dX5_leastCost_101 (by decide) ?_
  refine lv_iload_n hx hb dX5_leastCost_48 rfl (lv_at hl 0 rfl) ?_
  refine lv_iload_n hx hb dX5_leastCost_49 rfl (lv_at hl 2 rfl) ?_
  refine lv_icmp_ge (tgt := 104) hx hb dX5_leastCost_50 (by decide) (fun _ => ?_) (fun c9 => absurd c9 (by decide))
  refine lv_iload_n hx hb dX5_leastCost_104 rfl (lv_at hl 1 rfl) ?_
  have I := I.sub (ws' := []) [] rfl rfl rfl
  have I := I.subT (t' := []) [] rfl
  refine W.widen (k := 0) (n := 0) (Nat.le_of_ble_eq_true rfl) (Nat.le_of_ble_eq_true rfl) ?_
  exact z_iret hx hb hr hlocks I ⟨rfl, rfl⟩ dX5_leastCost_105
