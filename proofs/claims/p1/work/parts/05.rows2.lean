theorem vr_outer (c : ClassId) (N h0 : Nat) : ∀ i : Nat, Jvm.Free.Multi.outerC c N h0 i = arrV c N (fun j => va_rf (if j < i then some (h0 + 1 + j) else none))
  | 0 => by
    show ({ cls := c, slots := Array.replicate N .null, vm := .none } : Cell) = _
    rw [arrV_new]
    refine congrArg (arrV c N) (funext fun j => ?_)
    simp [va_rf]
  | i + 1 => by
    show (Jvm.Free.Multi.outerC c N h0 i).setSlot i (.ref (h0 + 1 + i)) = _
    rw [vr_outer c N h0 i, arrV_store]
    refine congrArg (arrV c N) (funext fun j => ?_)
    by_cases e : j = i
    · subst e
      simp [updV, va_rf]
    · by_cases h : j < i
      · simp [updV, e, h, Nat.lt_succ_of_lt h]
      · simp [updV, e, h, show ¬ j < i + 1 by omega]
/-! more of my own rows: places of arrays, arrays of arrays of two and three dimensions, throws -/
section ZR2
variable {p : Program} {l : Launch} {e : Env} {R : Room} {s : State} {m : MethodId} {args : Array Value} {below : List Frame} {meth : Method} {c : Code} {H : Heap} {locs : List Loc} {cells slots : Nat} {Q : State → Prop}
variable {cc : ByteArray} {pc : Nat} {ls : Array Slot} {rest : List Value} {A : Nat → Prop} {a : Nat} {tys : List (ClassId × FieldType)} {ws : va_W} {dC : Nat → ClassId} {dI : Nat → Nat → Nat} {Ts : List Cond} {own : String} {nL : Nat}
theorem z_iald (hx : p.tables.exec = Jvm.exec) (hb : c.code = cc) (I : z_I A dC dI ws tys s H locs) (q0 t0 : Nat) {cA : ClassId} {n : Nat} {f : Nat → Int32} (ha : ws[q0]? = some (a, .inl (cA, n, .inl f))) (ht : tys[t0]? = some (cA, .int)) {i : Int32} (hin : vp_in i n) (hdg : decode cc pc = .ok (.iaload, 1)) {v : Int32} (hv : f i.toNatClampNeg = v)
    (kk : W p l e R s m args below meth c H locs cells slots Q (F0 m (pc + 1) ls (.int v :: rest))) : W p l e R s m args below meth c H locs cells slots Q (F0 m pc ls (.int i :: .ref a :: rest)) := by
  subst hv
  exact va_iald hx hb I.1 I.2.1 q0 t0 ha ht hin hdg kk
theorem z_lald (hx : p.tables.exec = Jvm.exec) (hb : c.code = cc) (I : z_I A dC dI ws tys s H locs) (q0 t0 : Nat) {cA : ClassId} {n : Nat} {f : Nat → Int64} (ha : ws[q0]? = some (a, .inl (cA, n, .inr (.inl f)))) (ht : tys[t0]? = some (cA, .long)) {i : Int32} (hin : vp_in i n) (hdg : decode cc pc = .ok (.laload, 1)) {v : Int64} (hv : f i.toNatClampNeg = v)
    (kk : W p l e R s m args below meth c H locs cells slots Q (F0 m (pc + 1) ls (.long v :: rest))) : W p l e R s m args below meth c H locs cells slots Q (F0 m pc ls (.int i :: .ref a :: rest)) := by
  subst hv
  exact va_lald hx hb I.1 I.2.1 q0 t0 ha ht hin hdg kk
theorem z_dald (hx : p.tables.exec = Jvm.exec) (hb : c.code = cc) (I : z_I A dC dI ws tys s H locs) (q0 t0 : Nat) {cA : ClassId} {n : Nat} {f : Nat → UInt64} (ha : ws[q0]? = some (a, .inl (cA, n, .inr (.inr (.inr (.inl f)))))) (ht : tys[t0]? = some (cA, .double)) {i : Int32} (hin : vp_in i n) (hdg : decode cc pc = .ok (.daload, 1)) {v : UInt64} (hv : f i.toNatClampNeg = v)
    (kk : W p l e R s m args below meth c H locs cells slots Q (F0 m (pc + 1) ls (.double v :: rest))) : W p l e R s m args below meth c H locs cells slots Q (F0 m pc ls (.int i :: .ref a :: rest)) := by
  subst hv
  exact va_dald hx hb I.1 I.2.1 q0 t0 ha ht hin hdg kk
theorem z_aald (hx : p.tables.exec = Jvm.exec) (hb : c.code = cc) (I : z_I A dC dI ws tys s H locs) (q0 t0 : Nat) {cA : ClassId} {ty : FieldType} {n : Nat} {f : Nat → Option Nat} (ha : ws[q0]? = some (a, .inl (cA, n, .inr (.inr (.inr (.inr f)))))) (ht : tys[t0]? = some (cA, ty)) (hr : ty.isReference = true) {i : Int32} (hin : vp_in i n) (hdg : decode cc pc = .ok (.aaload, 1)) {v : Value} (hv : va_rf (f i.toNatClampNeg) = v)
    (kk : W p l e R s m args below meth c H locs cells slots Q (F0 m (pc + 1) ls (v :: rest))) : W p l e R s m args below meth c H locs cells slots Q (F0 m pc ls (.int i :: .ref a :: rest)) := by
  subst hv
  have hlt : i.toNatClampNeg < n := Nat.not_le.mp fun q => hin (Or.inr q)
  exact W.aald (v := va_rf (f i.toNatClampNeg)) (ty := ty) hx hb (I.2.1 q0 _ ha) ((I.1.2 t0 _ ht).1 n (fun j => va_rf (f j))) hr (fun q => by cases q) (by show ¬ (i < 0 ∨ (arrV _ _ _).slots.size ≤ _); rw [arrV_size]; exact hin) (by show (arrV _ _ _).slots[_]? = _; rw [arrV_read _ _ hlt]) rfl rfl hdg kk
theorem z_iast (hx : p.tables.exec = Jvm.exec) (hb : c.code = cc) (I : z_I A dC dI ws tys s H locs) (q0 t0 : Nat) {cA : ClassId} {n : Nat} {f : Nat → Int32} (ha : ws[q0]? = some (a, .inl (cA, n, .inl f))) (ht : tys[t0]? = some (cA, .int)) {i x : Int32} (hin : vp_in i n) (hdg : decode cc pc = .ok (.iastore, 1))
    (kk : ∀ (g : Nat → Int32) (H1 : Heap) (locs1 : List Loc), g = upd f i.toNatClampNeg x → z_I A dC dI (ws.set q0 (a, .inl (cA, n, .inl g))) tys s H1 locs1 → W p l e R s m args below meth c H1 locs1 cells slots Q (F0 m (pc + 1) ls rest)) : W p l e R s m args below meth c H locs cells slots Q (F0 m pc ls (.int x :: .int i :: .ref a :: rest)) := by
  obtain ⟨hK, hP, hD, hS, hA, hM⟩ := I
  exact va_iast hx hb hK hP hD hS q0 t0 ha ht hin hdg (fun H1 locs1 hP hD hS => kk _ H1 locs1 rfl ⟨hK, hP, hD, hS, hA, hM⟩)
theorem z_zast (hx : p.tables.exec = Jvm.exec) (hb : c.code = cc) (I : z_I A dC dI ws tys s H locs) (q0 t0 : Nat) {cA : ClassId} {n : Nat} {f : Nat → Int32} (ha : ws[q0]? = some (a, .inl (cA, n, .inl f))) (ht : tys[t0]? = some (cA, .boolean)) {i x : Int32} (hin : vp_in i n) (hdg : decode cc pc = .ok (.bastore, 1))
    (kk : ∀ (g : Nat → Int32) (H1 : Heap) (locs1 : List Loc), g = upd f i.toNatClampNeg (vp_nar .boolean x) → z_I A dC dI (ws.set q0 (a, .inl (cA, n, .inl g))) tys s H1 locs1 → W p l e R s m args below meth c H1 locs1 cells slots Q (F0 m (pc + 1) ls rest)) : W p l e R s m args below meth c H locs cells slots Q (F0 m pc ls (.int x :: .int i :: .ref a :: rest)) := by
  obtain ⟨hK, hP, hD, hS, hA, hM⟩ := I
  exact va_zast hx hb hK hP hD hS q0 t0 ha ht hin hdg (fun H1 locs1 hP hD hS => kk _ H1 locs1 rfl ⟨hK, hP, hD, hS, hA, hM⟩)
theorem z_cast (hx : p.tables.exec = Jvm.exec) (hb : c.code = cc) (I : z_I A dC dI ws tys s H locs) (q0 t0 : Nat) {cA : ClassId} {n : Nat} {f : Nat → Int32} (ha : ws[q0]? = some (a, .inl (cA, n, .inl f))) (ht : tys[t0]? = some (cA, .char)) {i x : Int32} (hin : vp_in i n) (hdg : decode cc pc = .ok (.castore, 1))
    (kk : ∀ (g : Nat → Int32) (H1 : Heap) (locs1 : List Loc), g = upd f i.toNatClampNeg (vp_nar .char x) → z_I A dC dI (ws.set q0 (a, .inl (cA, n, .inl g))) tys s H1 locs1 → W p l e R s m args below meth c H1 locs1 cells slots Q (F0 m (pc + 1) ls rest)) : W p l e R s m args below meth c H locs cells slots Q (F0 m pc ls (.int x :: .int i :: .ref a :: rest)) := by
  obtain ⟨hK, hP, hD, hS, hA, hM⟩ := I
  exact va_cast hx hb hK hP hD hS q0 t0 ha ht hin hdg (fun H1 locs1 hP hD hS => kk _ H1 locs1 rfl ⟨hK, hP, hD, hS, hA, hM⟩)
theorem z_last (hx : p.tables.exec = Jvm.exec) (hb : c.code = cc) (I : z_I A dC dI ws tys s H locs) (q0 t0 : Nat) {cA : ClassId} {n : Nat} {f : Nat → Int64} (ha : ws[q0]? = some (a, .inl (cA, n, .inr (.inl f)))) (ht : tys[t0]? = some (cA, .long)) {i : Int32} {x : Int64} (hin : vp_in i n) (hdg : decode cc pc = .ok (.lastore, 1))
    (kk : ∀ (g : Nat → Int64) (H1 : Heap) (locs1 : List Loc), g = vp_updL f i.toNatClampNeg x → z_I A dC dI (ws.set q0 (a, .inl (cA, n, .inr (.inl g)))) tys s H1 locs1 → W p l e R s m args below meth c H1 locs1 cells slots Q (F0 m (pc + 1) ls rest)) : W p l e R s m args below meth c H locs cells slots Q (F0 m pc ls (.long x :: .int i :: .ref a :: rest)) := by
  obtain ⟨hK, hP, hD, hS, hA, hM⟩ := I
  exact va_last hx hb hK hP hD hS q0 t0 ha ht hin hdg (fun H1 locs1 hP hD hS => kk _ H1 locs1 rfl ⟨hK, hP, hD, hS, hA, hM⟩)
theorem z_aast (hx : p.tables.exec = Jvm.exec) (hb : c.code = cc) (I : z_I A dC dI ws tys s H locs) (q0 t0 qk ci : Nat) {cA : ClassId} {r : vw_C} {n v : Nat} {vs : List Value} {f : Nat → Option Nat} (ha : ws[q0]? = some (a, .inl (cA, n, .inr (.inr (.inr (.inr f)))))) (ht : tys[t0]? = some (cA, .object r.1)) (hv : ws[qk]? = some (v, .inr (ci, vs))) (hc : zCl[ci]? = some r) {i : Int32} (hin : vp_in i n) (hdg : decode cc pc = .ok (.aastore, 1))
    (kk : ∀ (g : Nat → Option Nat) (H1 : Heap) (locs1 : List Loc), g = va_up f i.toNatClampNeg (some v) → z_I A dC dI (ws.set q0 (a, .inl (cA, n, .inr (.inr (.inr (.inr g)))))) tys s H1 locs1 → W p l e R s m args below meth c H1 locs1 cells slots Q (F0 m (pc + 1) ls rest)) : W p l e R s m args below meth c H locs cells slots Q (F0 m pc ls (.ref v :: .int i :: .ref a :: rest)) := by
  obtain ⟨hK, hP, hD, hS, hA, hM⟩ := I
  exact va_astq hx hb hK hP hD hS q0 t0 qk ci ha ht hv hc hin hdg (fun H1 locs1 hP hD hS => kk _ H1 locs1 rfl ⟨hK, hP, hD, hS, hA, hM⟩)
theorem z_upself {f : Nat → Option Nat} {k q : Nat} (h : f k = some q) : va_up f k (some q) = f := by
  funext j
  by_cases e : j = k
  · subst e; rw [h]; simp [va_up]
  · simp [va_up, e]
theorem z_inner (c : ClassId) (N : Nat) (dv : Value) {z : vp_A} (h : vp_cell c z = arrV c N (fun _ => dv)) : Jvm.Free.Multi.innerC c N dv = vp_cell c z := by
  rw [h, ← arrV_new]
  rfl
theorem z_I.subT (I : z_I A dC dI ws tys s H locs) {t' : List (ClassId × FieldType)} (is : List Nat) (h : is.filterMap (fun i => tys[i]?) = t') : z_I A dC dI ws t' s H locs := ⟨I.1.sub is h, I.2⟩
theorem z_dast (hx : p.tables.exec = Jvm.exec) (hb : c.code = cc) (I : z_I A dC dI ws tys s H locs) (q0 t0 : Nat) {cA : ClassId} {n : Nat} {f : Nat → UInt64} (ha : ws[q0]? = some (a, .inl (cA, n, .inr (.inr (.inr (.inl f)))))) (ht : tys[t0]? = some (cA, .double)) {i : Int32} {x : UInt64} (hin : vp_in i n) (hdg : decode cc pc = .ok (.dastore, 1))
    (kk : ∀ (g : Nat → UInt64) (H1 : Heap) (locs1 : List Loc), g = vf_upd f i.toNatClampNeg x → z_I A dC dI (ws.set q0 (a, .inl (cA, n, .inr (.inr (.inr (.inl g)))))) tys s H1 locs1 → W p l e R s m args below meth c H1 locs1 cells slots Q (F0 m (pc + 1) ls rest)) : W p l e R s m args below meth c H locs cells slots Q (F0 m pc ls (.double x :: .int i :: .ref a :: rest)) := by
  obtain ⟨hK, hP, hD, hS, hA, hM⟩ := I
  exact va_dast hx hb hK hP hD hS q0 t0 ha ht hin hdg (fun H1 locs1 hP hD hS => kk _ H1 locs1 rfl ⟨hK, hP, hD, hS, hA, hM⟩)
/-- new cells behind a world -/
theorem z_ext {H1 : Heap} {t1 : List (ClassId × FieldType)} (I : z_I A dC dI ws tys s H locs) (hz : H.size ≤ H1.size) (ho : ∀ x : Nat, x < H.size → H1[x]? = H[x]?) (wn : va_W) (h1 : ∀ (k : Nat) (q : Nat × va_E), wn[k]? = some q → H.size ≤ q.1 ∧ va_at (dC, dI) zCl q H1) (h2 : ∀ (i j : Nat) (p q : Nat × va_E), wn[i]? = some p → wn[j]? = some q → p.1 = q.1 → i = j) (hK1 : va_K (dC, dI) zCl t1 s) :
    z_I A dC dI (ws ++ wn) (tys ++ t1) s H1 locs := by
  obtain ⟨hK, hP, hD, hS, hA, hM⟩ := I
  refine ⟨hK.app hK1, (hP.kept (fun k q hk => ho q.1 ((hP k q hk).lt))).app (fun k q hk => (h1 k q hk).2), hD.app ⟨h2, fun k q hk => hA _ (Nat.le_trans hS.1 (h1 k q hk).1)⟩ (fun i j p q hi hj h => ?_), ⟨Nat.le_trans hS.1 hz, fun q h3 h4 => (ho q (Nat.lt_of_lt_of_le h3 hS.1)).trans (hS.2.1 q h3 h4), hS.2.2⟩, hA, hM⟩
  have h3 := (hP i p hi).lt
  have h4 := (h1 j q hj).1
  omega
theorem z_K1 {cA : ClassId} {ty : FieldType} (hK : va_K (dC, dI) zCl tys s) (h1 : ArrOfT s cA ty) (h2 : va_RA s cA ty) : va_K (dC, dI) zCl [(cA, ty)] s := ⟨hK.1, fun k q hq => by
  have h0 : k < 1 := (List.getElem?_eq_some_iff.mp hq).1
  rw [show k = 0 by omega] at hq
  cases hq
  exact ⟨h1, h2⟩⟩
/-- new T[n][k], n at least 1: the outer array and the first inner one -/
theorem z_mna2 (hx : p.tables.exec = Jvm.exec) (hb : c.code = cc) (hg : z_G args s) (hown : s.vm.findClass own = some m.cls) (I : z_I A dC dI ws tys s H locs) {index : Nat} {ty : FieldType} (hm : Cond.classLink own index ("[" ++ (FieldType.array ty).toString) ∈ lw_tbl) (hm2 : ty ∈ z_aas) (hm3 : Cond.arrayClass ty ∈ lw_tbl) (hra : ∀ cA : ClassId, s.vm.findClass ("[" ++ ty.toString) = some cA → va_RA s cA ty)
    {n k : Int32} {N' K' : Nat} {z : vp_A} (hn : ¬ n < 0) (hk : ¬ k < 0) (hN : n.toNatClampNeg = N') (hM : k.toNatClampNeg = K') (h0 : 0 < N') (hb1 : N' * 4 ≤ 536870912) (hb2 : K' * componentBytes ty ≤ 536870912) (hb3 : K' ≤ 536870912) (hdf : fits ty (defaultValue ty) = true) (hdd : (defaultValue ty).isDefault = true)
    (hcells : cells + (1 + N') ≤ R.cells) (hslots : slots + (N' + N' * K') ≤ R.slots) (hz : ∀ c : ClassId, Jvm.Free.Multi.innerC c K' (defaultValue ty) = vp_cell c z) (hdg : decode cc pc = .ok (.multianewarray index 2, 4))
    (kk : ∀ (q : Nat) (cA cy : ClassId) (f : Nat → Option Nat) (H1 : Heap), z_I A dC dI (ws ++ [(q, .inl (cA, N', .inr (.inr (.inr (.inr (va_up f 0 (some (q + 1)))))))), ((q + 1), .inl (cy, z))]) (tys ++ [(cA, .array ty), (cy, ty)]) s H1 locs →
      W p l e R s m args below meth c H1 locs (cells + 1 + N') (slots + N' + N' * K') Q (F0 m (pc + 4) ls (.ref q :: rest))) : W p l e R s m args below meth c H locs cells slots Q (F0 m pc ls (.int k :: .int n :: rest)) := by
  subst hN
  subst hM
  intro T hT Xs
  obtain ⟨vm₁, cA, cy, -, fA, fC, hO, hI, X', step⟩ := Xs.multianewarray2F hx hown (hg _ hm rfl) (I.2.2.2.2.2.2.2.2.1 ty hm2) (hg _ hm3 rfl) (g := F0 m pc ls (.int k :: .int n :: rest)) rfl (by rw [hb]; exact hdg) rfl hn hk hb1 hb2 hb3 hdf hdd hcells hslots
  generalize hF : Jvm.Free.Multi.fill (T.setVm vm₁) cA cy n.toNatClampNeg k.toNatClampNeg (defaultValue ty) n.toNatClampNeg = F at X' step
  have hTh : (T.setVm vm₁).heap = H := hT
  obtain ⟨f1, f2, -, -⟩ := Jvm.Free.Multi.fill_facts (T.setVm vm₁) cA cy n.toNatClampNeg k.toNatClampNeg (defaultValue ty) n.toNatClampNeg
  rw [hF, hTh] at f1 f2
  have hold : ∀ x : Nat, x < H.size → F.heap[x]? = H[x]? := fun x hx => by
    have := Jvm.Free.Multi.fill_old (T.setVm vm₁) cA cy n.toNatClampNeg k.toNatClampNeg (defaultValue ty) (a := x) (by rw [hTh]; exact hx) n.toNatClampNeg
    rw [hF, hTh] at this
    exact this
  have hrow : F.heap[H.size + 1]? = some (vp_cell cy z) := by
    have := Jvm.Free.Multi.fill_inner (T.setVm vm₁) cA cy n.toNatClampNeg k.toNatClampNeg (defaultValue ty) n.toNatClampNeg 0 h0
    rw [hF, hTh, hz] at this
    exact this
  have hout : Jvm.Free.Multi.outerC cA n.toNatClampNeg H.size n.toNatClampNeg = vp_cell cA (n.toNatClampNeg, .inr (.inr (.inr (.inr (fun i => if i < n.toNatClampNeg then some (H.size + 1 + i) else none))))) := by
    rw [vp_cell_q]
    exact vr_outer cA n.toNatClampNeg H.size n.toNatClampNeg
  rw [hout, ← z_upself (f := fun i => if i < n.toNatClampNeg then some (H.size + 1 + i) else none) (k := 0) (q := H.size + 1) (if_pos h0)] at f2
  have hA1 : ArrOfT s cA (.array ty) := fun N9 z9 => by
    obtain ⟨-, k9, hk9, cm9, hkk9⟩ := (hO 0 0 0).1
    exact ⟨(fun q hq => by cases hq), k9, hk9, cm9, hkk9⟩
  have hA2 : ArrOfT s cy ty := fun N9 z9 => by
    obtain ⟨-, k9, hk9, cm9, hkk9⟩ := (hI 0 .null).1
    exact ⟨(fun q hq => by cases hq), k9, hk9, cm9, hkk9⟩
  obtain ⟨t, a1, b1⟩ := kk H.size cA cy (fun i => if i < n.toNatClampNeg then some (H.size + 1 + i) else none) F.heap (z_ext I (by rw [f1]; omega) hold _ (fun i q hq => by
    match i, hq with
    | 0, hq => cases hq; exact ⟨Nat.le_refl _, f2⟩
    | 1, hq => cases hq; exact ⟨Nat.le_succ _, hrow⟩
    | i + 2, hq => simp at hq) (fun i j p q hi hj h => by
    match i, j, hi, hj with
    | 0, 0, _, _ => rfl
    | 1, 1, _, _ => rfl
    | 0, 1, hi, hj => cases hi; cases hj; exact absurd h (by simp)
    | 1, 0, hi, hj => cases hi; cases hj; exact absurd h (by simp)
    | i + 2, _, hi, _ => simp at hi
    | _, j + 2, _, hj => simp at hj) ((z_K1 I.1 hA1 fA).app (z_K1 I.1 hA2 (hra cy fC)))) F rfl X'
  refine ⟨t, step t ?_, b1⟩
  have e : T.heap.size = H.size := by rw [hT]
  rw [e]
  exact a1
end ZR2
