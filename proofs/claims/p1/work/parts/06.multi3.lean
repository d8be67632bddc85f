/-! new T[n][m][k]: the machine's row for three dimensions, out of the library's for two -/
def z_out3 (c : ClassId) (N h0 M : Nat) : Nat → Cell
  | 0 => { cls := c, slots := Array.replicate N .null, vm := .none }
  | i + 1 => (z_out3 c N h0 M i).setSlot i (.ref (h0 + 1 + i * (1 + M)))
def z_fill3 (s : State) (c comp cc : ClassId) (N M K : Nat) (dv : Value) : Nat → State
  | 0 => s.pushCell (z_out3 c N s.heap.size M 0)
  | i + 1 => (Jvm.Free.Multi.fill (z_fill3 s c comp cc N M K dv i) comp cc M K dv M).setCell s.heap.size (z_out3 c N s.heap.size M (i + 1))
theorem z_out3_facts (c : ClassId) (N h0 M : Nat) : ∀ i, (z_out3 c N h0 M i).cls = c ∧ (z_out3 c N h0 M i).vm = .none ∧ (z_out3 c N h0 M i).slots.size = N
  | 0 => ⟨rfl, rfl, by simp [z_out3]⟩
  | i + 1 => by
    obtain ⟨a, b, d⟩ := z_out3_facts c N h0 M i
    exact ⟨by simp [z_out3, Cell.setSlot, a], by simp [z_out3, Cell.setSlot, b], by simp [z_out3, Cell.setSlot, d]⟩
theorem z_fill3_facts (s : State) (c comp cc : ClassId) (N M K : Nat) (dv : Value) : ∀ i, (z_fill3 s c comp cc N M K dv i).heap.size = s.heap.size + 1 + i * (1 + M) ∧ (z_fill3 s c comp cc N M K dv i).heap[s.heap.size]? = some (z_out3 c N s.heap.size M i) ∧
    (z_fill3 s c comp cc N M K dv i).vm = s.vm ∧ (z_fill3 s c comp cc N M K dv i).slotsUsed = s.slotsUsed + N + i * (M + M * K)
  | 0 => ⟨by simp [z_fill3], by simp [z_fill3], rfl, by simp [z_fill3, z_out3]⟩
  | i + 1 => by
    obtain ⟨a, b, d, u⟩ := z_fill3_facts s c comp cc N M K dv i
    obtain ⟨a2, -, d2, u2⟩ := Jvm.Free.Multi.fill_facts (z_fill3 s c comp cc N M K dv i) comp cc M K dv M
    have hlt : s.heap.size < (z_fill3 s c comp cc N M K dv i).heap.size := by rw [a]; omega
    have hb' : (Jvm.Free.Multi.fill (z_fill3 s c comp cc N M K dv i) comp cc M K dv M).heap[s.heap.size]? = some (z_out3 c N s.heap.size M i) := by rw [Jvm.Free.Multi.fill_old _ _ _ _ _ _ hlt]; exact b
    refine ⟨?_, State.heap_setCell_self hb', d2.trans d, ?_⟩
    · have e : ((Jvm.Free.Multi.fill (z_fill3 s c comp cc N M K dv i) comp cc M K dv M).setCell s.heap.size (z_out3 c N s.heap.size M (i + 1))).heap.size = (Jvm.Free.Multi.fill (z_fill3 s c comp cc N M K dv i) comp cc M K dv M).heap.size := by simp [State.setCell]
      show ((Jvm.Free.Multi.fill (z_fill3 s c comp cc N M K dv i) comp cc M K dv M).setCell s.heap.size (z_out3 c N s.heap.size M (i + 1))).heap.size = _
      rw [e, a2, a, Nat.succ_mul]; omega
    · show (Jvm.Free.Multi.fill (z_fill3 s c comp cc N M K dv i) comp cc M K dv M).slotsUsed = _
      rw [u2, u, Nat.succ_mul]; omega
theorem z_fill3_setTop (s : State) (f : JFrame) (c comp cc : ClassId) (N M K : Nat) (dv : Value) : ∀ i, z_fill3 (s.setTop f) c comp cc N M K dv i = (z_fill3 s c comp cc N M K dv i).setTop f
  | 0 => rfl
  | i + 1 => by simp only [z_fill3, z_fill3_setTop s f c comp cc N M K dv i, State.heap_setTop, Jvm.Free.Multi.fill_setTop, State.setCell_setTop]
theorem z_fill3_old (s : State) (c comp cc : ClassId) (N M K : Nat) (dv : Value) {a : Addr} (ha : a < s.heap.size) : ∀ i, (z_fill3 s c comp cc N M K dv i).heap[a]? = s.heap[a]?
  | 0 => State.heap_pushCell_of_lt _ _ ha
  | i + 1 => by
    have f1 := (z_fill3_facts s c comp cc N M K dv i).1
    have hlt : a < (z_fill3 s c comp cc N M K dv i).heap.size := Nat.lt_of_lt_of_le ha (by rw [f1]; omega)
    show ((Jvm.Free.Multi.fill (z_fill3 s c comp cc N M K dv i) comp cc M K dv M).setCell s.heap.size _).heap[a]? = _
    rw [State.heap_setCell_other (Nat.ne_of_gt ha), Jvm.Free.Multi.fill_old _ _ _ _ _ _ hlt]
    exact z_fill3_old s c comp cc N M K dv ha i
theorem z_fill3_first (s : State) (c comp cc : ClassId) (N M K : Nat) (dv : Value) : ∀ i, (z_fill3 s c comp cc N M K dv (i + 1)).heap[s.heap.size + 1]? = some (Jvm.Free.Multi.outerC comp M (s.heap.size + 1) M) ∧ ∀ j, j < M → (z_fill3 s c comp cc N M K dv (i + 1)).heap[s.heap.size + 1 + 1 + j]? = some (Jvm.Free.Multi.innerC cc K dv)
  | 0 => by
    obtain ⟨a, -, -, -⟩ := z_fill3_facts s c comp cc N M K dv 0
    obtain ⟨-, b2, -, -⟩ := Jvm.Free.Multi.fill_facts (z_fill3 s c comp cc N M K dv 0) comp cc M K dv M
    have a' : (z_fill3 s c comp cc N M K dv 0).heap.size = s.heap.size + 1 := by rw [a]; omega
    rw [a'] at b2
    refine ⟨?_, fun j hj => ?_⟩
    · show ((Jvm.Free.Multi.fill (z_fill3 s c comp cc N M K dv 0) comp cc M K dv M).setCell s.heap.size _).heap[s.heap.size + 1]? = _
      rw [State.heap_setCell_other (show s.heap.size ≠ s.heap.size + 1 by omega)]
      exact b2
    · have b3 := Jvm.Free.Multi.fill_inner (z_fill3 s c comp cc N M K dv 0) comp cc M K dv M j hj
      rw [a'] at b3
      show ((Jvm.Free.Multi.fill (z_fill3 s c comp cc N M K dv 0) comp cc M K dv M).setCell s.heap.size _).heap[s.heap.size + 1 + 1 + j]? = _
      rw [State.heap_setCell_other (show s.heap.size ≠ s.heap.size + 1 + 1 + j by omega)]
      exact b3
  | i + 1 => by
    obtain ⟨h1, h2⟩ := z_fill3_first s c comp cc N M K dv i
    have f1 := (z_fill3_facts s c comp cc N M K dv (i + 1)).1
    rw [Nat.succ_mul] at f1
    have g1 : s.heap.size + 1 < (z_fill3 s c comp cc N M K dv (i + 1)).heap.size := by rw [f1]; omega
    refine ⟨?_, fun j hj => ?_⟩
    · show ((Jvm.Free.Multi.fill (z_fill3 s c comp cc N M K dv (i + 1)) comp cc M K dv M).setCell s.heap.size _).heap[s.heap.size + 1]? = _
      rw [State.heap_setCell_other (show s.heap.size ≠ s.heap.size + 1 by omega), Jvm.Free.Multi.fill_old (a := s.heap.size + 1) _ _ _ _ _ _ g1]
      exact h1
    · have g2 : s.heap.size + 1 + 1 + j < (z_fill3 s c comp cc N M K dv (i + 1)).heap.size := by rw [f1]; omega
      show ((Jvm.Free.Multi.fill (z_fill3 s c comp cc N M K dv (i + 1)) comp cc M K dv M).setCell s.heap.size _).heap[s.heap.size + 1 + 1 + j]? = _
      rw [State.heap_setCell_other (show s.heap.size ≠ s.heap.size + 1 + 1 + j by omega), Jvm.Free.Multi.fill_old (a := s.heap.size + 1 + 1 + j) _ _ _ _ _ _ g2]
      exact h2 j hj
theorem z_outer3 (c : ClassId) (N h0 M : Nat) : ∀ i : Nat, z_out3 c N h0 M i = arrV c N (fun j => va_rf (if j < i then some (h0 + 1 + j * (1 + M)) else none))
  | 0 => by
    show ({ cls := c, slots := Array.replicate N .null, vm := .none } : Cell) = _
    rw [arrV_new]
    refine congrArg (arrV c N) (funext fun j => ?_)
    simp [va_rf]
  | i + 1 => by
    show (z_out3 c N h0 M i).setSlot i (.ref (h0 + 1 + i * (1 + M))) = _
    rw [z_outer3 c N h0 M i, arrV_store]
    refine congrArg (arrV c N) (funext fun j => ?_)
    by_cases e : j = i
    · subst e
      simp [updV, va_rf]
    · by_cases h : j < i
      · simp [updV, e, h, Nat.lt_succ_of_lt h]
      · simp [updV, e, h, show ¬ j < i + 1 by omega]
section ZW3
variable {E : CtlPost} {e : Env} {d : Bool} {acts : List Action} {s : State}
theorem z_wp_make3 {c comp cc ccc : ClassId} {k kc kcc : Class} {t0 t1 type : FieldType} {n m q : Int32} (hk : s.vm.classes[c]? = some k) (hkind : k.kind = .array comp t0) (href : t0.isReference = true) (hkc : s.vm.classes[comp]? = some kc) (hkindc : kc.kind = .array cc t1) (href1 : t1.isReference = true) (hkcc : s.vm.classes[cc]? = some kcc) (hkindcc : kcc.kind = .array ccc type)
    (hn : ¬ n < 0) (hn0 : ¬ n = 0) (hm : ¬ m < 0) (hq : ¬ q < 0) (hl1 : ¬ n.toNatClampNeg > e.platform.arrayLengthLimit) (hh1 : ¬ n.toNatClampNeg * componentBytes t0 > e.platform.maxHeapBytes) (hl2 : ¬ m.toNatClampNeg > e.platform.arrayLengthLimit) (hh2 : ¬ m.toNatClampNeg * componentBytes t1 > e.platform.maxHeapBytes) (hl3 : ¬ q.toNatClampNeg > e.platform.arrayLengthLimit) (hh3 : ¬ q.toNatClampNeg * componentBytes type > e.platform.maxHeapBytes)
    (hdf : fits type (defaultValue type) = true) (hdd : (defaultValue type).isDefault = true) (hc : s.heap.size + 1 + n.toNatClampNeg * (1 + m.toNatClampNeg) ≤ e.platform.maxCells) (hs : s.slotsUsed + n.toNatClampNeg + n.toNatClampNeg * (m.toNatClampNeg + m.toNatClampNeg * q.toNatClampNeg) ≤ e.platform.maxSlots)
    {Q : Addr → Pre} (hQ : ∀ d' acts', Q s.heap.size d' acts' (z_fill3 s c comp cc n.toNatClampNeg m.toNatClampNeg q.toNatClampNeg (defaultValue type) n.toNatClampNeg)) :
    wp (multianewarray.make c [n, m, q]) Q E e d acts s := by
  have hb0 : (n == 0) = false := by simp [hn0]
  rw [multianewarray.make]
  simp only [wp_bind', W.ite, hn, if_false, wp_pure', W.theClass, hk, hkind, Option.some.injEq, exists_eq_left']
  refine Jvm.Free.Multi.wp_newArray hk hkind hl1 hh1 (Jvm.Free.Multi.refFits href _ (Or.inl rfl)) rfl (by omega) (by have := Nat.zero_le (n.toNatClampNeg * (m.toNatClampNeg + m.toNatClampNeg * q.toNatClampNeg)); omega) ?_
  simp only [hb0]
  rw [if_neg (by decide), wp_bind', Std.Legacy.Range.forIn_eq_forIn_range']
  have hsz : ([:n.toNatClampNeg] : Std.Legacy.Range).size = n.toNatClampNeg := by simp [Std.Legacy.Range.size]
  rw [hsz]
  show wp (forIn (List.range' 0 n.toNatClampNeg 1) PUnit.unit _) _ E e d acts _
  refine wp_forIn_inv (fun rest s' => ∃ i, i ≤ n.toNatClampNeg ∧ rest = List.range' i (n.toNatClampNeg - i) ∧ s' = z_fill3 s c comp cc n.toNatClampNeg m.toNatClampNeg q.toNatClampNeg (defaultValue type) i) _ _ ⟨0, Nat.zero_le _, rfl, rfl⟩ ?_ ?_
  · rintro x rest s' d' acts' Q' ⟨i, hi, hl, rfl⟩ hnext
    have hlt : i < n.toNatClampNeg := by
      rcases Nat.lt_or_ge i n.toNatClampNeg with h | h
      · exact h
      · rw [show n.toNatClampNeg - i = 0 from by omega] at hl; simp at hl
    obtain ⟨rfl, hrest⟩ : x = i ∧ rest = List.range' (i + 1) (n.toNatClampNeg - (i + 1)) := by
      rw [show n.toNatClampNeg - i = (n.toNatClampNeg - (i + 1)) + 1 from by omega, List.range'_succ] at hl
      exact ⟨(List.cons.inj hl).1, (List.cons.inj hl).2⟩
    obtain ⟨f1, f2, f3, f4⟩ := z_fill3_facts s c comp cc n.toNatClampNeg m.toNatClampNeg q.toNatClampNeg (defaultValue type) x
    obtain ⟨o1, o2, o3⟩ := z_out3_facts c n.toNatClampNeg s.heap.size m.toNatClampNeg x
    have hm1 : x * (1 + m.toNatClampNeg) + (1 + m.toNatClampNeg) ≤ n.toNatClampNeg * (1 + m.toNatClampNeg) := by
      have := Nat.mul_le_mul_right (1 + m.toNatClampNeg) (show x + 1 ≤ n.toNatClampNeg from hlt)
      rw [Nat.succ_mul] at this; exact this
    have hm2 : x * (m.toNatClampNeg + m.toNatClampNeg * q.toNatClampNeg) + (m.toNatClampNeg + m.toNatClampNeg * q.toNatClampNeg) ≤ n.toNatClampNeg * (m.toNatClampNeg + m.toNatClampNeg * q.toNatClampNeg) := by
      have := Nat.mul_le_mul_right (m.toNatClampNeg + m.toNatClampNeg * q.toNatClampNeg) (show x + 1 ≤ n.toNatClampNeg from hlt)
      rw [Nat.succ_mul] at this; exact this
    simp only [wp_bind']
    refine Jvm.Free.Multi.wp_make2 (by rw [f3]; exact hkc) hkindc href1 (by rw [f3]; exact hkcc) hkindcc hm hq hl2 hh2 hl3 hh3 hdf hdd (by rw [f1]; omega) (by rw [f4]; omega) (fun d2 acts2 => ?_)
    have hlt0 : s.heap.size < (z_fill3 s c comp cc n.toNatClampNeg m.toNatClampNeg q.toNatClampNeg (defaultValue type) x).heap.size := by rw [f1]; omega
    obtain ⟨-, -, g3, -⟩ := Jvm.Free.Multi.fill_facts (z_fill3 s c comp cc n.toNatClampNeg m.toNatClampNeg q.toNatClampNeg (defaultValue type) x) comp cc m.toNatClampNeg q.toNatClampNeg (defaultValue type) m.toNatClampNeg
    simp only [wp_bind', W.writeLoc, wp_pure']
    refine ⟨z_out3 c n.toNatClampNeg s.heap.size m.toNatClampNeg x, by rw [Jvm.Free.Multi.fill_old _ _ _ _ _ _ hlt0]; exact f2, by rw [o2]; simp, by rw [o3]; exact hlt, ?_, hnext _ _ _ ⟨x + 1, hlt, hrest, ?_⟩⟩
    · rw [o1, o2]
      simp [State.fitsSlot, State.slotType?, g3, f3, hk, hkind, Jvm.Free.Multi.refFits href _ (Or.inr ⟨_, rfl⟩)]
    · rw [f1]; rfl
  · rintro s' d' acts' ⟨i, hi, hl, rfl⟩
    have hiN : i = n.toNatClampNeg := by
      rcases Nat.lt_or_ge i n.toNatClampNeg with h | h
      · rw [show n.toNatClampNeg - i = (n.toNatClampNeg - (i + 1)) + 1 from by omega, List.range'_succ] at hl; cases hl
      · omega
    subst hiN
    simp only [wp_pure']
    exact hQ _ _
end ZW3
section ZS3
variable {p : Program} {l : Launch} {e : Env} {R : Room} {s : State} {m : MethodId} {args : Array Value} {below : List Frame} {meth : Method} {c : Code} {T : State} {locs : List Loc} {cells slots : Nat}
theorem z_filled3 (X : Stand p l e R s m args below meth c T locs cells slots) (cA comp cc : ClassId) (N M K : Nat) (dv : Value) :
    ∀ i, ∃ L : List Loc, (∀ x ∈ L, T.heap.size ≤ x.base) ∧ Stand p l e R s m args below meth c (z_fill3 T cA comp cc N M K dv i) (locs ++ L) (cells + 1 + i * (1 + M)) (slots + N + i * (M + M * K))
  | 0 => by
    have h := X.pushed (z_out3 cA N T.heap.size M 0)
    rw [(z_out3_facts cA N T.heap.size M 0).2.2] at h
    exact ⟨[], fun x hx => (nomatch hx), by simpa [z_fill3] using h⟩
  | i + 1 => by
    obtain ⟨L, hL, Xi⟩ := z_filled3 X cA comp cc N M K dv i
    obtain ⟨f1, f2, f3, f4⟩ := z_fill3_facts T cA comp cc N M K dv i
    have hlt0 : T.heap.size < (z_fill3 T cA comp cc N M K dv i).heap.size := by rw [f1]; omega
    have hcell : (Jvm.Free.Multi.fill (z_fill3 T cA comp cc N M K dv i) comp cc M K dv M).heap[T.heap.size]? = some (z_out3 cA N T.heap.size M i) := by rw [Jvm.Free.Multi.fill_old _ _ _ _ _ _ hlt0]; exact f2
    have h := (Xi.filled comp cc M K dv M).stored hcell i (.ref (T.heap.size + 1 + i * (1 + M)))
    have e1 : cells + 1 + (i + 1) * (1 + M) = cells + 1 + i * (1 + M) + 1 + M := by rw [Nat.succ_mul]; omega
    have e2 : slots + N + (i + 1) * (M + M * K) = slots + N + i * (M + M * K) + M + M * K := by rw [Nat.succ_mul]; omega
    rw [List.append_assoc, List.append_assoc] at h
    rw [e1, e2]
    refine ⟨_, fun x hx => ?_, h⟩
    rcases List.mem_append.mp hx with q | q
    · exact hL x q
    · rcases List.mem_append.mp q with q | q
      · obtain ⟨j, -, rfl⟩ := List.mem_map.mp q
        exact Nat.le_of_lt hlt0
      · rw [List.mem_singleton.mp q]
        exact Nat.le_refl _
end ZS3
section ZR3
variable {p : Program} {l : Launch} {e : Env} {R : Room} {s : State} {m : MethodId} {args : Array Value} {below : List Frame} {meth : Method} {c : Code} {H : Heap} {locs : List Loc} {cells slots : Nat} {Q : State → Prop}
variable {cc : ByteArray} {pc : Nat} {ls : Array Slot} {rest : List Value} {A : Nat → Prop} {a : Nat} {tys : List (ClassId × FieldType)} {ws : va_W} {dC : Nat → ClassId} {dI : Nat → Nat → Nat} {own : String}
/-- new T[n][k][r], n at least 1: the outer array, the first one in it, and that one's first five at most -/
theorem z_mna3 (hx : p.tables.exec = Jvm.exec) (hb : c.code = cc) (hg : z_G args s) (hown : s.vm.findClass own = some m.cls) (I : z_I A dC dI ws tys s H locs) {index : Nat} {ty : FieldType} (hm : Cond.classLink own index ("[" ++ (FieldType.array (.array ty)).toString) ∈ lw_tbl) (hm1 : FieldType.array ty ∈ z_aas) (hm2 : ty ∈ z_aas) (hm3 : Cond.arrayClass ty ∈ lw_tbl) (hra : ∀ cA : ClassId, s.vm.findClass ("[" ++ ty.toString) = some cA → va_RA s cA ty)
    {n k r : Int32} {N' K' R' : Nat} {z : vp_A} (hn : ¬ n < 0) (hn0 : ¬ n = 0) (hk : ¬ k < 0) (hr : ¬ r < 0) (hN : n.toNatClampNeg = N') (hM : k.toNatClampNeg = K') (hR : r.toNatClampNeg = R') (h5 : 5 ≤ K') (hb1 : N' * 4 ≤ 536870912) (hb2 : K' * 4 ≤ 536870912) (hb3 : R' * componentBytes ty ≤ 536870912) (hb4 : R' ≤ 536870912) (hdf : fits ty (defaultValue ty) = true) (hdd : (defaultValue ty).isDefault = true)
    (hcells : cells + (1 + N' * (1 + K')) ≤ R.cells) (hslots : slots + (N' + N' * (K' + K' * R')) ≤ R.slots) (hz : ∀ c : ClassId, Jvm.Free.Multi.innerC c R' (defaultValue ty) = vp_cell c z) (hdg : decode cc pc = .ok (.multianewarray index 3, 4))
    (kk : ∀ (q : Nat) (cA cB cy : ClassId) (f f2 : Nat → Option Nat) (H1 : Heap), z_I A dC dI (ws ++ [(q, .inl (cA, N', .inr (.inr (.inr (.inr (va_up f 0 (some (q + 1)))))))), ((q + 1), .inl (cB, K', .inr (.inr (.inr (.inr (va_up (va_up (va_up (va_up (va_up f2 4 (some (q + 6))) 3 (some (q + 5))) 2 (some (q + 4))) 1 (some (q + 3))) 0 (some (q + 2)))))))), ((q + 2), .inl (cy, z)), ((q + 3), .inl (cy, z)), ((q + 4), .inl (cy, z)), ((q + 5), .inl (cy, z)), ((q + 6), .inl (cy, z))]) (tys ++ [(cA, .array (.array ty)), (cB, .array ty), (cy, ty)]) s H1 locs →
      W p l e R s m args below meth c H1 locs (cells + 1 + N' * (1 + K')) (slots + N' + N' * (K' + K' * R')) Q (F0 m (pc + 4) ls (.ref q :: rest))) : W p l e R s m args below meth c H locs cells slots Q (F0 m pc ls (.int r :: .int k :: .int n :: rest)) := by
  subst hN
  subst hM
  subst hR
  intro T hT X
  have hpl : e.platform.magicAccessors = ({} : Platform).magicAccessors := by rw [X.admits.platform]
  obtain ⟨comp, cA, kA, hcomp, hkA, hkindA, hnameA⟩ := Cond.arrayOver_specA (args := #[]) (first := s) (s := s) (o := none) (idx := []) (I.2.2.2.2.2.2.2.2.1 _ hm1)
  obtain ⟨cc1, cB, kB, hcc1, hkB, hkindB, hnameB⟩ := Cond.arrayOver_specA (args := #[]) (first := s) (s := s) (o := none) (idx := []) (I.2.2.2.2.2.2.2.2.1 _ hm2)
  obtain ⟨cy, kC, ccc, hcy, hkC, hkindC⟩ := Cond.arrayClass_spec (hg _ hm3 rfl)
  have ecomp : cB = comp := Option.some.inj (hnameB.symm.trans hcomp)
  subst ecomp
  have ecy : cy = cc1 := Option.some.inj (hcy.symm.trans hcc1)
  subst ecy
  obtain ⟨c0, hfc0, hcl⟩ := Cond.classLink_spec hown (hg _ hm rfl) e.platform hpl
  cases hnameA.symm.trans hfc0
  obtain ⟨hg₁, hwarm₁, hready₁⟩ := State.classEntry (e := e) X.warmed hcl
  generalize T.vm.noted (F0 m pc ls (.int r :: .int k :: .int n :: rest)).method.cls index (.cls cA) = vm₁ at hg₁ hwarm₁ hready₁
  have hal : s.vm.Alike vm₁ := hwarm₁.alike
  obtain ⟨kA₁, hkA₁, heA⟩ := hal.2.2 _ _ hkA
  obtain ⟨kB₁, hkB₁, heB⟩ := hal.2.2 _ _ hkB
  obtain ⟨kC₁, hkC₁, heC⟩ := hal.2.2 _ _ hkC
  have hkindA₁ : kA₁.kind = .array cB (.array (.array ty)) := by rw [heA]; exact hkindA
  have hkindB₁ : kB₁.kind = .array cy (.array ty) := by rw [heB]; exact hkindB
  have hkindC₁ : kC₁.kind = .array ccc ty := by rw [heC]; exact hkindC
  have X₁ := X.noted hwarm₁
  obtain ⟨hr1, hr2⟩ := X.roomAbove hcells hslots
  obtain ⟨L, hL, X2⟩ := z_filled3 X₁ cA cB cy n.toNatClampNeg k.toNatClampNeg r.toNatClampNeg (defaultValue ty) n.toNatClampNeg
  have X3 : Stand p l e R s m args below meth c (z_fill3 (T.setVm vm₁) cA cB cy n.toNatClampNeg k.toNatClampNeg r.toNatClampNeg (defaultValue ty) n.toNatClampNeg) locs (cells + 1 + n.toNatClampNeg * (1 + k.toNatClampNeg)) (slots + n.toNatClampNeg + n.toNatClampNeg * (k.toNatClampNeg + k.toNatClampNeg * r.toNatClampNeg)) :=
    X2.dropFresh (fun x hx => Nat.le_trans X.heapGrown (hL x hx))
  have hTh : (T.setVm vm₁).heap = H := hT
  obtain ⟨n1, hn1⟩ : ∃ n1, n.toNatClampNeg = n1 + 1 := ⟨n.toNatClampNeg - 1, by
    have h0 : n.toNatClampNeg ≠ 0 := fun h => by
      have h2 : n.toInt ≤ 0 := by
        have h3 : n.toInt.toNat = 0 := h
        omega
      exact hn0 (Int32.toInt_inj.mp (by
        have h4 : ¬ n.toInt < 0 := fun q => hn (Int32.lt_iff_toInt_lt.mpr q)
        show n.toInt = 0
        omega))
    omega⟩
  obtain ⟨f1, f2, -, -⟩ := z_fill3_facts (T.setVm vm₁) cA cB cy n.toNatClampNeg k.toNatClampNeg r.toNatClampNeg (defaultValue ty) n.toNatClampNeg
  have f3 := z_fill3_first (T.setVm vm₁) cA cB cy n.toNatClampNeg k.toNatClampNeg r.toNatClampNeg (defaultValue ty) n1
  rw [← hn1] at f3
  have hold : ∀ x : Nat, x < H.size → (z_fill3 (T.setVm vm₁) cA cB cy n.toNatClampNeg k.toNatClampNeg r.toNatClampNeg (defaultValue ty) n.toNatClampNeg).heap[x]? = H[x]? := fun x hx => by
    have := z_fill3_old (T.setVm vm₁) cA cB cy n.toNatClampNeg k.toNatClampNeg r.toNatClampNeg (defaultValue ty) (a := x) (by rw [hTh]; exact hx) n.toNatClampNeg
    rw [hTh] at this
    exact this
  have hout : z_out3 cA n.toNatClampNeg H.size k.toNatClampNeg n.toNatClampNeg = vp_cell cA (n.toNatClampNeg, .inr (.inr (.inr (.inr (va_up (fun j => if j < n.toNatClampNeg then some (H.size + 1 + j * (1 + k.toNatClampNeg)) else none) 0 (some (H.size + 1))))))) := by
    rw [z_upself (by show (if 0 < n.toNatClampNeg then some (H.size + 1 + 0 * (1 + k.toNatClampNeg)) else none) = _; rw [if_pos (by omega), Nat.zero_mul]), vp_cell_q]
    exact z_outer3 cA n.toNatClampNeg H.size k.toNatClampNeg n.toNatClampNeg
  rw [hTh] at f1 f2 f3
  rw [hout] at f2
  obtain ⟨f4, f5⟩ := f3
  have hmid : Jvm.Free.Multi.outerC cB k.toNatClampNeg (H.size + 1) k.toNatClampNeg = vp_cell cB (k.toNatClampNeg, .inr (.inr (.inr (.inr (fun i => if i < k.toNatClampNeg then some (H.size + 1 + 1 + i) else none))))) := by
    rw [vp_cell_q]
    exact vr_outer cB k.toNatClampNeg (H.size + 1) k.toNatClampNeg
  obtain ⟨f2', ef2⟩ : ∃ g : Nat → Option Nat, g = (fun i => if i < k.toNatClampNeg then some (H.size + 1 + 1 + i) else none) := ⟨_, rfl⟩
  have hg2 : ∀ j : Nat, j < 5 → f2' j = some (H.size + 2 + j) := fun j hj => by
    rw [ef2]
    show (if j < k.toNatClampNeg then some (H.size + 1 + 1 + j) else none) = _
    rw [if_pos (by omega)]
  have hup : va_up (va_up (va_up (va_up (va_up f2' 4 (some (H.size + 6))) 3 (some (H.size + 5))) 2 (some (H.size + 4))) 1 (some (H.size + 3))) 0 (some (H.size + 2)) = f2' := by
    rw [z_upself (hg2 4 (by omega)), z_upself (hg2 3 (by omega)), z_upself (hg2 2 (by omega)), z_upself (hg2 1 (by omega)), z_upself (hg2 0 (by omega))]
  rw [hmid, ← ef2, ← hup] at f4
  rw [hz] at f5
  generalize hF : z_fill3 (T.setVm vm₁) cA cB cy n.toNatClampNeg k.toNatClampNeg r.toNatClampNeg (defaultValue ty) n.toNatClampNeg = F at *
  have hA1 : ArrOfT s cA (.array (.array ty)) := fun N9 z9 => ⟨(fun q hq => by cases hq), kA, hkA, cB, hkindA⟩
  have hA2 : ArrOfT s cB (.array ty) := fun N9 z9 => ⟨(fun q hq => by cases hq), kB, hkB, cy, hkindB⟩
  have hA3 : ArrOfT s cy ty := fun N9 z9 => ⟨(fun q hq => by cases hq), kC, hkC, ccc, hkindC⟩
  obtain ⟨t, a1, b1⟩ := kk H.size cA cB cy (fun j => if j < n.toNatClampNeg then some (H.size + 1 + j * (1 + k.toNatClampNeg)) else none) f2' F.heap (z_ext I (by rw [f1]; omega) hold _ (fun i q hq => by
    match i, hq with
    | 0, hq => cases hq; exact ⟨Nat.le_refl _, f2⟩
    | 1, hq => cases hq; exact ⟨Nat.le_succ _, f4⟩
    | 2, hq => cases hq; exact ⟨Nat.le_add_right _ _, f5 0 (by omega)⟩
    | 3, hq => cases hq; exact ⟨Nat.le_add_right _ _, f5 1 (by omega)⟩
    | 4, hq => cases hq; exact ⟨Nat.le_add_right _ _, f5 2 (by omega)⟩
    | 5, hq => cases hq; exact ⟨Nat.le_add_right _ _, f5 3 (by omega)⟩
    | 6, hq => cases hq; exact ⟨Nat.le_add_right _ _, f5 4 (by omega)⟩
    | i + 7, hq => simp at hq) (fun i j p q hi hj h => by
    have hp : ∀ (i : Nat) (p : Nat × va_E), ([(H.size, .inl (cA, n.toNatClampNeg, .inr (.inr (.inr (.inr (va_up (fun j => if j < n.toNatClampNeg then some (H.size + 1 + j * (1 + k.toNatClampNeg)) else none) 0 (some (H.size + 1)))))))), (H.size + 1, .inl (cB, k.toNatClampNeg, .inr (.inr (.inr (.inr (va_up (va_up (va_up (va_up (va_up f2' 4 (some (H.size + 6))) 3 (some (H.size + 5))) 2 (some (H.size + 4))) 1 (some (H.size + 3))) 0 (some (H.size + 2)))))))), (H.size + 2, .inl (cy, z)), (H.size + 3, .inl (cy, z)), (H.size + 4, .inl (cy, z)), (H.size + 5, .inl (cy, z)), (H.size + 6, .inl (cy, z))] : va_W)[i]? = some p → p.1 = H.size + i := fun i p hi => by
      match i, hi with
      | 0, hi => cases hi; rfl
      | 1, hi => cases hi; rfl
      | 2, hi => cases hi; rfl
      | 3, hi => cases hi; rfl
      | 4, hi => cases hi; rfl
      | 5, hi => cases hi; rfl
      | 6, hi => cases hi; rfl
      | i + 7, hi => simp at hi
    have h1 := hp i p hi
    have h2 := hp j q hj
    omega) (((z_K1 I.1 hA1 hnameA).app (z_K1 I.1 hA2 hnameB)).app (z_K1 I.1 hA3 (hra cy hcc1)))) F rfl X3
  refine ⟨t, ?_, b1⟩
  have hl1 : ¬ n.toNatClampNeg > e.platform.arrayLengthLimit := by rw [Launch.admits_arrayLengthLimit X.admits]; omega
  have hh1 : ¬ n.toNatClampNeg * componentBytes (.array (.array ty)) > e.platform.maxHeapBytes := by
    rw [Launch.admits_maxHeapBytes X.admits]; show ¬ n.toNatClampNeg * 4 > 536870912; omega
  have hl2 : ¬ k.toNatClampNeg > e.platform.arrayLengthLimit := by rw [Launch.admits_arrayLengthLimit X.admits]; omega
  have hh2 : ¬ k.toNatClampNeg * componentBytes (.array ty) > e.platform.maxHeapBytes := by
    rw [Launch.admits_maxHeapBytes X.admits]; show ¬ k.toNatClampNeg * 4 > 536870912; omega
  have hl3 : ¬ r.toNatClampNeg > e.platform.arrayLengthLimit := by rw [Launch.admits_arrayLengthLimit X.admits]; omega
  have hh3 : ¬ r.toNatClampNeg * componentBytes ty > e.platform.maxHeapBytes := by rw [Launch.admits_maxHeapBytes X.admits]; omega
  have hdg' : decode c.code pc = .ok (.multianewarray index 3, 4) := by rw [hb]; exact hdg
  have eT : T.heap.size = H.size := by rw [hT]
  jvm_step X.here [hx, hdg']
  simp only [multianewarray.sem, wp_bind', W.resolveClassAt_links (State.method?_setTop (F0 m pc ls (.int r :: .int k :: .int n :: rest)) X.here.top) hg₁]
  rw [W.popN, if_neg (by decide)]
  refine ⟨F0 m pc ls (.int r :: .int k :: .int n :: rest), State.topJava?_setTop' (s := T.setVm vm₁) (F0 m pc ls (.int r :: .int k :: .int n :: rest)) X.here.top, [.int n, .int k, .int r], rest, rfl, rfl, ?_⟩
  simp only [List.mapM_cons, List.mapM_nil, wp_bind', wp_pure']
  refine z_wp_make3 (k := kA₁) (kc := kB₁) (kcc := kC₁) (comp := cB) (cc := cy) (ccc := ccc) (t0 := .array (.array ty)) (t1 := .array ty) (type := ty) hkA₁ hkindA₁ rfl hkB₁ hkindB₁ rfl hkC₁ hkindC₁ hn hn0 hk hr hl1 hh1 hl2 hh2 hl3 hh3 hdf hdd (by show T.heap.size + 1 + _ ≤ _; omega) (by show T.slotsUsed + _ + _ ≤ _; omega) (fun d' acts' => ?_)
  have eS : ((T.setTop (F0 m pc ls (.int r :: .int k :: .int n :: rest))).setVm vm₁).setTop (F0 m pc ls rest) = (T.setVm vm₁).setTop (F0 m pc ls rest) := by
    show ((T.setVm vm₁).setTop (F0 m pc ls (.int r :: .int k :: .int n :: rest))).setTop _ = _
    rw [State.setTop_setTop]
  rw [eS, z_fill3_setTop, hF]
  simp only [wp_bind', W.mark, W.pushRef, State.topJava?_setTop' _ X3.here.top, Option.some.injEq, exists_eq_left', State.setTop_setTop, State.heap_setTop]
  intro acts
  simp [jvm, X3.here.top]
  have e9 : (T.setVm vm₁).heap.size = H.size := eT
  first | (rw [← eT] at a1; exact a1) | (rw [e9]; exact a1) | exact a1
end ZR3
