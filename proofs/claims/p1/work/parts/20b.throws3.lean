/-! throwing a NoSuchElementException with a text: its constructor passes on by the entry 13 of its own pool (z_ctorN follows the proof of Stand.ctorThrowS, BundleOwnThrow.lean, with that one pass in its place) -/
abbrev z_nN : String := "java/util/NoSuchElementException"
abbrev z_nR : String := "java/lang/RuntimeException"
abbrev z_nB : ByteArray := prog_32_method_4_code
theorem z_nB_0 : decode z_nB 0 = .ok (.aload_n 0, 1) := by decide +kernel
theorem z_nB_1 : decode z_nB 1 = .ok (.aload_n 1, 1) := by decide +kernel
theorem z_nB_2 : decode z_nB 2 = .ok (.invokespecial 13, 3) := by decide +kernel
theorem z_nB_5 : decode z_nB 5 = .ok (.return_, 1) := by decide +kernel
def z_nAt (ic : Nat) : List Cond :=
  Bundle.throwableAtoms ++ (Bundle.throwableSAtoms ++ (Bundle.passSAtoms z_nN z_nR 13 z_nB ++ (Bundle.chainSAtoms z_nR ["java/lang/Exception"] ++
  [.methodLink RX8 ic (Bundle.initS z_nN), .instantiable z_nN 6, .selects z_nN Bundle.tFill0 Bundle.tFill0, .selects z_nN Bundle.tFill Bundle.tFill,
   .lays z_nN Bundle.tN "cause" "Ljava/lang/Throwable;", .lays z_nN Bundle.tN "stackTrace" Bundle.steD, .lays z_nN Bundle.tN "suppressedExceptions" Bundle.listD, .lays z_nN Bundle.tN "detailMessage" "Ljava/lang/String;",
   .isRef (.static Bundle.tN "UNASSIGNED_STACK" Bundle.steD), .isRef (.static Bundle.tN "SUPPRESSED_SENTINEL" Bundle.listD),
   .fieldLink Bundle.tN 198 Bundle.tN "backtrace" "Ljava/lang/Object;", .lays Bundle.tN Bundle.tN "backtrace" "Ljava/lang/Object;", .lays z_nN Bundle.tN "backtrace" "Ljava/lang/Object;"])))
theorem z_nAt_1 {ic : Nat} {w : Cond} (h : w ∈ Bundle.throwableAtoms) : w ∈ z_nAt ic := List.mem_append_left _ h
theorem z_nAt_2 {ic : Nat} {w : Cond} (h : w ∈ Bundle.throwableSAtoms) : w ∈ z_nAt ic := List.mem_append_right _ (List.mem_append_left _ h)
theorem z_nAt_3 {ic : Nat} {w : Cond} (h : w ∈ Bundle.passSAtoms z_nN z_nR 13 z_nB) : w ∈ z_nAt ic := List.mem_append_right _ (List.mem_append_right _ (List.mem_append_left _ h))
theorem z_nAt_4 {ic : Nat} {w : Cond} (h : w ∈ Bundle.chainSAtoms z_nR ["java/lang/Exception"]) : w ∈ z_nAt ic := List.mem_append_right _ (List.mem_append_right _ (List.mem_append_right _ (List.mem_append_left _ h)))
section ZNse
variable {p : Program} {l : Launch} {e : Env} {R : Room} {s : State} {m : MethodId} {args : Array Value} {below : List Frame} {meth : Method} {c : Code}
set_option maxHeartbeats 4000000 in
theorem z_ctorN {T1 : State} {cells slots : Nat} (X : Stand p l e R s m args below meth c T1 [] cells slots) (hx : p.tables.exec = Jvm.exec) (htr : e.platform.stackTraces = false) {ic : Nat} (hown : s.vm.findClass RX8 = some m.cls)
    (h : ∀ w ∈ z_nAt ic, w.before args s = true) {a : Addr} {cX : ClassId} {kX : Class} (hfX : s.vm.findClass z_nN = some cX) (hkX : s.vm.classes[cX]? = some kX) (hcell : T1.heap[a]? = some (freshCell cX kX)) (hnew : s.heap.size ≤ a)
    {msg : Value} (hmsg : msg.isRef = true) {g : JFrame} (hg : g.method = m) (hsize : g.locals.size = c.maxLocals) (hlocked : g.locked = none) (hentered : g.entered = []) {rest : List Value} (hstack : g.stack = msg :: .ref a :: .ref a :: rest)
    (d6 : decode c.code g.pc = .ok (.invokespecial ic, 3)) (d9 : decode c.code (g.pc + 3) = .ok (.athrow, 1)) (hout : ∀ x ∈ c.exceptionTable.toList, covers x (g.pc + 3) = false)
    (hRf : 5 < R.frames) (hRl : 2 * g.monitorRoom + ((Value.ref a :: rest).map fun v => v.category).sum + 81 ≤ R.locals) (hlocks : meth.locks = false) :
    ∃ U : State, Steps p.tables e below (T1.setTop g) U ∧ U.status = .running ∧ Ended U below (.threw a) ∧ s.WarmedH U.vm ∧ s.sameButNew ({ U with vm := s.vm } : State) [] cells slots ∧
      ∃ ce, U.heap[a]? = some ce ∧ ce.vm = .none ∧ s.vm.findClass z_nN = some ce.cls := by
  have hpl : e.platform.magicAccessors = ({} : Platform).magicAccessors := by rw [X.admits.platform]
  have w : ∀ z ∈ z_nAt ic, z.holds args s none s [] = true := fun z hz => h z hz
  obtain ⟨T, Z0, L, -, Y⟩ := ThrowableC.of_atoms (args := args) (s := s) (pl := e.platform) (by rw [X.admits.platform]) (by rw [X.admits.platform]) hpl (fun z hz => h z (z_nAt_1 hz))
  obtain ⟨Z, M, LZ, LM, hnZ⟩ := Init0T.ofS_atoms (args := args) hpl L Y (fun z hz => h z (z_nAt_2 hz))
  obtain ⟨P1, L1, hP1, hs1⟩ := PassC.ofS_atoms (args := args) (s := s) hpl (X := z_nN) (Y := z_nR) (by decide +kernel) (by decide) z_nB_0 z_nB_1 z_nB_2 z_nB_5 (fun z hz => h z (z_nAt_3 hz))
  obtain ⟨P2, Ps, hlen, L2, hL, hP2, hk1, hk2⟩ := Bundle.chainS (args := args) hpl hnZ ["java/lang/Exception"] z_nR (by decide +kernel) (by decide +kernel) (fun z hz => h z (z_nAt_4 hz))
  have hk0 : P1.sup = P2.m := Option.some.inj (hs1.symm.trans hP2)
  have hfound : s.vm.findClass z_nN = some P1.m.cls := findClass_of_methodNamed hP1
  cases Option.some.inj (hfX.symm.trans hfound)
  obtain ⟨c1, k1, hc1, hk, hord, -, -, -⟩ := Cond.instantiable_spec (w (.instantiable z_nN 6) (by simp [z_nAt]))
  cases Option.some.inj (hc1.symm.trans hfound)
  cases Option.some.inj (hkX.symm.trans hk)
  have hsel0 : selectMethod e.platform s.vm P1.m.cls T.fill0 = .method T.fill0 := by
    obtain ⟨c2, r2, m2, q1, q2, q3, q4, -⟩ := Cond.selects_spec (w (.selects z_nN Bundle.tFill0 Bundle.tFill0) (by simp [z_nAt]))
    cases Option.some.inj (q1.symm.trans hfound)
    cases Option.some.inj (q2.symm.trans (State.methodFound?_of_named Y.fill0 (by decide)))
    cases Option.some.inj (q3.symm.trans Y.fill0)
    rw [Launch.admits_selectMethod X.admits]; exact q4
  have hselF : selectMethod e.platform s.vm P1.m.cls T.fill = .method T.fill := by
    obtain ⟨c2, r2, m2, q1, q2, q3, q4, -⟩ := Cond.selects_spec (w (.selects z_nN Bundle.tFill Bundle.tFill) (by simp [z_nAt]))
    cases Option.some.inj (q1.symm.trans hfound)
    cases Option.some.inj (q2.symm.trans (State.methodFound?_of_named Y.fill (by decide)))
    cases Option.some.inj (q3.symm.trans Y.fill)
    rw [Launch.admits_selectMethod X.admits]; exact q4
  obtain ⟨cS0, hS0, hiss⟩ := Y.statics
  obtain ⟨u0, hu0⟩ := Cond.staticRefV Y.unassigned L.unassignedStatic L.statics hS0 hiss (w (.isRef (.static Bundle.tN "UNASSIGNED_STACK" Bundle.steD)) (by simp [z_nAt]))
  obtain ⟨sen, hsen⟩ := Cond.staticRefV Y.sentinel L.sentinelStatic L.statics hS0 hiss (w (.isRef (.static Bundle.tN "SUPPRESSED_SENTINEL" Bundle.listD)) (by simp [z_nAt]))
  obtain ⟨ciB, iB, fB, hkB, hgB, haB, hsB, -, hnB, htB, hffB⟩ := Cond.ownField (t := .object "java/lang/Object") Y.found L.cls (by decide +kernel) (w (.fieldLink Bundle.tN 198 Bundle.tN "backtrace" "Ljava/lang/Object;") (by simp [z_nAt])) (w (.lays Bundle.tN Bundle.tN "backtrace" "Ljava/lang/Object;") (by simp [z_nAt])) e.platform hpl
  obtain ⟨cS, hcS, heS, -, hkeep⟩ := X.same.2.2.2.2.2 T.aS cS0 hS0
  have hcS : T1.heap[T.aS]? = some cS := hcS
  have hknown : cS.vm ≠ .unknown := by
    rw [heS]; intro hu
    rw [show cS0.vm = .unknown from hu] at hiss
    cases hiss
  have hne : T.aS ≠ a := Nat.ne_of_lt (Nat.lt_of_lt_of_le (Array.getElem?_eq_some_iff.mp hS0).1 hnew)
  obtain ⟨iM, hffM⟩ := Y.msg
  obtain ⟨tyC, dC, hdC, hdnC⟩ := Cond.laysAt hfound hk Y.cause (w (.lays z_nN Bundle.tN "cause" "Ljava/lang/Throwable;") (by simp [z_nAt]))
  obtain ⟨tyS, dS, hdS, hdnS⟩ := Cond.laysAt hfound hk Y.stack (w (.lays z_nN Bundle.tN "stackTrace" Bundle.steD) (by simp [z_nAt]))
  obtain ⟨tyP, dP, hdP, hdnP⟩ := Cond.laysAt hfound hk Y.supp (w (.lays z_nN Bundle.tN "suppressedExceptions" Bundle.listD) (by simp [z_nAt]))
  obtain ⟨tyM, -⟩ := Cond.laysAt hfound hk hffM (w (.lays z_nN Bundle.tN "detailMessage" "Ljava/lang/String;") (by simp [z_nAt]))
  obtain ⟨tyB, dB, hdB, hdnB⟩ := Cond.laysAt hfound hk hffB (w (.lays z_nN Bundle.tN "backtrace" "Ljava/lang/Object;") (by simp [z_nAt]))
  have bC := Cond.laysApart hdB hdC hdnB hdnC (by rw [hnB, Y.causeName]; decide)
  have bS := Cond.laysApart hdB hdS hdnB hdnS (by rw [hnB, Y.stackName]; decide)
  have bP := Cond.laysApart hdB hdP hdnB hdnP (by rw [hnB, Y.suppName]; decide)
  have hskip : SkipFacts T e.platform s (fun u => u) u0 ((preparedCellV T.toThrowableT (freshCell P1.m.cls kX) a u0 sen).withEntry T1.cur) :=
    ⟨{ ci198 := ciB, i198 := iB, fBack := fB }, ⟨hkB, hgB, haB, hsB⟩, by
      have := fresh_default (c := P1.m.cls) tyB
      rw [htB] at this
      simpa [preparedCellV, Cell.setSlot, Cell.withEntry, Array.getElem?_setIfInBounds, bC, bS, bP, bC.symm, bS.symm, bP.symm, defaultValue] using this, fun _ _ => rfl⟩
  obtain ⟨tm, methC, cdC, kC, vm1, hnC, -, -, -, -, -, -, -, hW1, st1⟩ := Steps.initColdS (tb := p.tables) (e := e) (below := below) (s := s) (U := T1) X.here hx X.warmed hpl hown (t := Bundle.initS z_nN) rfl rfl (by decide)
    (w (.methodLink RX8 ic (Bundle.initS z_nN)) (by simp [z_nAt])) (h (.instanceMethod (Bundle.initS z_nN)) (z_nAt_3 (by simp [Bundle.passSAtoms]))) (bytes := z_nB) (maxL := 2) (h (.code (Bundle.initS z_nN) z_nB 2 none) (z_nAt_3 (by simp [Bundle.passSAtoms])))
    (f := g) hg (a := a) (msg := msg) (rest := .ref a :: rest) hstack d6
  cases Option.some.inj (hnC.symm.trans hP1)
  obtain ⟨vm2, X2, st2⟩ := (X.noted hW1).ctorMessageOffV hx (g := { g with stack := .ref a :: rest }) hg hsize T L Z LZ M LM (P1 :: P2 :: Ps)
    (fun P hP => by
      rcases List.mem_cons.mp hP with rfl | hP
      · exact L1
      · rcases List.mem_cons.mp hP with rfl | hP
        · exact L2
        · exact hL P hP) ⟨hk0, hk1, hk2⟩ (u0 := u0) (sen := sen) (self := a) hmsg (cell := freshCell P1.m.cls kX) (cellS := cS)
    hcell (fun _ => by simp) (by simp) rfl rfl hsel0 hselF hcS hne hknown (by rw [hkeep _ (fun hm => nomatch hm)]; exact hu0) (by rw [hkeep _ (fun hm => nomatch hm)]; exact hsen)
    (Takes.of_laid hk hord tyC (by rw [Y.causeType]; rfl)) (Takes.of_laid hk hord tyS (by rw [Y.stackType]; exact fits_refV_array _ u0)) (Takes.of_laid hk hord tyP (by rw [Y.suppType]; exact fits_refV_object _ sen))
    (Takes.of_laid hk hord tyM (by rw [Y.msgType]; exact fits_refV_object _ ⟨msg, hmsg⟩)) Y.objLocals hskip htr [] d6
    (by simp only [List.length_cons, hlen, List.length_nil]; omega) (by simp only [List.length_cons, hlen, List.length_nil]; exact hRl)
  obtain ⟨hwalk, hrun, hended, hWU, hsame⟩ := X2.athrowLeaves hx (g := { g with stack := .ref a :: rest, pc := g.pc + 3 }) hg hlocked hentered hout (a := a) (rest := rest) rfl d9 hlocks
  have hlt : a < ((T1.setVm vm1).setVm vm2).heap.size := (Array.getElem?_eq_some_iff.mp hcell).1
  have hU := heapAt_setCell_self (s := (T1.setVm vm1).setVm vm2) (plainBareV T.toThrowableT (freshCell P1.m.cls kX) a u0 sen msg) hlt
  refine ⟨_, st1 _ (fun acts => ?_), hrun, hended, hWU, hsame.weaken (fun y hy hlt' => ?_) (Nat.le_refl _) (Nat.le_refl _), _, hU, rfl, hfound⟩
  · rw [doInvoke_state]
    exact st2 _ hwalk
  · exfalso
    rw [List.nil_append] at hy
    have hb : y.base = a := by
      simp only [List.mem_cons, List.not_mem_nil, or_false] at hy
      rcases hy with rfl | rfl | rfl | rfl | rfl <;> rfl
    rw [hb] at hlt'
    exact Nat.not_lt.mpr hnew hlt'
end ZNse
section ZNt
variable {p : Program} {l : Launch} {e : Env} {R : Room} {s : State} {m : MethodId} {args : Array Value} {below : List Frame} {meth : Method} {c : Code} {H : Heap} {locs : List Loc} {cells slots : Nat} {Q : State → Prop}
variable {cc : ByteArray} {pc : Nat} {ls : Array Slot} {rest : List Value} {A : Nat → Prop} {tys : List (ClassId × FieldType)} {ws : va_W} {dC : Nat → ClassId} {dI : Nat → Nat → Nat} {nL : Nat}
set_option maxHeartbeats 4000000 in
/-- 'throw new NoSuchElementException("text")' (follows vx_throwS) -/
theorem z_throwN (hx : p.tables.exec = Jvm.exec) (hb : c.code = cc) (hl : l.stackTraces = false) (hml : c.maxLocals = nL) (hls : ls.size = nL) (hlocks : meth.locks = false) (htab : ∀ x ∈ c.exceptionTable.toList, False) (hg : z_G args s) (hown : s.vm.findClass RX8 = some m.cls) (I : z_I A dC dI ws tys s H locs) {Qc : Array Value → State → Outcome → State → Prop} {pE : String → Prop} {text : String} {ik is ic mc ms : Nat} (hE : pE z_nN)
    (hm1 : Cond.classLink RX8 ik z_nN ∈ lw_tbl) (hm2 : Cond.initialized z_nN ∈ lw_tbl) (h1 : ∀ w ∈ ((z_nAt ic).filter vx_no).filter goodWord, w ∈ lw_tbl) (h2 : ∀ w ∈ ((z_nAt ic).filter vx_no).filter (fun w => !goodWord w), w ∈ z_decls.map Cond.declares)
    (hgood : ∀ w ∈ (z_nAt ic).filter vx_no, vx_ot w = true) (hst : (is, text) ∈ z_strs) (d0 : decode cc pc = .ok (.new ik, 3)) (d3 : decode cc (pc + 3) = .ok (.dup, 1)) (d4 : decode cc (pc + 4) = .ok (.ldc is, 2)) (d6 : decode cc (pc + 6) = .ok (.invokespecial ic, 3)) (d9 : decode cc (pc + 9) = .ok (.athrow, 1))
    (hRf : 5 < R.frames) (hRl : (rest.map fun v => v.category).sum + 82 ≤ R.locals) (hRc : cells + 1 ≤ R.cells) (hRs : slots + 6 ≤ R.slots) (hcm : cells + 1 ≤ mc) (hsm : slots + 6 ≤ ms) :
    W p l e R s m args below meth c H locs cells slots (vx_MQ below Qc (z_XC pE A) args s mc ms A) (F0 m pc ls rest) := by
  obtain ⟨hK, hP, hD, hS, hA, hM⟩ := I
  obtain ⟨sa, hstr⟩ := hM.2.2.2.2.2.2.1 _ hst
  have hU := hM.2.2.2.2.2.2.2.1
  have hN := hM.2.2.2.2.2.2.2.2
  have hat : ∀ w ∈ (z_nAt ic).filter vx_no, w.before args s = true := vx_hat (fun w hw => hg w (h1 w hw) (List.mem_filter.mp hw).2) h2 (fun w hw => by
    obtain ⟨x, hx, rfl⟩ := List.mem_map.mp hw
    exact va_Nw.use rfl (hM.2.1 x hx))
  intro T hT X
  have htr : e.platform.stackTraces = false := (show e.platform.stackTraces = l.stackTraces by rw [X.admits.platform]).trans hl
  have Y := vx_rebase X (R' := { frames := R.frames, locals := R.locals, cells := 1, slots := 6 }) (Nat.le_refl _) (Nat.le_refl _) hRc hRs
  obtain ⟨s', hsv⟩ : ∃ z, z = (T.setVm s.vm).setFrames (.invoking m args :: below) := ⟨_, rfl⟩
  rw [← hsv] at Y
  have hvm : s'.vm = s.vm := by rw [hsv]; rfl
  have hhp : s'.heap = H := by rw [hsv]; exact hT
  have hW0 : s.WarmedH s'.vm := by rw [hvm]; exact State.WarmedH.refl s
  have hat' : ∀ w ∈ (z_nAt ic).filter vx_no, w.before args s' = true := fun w hw => vx_ot_at hW0 hvm.symm (hgood w hw) (hat w hw)
  have hk' : (Cond.classLink RX8 ik z_nN).before args s' = true := vx_ot_at hW0 hvm.symm rfl (hg _ hm1 rfl)
  have hini' : (Cond.initialized z_nN).before args s' = true := vx_ot_at hW0 hvm.symm rfl (hg _ hm2 rfl)
  have hU' : vx_Zq Bundle.tN "UNASSIGNED_STACK" Bundle.steD A s' s'.heap := by rw [hhp]; exact vx_Zq.moved hW0.alike (hU.kept hS.2.1)
  have hN' : vx_Zq Bundle.tN "SUPPRESSED_SENTINEL" Bundle.listD A s' s'.heap := by rw [hhp]; exact vx_Zq.moved hW0.alike (hN.kept hS.2.1)
  have h : ∀ w ∈ z_nAt ic, w.before args s' = true := vx_own hat' (vx_isRefq hU'.1) (vx_isRefq hN'.1) hU'.2.word hN'.2.word
  have hown' : s'.vm.findClass RX8 = some m.cls := by rw [hvm]; exact hown
  have hins : (Cond.instantiable z_nN 6).before args s' = true := h _ (by simp [z_nAt])
  obtain ⟨vm1, cX, kX, hfX, hkX, -, -, X1, st1⟩ := Y.newCold hx (own := RX8) (C := z_nN) (index := ik) (n := 6) hown' hk' hins hini'
    (g := F0 m pc ls rest) rfl (by rw [hb]; exact d0) (Nat.le_refl _) (Nat.le_refl _)
  generalize hT1 : (T.setVm vm1).pushCell { cls := cX, slots := kX.instanceTypes.map defaultValue, vm := .none } = T1 at X1 st1
  have hcat : (Value.ref T.heap.size).category = 1 := rfl
  have hcell : T1.heap[T.heap.size]? = some (freshCell cX kX) := by rw [← hT1]; exact State.heap_pushCell_size _ _
  have d3' : decode c.code (pc + 3) = .ok (.dup, 1) := by rw [hb]; exact d3
  have d4' : decode c.code (pc + 4) = .ok (.ldc is, 2) := by rw [hb]; exact d4
  have hstr' : vk_R RX8 is text sa s' := vk_R.warm hW0 hstr
  obtain ⟨U, hsteps, hrun, hend, hW, hsame, ce, hce, hO, hcl⟩ := z_ctorN X1 hx htr (ic := ic) hown' h hfX hkX hcell (by rw [hhp, hT]; exact Nat.le_refl _) (msg := .ref sa) rfl
    (g := { method := m, pc := pc + 6, locals := ls, stack := .ref sa :: .ref T.heap.size :: .ref T.heap.size :: rest, locked := none }) rfl (hls.trans hml.symm) rfl rfl (rest := rest) rfl
    (by rw [hb]; exact d6) (by rw [hb]; exact d9) (fun x hx => (htab x hx).elim) hRf (by
      have e0 : ({ method := m, pc := pc + 6, locals := ls, stack := .ref sa :: .ref T.heap.size :: .ref T.heap.size :: rest, locked := none } : JFrame).monitorRoom = 0 := rfl
      rw [e0]
      simp only [List.map_cons, List.sum_cons, hcat]; omega) hlocks
  obtain ⟨f1, f2⟩ := vx_frame hsame
  rw [hhp] at f1 f2
  have hWs : s.WarmedH U.vm := State.WarmedH.trans hW0 hW
  have hcl : s.vm.findClass z_nN = some ce.cls := by
    rw [hvm] at hcl
    exact hcl
  have hall : s.sameButNew ({ U with vm := s.vm } : State) locs mc ms := by
    subst hsv
    obtain ⟨e1, e2⟩ := hsame
    rw [State.setFrames_setFrames] at e1
    have h2 : (T.setVm s.vm).sameButNew ({ U with vm := s.vm } : State) [] (0 + 1) (0 + 6) := ⟨e1, e2⟩
    have h3 := X.same.trans h2
    rw [List.append_nil] at h3
    exact h3.mono hcm hsm
  have hxc : z_XC pE A z_nN s U := ⟨(), trivial, hE, Nat.le_trans hS.1 f1, fun q h3 h4 => (f2 q (Nat.lt_of_lt_of_le h3 hS.1) (fun z hz => nomatch hz)).trans (hS.2.1 q h3 h4)⟩
  refine ⟨U, ?_, .threw T.heap.size, hrun, hend, Or.inr ⟨T.heap.size, rfl, z_nN, ce, locs, hxc, hce, hO, hcl, hWs, hall, hS.2.2⟩⟩
  refine st1 _ ?_
  show Steps p.tables e below (T1.setTop { method := m, pc := pc + 3, locals := ls, stack := .ref T.heap.size :: rest, locked := none }) _
  jvm_step X1.here [X1.here.top, hx, d3', Value.category]
  exact X1.ldcString hx (own := RX8) (text := text) (index := is) (a := sa) hown' hstr'.1 hstr'.2
    (g := { method := m, pc := pc + 4, locals := ls, stack := .ref T.heap.size :: .ref T.heap.size :: rest, locked := none }) rfl d4' _ hsteps
end ZNt
/-! words of the tables, by their places; what classes lay; what throws need -/
set_option maxRecDepth 100000 in
theorem h1_IllegalArgumentException_29 : ∀ w ∈ (vx_atS RX8 29 "java/lang/IllegalArgumentException" z_names).filter goodWord, w ∈ lw_tbl := z_placed [11, 414, 423, 431, 434, 436, 415, 416, 34, 35, 417, 422, 432, 452, 404, 453, 406, 454, 408, 418, 420, 410, 448, 449, 451, 410, 439, 440, 441, 442, 442, 443, 444, 445, 445, 446, 447, 448, 438, 393, 401, 402, 403, 405, 407, 409, 413, 412, 411] (by decide +kernel)
set_option maxRecDepth 100000 in
theorem h2_IllegalArgumentException_29 : ∀ w ∈ (vx_atS RX8 29 "java/lang/IllegalArgumentException" z_names).filter (fun w => !goodWord w), w ∈ Cond.castable "java/lang/IllegalArgumentException" "java/lang/IllegalArgumentException" :: z_decls.map Cond.declares := by decide +kernel
theorem h3_IllegalArgumentException_29 : ∀ w ∈ vx_atS RX8 29 "java/lang/IllegalArgumentException" z_names, vx_ot w = true := by decide +kernel
theorem h4_IllegalArgumentException_29 : Bundle.fit "java/lang/IllegalArgumentException" = true := by decide +kernel
set_option maxRecDepth 100000 in
theorem h1_IllegalStateException_49 : ∀ w ∈ (vx_atS RX8 49 "java/lang/IllegalStateException" z_names).filter goodWord, w ∈ lw_tbl := z_placed [11, 414, 423, 431, 434, 436, 415, 416, 34, 35, 417, 422, 432, 452, 404, 453, 406, 454, 408, 418, 420, 410, 448, 449, 451, 410, 479, 480, 481, 442, 442, 443, 444, 445, 445, 446, 447, 448, 478, 469, 471, 427, 472, 473, 474, 475, 413, 412, 476] (by decide +kernel)
set_option maxRecDepth 100000 in
theorem h2_IllegalStateException_49 : ∀ w ∈ (vx_atS RX8 49 "java/lang/IllegalStateException" z_names).filter (fun w => !goodWord w), w ∈ Cond.castable "java/lang/IllegalStateException" "java/lang/IllegalStateException" :: z_decls.map Cond.declares := by decide +kernel
theorem h3_IllegalStateException_49 : ∀ w ∈ vx_atS RX8 49 "java/lang/IllegalStateException" z_names, vx_ot w = true := by decide +kernel
theorem h4_IllegalStateException_49 : Bundle.fit "java/lang/IllegalStateException" = true := by decide +kernel
set_option maxRecDepth 100000 in
theorem h1_IndexOutOfBoundsException_104 : ∀ w ∈ (vx_atS RX8 104 "java/lang/IndexOutOfBoundsException" z_names).filter goodWord, w ∈ lw_tbl := z_placed [11, 414, 423, 431, 434, 436, 415, 416, 34, 35, 417, 422, 432, 452, 404, 453, 406, 454, 408, 418, 420, 410, 448, 449, 451, 410, 615, 616, 617, 442, 442, 443, 444, 445, 445, 446, 447, 448, 652, 643, 645, 428, 646, 647, 648, 649, 413, 412, 650] (by decide +kernel)
set_option maxRecDepth 100000 in
theorem h2_IndexOutOfBoundsException_104 : ∀ w ∈ (vx_atS RX8 104 "java/lang/IndexOutOfBoundsException" z_names).filter (fun w => !goodWord w), w ∈ Cond.castable "java/lang/IndexOutOfBoundsException" "java/lang/IndexOutOfBoundsException" :: z_decls.map Cond.declares := by decide +kernel
theorem h3_IndexOutOfBoundsException_104 : ∀ w ∈ vx_atS RX8 104 "java/lang/IndexOutOfBoundsException" z_names, vx_ot w = true := by decide +kernel
theorem h4_IndexOutOfBoundsException_104 : Bundle.fit "java/lang/IndexOutOfBoundsException" = true := by decide +kernel
set_option maxRecDepth 100000 in
theorem h1_NoSuchElementException_122 : ∀ w ∈ ((z_nAt 122).filter vx_no).filter goodWord, w ∈ lw_tbl := z_placed [11, 414, 423, 431, 434, 436, 415, 416, 34, 35, 417, 422, 432, 452, 404, 453, 406, 454, 408, 418, 420, 410, 448, 449, 451, 410, 744, 745, 746, 442, 442, 443, 444, 445, 445, 446, 447, 448, 743, 734, 736, 430, 737, 738, 739, 740, 413, 412, 741] (by decide +kernel)
set_option maxRecDepth 100000 in
theorem h2_NoSuchElementException_122 : ∀ w ∈ ((z_nAt 122).filter vx_no).filter (fun w => !goodWord w), w ∈ z_decls.map Cond.declares := by decide +kernel
theorem h3_NoSuchElementException_122 : ∀ w ∈ (z_nAt 122).filter vx_no, vx_ot w = true := by decide +kernel
set_option maxRecDepth 100000 in
theorem h1_ArithmeticException_313 : ∀ w ∈ (vx_atS RX8 313 "java/lang/ArithmeticException" z_names).filter goodWord, w ∈ lw_tbl := z_placed [11, 414, 423, 431, 434, 436, 415, 416, 34, 35, 417, 422, 432, 452, 404, 453, 406, 454, 408, 418, 420, 410, 448, 449, 451, 410, 1214, 1215, 1216, 442, 442, 443, 444, 445, 445, 446, 447, 448, 1232, 1213, 1225, 425, 1219, 1220, 1222, 1218, 413, 412, 1217] (by decide +kernel)
set_option maxRecDepth 100000 in
theorem h2_ArithmeticException_313 : ∀ w ∈ (vx_atS RX8 313 "java/lang/ArithmeticException" z_names).filter (fun w => !goodWord w), w ∈ Cond.castable "java/lang/ArithmeticException" "java/lang/ArithmeticException" :: z_decls.map Cond.declares := by decide +kernel
theorem h3_ArithmeticException_313 : ∀ w ∈ vx_atS RX8 313 "java/lang/ArithmeticException" z_names, vx_ot w = true := by decide +kernel
theorem h4_ArithmeticException_313 : Bundle.fit "java/lang/ArithmeticException" = true := by decide +kernel
