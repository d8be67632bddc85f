/-! my own rows over the kit's: one world fact z_I for the five of the kit, one word list z_good for all methods -/
abbrev zCl : List vw_C := [(RX0, TX0, 9), (RX1, TX1, 5), (RX2, TX2, 6), (RX3, TX3, 9), (RX4, TX4, 3), (RX5, TX5, 13), (RX6, TX6, 3), (RX7, TX7, 12), (RX8, TX8, 2), (RX9, TX9, 43)]
def z_good : List Cond := lw_tbl.filter goodWord
def z_w (y : MethodName) (bytes : ByteArray) (n : Nat) (ret : Option FieldType) : List Cond := .code y bytes n ret :: z_good
def z_wh (y : MethodName) (bytes : ByteArray) (n : Nat) (ret : Option FieldType) (hh : List (Nat × Nat × Nat × Nat)) : List Cond := .codeWith y bytes n ret hh :: z_good
def z_G (args : Array Value) (s : State) : Prop := ∀ w ∈ lw_tbl, goodWord w = true → w.before args s = true
theorem z_G.h {args : Array Value} {s : State} (h : z_G args s) : ∀ w ∈ z_good, w.before args s = true := fun w hw => h w (List.mem_filter.mp hw).1 (List.mem_filter.mp hw).2
theorem z_G.of {args : Array Value} {s : State} {c : Cond} (h : ∀ w ∈ c :: z_good, w.before args s = true) : z_G args s := fun w hw g => h w (List.mem_cons_of_mem _ (List.mem_filter.mpr ⟨hw, g⟩))
theorem z_mem {w : Cond} (h : w ∈ lw_tbl) (g : goodWord w = true) : w ∈ z_good := List.mem_filter.mpr ⟨h, g⟩
def z_T (Ts : List Cond) : Prop := ∀ w ∈ z_good, w ∈ Ts
theorem z_T.w {y : MethodName} {bytes : ByteArray} {n : Nat} {ret : Option FieldType} : z_T (z_w y bytes n ret) := fun _ h => List.mem_cons_of_mem _ h
theorem z_T.wh {y : MethodName} {bytes : ByteArray} {n : Nat} {ret : Option FieldType} {hh : List (Nat × Nat × Nat × Nat)} : z_T (z_wh y bytes n ret hh) := fun _ h => List.mem_cons_of_mem _ h
theorem z_T.l : z_T lw_tbl := fun _ h => (List.mem_filter.mp h).1
theorem z_goodIn {Ts : List Cond} (hT : z_T Ts) {L : List Cond} (h : ∀ w ∈ L, w ∈ z_good) : GoodIn Ts L := fun w hw => ⟨hT w (h w hw), good_of_word (List.mem_filter.mp (h w hw)).2⟩
theorem z_goodW {Ts : List Cond} (hT : z_T Ts) {y : MethodName} {bytes : ByteArray} {n : Nat} {ret : Option FieldType} (hc : Cond.code y bytes n ret ∈ lw_tbl) : GoodIn Ts (z_w y bytes n ret) :=
  z_goodIn hT (List.forall_mem_cons.mpr ⟨z_mem hc rfl, fun _ h => h⟩)
theorem z_goodWh {Ts : List Cond} (hT : z_T Ts) {y : MethodName} {bytes : ByteArray} {n : Nat} {ret : Option FieldType} {hh : List (Nat × Nat × Nat × Nat)} (hc : Cond.codeWith y bytes n ret hh ∈ lw_tbl) : GoodIn Ts (z_wh y bytes n ret hh) :=
  z_goodIn hT (List.forall_mem_cons.mpr ⟨z_mem hc rfl, fun _ h => h⟩)
/-- what every call hands on: words that the tables tell but that aren't good ones, the text constants, Throwable's two statics -/
def z_nests : List (String × Nat × MethodName × String) := [("BranchQuarry$Corner", 11, yX4_init, "BranchQuarry"), ("BranchQuarry$Cut", 11, yX6_init, "BranchQuarry"), ("BranchQuarry$Node", 20, yX4_init, "BranchQuarry"), ("BranchQuarry$Program", 45, yX4_init, "BranchQuarry"), ("BranchQuarry$Program", 52, yX0_init, "BranchQuarry"), ("BranchQuarry$Program", 57, yX6_init, "BranchQuarry"), ("BranchQuarry$Program", 65, yX8_isWithin, "BranchQuarry"), ("BranchQuarry$Tree", 32, yX4_init, "BranchQuarry"), ("BranchQuarry$Tree", 39, yX1_init, "BranchQuarry"), ("BranchQuarry$Tree", 57, yX2_init, "BranchQuarry")]
def z_decls : List MethodName := [⟨"java/lang/Throwable", "<init>", "(Ljava/lang/String;)V"⟩, ⟨"java/lang/Exception", "<init>", "(Ljava/lang/String;)V"⟩, ⟨"java/lang/RuntimeException", "<init>", "(Ljava/lang/String;)V"⟩]
def z_excs : List String := ["java/lang/IllegalArgumentException", "java/lang/IllegalStateException", "java/lang/IndexOutOfBoundsException", "java/util/NoSuchElementException", "java/lang/ArithmeticException"]
def z_aas : List FieldType := [.int, .long, .boolean, .array .long]
def z_aos : List String := ["BranchQuarry$Row", "BranchQuarry$Node", "BranchQuarry$Cut"]
def z_AA (t : FieldType) (U : State) : Prop := (Cond.arrayOver (.array t)).before #[] U = true
def z_strs : List (Nat × String) := [(27, "a number is out of range"), (47, "no column can be added any more"), (54, "no such sense"), (60, "a number is out of range or has no column"), (62, "there are 8 rows"), (85, "there is a tree"), (93, "a column would have no value any more"), (102, "no such column"), (120, "all rows hold together"), (123, "no such order"), (125, "no such rule"), (127, "there are no columns"), (136, "the number of nodes is out of range"), (138, "there is no tree"), (152, "no such node"), (167, "the node 0 has no parent"), (172, "no such node or column"), (183, "the node is open or has no point"), (203, "there is no bound"), (222, "there is no best solution"), (230, "the points cannot be tried"), (235, "there is no solution"), (240, "no such node or row"), (242, "the divisor is out of range"), (247, "16 cuts were made"), (253, "a column of the row is not whole"), (259, "no such row"), (261, "the node 0 has no point"), (267, "the row makes no cut"), (269, "the second column is not greater"), (271, "there is no tree, or 16 cuts were made"), (273, "the columns are not alike"), (282, "no such cut"), (293, "no such cut or column"), (311, "there is no best solution or no bound")]

def z_amb (A : Nat → Prop) (U : State) : Prop :=
  (∀ q ∈ z_nests, va_Nw (.methodLinkNest q.1 q.2.1 q.2.2.1 q.2.2.2) U) ∧ (∀ x ∈ z_decls, va_Nw (.declares x) U) ∧ (∀ E ∈ z_excs, va_Nw (.castable E E) U) ∧ (∀ t ∈ z_aas, z_AA t U) ∧ (∀ C ∈ z_aos, va_AO C U) ∧
  va_Nc "java/lang/IllegalStateException" "java/lang/IllegalArgumentException" U ∧ (∀ q ∈ z_strs, ∃ sa, vk_R RX8 q.1 q.2 sa U) ∧
  vx_Zq Bundle.tN "UNASSIGNED_STACK" Bundle.steD A U U.heap ∧ vx_Zq Bundle.tN "SUPPRESSED_SENTINEL" Bundle.listD A U U.heap
theorem z_AA.moved {t : FieldType} {u U : State} (hvm : u.vm.Alike U.vm) (h : z_AA t u) : z_AA t U := arrayOver_alikeB hvm h
theorem z_amb.go {A B : Nat → Prop} {s U : State} {H : Heap} {locs : List Loc} (h : z_amb A s) (hS : va_S A s.heap H locs) (hU : U.heap = H) (hW : s.WarmedH U.vm) (hAB : ∀ q, B q → A q) : z_amb B U := by
  obtain ⟨h1, h2, h3, h4, h5, h6, h7, h8, h9⟩ := h
  refine ⟨fun q hq => va_Nw.warmM hW (h1 q hq), fun x hx => va_Nw.warmD hW (h2 x hx), fun E hE => va_Nw.warmC hW (h3 E hE), fun t ht => (h4 t ht).moved hW.alike, fun C hC => (h5 C hC).moved hW.alike, h6.moved hW.alike, fun q hq => ?_, ?_, ?_⟩
  · obtain ⟨sa, hs⟩ := h7 q hq
    exact ⟨sa, vk_R.warm hW hs⟩
  · rw [hU]; exact vx_Zq.narrow (vx_Zq.moved hW.alike (h8.kept hS.2.1)) hAB
  · rw [hU]; exact vx_Zq.narrow (vx_Zq.moved hW.alike (h9.kept hS.2.1)) hAB
theorem z_amb.calling {A : Nat → Prop} {U : State} {g : JFrame} {mk : MethodId} {a : Array Value} (h : z_amb A U) : z_amb A (U.calling g mk a) := by
  obtain ⟨h1, h2, h3, h4, h5, h6, h7, h8, h9⟩ := h
  refine ⟨fun q hq => va_Nw.same rfl (u := U) rfl (h1 q hq), fun x hx => va_Nw.same rfl (u := U) rfl (h2 x hx), fun E hE => va_Nw.same rfl (u := U) rfl (h3 E hE), fun t ht => (h4 t ht).moved (Vm.Alike.refl U.vm), fun C hC => (h5 C hC).moved (Vm.Alike.refl U.vm), h6.moved (Vm.Alike.refl U.vm), fun q hq => ?_, ?_, ?_⟩
  · obtain ⟨sa, hs⟩ := h7 q hq
    exact ⟨sa, vk_R.same (u := U) rfl hs⟩
  · exact vx_Zq.moved (u := U) (Vm.Alike.refl U.vm) h8
  · exact vx_Zq.moved (u := U) (Vm.Alike.refl U.vm) h9
/-- the world, as one fact -/
def z_I (A : Nat → Prop) (dC : Nat → ClassId) (dI : Nat → Nat → Nat) (ws : va_W) (tys : List (ClassId × FieldType)) (s : State) (H : Heap) (locs : List Loc) : Prop :=
  va_K (dC, dI) zCl tys s ∧ va_P (dC, dI) zCl ws H ∧ va_D A ws ∧ va_S A s.heap H locs ∧ (∀ q : Nat, s.heap.size ≤ q → A q) ∧ z_amb A s
/-- a contract's start -/
def z_P (dC : Nat → ClassId) (dI : Nat → Nat → Nat) (ws : va_W) (tys : List (ClassId × FieldType)) (sz : Nat) (av : List Value) : Array Value → State → Prop :=
  va_Pc av (fun U => U.heap.size = sz ∧ va_P (dC, dI) zCl ws U.heap ∧ va_K (dC, dI) zCl tys U ∧ va_D (fun _ => True) ws ∧ z_amb (va_A ws sz) U)
/-- a contract's world at its end -/
def z_B (dC : Nat → ClassId) (dI : Nat → Nat → Nat) (A : Nat → Prop) (u : va_W × List (ClassId × FieldType)) (t : State) : Prop := va_P (dC, dI) zCl u.1 t.heap ∧ va_K (dC, dI) zCl u.2 t ∧ va_D A u.1
theorem z_open {dC : Nat → ClassId} {dI : Nat → Nat → Nat} {ws : va_W} {tys : List (ClassId × FieldType)} {sz : Nat} {av : List Value} {args : Array Value} {s : State} (h : z_P dC dI ws tys sz av args s) :
    args = av.toArray ∧ s.heap.size = sz ∧ z_I (va_A ws sz) dC dI ws tys s s.heap [] := by
  obtain ⟨h0, h1, h2, h3, h4, h5⟩ := h
  subst h1
  exact ⟨h0, rfl, h3, h2, h4.self, va_S.rf, fun q hq => Or.inr hq, h5⟩
theorem z_blind {dC : Nat → ClassId} {dI : Nat → Nat → Nat} {ws : va_W} {tys : List (ClassId × FieldType)} {sz : Nat} {av : List Value} : FrameBlind (z_P dC dI ws tys sz av) := by
  intro a U g mk q
  obtain ⟨q0, q1, qP, qK, qD, qA⟩ := q
  exact ⟨q0, q1, qP, va_K.moved (u := U) (U := U.calling g mk a) (Vm.Alike.refl U.vm) qK, qD, qA.calling⟩
section ZR
variable {p : Program} {l : Launch} {e : Env} {R : Room} {s : State} {m : MethodId} {args : Array Value} {below : List Frame} {meth : Method} {c : Code} {H : Heap} {locs : List Loc} {cells slots : Nat} {Q : State → Prop}
variable {cc : ByteArray} {pc : Nat} {ls : Array Slot} {rest : List Value} {A : Nat → Prop} {a : Nat} {tys : List (ClassId × FieldType)} {ws : va_W} {dC : Nat → ClassId} {dI : Nat → Nat → Nat} {Ts : List Cond} {own : String} {nL : Nat}
theorem z_pre {wc : va_W} {tc : List (ClassId × FieldType)} {av : List Value} (I : z_I A dC dI ws tys s H locs) (isC isT : List Nat) (hn : va_nd isC = true) (hC : isC.map (fun i => ws[i]?) = wc.map some) (hC2 : isC.filterMap (fun i => ws[i]?) = wc) (hT : isT.filterMap (fun i => tys[i]?) = tc) :
    PreS s H (z_P dC dI wc tc H.size av) av := by
  obtain ⟨hK, hP, hD, hS, hA, hM⟩ := I
  refine ⟨z_blind, fun U hU hW => ⟨rfl, by rw [hU], by rw [hU]; exact hP.sub isC hC2, va_K.moved hW.alike (hK.sub isT hT), (hD.sub isC hn hC).weaken (fun _ _ _ _ => trivial), ?_⟩⟩
  exact hM.go hS hU hW (va_free hD hS hA isC hC)
theorem z_preV {wc : va_W} {tc : List (ClassId × FieldType)} {As : List Value} {b ci q0 : Nat} {q : vw_C} {fs : List Value} (I : z_I A dC dI ws tys s H locs) (isC isT : List Nat) (hn : va_nd isC = true) (hC : isC.map (fun i => ws[i]?) = wc.map some) (hC2 : isC.filterMap (fun i => ws[i]?) = wc) (hT : isT.filterMap (fun i => tys[i]?) = tc)
    (hc : zCl[ci]? = some q) (he : ws[q0]? = some (b, .inr (ci, fs))) : PreV s H q.1 b (z_P dC dI wc tc H.size (.ref b :: As)) As :=
  ⟨z_blind, va_recv I.1 I.2.1 hc he, (z_pre I isC isT hn hC hC2 hT).2⟩
theorem z_join {wc wr w1 : va_W} {t1 : List (ClassId × FieldType)} {t : State} {H1 : Heap} {locs1 : List Loc} (I : z_I A dC dI ws tys s H locs) (isC isR : List Nat) (hC : isC.map (fun i => ws[i]?) = wc.map some) (hR : isR.map (fun i => ws[i]?) = wr.map some) (hn : va_nd isR = true) (hdis : ∀ i ∈ isR, i ∉ isC)
    (ht : t.heap = H1) (hvm : s.vm.Alike t.vm) (hB : z_B dC dI (va_A wc H.size) (w1, t1) t) (hk1 : ∀ q : Nat, q < H.size → ¬ va_A wc H.size q → H1[q]? = H[q]?) (hS1 : va_S A s.heap H1 locs1) : z_I A dC dI (wr ++ w1) (tys ++ t1) s H1 locs1 := by
  obtain ⟨hK, hP, hD, hS, hA, hM⟩ := I
  obtain ⟨hP1, hK1, hD1⟩ := hB
  rw [ht] at hP1
  have hK1 := va_K.moved hvm.symm hK1
  obtain ⟨hP2, hD2⟩ := va_join hP hD isC isR hC hR hn hdis hk1 (va_free hD hS hA isC hC) hP1 hD1
  exact ⟨hK.app hK1, hP2, hD2, hS1, hA, hM⟩
theorem z_calli {mc ms : Nat} {st0 : List Value} {aa : Array Value} {wc wr : va_W} {post : Int32 → va_W × List (ClassId × FieldType) → Prop} (hr : va_Run p l e R s m args below meth c H locs cells slots mc ms (F0 m pc ls st0) rest (va_Qi post (z_B dC dI (va_A wc H.size)) (va_A wc H.size) aa) (va_A wc H.size))
    (I : z_I A dC dI ws tys s H locs) (isC isR : List Nat) (hC : isC.map (fun i => ws[i]?) = wc.map some) (hR : isR.map (fun i => ws[i]?) = wr.map some) (hn : va_nd isR = true) (hdis : ∀ i ∈ isR, i ∉ isC)
    (kk : ∀ (r : Int32) (u : va_W × List (ClassId × FieldType)) (H1 : Heap) (locs1 : List Loc), post r u → z_I A dC dI (wr ++ u.1) (tys ++ u.2) s H1 locs1 → W p l e R s m args below meth c H1 locs1 (cells + mc) (slots + ms) Q (F0 m (pc + 3) ls (.int r :: rest))) : W p l e R s m args below meth c H locs cells slots Q (F0 m pc ls st0) := by
  have hF := va_free I.2.2.1 I.2.2.2.1 I.2.2.2.2.1 isC hC
  exact va_calli hr I.2.2.2.1 (fun q _ h => hF q h) hF (fun r u t H1 locs1 ht hvm hw hB hz hk hS => kk r u H1 locs1 hw (z_join I isC isR hC hR hn hdis ht hvm hB hk hS))
theorem z_calll {mc ms : Nat} {st0 : List Value} {aa : Array Value} {wc wr : va_W} {post : Int64 → va_W × List (ClassId × FieldType) → Prop} (hr : va_Run p l e R s m args below meth c H locs cells slots mc ms (F0 m pc ls st0) rest (va_Ql post (z_B dC dI (va_A wc H.size)) (va_A wc H.size) aa) (va_A wc H.size))
    (I : z_I A dC dI ws tys s H locs) (isC isR : List Nat) (hC : isC.map (fun i => ws[i]?) = wc.map some) (hR : isR.map (fun i => ws[i]?) = wr.map some) (hn : va_nd isR = true) (hdis : ∀ i ∈ isR, i ∉ isC)
    (kk : ∀ (r : Int64) (u : va_W × List (ClassId × FieldType)) (H1 : Heap) (locs1 : List Loc), post r u → z_I A dC dI (wr ++ u.1) (tys ++ u.2) s H1 locs1 → W p l e R s m args below meth c H1 locs1 (cells + mc) (slots + ms) Q (F0 m (pc + 3) ls (.long r :: rest))) : W p l e R s m args below meth c H locs cells slots Q (F0 m pc ls st0) := by
  have hF := va_free I.2.2.1 I.2.2.2.1 I.2.2.2.2.1 isC hC
  exact va_calll hr I.2.2.2.1 (fun q _ h => hF q h) hF (fun r u t H1 locs1 ht hvm hw hB hz hk hS => kk r u H1 locs1 hw (z_join I isC isR hC hR hn hdis ht hvm hB hk hS))
theorem z_callf {mc ms : Nat} {st0 : List Value} {aa : Array Value} {wc wr : va_W} {post : UInt32 → va_W × List (ClassId × FieldType) → Prop} (hr : va_Run p l e R s m args below meth c H locs cells slots mc ms (F0 m pc ls st0) rest (va_Qf post (z_B dC dI (va_A wc H.size)) (va_A wc H.size) aa) (va_A wc H.size))
    (I : z_I A dC dI ws tys s H locs) (isC isR : List Nat) (hC : isC.map (fun i => ws[i]?) = wc.map some) (hR : isR.map (fun i => ws[i]?) = wr.map some) (hn : va_nd isR = true) (hdis : ∀ i ∈ isR, i ∉ isC)
    (kk : ∀ (r : UInt32) (u : va_W × List (ClassId × FieldType)) (H1 : Heap) (locs1 : List Loc), post r u → z_I A dC dI (wr ++ u.1) (tys ++ u.2) s H1 locs1 → W p l e R s m args below meth c H1 locs1 (cells + mc) (slots + ms) Q (F0 m (pc + 3) ls (.float r :: rest))) : W p l e R s m args below meth c H locs cells slots Q (F0 m pc ls st0) := by
  have hF := va_free I.2.2.1 I.2.2.2.1 I.2.2.2.2.1 isC hC
  exact va_callf hr I.2.2.2.1 (fun q _ h => hF q h) hF (fun r u t H1 locs1 ht hvm hw hB hz hk hS => kk r u H1 locs1 hw (z_join I isC isR hC hR hn hdis ht hvm hB hk hS))
theorem z_calld {mc ms : Nat} {st0 : List Value} {aa : Array Value} {wc wr : va_W} {post : UInt64 → va_W × List (ClassId × FieldType) → Prop} (hr : va_Run p l e R s m args below meth c H locs cells slots mc ms (F0 m pc ls st0) rest (va_Qd post (z_B dC dI (va_A wc H.size)) (va_A wc H.size) aa) (va_A wc H.size))
    (I : z_I A dC dI ws tys s H locs) (isC isR : List Nat) (hC : isC.map (fun i => ws[i]?) = wc.map some) (hR : isR.map (fun i => ws[i]?) = wr.map some) (hn : va_nd isR = true) (hdis : ∀ i ∈ isR, i ∉ isC)
    (kk : ∀ (r : UInt64) (u : va_W × List (ClassId × FieldType)) (H1 : Heap) (locs1 : List Loc), post r u → z_I A dC dI (wr ++ u.1) (tys ++ u.2) s H1 locs1 → W p l e R s m args below meth c H1 locs1 (cells + mc) (slots + ms) Q (F0 m (pc + 3) ls (.double r :: rest))) : W p l e R s m args below meth c H locs cells slots Q (F0 m pc ls st0) := by
  have hF := va_free I.2.2.1 I.2.2.2.1 I.2.2.2.2.1 isC hC
  exact va_calld hr I.2.2.2.1 (fun q _ h => hF q h) hF (fun r u t H1 locs1 ht hvm hw hB hz hk hS => kk r u H1 locs1 hw (z_join I isC isR hC hR hn hdis ht hvm hB hk hS))
theorem z_callv {mc ms : Nat} {st0 : List Value} {aa : Array Value} {wc wr : va_W} {post : va_W × List (ClassId × FieldType) → Prop} (hr : va_Run p l e R s m args below meth c H locs cells slots mc ms (F0 m pc ls st0) rest (va_Qv post (z_B dC dI (va_A wc H.size)) (va_A wc H.size) aa) (va_A wc H.size))
    (I : z_I A dC dI ws tys s H locs) (isC isR : List Nat) (hC : isC.map (fun i => ws[i]?) = wc.map some) (hR : isR.map (fun i => ws[i]?) = wr.map some) (hn : va_nd isR = true) (hdis : ∀ i ∈ isR, i ∉ isC)
    (kk : ∀ (u : va_W × List (ClassId × FieldType)) (H1 : Heap) (locs1 : List Loc), post u → z_I A dC dI (wr ++ u.1) (tys ++ u.2) s H1 locs1 → W p l e R s m args below meth c H1 locs1 (cells + mc) (slots + ms) Q (F0 m (pc + 3) ls rest)) : W p l e R s m args below meth c H locs cells slots Q (F0 m pc ls st0) := by
  have hF := va_free I.2.2.1 I.2.2.2.1 I.2.2.2.2.1 isC hC
  exact va_callv hr I.2.2.2.1 (fun q _ h => hF q h) hF (fun u t H1 locs1 ht hvm hw hB hz hk hS => kk u H1 locs1 hw (z_join I isC isR hC hR hn hdis ht hvm hB hk hS))
/-- fields -/
theorem z_get (hx : p.tables.exec = Jvm.exec) (hb : c.code = cc) (hg : z_G args s) (hown : s.vm.findClass own = some m.cls) (I : z_I A dC dI ws tys s H locs) {C : String} {T : u_T} {N ci index : Nat} (hin : ∀ w ∈ u_ws C T N, w ∈ z_good) (q0 : Nat) {fs : List Value} (he : ws[q0]? = some (a, .inr (ci, fs))) (hc : zCl[ci]? = some (C, T, N)) (k : Nat) (hk : k < N)
    (hm : Cond.fieldLink own index (T k).1 (T k).2.1 (T k).2.2.1 ∈ lw_tbl) {v : Value} (hv : fs[k]? = some v) (hdg : decode cc pc = .ok (.getfield index, 3)) (kk : W p l e R s m args below meth c H locs cells slots Q (F0 m (pc + 3) ls (v :: rest))) : W p l e R s m args below meth c H locs cells slots Q (F0 m pc ls (.ref a :: rest)) :=
  va_get hx hb hg.h hin hown I.1 I.2.1 q0 he hc k hk (hg _ hm rfl) (fun _ h9 => h9) hv hdg kk
theorem z_put (hx : p.tables.exec = Jvm.exec) (hb : c.code = cc) (hg : z_G args s) (hown : s.vm.findClass own = some m.cls) (I : z_I A dC dI ws tys s H locs) {C : String} {T : u_T} {N ci index : Nat} (hin : ∀ w ∈ u_ws C T N, w ∈ z_good) (ty0 : Nat → FieldType) (hty : ∀ k, k < N → parseFieldDescriptor (T k).2.2.1 = some (ty0 k)) (hnm : ∀ a, a < N → ∀ b, b < N → a ≠ b → (T a).2.1 ≠ (T b).2.1)
    (q0 : Nat) {fs : List Value} (he : ws[q0]? = some (a, .inr (ci, fs))) (hc : zCl[ci]? = some (C, T, N)) (k : Nat) (hk : k < N) (hm : Cond.fieldLink own index (T k).1 (T k).2.1 (T k).2.2.1 ∈ lw_tbl) (hfin : (T k).2.2.2 = false) {v : Value} (hn : narrow (ty0 k) v = v) (hfit : fits (ty0 k) v = true) (hl : k < fs.length)
    (hdg : decode cc pc = .ok (.putfield index, 3)) (ws' : va_W) (hw : ws.set q0 (a, .inr (ci, fs.set k v)) = ws') (kk : ∀ (H1 : Heap) (locs1 : List Loc), z_I A dC dI ws' tys s H1 locs1 → W p l e R s m args below meth c H1 locs1 cells slots Q (F0 m (pc + 3) ls rest)) : W p l e R s m args below meth c H locs cells slots Q (F0 m pc ls (v :: .ref a :: rest)) := by
  subst hw
  obtain ⟨hK, hP, hD, hS, hA, hM⟩ := I
  exact va_put hx hb hg.h hin ty0 hty hnm hown hK hP hD hS q0 he hc k hk (hg _ hm rfl) (fun _ h9 => h9) hfin (hty k hk) hn hfit hl hdg (fun H1 locs1 hP hD hS => kk H1 locs1 ⟨hK, hP, hD, hS, hA, hM⟩)
theorem z_putF (hx : p.tables.exec = Jvm.exec) (hb : c.code = cc) (hg : z_G args s) (hown : s.vm.findClass own = some m.cls) (I : z_I A dC dI ws tys s H locs) {T : u_T} {N ci index : Nat} (hin : ∀ w ∈ u_ws own T N, w ∈ z_good) (ty0 : Nat → FieldType) (hty : ∀ k, k < N → parseFieldDescriptor (T k).2.2.1 = some (ty0 k)) (hnm : ∀ a, a < N → ∀ b, b < N → a ≠ b → (T a).2.1 ≠ (T b).2.1)
    (q0 : Nat) {fs : List Value} (he : ws[q0]? = some (a, .inr (ci, fs))) (hc : zCl[ci]? = some (own, T, N)) (k : Nat) (hk : k < N) (hm : Cond.fieldLink own index (T k).1 (T k).2.1 (T k).2.2.1 ∈ lw_tbl) (hfin : (T k).2.2.2 = true) (hin2 : meth.name = "<init>") (hdecl : (T k).1 = own) {v : Value} (hn : narrow (ty0 k) v = v) (hfit : fits (ty0 k) v = true) (hl : k < fs.length)
    (hdg : decode cc pc = .ok (.putfield index, 3)) (ws' : va_W) (hw : ws.set q0 (a, .inr (ci, fs.set k v)) = ws') (kk : ∀ (H1 : Heap) (locs1 : List Loc), z_I A dC dI ws' tys s H1 locs1 → W p l e R s m args below meth c H1 locs1 cells slots Q (F0 m (pc + 3) ls rest)) : W p l e R s m args below meth c H locs cells slots Q (F0 m pc ls (v :: .ref a :: rest)) := by
  subst hw
  obtain ⟨hK, hP, hD, hS, hA, hM⟩ := I
  exact va_putF hx hb hg.h hin ty0 hty hnm hown hK hP hD hS q0 he hc k hk (hg _ hm rfl) (fun _ h9 => h9) hfin hin2 hdecl (hty k hk) hn hfit hl hdg (fun H1 locs1 hP hD hS => kk H1 locs1 ⟨hK, hP, hD, hS, hA, hM⟩)
/-- makings -/
theorem z_new (hx : p.tables.exec = Jvm.exec) (hb : c.code = cc) (hg : z_G args s) (hown : s.vm.findClass own = some m.cls) (I : z_I A dC dI ws tys s H locs) {C : String} {T : u_T} {N ci index : Nat} (hin : ∀ w ∈ u_ws C T N, w ∈ z_good) (ty0 : Nat → FieldType) (hty : ∀ k, k < N → parseFieldDescriptor (T k).2.2.1 = some (ty0 k))
    (hc : zCl[ci]? = some (C, T, N)) (hm1 : Cond.classLink own index C ∈ lw_tbl) (hm2 : Cond.instantiable C N ∈ lw_tbl) (hm3 : Cond.initialized C ∈ lw_tbl) {fs : List Value} (hfs : ∀ j, j < N → defaultValue (ty0 j) = vp_V fs j) (hcells : cells + 1 ≤ R.cells) (hslots : slots + N ≤ R.slots) (hdg : decode cc pc = .ok (.new index, 3))
    (kk : ∀ (q : Nat) (H1 : Heap), z_I A dC dI (ws ++ [(q, .inr (ci, fs))]) tys s H1 locs → W p l e R s m args below meth c H1 locs (cells + 1) (slots + N) Q (F0 m (pc + 3) ls (.ref q :: rest))) : W p l e R s m args below meth c H locs cells slots Q (F0 m pc ls rest) := by
  obtain ⟨hK, hP, hD, hS, hA, hM⟩ := I
  exact va_new hx hb hg.h hin ty0 hty hown (hg _ hm1 rfl) (hg _ hm2 rfl) (hg _ hm3 rfl) hK hP hD hS hA hc hfs hcells hslots hdg (fun q H1 hP hD hS => kk q H1 ⟨hK, hP, hD, hS, hA, hM⟩)
theorem z_newa (hx : p.tables.exec = Jvm.exec) (hb : c.code = cc) (hg : z_G args s) (I : z_I A dC dI ws tys s H locs) {atype : ArrayType} {ty : FieldType} (hm : Cond.arrayClass ty ∈ lw_tbl) (hty : newarray.typeOf atype = ty) {n : Int32} {N' : Nat} {a0 : vp_A} (ha : ∀ cA : ClassId, vp_cell cA a0 = arrV cA N' (fun _ => defaultValue ty)) (hn : ¬ n < 0) (hN : n.toNatClampNeg = N') (hbytes : N' * componentBytes ty ≤ 536870912)
    (hcells : cells + 1 ≤ R.cells) (hslots : slots + N' ≤ R.slots) (hdg : decode cc pc = .ok (.newarray atype, 2)) (kk : ∀ (q : Nat) (cA : ClassId) (H1 : Heap), z_I A dC dI (ws ++ [(q, .inl (cA, a0))]) (tys ++ [(cA, ty)]) s H1 locs → W p l e R s m args below meth c H1 locs (cells + 1) (slots + N') Q (F0 m (pc + 2) ls (.ref q :: rest))) :
    W p l e R s m args below meth c H locs cells slots Q (F0 m pc ls (.int n :: rest)) := by
  obtain ⟨hK, hP, hD, hS, hA, hM⟩ := I
  exact va_newa hx hb (by rw [hty]; exact hg _ hm rfl) hty hK hP hD hS hA ha hn hN hbytes hcells hslots hdg (fun q cA H1 hK hP hD hS => kk q cA H1 ⟨hK, hP, hD, hS, hA, hM⟩)
theorem z_newq (hx : p.tables.exec = Jvm.exec) (hb : c.code = cc) (hg : z_G args s) (hown : s.vm.findClass own = some m.cls) (I : z_I A dC dI ws tys s H locs) {C : String} {index : Nat} (hm : Cond.classLink own index C ∈ lw_tbl) (hC : C ∈ z_aos) {n : Int32} {N' : Nat} (hn : ¬ n < 0) (hN : n.toNatClampNeg = N') (hbytes : N' * 4 ≤ 536870912) (hcells : cells + 1 ≤ R.cells) (hslots : slots + N' ≤ R.slots) (hdg : decode cc pc = .ok (.anewarray index, 3))
    (kk : ∀ (q : Nat) (cA : ClassId) (H1 : Heap), z_I A dC dI (ws ++ [(q, .inl (cA, N', .inr (.inr (.inr (.inr (fun _ => none))))))]) (tys ++ [(cA, .object C)]) s H1 locs → W p l e R s m args below meth c H1 locs (cells + 1) (slots + N') Q (F0 m (pc + 3) ls (.ref q :: rest))) : W p l e R s m args below meth c H locs cells slots Q (F0 m pc ls (.int n :: rest)) := by
  obtain ⟨hK, hP, hD, hS, hA, hM⟩ := I
  exact va_newq hx hb hown (hg _ hm rfl) (hM.2.2.2.2.1 C hC) hK hP hD hS hA hn hN hbytes hcells hslots hdg (fun q cA H1 hK hP hD hS => kk q cA H1 ⟨hK, hP, hD, hS, hA, hM⟩)
/-- the world may be told in fewer things -/
theorem z_I.sub (I : z_I A dC dI ws tys s H locs) {ws' : va_W} (is : List Nat) (hn : va_nd is = true) (h1 : is.map (fun i => ws[i]?) = ws'.map some) (h2 : is.filterMap (fun i => ws[i]?) = ws') : z_I A dC dI ws' tys s H locs := ⟨I.1, I.2.1.sub is h2, I.2.2.1.sub is hn h1, I.2.2.2⟩
theorem z_I.B (I : z_I A dC dI ws tys s H locs) {t : State} (ht : t.heap = H) (hW : s.WarmedH t.vm) : z_B dC dI A (ws, tys) t := ⟨by rw [ht]; exact I.2.1, va_K.moved hW.alike I.1, I.2.2.1⟩
/-- ends -/
theorem z_iret (hx : p.tables.exec = Jvm.exec) (hb : c.code = cc) (hr : meth.sig.returnType = some .int) (hlocks : meth.locks = false) {mc ms : Nat} {post : Int32 → va_W × List (ClassId × FieldType) → Prop} {v : Int32} (I : z_I A dC dI ws tys s H locs) (hp : post v (ws, tys)) (hdg : decode cc pc = .ok (.ireturn, 1)) : W p l e R s m args below meth c H locs mc ms (MQ below (va_Qi post (z_B dC dI A) A) args s mc ms A) (F0 m pc ls [.int v]) :=
  W.iret (Qc := va_Qi post (z_B dC dI A) A) (v := v) hx hb hr (fun t ht hW => ⟨⟨v, (ws, tys), rfl, hp, I.B ht hW⟩, I.2.2.2.1.F ht⟩) I.2.2.2.1.2.2 hdg hlocks
theorem z_zret (hx : p.tables.exec = Jvm.exec) (hb : c.code = cc) {ty : FieldType} (hr : meth.sig.returnType = some ty) (hlocks : meth.locks = false) {mc ms : Nat} {post : Int32 → va_W × List (ClassId × FieldType) → Prop} {v : Int32} (hn : narrow ty (.int v) = .int v) (I : z_I A dC dI ws tys s H locs) (hp : post v (ws, tys)) (hdg : decode cc pc = .ok (.ireturn, 1)) : W p l e R s m args below meth c H locs mc ms (MQ below (va_Qi post (z_B dC dI A) A) args s mc ms A) (F0 m pc ls [.int v]) :=
  W.zret (Qc := va_Qi post (z_B dC dI A) A) (v := v) hx hb hr hn (fun t ht hW => ⟨⟨v, (ws, tys), rfl, hp, I.B ht hW⟩, I.2.2.2.1.F ht⟩) I.2.2.2.1.2.2 hdg hlocks
theorem z_lret (hx : p.tables.exec = Jvm.exec) (hb : c.code = cc) (hr : meth.sig.returnType = some .long) (hlocks : meth.locks = false) {mc ms : Nat} {post : Int64 → va_W × List (ClassId × FieldType) → Prop} {v : Int64} (I : z_I A dC dI ws tys s H locs) (hp : post v (ws, tys)) (hdg : decode cc pc = .ok (.lreturn, 1)) : W p l e R s m args below meth c H locs mc ms (MQ below (va_Ql post (z_B dC dI A) A) args s mc ms A) (F0 m pc ls [.long v]) :=
  W.lret (Qc := va_Ql post (z_B dC dI A) A) (v := v) hx hb hr (fun t ht hW => ⟨⟨v, (ws, tys), rfl, hp, I.B ht hW⟩, I.2.2.2.1.F ht⟩) I.2.2.2.1.2.2 hdg hlocks
theorem z_fret (hx : p.tables.exec = Jvm.exec) (hb : c.code = cc) (hr : meth.sig.returnType = some .float) (hlocks : meth.locks = false) {mc ms : Nat} {post : UInt32 → va_W × List (ClassId × FieldType) → Prop} {v : UInt32} (I : z_I A dC dI ws tys s H locs) (hp : post v (ws, tys)) (hdg : decode cc pc = .ok (.freturn, 1)) : W p l e R s m args below meth c H locs mc ms (MQ below (va_Qf post (z_B dC dI A) A) args s mc ms A) (F0 m pc ls [.float v]) :=
  W.fret (Qc := va_Qf post (z_B dC dI A) A) (v := v) hx hb hr (fun t ht hW => ⟨⟨v, (ws, tys), rfl, hp, I.B ht hW⟩, I.2.2.2.1.F ht⟩) I.2.2.2.1.2.2 hdg hlocks
theorem z_dret (hx : p.tables.exec = Jvm.exec) (hb : c.code = cc) (hr : meth.sig.returnType = some .double) (hlocks : meth.locks = false) {mc ms : Nat} {post : UInt64 → va_W × List (ClassId × FieldType) → Prop} {v : UInt64} (I : z_I A dC dI ws tys s H locs) (hp : post v (ws, tys)) (hdg : decode cc pc = .ok (.dreturn, 1)) : W p l e R s m args below meth c H locs mc ms (MQ below (va_Qd post (z_B dC dI A) A) args s mc ms A) (F0 m pc ls [.double v]) :=
  W.dret (Qc := va_Qd post (z_B dC dI A) A) (v := v) hx hb hr (fun t ht hW => ⟨⟨v, (ws, tys), rfl, hp, I.B ht hW⟩, I.2.2.2.1.F ht⟩) I.2.2.2.1.2.2 hdg hlocks
theorem z_vret (hx : p.tables.exec = Jvm.exec) (hb : c.code = cc) (hr : meth.sig.returnType = none) (hlocks : meth.locks = false) {mc ms : Nat} {post : va_W × List (ClassId × FieldType) → Prop} (I : z_I A dC dI ws tys s H locs) (hp : post (ws, tys)) (hdg : decode cc pc = .ok (.return_, 1)) : W p l e R s m args below meth c H locs mc ms (MQ below (va_Qv post (z_B dC dI A) A) args s mc ms A) (F0 m pc ls []) :=
  W.vret (Qc := va_Qv post (z_B dC dI A) A) hx hb hr (fun t ht hW => ⟨⟨(ws, tys), rfl, hp, I.B ht hW⟩, I.2.2.2.1.F ht⟩) I.2.2.2.1.2.2 hdg hlocks
end ZR
