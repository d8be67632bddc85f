/-! rows for calls, merges, constructors -/
theorem z_gV {Ts : List Cond} {own C : String} {idx : Nat} {y : MethodName} {bytes : ByteArray} {n : Nat} {ret : Option FieldType} (hT : z_T Ts) (h1 : Cond.methodLink own idx y ∈ lw_tbl) (h2 : Cond.instanceMethod y ∈ lw_tbl) (h3 : Cond.selects C y y ∈ lw_tbl) (h4 : Cond.initialized C ∈ lw_tbl) (h5 : Cond.code y bytes n ret ∈ lw_tbl) : GoodIn Ts (wsV own idx C y (z_w y bytes n ret)) :=
  z_goodIn hT (List.forall_mem_cons.mpr ⟨z_mem h1 rfl, List.forall_mem_cons.mpr ⟨z_mem h2 rfl, List.forall_mem_cons.mpr ⟨z_mem h3 rfl, List.forall_mem_cons.mpr ⟨z_mem h4 rfl, List.forall_mem_cons.mpr ⟨z_mem h5 rfl, fun _ h => h⟩⟩⟩⟩⟩)
theorem z_gS {Ts : List Cond} {own : String} {idx : Nat} {y : MethodName} {bytes : ByteArray} {n : Nat} {ret : Option FieldType} (hT : z_T Ts) (h1 : Cond.methodLink own idx y ∈ lw_tbl) (h2 : Cond.static y ∈ lw_tbl) (h4 : Cond.initialized y.cls ∈ lw_tbl) (h5 : Cond.code y bytes n ret ∈ lw_tbl) : GoodIn Ts (va_wsS own idx y (z_w y bytes n ret)) :=
  z_goodIn hT (List.forall_mem_cons.mpr ⟨z_mem h1 rfl, List.forall_mem_cons.mpr ⟨z_mem h2 rfl, List.forall_mem_cons.mpr ⟨z_mem h4 rfl, List.forall_mem_cons.mpr ⟨z_mem h5 rfl, fun _ h => h⟩⟩⟩⟩)
theorem z_gSh {Ts : List Cond} {own : String} {idx : Nat} {y : MethodName} {bytes : ByteArray} {n : Nat} {ret : Option FieldType} {hh : List (Nat × Nat × Nat × Nat)} (hT : z_T Ts) (h1 : Cond.methodLink own idx y ∈ lw_tbl) (h2 : Cond.static y ∈ lw_tbl) (h4 : Cond.initialized y.cls ∈ lw_tbl) (h5 : Cond.codeWith y bytes n ret hh ∈ lw_tbl) : GoodIn Ts (va_wsS own idx y (z_wh y bytes n ret hh)) :=
  z_goodIn hT (List.forall_mem_cons.mpr ⟨z_mem h1 rfl, List.forall_mem_cons.mpr ⟨z_mem h2 rfl, List.forall_mem_cons.mpr ⟨z_mem h4 rfl, List.forall_mem_cons.mpr ⟨z_mem h5 rfl, fun _ h => h⟩⟩⟩⟩)
section ZC
variable {p : Program} {l : Launch} {e : Env} {R : Room} {s : State} {m : MethodId} {args : Array Value} {below : List Frame} {meth : Method} {c : Code} {H : Heap} {locs : List Loc} {cells slots : Nat} {Q : State → Prop}
variable {cc : ByteArray} {pc : Nat} {ls : Array Slot} {rest : List Value} {A : Nat → Prop} {a : Nat} {tys : List (ClassId × FieldType)} {ws : va_W} {dC : Nat → ClassId} {dI : Nat → Nat → Nat} {Ts : List Cond} {nL : Nat}
theorem z_nest (own : String) (idx : Nat) (y : MethodName) (host : String) (I : z_I A dC dI ws tys s H locs) (i : Nat) (h : z_nests[i]? = some (own, idx, y, host)) : va_Nw (.methodLinkNest own idx y host) s := I.2.2.2.2.2.1 _ (List.mem_of_getElem? h)
theorem z_objInit (hx : p.tables.exec = Jvm.exec) (hb : c.code = cc) (hg : z_G args s) {own : String} (hown : s.vm.findClass own = some m.cls) (hml : c.maxLocals = nL) (hls : ls.size = nL) {idx : Nat} (hm : Cond.methodLink own idx objectInit ∈ lw_tbl) (hm2 : Cond.instanceMethod objectInit ∈ lw_tbl) (hm3 : Cond.code objectInit ⟨#[0xb1]⟩ 1 none ∈ lw_tbl) (hd : decode cc pc = .ok (.invokespecial idx, 3)) (hRf : 1 ≤ R.frames) (hRl : (rest.map fun v => v.category).sum + 12 ≤ R.locals)
    (kk : W p l e R s m args below meth c H locs cells slots Q (F0 m (pc + 3) ls rest)) : W p l e R s m args below meth c H locs cells slots Q (F0 m pc ls (.ref a :: rest)) := by
  refine W.objInit hx hb hown (hg _ hm rfl) (hg _ hm2 rfl) (hg _ hm3 rfl) rfl (by rw [hml]; exact hls) rfl hd hRf ?_ kk
  have e0 : (F0 m pc ls (.ref a :: rest)).monitorRoom = 0 := rfl
  rw [e0]; omega
theorem z_merge {M : Nat} {P : Int32 → Prop} {g : JFrame} (J : ∀ v : Int32, P v → W p l e R s m args below meth c H locs cells slots Q (F0 m M ls (.int v :: rest))) (k : (∀ v : Int32, P v → W p l e R s m args below meth c H locs cells slots Q (F0 m M ls (.int v :: rest))) → W p l e R s m args below meth c H locs cells slots Q g) : W p l e R s m args below meth c H locs cells slots Q g := k J
theorem z_mergeU {M : Nat} {P : Prop} {g : JFrame} (J : P → W p l e R s m args below meth c H locs cells slots Q (F0 m M ls rest)) (k : (P → W p l e R s m args below meth c H locs cells slots Q (F0 m M ls rest)) → W p l e R s m args below meth c H locs cells slots Q g) : W p l e R s m args below meth c H locs cells slots Q g := k J
theorem z_callq {mc ms : Nat} {st0 : List Value} {aa : Array Value} {wc wr : va_W} {post : Option Nat → va_W × List (ClassId × FieldType) → Prop} (hr : va_Run p l e R s m args below meth c H locs cells slots mc ms (F0 m pc ls st0) rest (va_Qq post (z_B dC dI (va_A wc H.size)) (va_A wc H.size) aa) (va_A wc H.size))
    (I : z_I A dC dI ws tys s H locs) (isC isR : List Nat) (hC : isC.map (fun i => ws[i]?) = wc.map some) (hR : isR.map (fun i => ws[i]?) = wr.map some) (hn : va_nd isR = true) (hdis : ∀ i ∈ isR, i ∉ isC)
    (kk : ∀ (r : Option Nat) (u : va_W × List (ClassId × FieldType)) (H1 : Heap) (locs1 : List Loc), post r u → z_I A dC dI (wr ++ u.1) (tys ++ u.2) s H1 locs1 → W p l e R s m args below meth c H1 locs1 (cells + mc) (slots + ms) Q (F0 m (pc + 3) ls (va_rf r :: rest))) : W p l e R s m args below meth c H locs cells slots Q (F0 m pc ls st0) := by
  have hF := va_free I.2.2.1 I.2.2.2.1 I.2.2.2.2.1 isC hC
  exact va_callq hr I.2.2.2.1 (fun q _ h => hF q h) hF (fun r u t H1 locs1 ht hvm hw hB hz hk hS => kk r u H1 locs1 hw (z_join I isC isR hC hR hn hdis ht hvm hB hk hS))
theorem z_nret (hx : p.tables.exec = Jvm.exec) (hb : c.code = cc) {rt : FieldType} (hr : meth.sig.returnType = some rt) (hlocks : meth.locks = false) (hrt : (∃ n, rt = .object n) ∨ ∃ t, rt = .array t) {mc ms : Nat} {post : Option Nat → va_W × List (ClassId × FieldType) → Prop} (I : z_I A dC dI ws tys s H locs) (hp : post none (ws, tys)) (hdg : decode cc pc = .ok (.areturn, 1)) :
    W p l e R s m args below meth c H locs mc ms (MQ below (va_Qq post (z_B dC dI A) A) args s mc ms A) (F0 m pc ls [.null]) :=
  W.aret (Qc := va_Qq post (z_B dC dI A) A) (v := .null) hx hb hr hrt (Or.inl rfl) (fun t ht hW => ⟨⟨none, (ws, tys), rfl, hp, I.B ht hW⟩, I.2.2.2.1.F ht⟩) I.2.2.2.1.2.2 hdg hlocks
theorem z_copyi (hx : p.tables.exec = Jvm.exec) (hb : c.code = cc) (hg : z_G args s) {own : String} (hown : s.vm.findClass own = some m.cls) (hml : c.maxLocals = nL) (hls : ls.size = nL) (I : z_I A dC dI ws tys s H locs) {index : Nat} (h1 : Cond.methodLink own index arraycopyName ∈ lw_tbl) (h2 : Cond.native arraycopyName ∈ lw_tbl) (h3 : Cond.static arraycopyName ∈ lw_tbl) (h4 : Cond.initialized "java/lang/System" ∈ lw_tbl)
    (q0 q1 t0 t1 : Nat) {a0 : Nat} {c0 c1 : ClassId} {n0 n1 : Nat} {f g : Nat → Int32} (ha0 : ws[q0]? = some (a0, .inl (c0, n0, .inl f))) (ha1 : ws[q1]? = some (a, .inl (c1, n1, .inl g))) (ht0 : tys[t0]? = some (c0, .int)) (ht1 : tys[t1]? = some (c1, .int)) {sp dp n : Int32} (g1 : ¬ sp < 0) (g2 : ¬ dp < 0) (g3 : ¬ n < 0) (g4 : sp.toNatClampNeg + n.toNatClampNeg ≤ n0) (g5 : dp.toNatClampNeg + n.toNatClampNeg ≤ n1)
    (hRf : 1 ≤ R.frames) (hRl : (rest.map fun v => v.category).sum + (nativeFrameWords "java/lang/System" "arraycopy" 5 + 11) ≤ R.locals) (hdg : decode cc pc = .ok (.invokestatic index, 3))
    (kk : ∀ (g' : Nat → Int32) (H1 : Heap) (locs1 : List Loc), z_I A dC dI (ws.set q1 (a, .inl (c1, n1, .inl g'))) tys s H1 locs1 → W p l e R s m args below meth c H1 locs1 cells slots Q (F0 m (pc + 3) ls rest)) : W p l e R s m args below meth c H locs cells slots Q (F0 m pc ls (.int n :: .int dp :: .ref a :: .int sp :: .ref a0 :: rest)) := by
  obtain ⟨hK, hP, hD, hS, hA, hM⟩ := I
  exact va_copyi hx hb (hml.trans hls.symm) hown (hg _ h1 rfl) (hg _ h2 rfl) (hg _ h3 rfl) (hg _ h4 rfl) hK hP hD hS q0 q1 t0 t1 ha0 ha1 ht0 ht1 rfl g1 g2 g3 g4 g5 (fun _ _ => rfl) hRf hRl hdg (fun H1 locs1 hP hD hS => kk _ H1 locs1 ⟨hK, hP, hD, hS, hA, hM⟩)
end ZC
/-- between two bounds -/
def z_bt (lo v hi : Int32) : Int32 := if lo ≤ v ∧ v ≤ hi then 1 else 0
theorem z_bt_1 {lo v hi : Int32} (h1 : ¬ v < lo) (h2 : ¬ hi < v) : z_bt lo v hi = 1 := if_pos ⟨Int32.not_lt.mp h1, Int32.not_lt.mp h2⟩
theorem z_bt_a {lo v hi : Int32} (h1 : v < lo) : z_bt lo v hi = 0 := if_neg (fun h => absurd h1 (Int32.not_lt.mpr h.1))
theorem z_bt_b {lo v hi : Int32} (h1 : hi < v) : z_bt lo v hi = 0 := if_neg (fun h => absurd h1 (Int32.not_lt.mpr h.2))
theorem z_bt_none (v : Int32) : z_bt 0 v (-1) = 0 := if_neg (fun h => by
  have h3 : (0 : Int32) ≤ -1 := Int32.le_trans h.1 h.2
  exact absurd h3 (by decide))
