/-! throws of the face's methods, and calls of methods that may throw -/
abbrev z_names : List String := ["java/lang/RuntimeException", "java/lang/Exception"]
/-- a throw's words out of the tables' list and what every call hands on -/
theorem z_hat {A : Nat → Prop} {args : Array Value} {s : State} (hg : z_G args s) (hM : z_amb A s) {ic : Nat} {cls : String} (hc : cls ∈ z_excs) (h1 : ∀ w ∈ (vx_atS RX8 ic cls z_names).filter goodWord, w ∈ lw_tbl)
    (h2 : ∀ w ∈ (vx_atS RX8 ic cls z_names).filter (fun w => !goodWord w), w ∈ Cond.castable cls cls :: z_decls.map Cond.declares) : ∀ w ∈ vx_atS RX8 ic cls z_names, w.before args s = true :=
  vx_hat (fun w hw => hg w (h1 w hw) (List.mem_filter.mp hw).2) h2 (fun w hw => by
    rcases List.mem_cons.mp hw with rfl | hw
    · exact va_Nw.use rfl (hM.2.2.1 cls hc)
    · obtain ⟨x, hx, rfl⟩ := List.mem_map.mp hw
      exact va_Nw.use rfl (hM.2.1 x hx))
section ZT
variable {p : Program} {l : Launch} {e : Env} {R : Room} {s : State} {m : MethodId} {args : Array Value} {below : List Frame} {meth : Method} {c : Code} {H : Heap} {locs : List Loc} {cells slots : Nat} {Q : State → Prop}
variable {cc : ByteArray} {pc : Nat} {ls : Array Slot} {rest : List Value} {A : Nat → Prop} {a : Nat} {tys : List (ClassId × FieldType)} {ws : va_W} {dC : Nat → ClassId} {dI : Nat → Nat → Nat} {Ts : List Cond} {nL : Nat}
abbrev z_XC (pE : String → Prop) (A : Nat → Prop) : String → State → State → Prop := vx_X (fun _ : Unit => True) (fun E _ _ => pE E) A
theorem z_throwS (hx : p.tables.exec = Jvm.exec) (hb : c.code = cc) (hl : l.stackTraces = false) (hml : c.maxLocals = nL) (hls : ls.size = nL) (hlocks : meth.locks = false) (htab : ∀ x ∈ c.exceptionTable.toList, False) (hg : z_G args s) (hown : s.vm.findClass RX8 = some m.cls) (I : z_I A dC dI ws tys s H locs) {Qc : Array Value → State → Outcome → State → Prop} {pE : String → Prop} {cls text : String} {ik is ic mc ms : Nat} (hE : pE cls)
    (hm1 : Cond.classLink RX8 ik cls ∈ lw_tbl) (hm2 : Cond.initialized cls ∈ lw_tbl) (hc : cls ∈ z_excs) (h1 : ∀ w ∈ (vx_atS RX8 ic cls z_names).filter goodWord, w ∈ lw_tbl) (h2 : ∀ w ∈ (vx_atS RX8 ic cls z_names).filter (fun w => !goodWord w), w ∈ Cond.castable cls cls :: z_decls.map Cond.declares)
    (hgood : ∀ w ∈ vx_atS RX8 ic cls z_names, vx_ot w = true) (hfit : Bundle.fit cls = true) (hst : (is, text) ∈ z_strs) (d0 : decode cc pc = .ok (.new ik, 3)) (d3 : decode cc (pc + 3) = .ok (.dup, 1)) (d4 : decode cc (pc + 4) = .ok (.ldc is, 2)) (d6 : decode cc (pc + 6) = .ok (.invokespecial ic, 3)) (d9 : decode cc (pc + 9) = .ok (.athrow, 1))
    (hRf : 5 < R.frames) (hRl : (rest.map fun v => v.category).sum + 82 ≤ R.locals) (hRc : cells + 1 ≤ R.cells) (hRs : slots + 6 ≤ R.slots) (hcm : cells + 1 ≤ mc) (hsm : slots + 6 ≤ ms) :
    W p l e R s m args below meth c H locs cells slots (vx_MQ below Qc (z_XC pE A) args s mc ms A) (F0 m pc ls rest) := by
  obtain ⟨hK, hP, hD, hS, hA, hM⟩ := I
  obtain ⟨sa, hsa⟩ := hM.2.2.2.2.2.2.1 _ hst
  exact vx_throwS (names := z_names) hx hb hl hown hfit (by decide +kernel) (hg _ hm1 rfl) (hg _ hm2 rfl) hsa (z_hat hg hM hc h1 h2) (fun w hw => by
    rcases List.mem_cons.mp hw with rfl | hw
    · rfl
    · rcases List.mem_cons.mp hw with rfl | hw
      · rfl
      · exact hgood w hw) hM.2.2.2.2.2.2.2.1 hM.2.2.2.2.2.2.2.2 hS (hls.trans hml.symm) d0 d3 d4 d6 d9 (fun x hx => (htab x hx).elim) hRf hRl hRc hRs hlocks
    (fun t hvm hz hq => ⟨(), trivial, hE, Nat.le_trans hS.1 hz, fun q h3 h4 => (hq q (Nat.lt_of_lt_of_le h3 hS.1)).trans (hS.2.1 q h3 h4)⟩) hS.2.2 hcm hsm
theorem z_throwSW (hx : p.tables.exec = Jvm.exec) (hb : c.code = cc) (hl : l.stackTraces = false) (hml : c.maxLocals = nL) (hls : ls.size = nL) (hlocks : meth.locks = false) (htab : ∀ x ∈ c.exceptionTable.toList, False) (hg : z_G args s) (hown : s.vm.findClass RX8 = some m.cls) (I : z_I A dC dI ws tys s H locs) {Qc : Array Value → State → Outcome → State → Prop} {pE : String → Prop} {cls text : String} {ik is ic mc ms : Nat} (hE : pE cls)
    (hm1 : Cond.classLink RX8 ik cls ∈ lw_tbl) (hm2 : Cond.initialized cls ∈ lw_tbl) (hc : cls ∈ z_excs) (h1 : ∀ w ∈ (vx_atS RX8 ic cls z_names).filter goodWord, w ∈ lw_tbl) (h2 : ∀ w ∈ (vx_atS RX8 ic cls z_names).filter (fun w => !goodWord w), w ∈ Cond.castable cls cls :: z_decls.map Cond.declares)
    (hgood : ∀ w ∈ vx_atS RX8 ic cls z_names, vx_ot w = true) (hfit : Bundle.fit cls = true) (hst : (is, text) ∈ z_strs) (d0 : decode cc pc = .ok (.new ik, 3)) (d3 : decode cc (pc + 3) = .ok (.dup, 1)) (d4 : decode cc (pc + 4) = .ok (.ldc_w is, 3)) (d6 : decode cc (pc + 7) = .ok (.invokespecial ic, 3)) (d9 : decode cc (pc + 10) = .ok (.athrow, 1))
    (hRf : 5 < R.frames) (hRl : (rest.map fun v => v.category).sum + 82 ≤ R.locals) (hRc : cells + 1 ≤ R.cells) (hRs : slots + 6 ≤ R.slots) (hcm : cells + 1 ≤ mc) (hsm : slots + 6 ≤ ms) :
    W p l e R s m args below meth c H locs cells slots (vx_MQ below Qc (z_XC pE A) args s mc ms A) (F0 m pc ls rest) := by
  obtain ⟨hK, hP, hD, hS, hA, hM⟩ := I
  obtain ⟨sa, hsa⟩ := hM.2.2.2.2.2.2.1 _ hst
  exact vx_throwSW (names := z_names) hx hb hl hown hfit (by decide +kernel) (hg _ hm1 rfl) (hg _ hm2 rfl) hsa (z_hat hg hM hc h1 h2) (fun w hw => by
    rcases List.mem_cons.mp hw with rfl | hw
    · rfl
    · rcases List.mem_cons.mp hw with rfl | hw
      · rfl
      · exact hgood w hw) hM.2.2.2.2.2.2.2.1 hM.2.2.2.2.2.2.2.2 hS (hls.trans hml.symm) d0 d3 d4 d6 d9 (fun x hx => (htab x hx).elim) hRf hRl hRc hRs hlocks
    (fun t hvm hz hq => ⟨(), trivial, hE, Nat.le_trans hS.1 hz, fun q h3 h4 => (hq q (Nat.lt_of_lt_of_le h3 hS.1)).trans (hS.2.1 q h3 h4)⟩) hS.2.2 hcm hsm
theorem z_joinX {wc wr : va_W} {t : State} {H1 : Heap} {locs1 : List Loc} (I : z_I A dC dI ws tys s H locs) (isC isR : List Nat) (hC : isC.map (fun i => ws[i]?) = wc.map some) (hR : isR.map (fun i => ws[i]?) = wr.map some) (hn : va_nd isR = true) (hdis : ∀ i ∈ isR, i ∉ isC)
    (ht : t.heap = H1) (hvm : s.vm.Alike t.vm) (hk1 : ∀ q : Nat, q < H.size → ¬ va_A wc H.size q → H1[q]? = H[q]?) (hS1 : va_S A s.heap H1 locs1) : z_I A dC dI wr tys s H1 locs1 := by
  have h := z_join (w1 := []) (t1 := []) I isC isR hC hR hn hdis ht hvm ⟨fun k q h => by simp at h, va_K.moved hvm (I.1.sub [] rfl), ⟨fun i j p q h => by simp at h, fun k q h => by simp at h⟩⟩ hk1 hS1
  rw [List.append_nil, List.append_nil] at h
  exact h
theorem z_xcalli {mc ms : Nat} {st0 : List Value} {aa : Array Value} {wc wr : va_W} {pE : String → Prop} {post : Int32 → va_W × List (ClassId × FieldType) → Prop} (hr : vx_Run p l e R s m args below meth c H locs cells slots mc ms (F0 m pc ls st0) rest (va_Qi post (z_B dC dI (va_A wc H.size)) (va_A wc H.size) aa) (z_XC pE (va_A wc H.size)) (va_A wc H.size))
    (I : z_I A dC dI ws tys s H locs) (isC isR : List Nat) (hC : isC.map (fun i => ws[i]?) = wc.map some) (hR : isR.map (fun i => ws[i]?) = wr.map some) (hn : va_nd isR = true) (hdis : ∀ i ∈ isR, i ∉ isC)
    (kx : ∀ (E : String) (ce : Cell) (q9 : Addr) (H1 : Heap) (locs1 : List Loc), pE E → z_I A dC dI wr tys s H1 locs1 → H1[q9]? = some ce → ce.vm = .none → s.vm.findClass E = some ce.cls → vx_W p l e R s m args below meth c H1 locs1 (cells + mc) (slots + ms) Q (F0 m pc ls rest) q9)
    (kk : ∀ (r : Int32) (u : va_W × List (ClassId × FieldType)) (H1 : Heap) (locs1 : List Loc), post r u → z_I A dC dI (wr ++ u.1) (tys ++ u.2) s H1 locs1 → W p l e R s m args below meth c H1 locs1 (cells + mc) (slots + ms) Q (F0 m (pc + 3) ls (.int r :: rest))) : W p l e R s m args below meth c H locs cells slots Q (F0 m pc ls st0) := by
  have hF := va_free I.2.2.1 I.2.2.2.1 I.2.2.2.2.1 isC hC
  exact vx_calli hr I.2.2.2.1 (fun q _ h => hF q h) hF (fun q _ h => hF q h) (fun E ce q9 u t H1 locs1 ht hvm _ hE hz hk hS hcell hcv hcl => kx E ce q9 H1 locs1 hE (z_joinX I isC isR hC hR hn hdis ht hvm hk hS) hcell hcv hcl)
    (fun r u t H1 locs1 ht hvm hw hB hz hk hS => kk r u H1 locs1 hw (z_join I isC isR hC hR hn hdis ht hvm hB hk hS))
theorem z_xcalll {mc ms : Nat} {st0 : List Value} {aa : Array Value} {wc wr : va_W} {pE : String → Prop} {post : Int64 → va_W × List (ClassId × FieldType) → Prop} (hr : vx_Run p l e R s m args below meth c H locs cells slots mc ms (F0 m pc ls st0) rest (va_Ql post (z_B dC dI (va_A wc H.size)) (va_A wc H.size) aa) (z_XC pE (va_A wc H.size)) (va_A wc H.size))
    (I : z_I A dC dI ws tys s H locs) (isC isR : List Nat) (hC : isC.map (fun i => ws[i]?) = wc.map some) (hR : isR.map (fun i => ws[i]?) = wr.map some) (hn : va_nd isR = true) (hdis : ∀ i ∈ isR, i ∉ isC)
    (kx : ∀ (E : String) (ce : Cell) (q9 : Addr) (H1 : Heap) (locs1 : List Loc), pE E → z_I A dC dI wr tys s H1 locs1 → H1[q9]? = some ce → ce.vm = .none → s.vm.findClass E = some ce.cls → vx_W p l e R s m args below meth c H1 locs1 (cells + mc) (slots + ms) Q (F0 m pc ls rest) q9)
    (kk : ∀ (r : Int64) (u : va_W × List (ClassId × FieldType)) (H1 : Heap) (locs1 : List Loc), post r u → z_I A dC dI (wr ++ u.1) (tys ++ u.2) s H1 locs1 → W p l e R s m args below meth c H1 locs1 (cells + mc) (slots + ms) Q (F0 m (pc + 3) ls (.long r :: rest))) : W p l e R s m args below meth c H locs cells slots Q (F0 m pc ls st0) := by
  have hF := va_free I.2.2.1 I.2.2.2.1 I.2.2.2.2.1 isC hC
  exact vx_calll hr I.2.2.2.1 (fun q _ h => hF q h) hF (fun q _ h => hF q h) (fun E ce q9 u t H1 locs1 ht hvm _ hE hz hk hS hcell hcv hcl => kx E ce q9 H1 locs1 hE (z_joinX I isC isR hC hR hn hdis ht hvm hk hS) hcell hcv hcl)
    (fun r u t H1 locs1 ht hvm hw hB hz hk hS => kk r u H1 locs1 hw (z_join I isC isR hC hR hn hdis ht hvm hB hk hS))
theorem z_xcallf {mc ms : Nat} {st0 : List Value} {aa : Array Value} {wc wr : va_W} {pE : String → Prop} {post : UInt32 → va_W × List (ClassId × FieldType) → Prop} (hr : vx_Run p l e R s m args below meth c H locs cells slots mc ms (F0 m pc ls st0) rest (va_Qf post (z_B dC dI (va_A wc H.size)) (va_A wc H.size) aa) (z_XC pE (va_A wc H.size)) (va_A wc H.size))
    (I : z_I A dC dI ws tys s H locs) (isC isR : List Nat) (hC : isC.map (fun i => ws[i]?) = wc.map some) (hR : isR.map (fun i => ws[i]?) = wr.map some) (hn : va_nd isR = true) (hdis : ∀ i ∈ isR, i ∉ isC)
    (kx : ∀ (E : String) (ce : Cell) (q9 : Addr) (H1 : Heap) (locs1 : List Loc), pE E → z_I A dC dI wr tys s H1 locs1 → H1[q9]? = some ce → ce.vm = .none → s.vm.findClass E = some ce.cls → vx_W p l e R s m args below meth c H1 locs1 (cells + mc) (slots + ms) Q (F0 m pc ls rest) q9)
    (kk : ∀ (r : UInt32) (u : va_W × List (ClassId × FieldType)) (H1 : Heap) (locs1 : List Loc), post r u → z_I A dC dI (wr ++ u.1) (tys ++ u.2) s H1 locs1 → W p l e R s m args below meth c H1 locs1 (cells + mc) (slots + ms) Q (F0 m (pc + 3) ls (.float r :: rest))) : W p l e R s m args below meth c H locs cells slots Q (F0 m pc ls st0) := by
  have hF := va_free I.2.2.1 I.2.2.2.1 I.2.2.2.2.1 isC hC
  exact vx_callf hr I.2.2.2.1 (fun q _ h => hF q h) hF (fun q _ h => hF q h) (fun E ce q9 u t H1 locs1 ht hvm _ hE hz hk hS hcell hcv hcl => kx E ce q9 H1 locs1 hE (z_joinX I isC isR hC hR hn hdis ht hvm hk hS) hcell hcv hcl)
    (fun r u t H1 locs1 ht hvm hw hB hz hk hS => kk r u H1 locs1 hw (z_join I isC isR hC hR hn hdis ht hvm hB hk hS))
theorem z_xcalld {mc ms : Nat} {st0 : List Value} {aa : Array Value} {wc wr : va_W} {pE : String → Prop} {post : UInt64 → va_W × List (ClassId × FieldType) → Prop} (hr : vx_Run p l e R s m args below meth c H locs cells slots mc ms (F0 m pc ls st0) rest (va_Qd post (z_B dC dI (va_A wc H.size)) (va_A wc H.size) aa) (z_XC pE (va_A wc H.size)) (va_A wc H.size))
    (I : z_I A dC dI ws tys s H locs) (isC isR : List Nat) (hC : isC.map (fun i => ws[i]?) = wc.map some) (hR : isR.map (fun i => ws[i]?) = wr.map some) (hn : va_nd isR = true) (hdis : ∀ i ∈ isR, i ∉ isC)
    (kx : ∀ (E : String) (ce : Cell) (q9 : Addr) (H1 : Heap) (locs1 : List Loc), pE E → z_I A dC dI wr tys s H1 locs1 → H1[q9]? = some ce → ce.vm = .none → s.vm.findClass E = some ce.cls → vx_W p l e R s m args below meth c H1 locs1 (cells + mc) (slots + ms) Q (F0 m pc ls rest) q9)
    (kk : ∀ (r : UInt64) (u : va_W × List (ClassId × FieldType)) (H1 : Heap) (locs1 : List Loc), post r u → z_I A dC dI (wr ++ u.1) (tys ++ u.2) s H1 locs1 → W p l e R s m args below meth c H1 locs1 (cells + mc) (slots + ms) Q (F0 m (pc + 3) ls (.double r :: rest))) : W p l e R s m args below meth c H locs cells slots Q (F0 m pc ls st0) := by
  have hF := va_free I.2.2.1 I.2.2.2.1 I.2.2.2.2.1 isC hC
  exact vx_calld hr I.2.2.2.1 (fun q _ h => hF q h) hF (fun q _ h => hF q h) (fun E ce q9 u t H1 locs1 ht hvm _ hE hz hk hS hcell hcv hcl => kx E ce q9 H1 locs1 hE (z_joinX I isC isR hC hR hn hdis ht hvm hk hS) hcell hcv hcl)
    (fun r u t H1 locs1 ht hvm hw hB hz hk hS => kk r u H1 locs1 hw (z_join I isC isR hC hR hn hdis ht hvm hB hk hS))
end ZT
