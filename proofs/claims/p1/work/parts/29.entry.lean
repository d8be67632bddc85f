/-! the law's entry -/
/-! words of the tables, by their places; what classes lay; what throws need -/
theorem mw28 : Cond.classLink RL 8 RX8 ∈ lw_tbl := (List.mem_append_right (k2_sels lw_privs) (List.mem_of_getElem? (i := 28) (by decide +kernel)) : _ ∈ k2_sels lw_privs ++ tables_1)
theorem mw29 : Cond.instantiable RX8 2 ∈ lw_tbl := (List.mem_append_right (k2_sels lw_privs) (List.mem_of_getElem? (i := 29) (by decide +kernel)) : _ ∈ k2_sels lw_privs ++ tables_1)
theorem mw30 : Cond.methodLink RL 131 yX8_init ∈ lw_tbl := (List.mem_append_right (k2_sels lw_privs) (List.mem_of_getElem? (i := 30) (by decide +kernel)) : _ ∈ k2_sels lw_privs ++ tables_1)
theorem mw31 : Cond.instanceMethod yX8_init ∈ lw_tbl := (List.mem_append_right (k2_sels lw_privs) (List.mem_of_getElem? (i := 31) (by decide +kernel)) : _ ∈ k2_sels lw_privs ++ tables_1)
theorem mw32 : Cond.code yX8_init cX8_init 1 none ∈ lw_tbl := (List.mem_append_right (k2_sels lw_privs) (List.mem_of_getElem? (i := 32) (by decide +kernel)) : _ ∈ k2_sels lw_privs ++ tables_1)
theorem mw1248 : Cond.classLink RL 132 RX9 ∈ lw_tbl := (List.mem_append_right (k2_sels lw_privs) (List.mem_of_getElem? (i := 1248) (by decide +kernel)) : _ ∈ k2_sels lw_privs ++ tables_1)
theorem mw1249 : Cond.instantiable RX9 43 ∈ lw_tbl := (List.mem_append_right (k2_sels lw_privs) (List.mem_of_getElem? (i := 1249) (by decide +kernel)) : _ ∈ k2_sels lw_privs ++ tables_1)
theorem mw1250 : Cond.methodLink RL 134 yX9_init ∈ lw_tbl := (List.mem_append_right (k2_sels lw_privs) (List.mem_of_getElem? (i := 1250) (by decide +kernel)) : _ ∈ k2_sels lw_privs ++ tables_1)
theorem mw1251 : Cond.instanceMethod yX9_init ∈ lw_tbl := (List.mem_append_right (k2_sels lw_privs) (List.mem_of_getElem? (i := 1251) (by decide +kernel)) : _ ∈ k2_sels lw_privs ++ tables_1)
theorem mw1252 : Cond.code yX9_init cX9_init 1 none ∈ lw_tbl := (List.mem_append_right (k2_sels lw_privs) (List.mem_of_getElem? (i := 1252) (by decide +kernel)) : _ ∈ k2_sels lw_privs ++ tables_1)
theorem mw1749 : Cond.arrayClass .double ∈ lw_tbl := (List.mem_append_right (k2_sels lw_privs) (List.mem_of_getElem? (i := 1749) (by decide +kernel)) : _ ∈ k2_sels lw_privs ++ tables_1)
theorem dL_law_0 : decode cL_law 0 = .ok (.new 8, 3) := by decide +kernel
theorem dL_law_3 : decode cL_law 3 = .ok (.dup, 1) := by decide +kernel
theorem dL_law_4 : decode cL_law 4 = .ok (.invokespecial 131, 3) := by decide +kernel
theorem dL_law_7 : decode cL_law 7 = .ok (.astore_n 1, 1) := by decide +kernel
theorem dL_law_8 : decode cL_law 8 = .ok (.new 132, 3) := by decide +kernel
theorem dL_law_11 : decode cL_law 11 = .ok (.dup, 1) := by decide +kernel
theorem dL_law_12 : decode cL_law 12 = .ok (.invokespecial 134, 3) := by decide +kernel
theorem dL_law_15 : decode cL_law 15 = .ok (.astore_n 2, 1) := by decide +kernel
theorem dL_law_16 : decode cL_law 16 = .ok (.iconst 1, 1) := by decide +kernel
theorem dL_law_17 : decode cL_law 17 = .ok (.newarray .long, 2) := by decide +kernel
theorem dL_law_19 : decode cL_law 19 = .ok (.astore_n 3, 1) := by decide +kernel
theorem dL_law_20 : decode cL_law 20 = .ok (.iconst 1, 1) := by decide +kernel
theorem dL_law_21 : decode cL_law 21 = .ok (.newarray .double, 2) := by decide +kernel
theorem dL_law_23 : decode cL_law 23 = .ok (.astore 4, 2) := by decide +kernel
theorem dL_law_25 : decode cL_law 25 = .ok (.iconst 0, 1) := by decide +kernel
theorem dL_law_26 : decode cL_law 26 = .ok (.istore 5, 2) := by decide +kernel
theorem dL_law_38 : decode cL_law 38 = .ok (.aload_n 0, 1) := by decide +kernel
theorem dL_law_39 : decode cL_law 39 = .ok (.iload 5, 2) := by decide +kernel
theorem dL_law_41 : decode cL_law 41 = .ok (.iaload, 1) := by decide +kernel
theorem dL_law_42 : decode cL_law 42 = .ok (.bipush 63, 2) := by decide +kernel
theorem dL_law_44 : decode cL_law 44 = .ok (.iand, 1) := by decide +kernel
theorem dL_law_45 : decode cL_law 45 = .ok (.tableswitch 2193 0 33 #[151, 259, 379, 423, 479, 535, 610, 654, 726, 782, 795, 808, 864, 920, 988, 1056, 1111, 1178, 1221, 1320, 1383, 1426, 1481, 1525, 1605, 1661, 1729, 1742, 1798, 1866, 1922, 1978, 2062, 2128], 151) := by decide +kernel
theorem dL_law_28 : decode cL_law 28 = .ok (.iload 5, 2) := by decide +kernel
theorem dL_law_30 : decode cL_law 30 = .ok (.aload_n 0, 1) := by decide +kernel
theorem dL_law_31 : decode cL_law 31 = .ok (.arraylength, 1) := by decide +kernel
theorem dL_law_32 : decode cL_law 32 = .ok (.bipush 7, 2) := by decide +kernel
theorem dL_law_34 : decode cL_law 34 = .ok (.isub, 1) := by decide +kernel
theorem dL_law_35 : decode cL_law 35 = .ok (.if_icmp .gt 2209, 3) := by decide +kernel
theorem dL_law_2244 : decode cL_law 2244 = .ok (.iconst 1, 1) := by decide +kernel
theorem dL_law_2245 : decode cL_law 2245 = .ok (.ireturn, 1) := by decide +kernel
theorem dL_law_2238 : decode cL_law 2238 = .ok (.iinc 5 7, 3) := by decide +kernel
theorem dL_law_2241 : decode cL_law 2241 = .ok (.goto (-2213), 3) := by decide +kernel
/-- words of a list of things, by their places -/
theorem z_things {α : Type} {L : List α} {f : α → Cond} (is : List Nat) (h : L.map (fun q => some (f q)) = is.map (fun i => tables_1[i]?)) : ∀ q ∈ L, f q ∈ lw_tbl := by
  intro q hq
  have h1 : some (f q) ∈ L.map (fun q => some (f q)) := List.mem_map_of_mem hq
  rw [h] at h1
  obtain ⟨i, -, hi⟩ := List.mem_map.mp h1
  exact (List.mem_append_right (k2_sels lw_privs) (List.mem_of_getElem? hi) : _ ∈ k2_sels lw_privs ++ tables_1)
theorem z_e1 : ∀ q ∈ z_nests, (fun q => Cond.methodLinkNest q.1 q.2.1 q.2.2.1 q.2.2.2) q ∈ lw_tbl := z_things [85, 288, 241, 52, 80, 120, 500, 208, 211, 283] (by decide +kernel)
theorem z_e2 : ∀ q ∈ z_decls, (fun x => Cond.declares x) q ∈ lw_tbl := z_things [400, 398, 396] (by decide +kernel)
theorem z_e3 : ∀ q ∈ z_excs, (fun E => Cond.castable E E) q ∈ lw_tbl := z_things [394, 470, 644, 735, 1224] (by decide +kernel)
theorem z_e4 : ∀ q ∈ z_aas, (fun t => Cond.arrayOver (.array t)) q ∈ lw_tbl := z_things [87, 89, 1259, 1257] (by decide +kernel)
theorem z_e5 : ∀ q ∈ z_aos, (fun C => Cond.arrayOver (.object C)) q ∈ lw_tbl := z_things [49, 204, 206] (by decide +kernel)
theorem z_e6 : ∀ q ∈ z_strs, (fun q => Cond.stringRef RX8 q.1 q.2) q ∈ lw_tbl := z_things [437, 477, 495, 501, 502, 555, 600, 651, 742, 756, 757, 758, 774, 775, 918, 926, 934, 953, 987, 1036, 1055, 1067, 1079, 1080, 1081, 1086, 1103, 1104, 1152, 1160, 1161, 1162, 1178, 1186, 1231] (by decide +kernel)
theorem z_flat {α : Type} {L : List α} {f : α → Cond} (is : List Nat) (h : L.map (fun q => some (f q)) = is.map (fun i => (flatC (Jvm.Cond.and given_1 narrow_1))[i]?)) : ∀ q ∈ L, f q ∈ flatC (Jvm.Cond.and given_1 narrow_1) := by
  intro q hq
  have h1 : some (f q) ∈ L.map (fun q => some (f q)) := List.mem_map_of_mem hq
  rw [h] at h1
  obtain ⟨i, -, hi⟩ := List.mem_map.mp h1
  exact List.mem_of_getElem? hi
theorem z_e7 : ∀ q ∈ z_strs, (fun q : Nat × String => Cond.exactly (.string RX8 q.1) "java/lang/String") q ∈ flatC (Jvm.Cond.and given_1 narrow_1) := z_flat [156, 184, 219, 236, 281, 301, 320, 361, 379, 405, 422, 438, 462, 501, 521, 537, 565, 591, 627, 648, 677, 707, 731, 754, 785, 806, 842, 857, 884, 908, 944, 986, 1015, 1030, 1055] (by decide +kernel)
theorem z_e8 : Cond.not (.castable "java/lang/IllegalStateException" "java/lang/IllegalArgumentException") ∈ flatC (Jvm.Cond.and given_1 narrow_1) := List.mem_of_getElem? (i := 17) (by decide +kernel)
theorem z_e9 : Cond.isRef (.static Bundle.tN "UNASSIGNED_STACK" Bundle.steD) ∈ flatC (Jvm.Cond.and given_1 narrow_1) := List.mem_of_getElem? (i := 4) (by decide +kernel)
theorem z_e10 : Cond.isRef (.static Bundle.tN "SUPPRESSED_SENTINEL" Bundle.listD) ∈ flatC (Jvm.Cond.and given_1 narrow_1) := List.mem_of_getElem? (i := 5) (by decide +kernel)
theorem z_e11 : Cond.laysStatic Bundle.tN "UNASSIGNED_STACK" Bundle.steD ∈ lw_tbl := (List.mem_append_right (k2_sels lw_privs) (List.mem_of_getElem? (i := 419) (by decide +kernel)) : _ ∈ k2_sels lw_privs ++ tables_1)
theorem z_e12 : Cond.laysStatic Bundle.tN "SUPPRESSED_SENTINEL" Bundle.listD ∈ lw_tbl := (List.mem_append_right (k2_sels lw_privs) (List.mem_of_getElem? (i := 421) (by decide +kernel)) : _ ∈ k2_sels lw_privs ++ tables_1)
theorem z_e13 : Cond.initialized Bundle.tN ∈ lw_tbl := (List.mem_append_right (k2_sels lw_privs) (List.mem_of_getElem? (i := 11) (by decide +kernel)) : _ ∈ k2_sels lw_privs ++ tables_1)
set_option maxRecDepth 100000 in
/-- what every call hands on holds at the law's entry -/
theorem z_entry {s : State} {b : Nat} (hts : ∀ w ∈ lw_tbl, w.before #[Value.ref b] s = true) (hgv : (Jvm.Cond.and given_1 narrow_1).before #[Value.ref b] s = true) : z_amb (fun q : Nat => s.heap.size ≤ q) s := by
  have hs := flat_of_before _ hgv
  have hA : ∀ a : Nat, a < s.heap.size → ¬ (fun q : Nat => s.heap.size ≤ q) a := fun a h => Nat.not_le.mpr h
  refine ⟨fun q hq => va_Nw.of rfl (hts _ (z_e1 q hq)), fun x hx => va_Nw.of rfl (hts _ (z_e2 x hx)), fun E hE => va_Nw.of rfl (hts _ (z_e3 E hE)), fun t ht => hts _ (z_e4 t ht), fun C hC => va_AO.of (hts _ (z_e5 C hC)), va_Nc.of (hs _ z_e8), fun q hq => ?_, vx_Zqof (hts _ z_e11) (hts _ z_e13) (hs _ z_e9) hA, vx_Zqof (hts _ z_e12) (hts _ z_e13) (hs _ z_e10) hA⟩
  obtain ⟨a, -, -, -, ha, -⟩ := Cond.exactly_spec (hs _ (z_e7 q hq))
  exact ⟨a, vk_R.of (hts _ (z_e6 q hq)) ha⟩
theorem z_amb.drawn {A : Nat → Prop} {s : State} {d : Drawn} (h : z_amb A s) : z_amb A (s.setDrawn d) := by
  obtain ⟨h1, h2, h3, h4, h5, h6, h7, h8, h9⟩ := h
  refine ⟨fun q hq => va_Nw.same rfl (u := s) rfl (h1 q hq), fun x hx => va_Nw.same rfl (u := s) rfl (h2 x hx), fun E hE => va_Nw.same rfl (u := s) rfl (h3 E hE), fun t ht => (h4 t ht).moved (Vm.Alike.refl s.vm), fun C hC => (h5 C hC).moved (Vm.Alike.refl s.vm), h6.moved (Vm.Alike.refl s.vm), fun q hq => ?_, ?_, ?_⟩
  · obtain ⟨sa, hs⟩ := h7 q hq
    exact ⟨sa, vk_R.same (u := s) rfl hs⟩
  · exact vx_Zq.moved (u := s) (Vm.Alike.refl s.vm) h8
  · exact vx_Zq.moved (u := s) (Vm.Alike.refl s.vm) h9
theorem z_known {s : State} {b : Nat} (hg : z_G #[Value.ref b] s) : ∃ (dC : Nat → ClassId) (dI : Nat → Nat → Nat), va_K (dC, dI) zCl [] s := by
  obtain ⟨c0, i0, h0⟩ := u_known (C := RX0) (T := TX0) (N := 9) (n := 9) hg.h iw_0 (hg _ mw79 rfl)
  obtain ⟨c1, i1, h1⟩ := u_known (C := RX1) (T := TX1) (N := 5) (n := 5) hg.h iw_1 (hg _ mw210 rfl)
  obtain ⟨c2, i2, h2⟩ := u_known (C := RX2) (T := TX2) (N := 6) (n := 6) hg.h iw_2 (hg _ mw282 rfl)
  obtain ⟨c3, i3, h3⟩ := u_known (C := RX3) (T := TX3) (N := 9) (n := 9) hg.h iw_3 (hg _ mw235 rfl)
  obtain ⟨c4, i4, h4⟩ := u_known (C := RX4) (T := TX4) (N := 3) (n := 3) hg.h iw_4 (hg _ mw51 rfl)
  obtain ⟨c5, i5, h5⟩ := u_known (C := RX5) (T := TX5) (N := 13) (n := 13) hg.h iw_5 (hg _ mw43 rfl)
  obtain ⟨c6, i6, h6⟩ := u_known (C := RX6) (T := TX6) (N := 3) (n := 3) hg.h iw_6 (hg _ mw119 rfl)
  obtain ⟨c7, i7, h7⟩ := u_known (C := RX7) (T := TX7) (N := 12) (n := 12) hg.h iw_7 (hg _ mw37 rfl)
  obtain ⟨c8, i8, h8⟩ := u_known (C := RX8) (T := TX8) (N := 2) (n := 2) hg.h iw_8 (hg _ mw29 rfl)
  obtain ⟨c9, i9, h9⟩ := u_known (C := RX9) (T := TX9) (N := 43) (n := 43) hg.h iw_9 (hg _ mw1249 rfl)
  refine ⟨fun k => if k = 0 then c0 else if k = 1 then c1 else if k = 2 then c2 else if k = 3 then c3 else if k = 4 then c4 else if k = 5 then c5 else if k = 6 then c6 else if k = 7 then c7 else if k = 8 then c8 else c9, fun k => if k = 0 then i0 else if k = 1 then i1 else if k = 2 then i2 else if k = 3 then i3 else if k = 4 then i4 else if k = 5 then i5 else if k = 6 then i6 else if k = 7 then i7 else if k = 8 then i8 else i9, ?_, fun k q h => by simp at h⟩
  intro k q hq
  match k, hq with
  | 0, hq => cases hq; exact h0
  | 1, hq => cases hq; exact h1
  | 2, hq => cases hq; exact h2
  | 3, hq => cases hq; exact h3
  | 4, hq => cases hq; exact h4
  | 5, hq => cases hq; exact h5
  | 6, hq => cases hq; exact h6
  | 7, hq => cases hq; exact h7
  | 8, hq => cases hq; exact h8
  | 9, hq => cases hq; exact h9
  | k + 10, hq => simp [zCl] at hq
theorem z_tab (v : Int32) : (∃ n : Nat, n < 34 ∧ v = Int32.ofNat n) ∨ (v.toInt < 0 ∨ 33 < v.toInt) := by
  by_cases h : v.toInt < 0 ∨ 33 < v.toInt
  · exact Or.inr h
  · refine Or.inl ⟨v.toInt.toNat, by omega, ?_⟩
    apply Int32.toInt_inj.mp
    rw [toInt_of (n := Int32.ofNat v.toInt.toNat) rfl (by omega)]
    omega
