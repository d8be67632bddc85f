/-! what calls on a fresh object come to: 0, or the number of what is thrown -/
def z_wr (f : Int32) : Int32 := if z_bt (-5) f 5 = 0 then 1 else if f = 0 then 0 else 1
def z_cm (f : Int32) : Int32 := if z_wr f = 0 then 1 else 0
def z_sn (s : Int32) : Bool := s == 108 || s == 103 || s == 101
def z_so (s : Int32) : Bool := s == 98 || s == 100
def z_sr (s : Int32) : Bool := s == 102 || s == 104 || s == 108
def z_w0 (s f : Int32) : Int32 := if z_sn s = true then (if z_bt (-99) f 99 = 0 then 1 else 0) else 1
def z_cAC (c lo hi : Int32) : Int32 := if z_bt (-9) c 9 = 0 then 1 else if z_bt (-9) lo 9 = 0 then 1 else if z_bt lo hi 9 = 0 then 1 else 0
def z_cAR (s f a b c d : Int32) : Int32 := if z_sn s = true then (if z_bt (-99) f 99 = 0 then 1 else if z_cm a = 0 then 1 else if z_cm b = 0 then 1 else if z_cm c = 0 then 1 else if z_cm d = 0 then 1 else 0) else 1
def z_cB (o r : Int32) : Int32 := if z_so o = true then (if z_sr r = true then 2 else 1) else 1
def z_cS (n : Int32) : Int32 := if z_bt 1 n 41 = 0 then 1 else 2
theorem z_wr_01 (f : Int32) : z_wr f = 0 ∨ z_wr f = 1 := by
  unfold z_wr
  split
  · exact Or.inr rfl
  · split
    · exact Or.inl rfl
    · exact Or.inr rfl
theorem z_cm_0 {f : Int32} (h : z_wr f = 0) : z_cm f = 1 := by simp [z_cm, h]
theorem z_cm_1 {f : Int32} (h : z_wr f = 1) : z_cm f = 0 := by simp [z_cm, h]
theorem z_or0 {x y : Int32} (hx : x = 0 ∨ x = 1) (hy : y = 0 ∨ y = 1) : x ||| y = if x = 0 then y else 1 := by
  rcases hx with rfl | rfl <;> rcases hy with rfl | rfl <;> decide
theorem z_w0_01 (s f : Int32) : z_w0 s f = 0 ∨ z_w0 s f = 1 := by
  unfold z_w0
  split
  · split
    · exact Or.inr rfl
    · exact Or.inl rfl
  · exact Or.inr rfl
theorem z_cAR_w (s f a b c d : Int32) : z_cAR s f a b c d = if z_w0 s f = 0 then (if z_wr a = 0 then (if z_wr b = 0 then (if z_wr c = 0 then (if z_wr d = 0 then 0 else 1) else 1) else 1) else 1) else 1 := by
  have hm : ∀ x : Int32, (z_cm x = 0) = (¬ z_wr x = 0) := fun x => by
    rcases z_wr_01 x with h | h
    · rw [z_cm_0 h, h]; decide
    · rw [z_cm_1 h, h]; decide
  unfold z_cAR z_w0
  simp only [hm, ite_not]
  cases z_sn s with
  | false => simp
  | true =>
    rw [if_pos rfl, if_pos rfl]
    by_cases hf : z_bt (-99) f 99 = 0
    · rw [if_pos hf, if_pos hf, if_neg (by decide)]
    · rw [if_neg hf, if_neg hf, if_pos rfl]
theorem z_cAR_or (s f a b c d : Int32) : z_cAR s f a b c d = if ((((z_w0 s f ||| z_wr a) ||| z_wr b) ||| z_wr c) ||| z_wr d) = 0 then 0 else 1 := by
  rw [z_cAR_w]
  have h0 := z_w0_01 s f
  have ha := z_wr_01 a
  have hb := z_wr_01 b
  have hc := z_wr_01 c
  have hd := z_wr_01 d
  generalize z_w0 s f = x0 at *
  generalize z_wr a = x1 at *
  generalize z_wr b = x2 at *
  generalize z_wr c = x3 at *
  generalize z_wr d = x4 at *
  rcases h0 with rfl | rfl <;> rcases ha with rfl | rfl <;> rcases hb with rfl | rfl <;> rcases hc with rfl | rfl <;> rcases hd with rfl | rfl <;> decide
theorem z_cAR_1 {s f a b c d v0 v1 v2 v3 v4 : Int32} (h0 : v0 = z_w0 s f) (h1 : v1 = z_wr a) (h2 : v2 = z_wr b) (h3 : v3 = z_wr c) (h4 : v4 = z_wr d) (hc : ¬ ((((v0 ||| v1) ||| v2) ||| v3) ||| v4) = 0) : 1 = z_cAR s f a b c d := by
  subst h0 h1 h2 h3 h4
  rw [z_cAR_or, if_neg hc]
theorem z_cAR_0 {s f a b c d v0 v1 v2 v3 v4 : Int32} (h0 : v0 = z_w0 s f) (h1 : v1 = z_wr a) (h2 : v2 = z_wr b) (h3 : v3 = z_wr c) (h4 : v4 = z_wr d) (hc : ((((v0 ||| v1) ||| v2) ||| v3) ||| v4) = 0) : 0 = z_cAR s f a b c d := by
  subst h0 h1 h2 h3 h4
  rw [z_cAR_or, if_pos hc]
theorem z_nc (x : Int32) : narrow .char (.int ((x.toUInt32 % 65536).toInt32)) = .int ((x.toUInt32 % 65536).toInt32) := by
  have h : x.toUInt32 % 65536 % 65536 = x.toUInt32 % 65536 := by
    apply UInt32.toNat_inj.mp
    simp [UInt32.toNat_mod]
  simp [narrow, h]
/-- words of a list by their places in the tables -/
theorem z_placed {ws : List Cond} (ps : List Nat) (hp : ws = ps.filterMap (fun i => tables_1[i]?)) : ∀ w ∈ ws, w ∈ lw_tbl := by
  intro w hw
  rw [hp] at hw
  obtain ⟨i, -, hi⟩ := List.mem_filterMap.mp hw
  exact (List.mem_append_right (k2_sels lw_privs) (List.mem_of_getElem? hi) : _ ∈ k2_sels lw_privs ++ tables_1)
/-- where each case of the law goes on: behind its switch -/
def z_LK (p : Program) (l : Launch) (e : Env) (s : State) (m : MethodId) (below : List Frame) (meth : Method) (c : Code) (b : Nat) (A : Nat → Prop) (Q : State → Prop) : Prop :=
  ∀ (H : Heap) (locs : List Loc) (ls : Array Slot), va_S A s.heap H locs → lv_has ls 9 [(0, .ref b), (5, .int 0)] → W p l e room_1 s m #[Value.ref b] below meth c H locs 2000 9000 Q (F0 m 2238 ls [])
