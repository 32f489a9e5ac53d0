/-! The judgement: from this place of the method, with these locals, this stack and these cells, the method comes to an end with Q. -/
abbrev mm_Y : Type := MethodName × ByteArray × Nat × Option FieldType
/-- an end: an answer, or the number of an exception's class; the cells; how many -/
abbrev mm_O : Type := (Option Value ⊕ Nat) × mm_M × Nat
def mm_xn (k : Nat) : String := match k with
  | 0 => "java/lang/IllegalArgumentException"
  | 1 => "java/lang/IndexOutOfBoundsException"
  | 2 => "java/lang/UnsupportedOperationException"
  | _ => "java/lang/IllegalStateException"
def mm_Xc (k : Nat) (x : Addr) (t : State) : Prop := ∃ cell : Cell, t.heap[x]? = some cell ∧ cell.vm.isStatics = false ∧ t.vm.findClass (mm_xn k) = some cell.cls
def mm_tys (g : mm_G) : List (ClassId × FieldType) := mm_ty.mapIdx (fun i t => (g.2.1 i, t))
theorem mm_tys_at {g : mm_G} {t : Nat} {ty : FieldType} (h : mm_ty[t]? = some ty) : (mm_tys g)[t]? = some (g.2.1 t, ty) := by
  unfold mm_tys
  rw [List.getElem?_mapIdx, h]
  rfl
/-- what holds all the time: classes and array classes; the static tables -/
def mm_sta : List (String × String × List Int32) := [("TensorForge$Reaches", "SIZES", [4096, 512, 512, 256, 256]), ("TensorForge$Words", "LOWEST_BIT", [0, 4, 5, 6, 7, 8, 20, 26, 31, 40, 49, 59]), ("TensorForge$Words", "MOST", [15, 1, 1, 1, 1, 4095, 63, 31, 511, 511, 1023, 31]), ("TensorForge$Words", "NAMED", [0, 0x5E0, 0x5E0, 0x1C0, 0x5E0, 0xFC0, 0xBC0, 0xBC0, 0x5E0, 0x800])]
def mm_Ist (g : mm_G) (U : State) (H : Heap) : Prop := ∀ (i : Nat) (q : String × String × List Int32), mm_sta[i]? = some q → va_Z q.1 q.2.1 "[I" (.ref (g.2.2.2 i)) (mm_A g) U H ∧ va_T .int (g.2.2.2 i) q.2.2.length (fun j => .int (q.2.2.getD j 0)) (mm_A g) U H
/-- what a throw needs beside the good words -/
def mm_Iex (g : mm_G) (U : State) (H : Heap) : Prop := (∀ w ∈ mm_nw, va_Nw w U) ∧ va_Zq "java/lang/Throwable" "UNASSIGNED_STACK" "[Ljava/lang/StackTraceElement;" (mm_A g) U H ∧ va_Zq "java/lang/Throwable" "SUPPRESSED_SENTINEL" "Ljava/util/List;" (mm_A g) U H ∧ ∀ a b : Nat, a < 4 → b < 4 → a ≠ b → va_Nc (mm_xn a) (mm_xn b) U
/-- a static field lies where it lay -/
def mm_Ls (C n d : String) (A : Nat → Prop) (U : State) (H : Heap) : Prop := ∃ (c i a : Nat) (k : Class) (f : Field) (cell : Cell), (U.vm.findClass C = some c ∧ U.fieldFound? C n d = some (c, k, i, f)) ∧ (f.isStatic = true ∧ k.statics = some a ∧ k.staticTypes[f.slot]? = some f.type) ∧ (¬ A a ∧ H[a]? = some cell) ∧ cell.vm.isStatics = true ∧ cell.cls = c ∧ f.slot < cell.slots.size
theorem mm_Ls.moved {C n d : String} {A : Nat → Prop} {u U : State} {H : Heap} (hvm : u.vm.Alike U.vm) (h : mm_Ls C n d A u H) : mm_Ls C n d A U H := by
  obtain ⟨c, i, a, k, f, cell, ⟨h1, h2⟩, ⟨h3, h4, h5⟩, h6, h7⟩ := h
  obtain ⟨k1, hk1, he⟩ := State.fieldFound?_setVm hvm h2
  exact ⟨c, i, a, k1, f, cell, ⟨by rw [hvm.findClass]; exact h1, hk1⟩, ⟨h3, by rw [he]; exact h4, by rw [he]; exact h5⟩, h6, h7⟩
theorem mm_Ls.kept {C n d : String} {A : Nat → Prop} {U : State} {H H1 : Heap} (h : mm_Ls C n d A U H) (hq : ∀ a : Nat, a < H.size → ¬ A a → H1[a]? = H[a]?) : mm_Ls C n d A U H1 := by
  obtain ⟨c, i, a, k, f, cell, h1, h3, ⟨h5, h6⟩, h7⟩ := h
  exact ⟨c, i, a, k, f, cell, h1, h3, ⟨h5, by rw [hq a (Array.getElem?_eq_some_iff.mp h6).1 h5]; exact h6⟩, h7⟩
theorem mm_Ls.use {C n d : String} {A : Nat → Prop} {s : State} {args : Array Value} (h : mm_Ls C n d A s s.heap) : (Cond.laysStatic C n d).before args s = true := by
  obtain ⟨c, i, a, k, f, cell, ⟨h1, h2⟩, ⟨h3, h4, h5⟩, ⟨-, h6⟩, h7, h8, h9⟩ := h
  exact Cond.laysStatic_of h1 h2 h3 h4 h6 h7 h8 h9 h5
/-- the script: an int[] that nobody writes; its cell is 998, its length g's 997, its ints g's 2000 on -/
def mm_Scr (g : mm_G) (U : State) (H : Heap) : Prop := va_T .int (g.2.2.2 998) (g.2.2.2 997) (fun j => .int (Int32.ofNat (g.2.2.2 (2000 + j)))) (mm_A g) U H ∧ va_AO "TensorForge$Layer" U ∧ va_AO "TensorForge$Reaches" U
/-- the texts -/
def mm_Itx (g : mm_G) (U : State) (H : Heap) : Prop := (∀ q ∈ mm_strs, vk_R q.1 q.2.1 (mm_txt.getD q.2.2 "") (g.2.2.2 (100 + q.2.2)) U) ∧ vk_S mm_txt.length mm_len mm_byt (fun i => g.2.2.2 (100 + i)) (fun i => g.2.2.2 (500 + i)) (mm_A g) U H ∧ va_Z "java/lang/String" "COMPACT_STRINGS" "Z" (.int 1) (mm_A g) U H ∧ (va_Z "jdk/internal/util/Preconditions" "SIOOBE_FORMATTER" "Ljava/util/function/BiFunction;" .null (mm_A g) U H ∨ va_Z "jdk/internal/util/Preconditions" "SIOOBE_FORMATTER" "Ljava/util/function/BiFunction;" (.ref (g.2.2.2 999)) (mm_A g) U H) ∧ mm_Ls "java/lang/Throwable" "UNASSIGNED_STACK" "[Ljava/lang/StackTraceElement;" (mm_A g) U H ∧ mm_Ls "java/lang/Throwable" "SUPPRESSED_SENTINEL" "Ljava/util/List;" (mm_A g) U H ∧ mm_Scr g U H
def mm_I (g : mm_G) (U : State) (H : Heap) : Prop := va_K g.1 mm_cl (mm_tys g) U ∧ mm_Ist g U H ∧ mm_Iex g U H ∧ mm_Itx g U H
theorem mm_I.moved {g : mm_G} {u U : State} {H : Heap} (hW : u.WarmedH U.vm) (h : mm_I g u H) : mm_I g U H := by
  have hvm := hW.alike
  refine ⟨va_K.moved hvm h.1, fun i q hq => ⟨va_Z.moved hvm (h.2.1 i q hq).1, va_T.moved hvm (h.2.1 i q hq).2⟩, ⟨fun w hw => ?_, va_Zq.moved hvm h.2.2.1.2.1, va_Zq.moved hvm h.2.2.1.2.2.1, fun a b ha hb hab => (h.2.2.1.2.2.2 a b ha hb hab).moved hvm⟩, fun q hq => (h.2.2.2.1 q hq).warm hW, h.2.2.2.2.1.moved hvm, va_Z.moved hvm h.2.2.2.2.2.1, h.2.2.2.2.2.2.1.imp (fun z => va_Z.moved hvm z) (fun z => va_Z.moved hvm z), h.2.2.2.2.2.2.2.1.moved hvm, h.2.2.2.2.2.2.2.2.1.moved hvm, va_T.moved hvm h.2.2.2.2.2.2.2.2.2.1, va_AO.moved hvm h.2.2.2.2.2.2.2.2.2.2.1, va_AO.moved hvm h.2.2.2.2.2.2.2.2.2.2.2⟩
  have h1 := h.2.2.1.1 w hw
  rcases mm_nw_ok w hw with ⟨C, T, rfl⟩ | ⟨x, rfl⟩
  · exact va_Nw.warmC hW h1
  · exact va_Nw.warmD hW h1
theorem mm_I.kept {g : mm_G} {U : State} {H H1 : Heap} (h : mm_I g U H) (hq : ∀ a : Nat, a < H.size → ¬ mm_A g a → H1[a]? = H[a]?) : mm_I g U H1 := ⟨h.1, fun i q hi => ⟨(h.2.1 i q hi).1.kept hq, (h.2.1 i q hi).2.kept hq⟩, ⟨h.2.2.1.1, h.2.2.1.2.1.kept hq, h.2.2.1.2.2.1.kept hq, h.2.2.1.2.2.2⟩, h.2.2.2.1, h.2.2.2.2.1.kept hq, h.2.2.2.2.2.1.kept hq, h.2.2.2.2.2.2.1.imp (fun z => z.kept hq) (fun z => z.kept hq), h.2.2.2.2.2.2.2.1.kept hq, h.2.2.2.2.2.2.2.2.1.kept hq, va_T.kept h.2.2.2.2.2.2.2.2.2.1 hq, h.2.2.2.2.2.2.2.2.2.2⟩
def mm_Cx (g : mm_G) (Y : mm_Y) (p : Program) (s : State) (m : MethodId) (args : Array Value) (meth : Method) (c : Code) : Prop :=
  p.tables.exec = Jvm.exec ∧ c.code = Y.2.1 ∧ c.maxLocals = Y.2.2.1 ∧ meth.sig.returnType = Y.2.2.2 ∧ s.vm.findClass Y.1.cls = some m.cls ∧ (∀ w ∈ mm_tb, w.before args s = true) ∧ meth.locks = false ∧ (meth.name = Y.1.name ∧ s.methodNamed? Y.1 = some m) ∧ mm_I g s s.heap ∧ g.2.2.1 ≤ s.heap.size
/-- how a method ends -/
def mm_Po (g : mm_G) (mc ms : Nat) (s : State) (Q : mm_O → Prop) (o : Outcome) (t : State) : Prop := ∃ (u : mm_O) (L : List Loc), Q u ∧ mm_H g u.2.1 u.2.2 t.heap ∧ (∀ q : Nat, q < g.2.2.1 → t.heap[q]? = s.heap[q]?) ∧ (∀ q ∈ L, mm_A g q.base) ∧ s.WarmedH t.vm ∧ s.sameButNew ({ t with vm := s.vm } : State) L mc ms ∧ (match u.1 with
  | .inl v => o = .returned (v.map (mm_tr g))
  | .inr k => ∃ x : Addr, o = .threw x ∧ mm_Xc k x t)
def mm_Fin (g : mm_G) (mc ms : Nat) (below : List Frame) (s : State) (Q : mm_O → Prop) (t : State) : Prop := ∃ o, t.status = .running ∧ Ended t below o ∧ mm_Po g mc ms s Q o t
def mm_Ev (g : mm_G) (l : Launch) (Y : mm_Y) (rm : Room) (Q : mm_O → Prop) (pc : Nat) (ls : List (Option Value)) (st : List Value) (M : mm_M) (n k j : Nat) : Prop :=
  ∀ (p : Program) (e : Env) (s : State) (m : MethodId) (args : Array Value) (below : List Frame) (meth : Method) (c : Code) (H : Heap) (locs : List Loc) (lsM : Array Slot),
    mm_Cx g Y p s m args meth c → mm_H g M n H → va_S (mm_A g) s.heap H locs → mm_L g Y.2.2.1 ls lsM → W p l e rm s m args below meth c H locs k j (mm_Fin g rm.cells rm.slots below s Q) (F0 m pc lsM (st.map (mm_tr g)))
section MMEV
variable {g : mm_G} {l : Launch} {Y : mm_Y} {rm : Room} {Q : mm_O → Prop} {pc : Nat} {ls : List (Option Value)} {st : List Value} {M : mm_M} {n k j : Nat}

theorem mm_iconst {z : Int} {v : Int32} (hv : Int32.ofInt z = v) (hd : decode Y.2.1 pc = .ok (.iconst z, 1)) (kk : mm_Ev g l Y rm Q (pc + 1) ls (.int v :: st) M n k j) : mm_Ev g l Y rm Q pc ls (st) M n k j := by
  intro p e s m args below meth c H locs lsM hC hH hS hL
  exact lv_iconst hC.1 hC.2.1 hd hv (kk p e s m args below meth c H locs lsM hC hH hS hL)
theorem mm_bipush {z : Int} {v : Int32} (hv : (Int8.ofInt z).toInt32 = v) (hd : decode Y.2.1 pc = .ok (.bipush z, 2)) (kk : mm_Ev g l Y rm Q (pc + 2) ls (.int v :: st) M n k j) : mm_Ev g l Y rm Q pc ls (st) M n k j := by
  intro p e s m args below meth c H locs lsM hC hH hS hL
  exact lv_bipush hC.1 hC.2.1 hd hv (kk p e s m args below meth c H locs lsM hC hH hS hL)
theorem mm_sipush {z : Int} {v : Int32} (hv : (Int16.ofInt z).toInt32 = v) (hd : decode Y.2.1 pc = .ok (.sipush z, 3)) (kk : mm_Ev g l Y rm Q (pc + 3) ls (.int v :: st) M n k j) : mm_Ev g l Y rm Q pc ls (st) M n k j := by
  intro p e s m args below meth c H locs lsM hC hH hS hL
  exact lv_sipush hC.1 hC.2.1 hd hv (kk p e s m args below meth c H locs lsM hC hH hS hL)
theorem mm_lconst {z : Fin 2} {v : Int64} (hv : Int64.ofNat (z : Nat) = v) (hd : decode Y.2.1 pc = .ok (.lconst z, 1)) (kk : mm_Ev g l Y rm Q (pc + 1) ls (.long v :: st) M n k j) : mm_Ev g l Y rm Q pc ls (st) M n k j := by
  intro p e s m args below meth c H locs lsM hC hH hS hL
  exact lv_lconst hC.1 hC.2.1 hd hv (kk p e s m args below meth c H locs lsM hC hH hS hL)
theorem mm_iload_n {q : Fin 4} {x : Int32} (hv : mm_lg ls (q : Nat) = some (.int x)) (hd : decode Y.2.1 pc = .ok (.iload_n q, 1)) (kk : mm_Ev g l Y rm Q (pc + 1) ls (.int x :: st) M n k j) : mm_Ev g l Y rm Q pc ls (st) M n k j := by
  intro p e s m args below meth c H locs lsM hC hH hS hL
  exact lv_iload_n hC.1 hC.2.1 hd rfl (hL.2.2 _ _ hv) (kk p e s m args below meth c H locs lsM hC hH hS hL)
theorem mm_iload {i : Nat} {x : Int32} (hv : mm_lg ls i = some (.int x)) (hd : decode Y.2.1 pc = .ok (.iload i, 2)) (kk : mm_Ev g l Y rm Q (pc + 2) ls (.int x :: st) M n k j) : mm_Ev g l Y rm Q pc ls (st) M n k j := by
  intro p e s m args below meth c H locs lsM hC hH hS hL
  exact lv_iload hC.1 hC.2.1 hd (hL.2.2 _ _ hv) (kk p e s m args below meth c H locs lsM hC hH hS hL)
theorem mm_lload_n {q : Fin 4} {x : Int64} (hv : mm_lg ls (q : Nat) = some (.long x)) (hd : decode Y.2.1 pc = .ok (.lload_n q, 1)) (kk : mm_Ev g l Y rm Q (pc + 1) ls (.long x :: st) M n k j) : mm_Ev g l Y rm Q pc ls (st) M n k j := by
  intro p e s m args below meth c H locs lsM hC hH hS hL
  exact lv_lload_n hC.1 hC.2.1 hd rfl (hL.2.2 _ _ hv) (kk p e s m args below meth c H locs lsM hC hH hS hL)
theorem mm_lload {i : Nat} {x : Int64} (hv : mm_lg ls i = some (.long x)) (hd : decode Y.2.1 pc = .ok (.lload i, 2)) (kk : mm_Ev g l Y rm Q (pc + 2) ls (.long x :: st) M n k j) : mm_Ev g l Y rm Q pc ls (st) M n k j := by
  intro p e s m args below meth c H locs lsM hC hH hS hL
  exact lv_lload hC.1 hC.2.1 hd (hL.2.2 _ _ hv) (kk p e s m args below meth c H locs lsM hC hH hS hL)
theorem mm_aload_n {q : Fin 4} {x : Nat} (hv : mm_lg ls (q : Nat) = some (.ref x)) (hd : decode Y.2.1 pc = .ok (.aload_n q, 1)) (kk : mm_Ev g l Y rm Q (pc + 1) ls (.ref x :: st) M n k j) : mm_Ev g l Y rm Q pc ls (st) M n k j := by
  intro p e s m args below meth c H locs lsM hC hH hS hL
  exact lv_aload_n hC.1 hC.2.1 hd rfl (hL.2.2 _ _ hv) (kk p e s m args below meth c H locs lsM hC hH hS hL)
theorem mm_aload {i : Nat} {x : Nat} (hv : mm_lg ls i = some (.ref x)) (hd : decode Y.2.1 pc = .ok (.aload i, 2)) (kk : mm_Ev g l Y rm Q (pc + 2) ls (.ref x :: st) M n k j) : mm_Ev g l Y rm Q pc ls (st) M n k j := by
  intro p e s m args below meth c H locs lsM hC hH hS hL
  exact lv_aload hC.1 hC.2.1 hd (hL.2.2 _ _ hv) (kk p e s m args below meth c H locs lsM hC hH hS hL)
theorem mm_istore_n {q : Fin 4} {x : Int32} {ls1 : List (Option Value)} (hd : decode Y.2.1 pc = .ok (.istore_n q, 1)) (hn : ((q : Nat) < Y.2.2.1)) (hl : mm_st1 ls (q : Nat) (.int x) = ls1) (kk : mm_Ev g l Y rm Q (pc + 1) ls1 st M n k j) : mm_Ev g l Y rm Q pc ls (.int x :: st) M n k j := by
  intro p e s m args below meth c H locs lsM hC hH hS hL
  subst hl
  exact lv_istore_n hC.1 hC.2.1 hd rfl hL.has hn rfl (fun ls2 h2 => kk p e s m args below meth c H locs ls2 hC hH hS (hL.st1 (v := .int x) h2))
theorem mm_istore {i : Nat} {x : Int32} {ls1 : List (Option Value)} (hd : decode Y.2.1 pc = .ok (.istore i, 2)) (hn : (i < Y.2.2.1)) (hl : mm_st1 ls i (.int x) = ls1) (kk : mm_Ev g l Y rm Q (pc + 2) ls1 st M n k j) : mm_Ev g l Y rm Q pc ls (.int x :: st) M n k j := by
  intro p e s m args below meth c H locs lsM hC hH hS hL
  subst hl
  exact lv_istore hC.1 hC.2.1 hd hL.has hn rfl (fun ls2 h2 => kk p e s m args below meth c H locs ls2 hC hH hS (hL.st1 (v := .int x) h2))
theorem mm_lstore_n {q : Fin 4} {x : Int64} {ls1 : List (Option Value)} (hd : decode Y.2.1 pc = .ok (.lstore_n q, 1)) (hn : ((q : Nat) + 1 < Y.2.2.1)) (hl : mm_st2 ls (q : Nat) (.long x) = ls1) (kk : mm_Ev g l Y rm Q (pc + 1) ls1 st M n k j) : mm_Ev g l Y rm Q pc ls (.long x :: st) M n k j := by
  intro p e s m args below meth c H locs lsM hC hH hS hL
  subst hl
  exact lv_lstore_n hC.1 hC.2.1 hd rfl hL.has hn rfl (fun ls2 h2 => kk p e s m args below meth c H locs ls2 hC hH hS (hL.st2 (v := .long x) h2))
theorem mm_lstore {i : Nat} {x : Int64} {ls1 : List (Option Value)} (hd : decode Y.2.1 pc = .ok (.lstore i, 2)) (hn : (i + 1 < Y.2.2.1)) (hl : mm_st2 ls i (.long x) = ls1) (kk : mm_Ev g l Y rm Q (pc + 2) ls1 st M n k j) : mm_Ev g l Y rm Q pc ls (.long x :: st) M n k j := by
  intro p e s m args below meth c H locs lsM hC hH hS hL
  subst hl
  exact lv_lstore hC.1 hC.2.1 hd hL.has hn rfl (fun ls2 h2 => kk p e s m args below meth c H locs ls2 hC hH hS (hL.st2 (v := .long x) h2))
theorem mm_astore_n {q : Fin 4} {x : Nat} {ls1 : List (Option Value)} (hd : decode Y.2.1 pc = .ok (.astore_n q, 1)) (hn : ((q : Nat) < Y.2.2.1)) (hl : mm_st1 ls (q : Nat) (.ref x) = ls1) (kk : mm_Ev g l Y rm Q (pc + 1) ls1 st M n k j) : mm_Ev g l Y rm Q pc ls (.ref x :: st) M n k j := by
  intro p e s m args below meth c H locs lsM hC hH hS hL
  subst hl
  exact lv_astore_n hC.1 hC.2.1 hd rfl hL.has hn rfl (fun ls2 h2 => kk p e s m args below meth c H locs ls2 hC hH hS (hL.st1 (v := .ref x) h2))
theorem mm_astore {i : Nat} {x : Nat} {ls1 : List (Option Value)} (hd : decode Y.2.1 pc = .ok (.astore i, 2)) (hn : (i < Y.2.2.1)) (hl : mm_st1 ls i (.ref x) = ls1) (kk : mm_Ev g l Y rm Q (pc + 2) ls1 st M n k j) : mm_Ev g l Y rm Q pc ls (.ref x :: st) M n k j := by
  intro p e s m args below meth c H locs lsM hC hH hS hL
  subst hl
  exact lv_astore hC.1 hC.2.1 hd hL.has hn rfl (fun ls2 h2 => kk p e s m args below meth c H locs ls2 hC hH hS (hL.st1 (v := .ref x) h2))
theorem mm_iinc {i : Nat} {z : Int} {x v : Int32} {ls1 : List (Option Value)} (hd : decode Y.2.1 pc = .ok (.iinc i z, 3)) (hg : mm_lg ls i = some (.int x)) (hv : x + Int32.ofInt z = v) (hl : mm_st1 ls i (.int v) = ls1) (kk : mm_Ev g l Y rm Q (pc + 3) ls1 st M n k j) : mm_Ev g l Y rm Q pc ls st M n k j := by
  intro p e s m args below meth c H locs lsM hC hH hS hL
  subst hl
  obtain ⟨q, hq⟩ := List.getElem?_of_mem (mm_kn_mem.mpr ⟨i, .int x, hL.lt hg, hg, rfl⟩)
  exact lv_iinc hC.1 hC.2.1 hd hL.has hq hv (hL.lt hg) rfl (fun ls2 h2 => kk p e s m args below meth c H locs ls2 hC hH hS (hL.st1 (v := .int v) h2))
theorem mm_iadd {x y : Int32} (hd : decode Y.2.1 pc = .ok (.iadd, 1)) (kk : mm_Ev g l Y rm Q (pc + 1) ls (.int (x + y) :: st) M n k j) : mm_Ev g l Y rm Q pc ls (.int y :: .int x :: st) M n k j := by
  intro p e s m args below meth c H locs lsM hC hH hS hL
  exact lv_iadd hC.1 hC.2.1 hd (kk p e s m args below meth c H locs lsM hC hH hS hL)
theorem mm_isub {x y : Int32} (hd : decode Y.2.1 pc = .ok (.isub, 1)) (kk : mm_Ev g l Y rm Q (pc + 1) ls (.int (x - y) :: st) M n k j) : mm_Ev g l Y rm Q pc ls (.int y :: .int x :: st) M n k j := by
  intro p e s m args below meth c H locs lsM hC hH hS hL
  exact lv_isub hC.1 hC.2.1 hd (kk p e s m args below meth c H locs lsM hC hH hS hL)
theorem mm_imul {x y : Int32} (hd : decode Y.2.1 pc = .ok (.imul, 1)) (kk : mm_Ev g l Y rm Q (pc + 1) ls (.int (x * y) :: st) M n k j) : mm_Ev g l Y rm Q pc ls (.int y :: .int x :: st) M n k j := by
  intro p e s m args below meth c H locs lsM hC hH hS hL
  exact lv_imul hC.1 hC.2.1 hd (kk p e s m args below meth c H locs lsM hC hH hS hL)
theorem mm_iand {x y : Int32} (hd : decode Y.2.1 pc = .ok (.iand, 1)) (kk : mm_Ev g l Y rm Q (pc + 1) ls (.int (x &&& y) :: st) M n k j) : mm_Ev g l Y rm Q pc ls (.int y :: .int x :: st) M n k j := by
  intro p e s m args below meth c H locs lsM hC hH hS hL
  exact lv_iand hC.1 hC.2.1 hd (kk p e s m args below meth c H locs lsM hC hH hS hL)
theorem mm_ior {x y : Int32} (hd : decode Y.2.1 pc = .ok (.ior, 1)) (kk : mm_Ev g l Y rm Q (pc + 1) ls (.int (x ||| y) :: st) M n k j) : mm_Ev g l Y rm Q pc ls (.int y :: .int x :: st) M n k j := by
  intro p e s m args below meth c H locs lsM hC hH hS hL
  exact lv_ior hC.1 hC.2.1 hd (kk p e s m args below meth c H locs lsM hC hH hS hL)
theorem mm_ixor {x y : Int32} (hd : decode Y.2.1 pc = .ok (.ixor, 1)) (kk : mm_Ev g l Y rm Q (pc + 1) ls (.int (x ^^^ y) :: st) M n k j) : mm_Ev g l Y rm Q pc ls (.int y :: .int x :: st) M n k j := by
  intro p e s m args below meth c H locs lsM hC hH hS hL
  exact lv_ixor hC.1 hC.2.1 hd (kk p e s m args below meth c H locs lsM hC hH hS hL)
theorem mm_ladd {x y : Int64} (hd : decode Y.2.1 pc = .ok (.ladd, 1)) (kk : mm_Ev g l Y rm Q (pc + 1) ls (.long (x + y) :: st) M n k j) : mm_Ev g l Y rm Q pc ls (.long y :: .long x :: st) M n k j := by
  intro p e s m args below meth c H locs lsM hC hH hS hL
  exact lv_ladd hC.1 hC.2.1 hd (kk p e s m args below meth c H locs lsM hC hH hS hL)
theorem mm_lsub {x y : Int64} (hd : decode Y.2.1 pc = .ok (.lsub, 1)) (kk : mm_Ev g l Y rm Q (pc + 1) ls (.long (x - y) :: st) M n k j) : mm_Ev g l Y rm Q pc ls (.long y :: .long x :: st) M n k j := by
  intro p e s m args below meth c H locs lsM hC hH hS hL
  exact lv_lsub hC.1 hC.2.1 hd (kk p e s m args below meth c H locs lsM hC hH hS hL)
theorem mm_lmul {x y : Int64} (hd : decode Y.2.1 pc = .ok (.lmul, 1)) (kk : mm_Ev g l Y rm Q (pc + 1) ls (.long (x * y) :: st) M n k j) : mm_Ev g l Y rm Q pc ls (.long y :: .long x :: st) M n k j := by
  intro p e s m args below meth c H locs lsM hC hH hS hL
  exact lv_lmul hC.1 hC.2.1 hd (kk p e s m args below meth c H locs lsM hC hH hS hL)
theorem mm_land {x y : Int64} (hd : decode Y.2.1 pc = .ok (.land, 1)) (kk : mm_Ev g l Y rm Q (pc + 1) ls (.long (x &&& y) :: st) M n k j) : mm_Ev g l Y rm Q pc ls (.long y :: .long x :: st) M n k j := by
  intro p e s m args below meth c H locs lsM hC hH hS hL
  exact lv_land hC.1 hC.2.1 hd (kk p e s m args below meth c H locs lsM hC hH hS hL)
theorem mm_lor {x y : Int64} (hd : decode Y.2.1 pc = .ok (.lor, 1)) (kk : mm_Ev g l Y rm Q (pc + 1) ls (.long (x ||| y) :: st) M n k j) : mm_Ev g l Y rm Q pc ls (.long y :: .long x :: st) M n k j := by
  intro p e s m args below meth c H locs lsM hC hH hS hL
  exact lv_lor hC.1 hC.2.1 hd (kk p e s m args below meth c H locs lsM hC hH hS hL)
theorem mm_lxor {x y : Int64} (hd : decode Y.2.1 pc = .ok (.lxor, 1)) (kk : mm_Ev g l Y rm Q (pc + 1) ls (.long (x ^^^ y) :: st) M n k j) : mm_Ev g l Y rm Q pc ls (.long y :: .long x :: st) M n k j := by
  intro p e s m args below meth c H locs lsM hC hH hS hL
  exact lv_lxor hC.1 hC.2.1 hd (kk p e s m args below meth c H locs lsM hC hH hS hL)
theorem mm_idiv {x y : Int32} (hne : ¬ y = 0) (hd : decode Y.2.1 pc = .ok (.idiv, 1)) (kk : mm_Ev g l Y rm Q (pc + 1) ls (.int (x / y) :: st) M n k j) : mm_Ev g l Y rm Q pc ls (.int y :: .int x :: st) M n k j := by
  intro p e s m args below meth c H locs lsM hC hH hS hL
  exact lv_idiv hC.1 hC.2.1 hd hne (kk p e s m args below meth c H locs lsM hC hH hS hL)
theorem mm_irem {x y : Int32} (hne : ¬ y = 0) (hd : decode Y.2.1 pc = .ok (.irem, 1)) (kk : mm_Ev g l Y rm Q (pc + 1) ls (.int (x - x / y * y) :: st) M n k j) : mm_Ev g l Y rm Q pc ls (.int y :: .int x :: st) M n k j := by
  intro p e s m args below meth c H locs lsM hC hH hS hL
  exact lv_irem hC.1 hC.2.1 hd hne (kk p e s m args below meth c H locs lsM hC hH hS hL)
theorem mm_ineg {x : Int32} (hd : decode Y.2.1 pc = .ok (.ineg, 1)) (kk : mm_Ev g l Y rm Q (pc + 1) ls (.int (-x) :: st) M n k j) : mm_Ev g l Y rm Q pc ls (.int x :: st) M n k j := by
  intro p e s m args below meth c H locs lsM hC hH hS hL
  exact lv_ineg hC.1 hC.2.1 hd (kk p e s m args below meth c H locs lsM hC hH hS hL)
theorem mm_ishl {x y : Int32} (hd : decode Y.2.1 pc = .ok (.ishl, 1)) (kk : mm_Ev g l Y rm Q (pc + 1) ls (.int (x <<< (y &&& 31)) :: st) M n k j) : mm_Ev g l Y rm Q pc ls (.int y :: .int x :: st) M n k j := by
  intro p e s m args below meth c H locs lsM hC hH hS hL
  exact lv_ishl hC.1 hC.2.1 hd (kk p e s m args below meth c H locs lsM hC hH hS hL)
theorem mm_ishr {x y : Int32} (hd : decode Y.2.1 pc = .ok (.ishr, 1)) (kk : mm_Ev g l Y rm Q (pc + 1) ls (.int (x >>> (y &&& 31)) :: st) M n k j) : mm_Ev g l Y rm Q pc ls (.int y :: .int x :: st) M n k j := by
  intro p e s m args below meth c H locs lsM hC hH hS hL
  exact lv_ishr hC.1 hC.2.1 hd (kk p e s m args below meth c H locs lsM hC hH hS hL)
theorem mm_iushr {x y v : Int32} (hv : (x.toUInt32 >>> (y.toUInt32 &&& Int32.toUInt32 31)).toInt32 = v) (hd : decode Y.2.1 pc = .ok (.iushr, 1)) (kk : mm_Ev g l Y rm Q (pc + 1) ls (.int v :: st) M n k j) : mm_Ev g l Y rm Q pc ls (.int y :: .int x :: st) M n k j := by
  intro p e s m args below meth c H locs lsM hC hH hS hL
  exact lv_iushr hC.1 hC.2.1 hd hv (kk p e s m args below meth c H locs lsM hC hH hS hL)
theorem mm_lushr {x v : Int64} {y : Int32} (hv : (x.toUInt64 >>> (y.toInt64.toUInt64 &&& Int64.toUInt64 63)).toInt64 = v) (hd : decode Y.2.1 pc = .ok (.lushr, 1)) (kk : mm_Ev g l Y rm Q (pc + 1) ls (.long v :: st) M n k j) : mm_Ev g l Y rm Q pc ls (.int y :: .long x :: st) M n k j := by
  intro p e s m args below meth c H locs lsM hC hH hS hL
  exact lv_lushr hC.1 hC.2.1 hd hv (kk p e s m args below meth c H locs lsM hC hH hS hL)
theorem mm_lshl {x v : Int64} {y : Int32} (hv : x <<< (y.toInt64 &&& 63) = v) (hd : decode Y.2.1 pc = .ok (.lshl, 1)) (kk : mm_Ev g l Y rm Q (pc + 1) ls (.long v :: st) M n k j) : mm_Ev g l Y rm Q pc ls (.int y :: .long x :: st) M n k j := by
  intro p e s m args below meth c H locs lsM hC hH hS hL
  exact lv_lshl hC.1 hC.2.1 hd hv (kk p e s m args below meth c H locs lsM hC hH hS hL)
theorem mm_lshr {x v : Int64} {y : Int32} (hv : x >>> (y.toInt64 &&& 63) = v) (hd : decode Y.2.1 pc = .ok (.lshr, 1)) (kk : mm_Ev g l Y rm Q (pc + 1) ls (.long v :: st) M n k j) : mm_Ev g l Y rm Q pc ls (.int y :: .long x :: st) M n k j := by
  intro p e s m args below meth c H locs lsM hC hH hS hL
  exact lv_lshr hC.1 hC.2.1 hd hv (kk p e s m args below meth c H locs lsM hC hH hS hL)
theorem mm_i2l {x : Int32} {v : Int64} (hv : x.toInt64 = v) (hd : decode Y.2.1 pc = .ok (.i2l, 1)) (kk : mm_Ev g l Y rm Q (pc + 1) ls (.long v :: st) M n k j) : mm_Ev g l Y rm Q pc ls (.int x :: st) M n k j := by
  intro p e s m args below meth c H locs lsM hC hH hS hL
  exact lv_i2l hC.1 hC.2.1 hd hv (kk p e s m args below meth c H locs lsM hC hH hS hL)
theorem mm_l2i {x : Int64} {v : Int32} (hv : x.toInt32 = v) (hd : decode Y.2.1 pc = .ok (.l2i, 1)) (kk : mm_Ev g l Y rm Q (pc + 1) ls (.int v :: st) M n k j) : mm_Ev g l Y rm Q pc ls (.long x :: st) M n k j := by
  intro p e s m args below meth c H locs lsM hC hH hS hL
  exact lv_l2i hC.1 hC.2.1 hd hv (kk p e s m args below meth c H locs lsM hC hH hS hL)
theorem mm_i2b {x v : Int32} (hv : x.toInt8.toInt32 = v) (hd : decode Y.2.1 pc = .ok (.i2b, 1)) (kk : mm_Ev g l Y rm Q (pc + 1) ls (.int v :: st) M n k j) : mm_Ev g l Y rm Q pc ls (.int x :: st) M n k j := by
  intro p e s m args below meth c H locs lsM hC hH hS hL
  exact lv_i2b hC.1 hC.2.1 hd hv (kk p e s m args below meth c H locs lsM hC hH hS hL)
theorem mm_i2c {x v : Int32} (hv : (x.toUInt32 % 65536).toInt32 = v) (hd : decode Y.2.1 pc = .ok (.i2c, 1)) (kk : mm_Ev g l Y rm Q (pc + 1) ls (.int v :: st) M n k j) : mm_Ev g l Y rm Q pc ls (.int x :: st) M n k j := by
  intro p e s m args below meth c H locs lsM hC hH hS hL
  exact lv_i2c hC.1 hC.2.1 hd hv (kk p e s m args below meth c H locs lsM hC hH hS hL)
theorem mm_dup {v : Value} (hv : v.category = 1) (hd : decode Y.2.1 pc = .ok (.dup, 1)) (kk : mm_Ev g l Y rm Q (pc + 1) ls (v :: v :: st) M n k j) : mm_Ev g l Y rm Q pc ls (v :: st) M n k j := by
  intro p e s m args below meth c H locs lsM hC hH hS hL
  exact lv_dup hC.1 hC.2.1 hd (by rw [mm_tr_cat]; exact hv) (kk p e s m args below meth c H locs lsM hC hH hS hL)
theorem mm_pop {v : Value} (hv : v.category = 1) (hd : decode Y.2.1 pc = .ok (.pop, 1)) (kk : mm_Ev g l Y rm Q (pc + 1) ls (st) M n k j) : mm_Ev g l Y rm Q pc ls (v :: st) M n k j := by
  intro p e s m args below meth c H locs lsM hC hH hS hL
  exact lv_pop hC.1 hC.2.1 hd (by rw [mm_tr_cat]; exact hv) (kk p e s m args below meth c H locs lsM hC hH hS hL)
theorem mm_dup_x1 {v w : Value} (hv : v.category = 1) (hw : w.category = 1) (hd : decode Y.2.1 pc = .ok (.dup_x1, 1)) (kk : mm_Ev g l Y rm Q (pc + 1) ls (v :: w :: v :: st) M n k j) : mm_Ev g l Y rm Q pc ls (v :: w :: st) M n k j := by
  intro p e s m args below meth c H locs lsM hC hH hS hL
  exact lv_dup_x1 hC.1 hC.2.1 hd (by rw [mm_tr_cat]; exact hv) (by rw [mm_tr_cat]; exact hw) (kk p e s m args below meth c H locs lsM hC hH hS hL)
theorem mm_dup_x2 {v w u : Value} (hv : v.category = 1) (hw : w.category = 1) (hu : u.category = 1) (hd : decode Y.2.1 pc = .ok (.dup_x2, 1)) (kk : mm_Ev g l Y rm Q (pc + 1) ls (v :: w :: u :: v :: st) M n k j) : mm_Ev g l Y rm Q pc ls (v :: w :: u :: st) M n k j := by
  intro p e s m args below meth c H locs lsM hC hH hS hL
  exact lv_dup_x2 hC.1 hC.2.1 hd (by rw [mm_tr_cat]; exact hv) (by rw [mm_tr_cat]; exact hw) (by rw [mm_tr_cat]; exact hu) (kk p e s m args below meth c H locs lsM hC hH hS hL)
theorem mm_dup2_11 {v w : Value} (hv : v.category = 1) (hw : w.category = 1) (hd : decode Y.2.1 pc = .ok (.dup2, 1)) (kk : mm_Ev g l Y rm Q (pc + 1) ls (v :: w :: v :: w :: st) M n k j) : mm_Ev g l Y rm Q pc ls (v :: w :: st) M n k j := by
  intro p e s m args below meth c H locs lsM hC hH hS hL
  exact lv_dup2_11 hC.1 hC.2.1 hd (by rw [mm_tr_cat]; exact hv) (by rw [mm_tr_cat]; exact hw) (kk p e s m args below meth c H locs lsM hC hH hS hL)
theorem mm_dup2_2 {v : Value} (hv : v.category = 2) (hd : decode Y.2.1 pc = .ok (.dup2, 1)) (kk : mm_Ev g l Y rm Q (pc + 1) ls (v :: v :: st) M n k j) : mm_Ev g l Y rm Q pc ls (v :: st) M n k j := by
  intro p e s m args below meth c H locs lsM hC hH hS hL
  exact lv_dup2_2 hC.1 hC.2.1 hd (by rw [mm_tr_cat]; exact hv) (kk p e s m args below meth c H locs lsM hC hH hS hL)
theorem mm_pop2_2 {v : Value} (hv : v.category = 2) (hd : decode Y.2.1 pc = .ok (.pop2, 1)) (kk : mm_Ev g l Y rm Q (pc + 1) ls (st) M n k j) : mm_Ev g l Y rm Q pc ls (v :: st) M n k j := by
  intro p e s m args below meth c H locs lsM hC hH hS hL
  exact lv_pop2_2 hC.1 hC.2.1 hd (by rw [mm_tr_cat]; exact hv) (kk p e s m args below meth c H locs lsM hC hH hS hL)
theorem mm_dup2_x1_2 {v w : Value} (hv : v.category = 2) (hw : w.category = 1) (hd : decode Y.2.1 pc = .ok (.dup2_x1, 1)) (kk : mm_Ev g l Y rm Q (pc + 1) ls (v :: w :: v :: st) M n k j) : mm_Ev g l Y rm Q pc ls (v :: w :: st) M n k j := by
  intro p e s m args below meth c H locs lsM hC hH hS hL
  exact lv_dup2_x1_2 hC.1 hC.2.1 hd (by rw [mm_tr_cat]; exact hv) (by rw [mm_tr_cat]; exact hw) (kk p e s m args below meth c H locs lsM hC hH hS hL)
theorem mm_dup2_x2_2 {v w u : Value} (hv : v.category = 2) (hw : w.category = 1) (hu : u.category = 1) (hd : decode Y.2.1 pc = .ok (.dup2_x2, 1)) (kk : mm_Ev g l Y rm Q (pc + 1) ls (v :: w :: u :: v :: st) M n k j) : mm_Ev g l Y rm Q pc ls (v :: w :: u :: st) M n k j := by
  intro p e s m args below meth c H locs lsM hC hH hS hL
  exact lv_dup2_x2_2 hC.1 hC.2.1 hd (by rw [mm_tr_cat]; exact hv) (by rw [mm_tr_cat]; exact hw) (by rw [mm_tr_cat]; exact hu) (kk p e s m args below meth c H locs lsM hC hH hS hL)
theorem mm_lcmp {x y : Int64} (hd : decode Y.2.1 pc = .ok (.lcmp, 1)) (kk : mm_Ev g l Y rm Q (pc + 1) ls (.int (lg_cmp x y) :: st) M n k j) : mm_Ev g l Y rm Q pc ls (.long y :: .long x :: st) M n k j := by
  intro p e s m args below meth c H locs lsM hC hH hS hL
  exact W.lcmp hC.1 hC.2.1 hd (kk p e s m args below meth c H locs lsM hC hH hS hL)
theorem mm_icmp_eq {x y : Int32} {off : Int} {tgt : Nat} (hd : decode Y.2.1 pc = .ok (.if_icmp .eq off, 3)) (ht : (pc : Int) + off = (tgt : Int)) (kt : (x = y) → mm_Ev g l Y rm Q tgt ls st M n k j) (kf : ¬ (x = y) → mm_Ev g l Y rm Q (pc + 3) ls st M n k j) : mm_Ev g l Y rm Q pc ls (.int y :: .int x :: st) M n k j := by
  intro p e s m args below meth c H locs lsM hC hH hS hL
  exact lv_icmp_eq hC.1 hC.2.1 hd ht (fun h => kt h p e s m args below meth c H locs lsM hC hH hS hL) (fun h => kf h p e s m args below meth c H locs lsM hC hH hS hL)
theorem mm_if_eq {x : Int32} {off : Int} {tgt : Nat} (hd : decode Y.2.1 pc = .ok (.ifCond .eq off, 3)) (ht : (pc : Int) + off = (tgt : Int)) (kt : (x = 0) → mm_Ev g l Y rm Q tgt ls st M n k j) (kf : ¬ (x = 0) → mm_Ev g l Y rm Q (pc + 3) ls st M n k j) : mm_Ev g l Y rm Q pc ls (.int x :: st) M n k j := by
  intro p e s m args below meth c H locs lsM hC hH hS hL
  exact lv_if_eq hC.1 hC.2.1 hd ht (fun h => kt h p e s m args below meth c H locs lsM hC hH hS hL) (fun h => kf h p e s m args below meth c H locs lsM hC hH hS hL)
theorem mm_icmp_ne {x y : Int32} {off : Int} {tgt : Nat} (hd : decode Y.2.1 pc = .ok (.if_icmp .ne off, 3)) (ht : (pc : Int) + off = (tgt : Int)) (kt : ¬ (x = y) → mm_Ev g l Y rm Q tgt ls st M n k j) (kf : (x = y) → mm_Ev g l Y rm Q (pc + 3) ls st M n k j) : mm_Ev g l Y rm Q pc ls (.int y :: .int x :: st) M n k j := by
  intro p e s m args below meth c H locs lsM hC hH hS hL
  exact lv_icmp_ne hC.1 hC.2.1 hd ht (fun h => kt h p e s m args below meth c H locs lsM hC hH hS hL) (fun h => kf h p e s m args below meth c H locs lsM hC hH hS hL)
theorem mm_if_ne {x : Int32} {off : Int} {tgt : Nat} (hd : decode Y.2.1 pc = .ok (.ifCond .ne off, 3)) (ht : (pc : Int) + off = (tgt : Int)) (kt : ¬ (x = 0) → mm_Ev g l Y rm Q tgt ls st M n k j) (kf : (x = 0) → mm_Ev g l Y rm Q (pc + 3) ls st M n k j) : mm_Ev g l Y rm Q pc ls (.int x :: st) M n k j := by
  intro p e s m args below meth c H locs lsM hC hH hS hL
  exact lv_if_ne hC.1 hC.2.1 hd ht (fun h => kt h p e s m args below meth c H locs lsM hC hH hS hL) (fun h => kf h p e s m args below meth c H locs lsM hC hH hS hL)
theorem mm_icmp_lt {x y : Int32} {off : Int} {tgt : Nat} (hd : decode Y.2.1 pc = .ok (.if_icmp .lt off, 3)) (ht : (pc : Int) + off = (tgt : Int)) (kt : (x < y) → mm_Ev g l Y rm Q tgt ls st M n k j) (kf : ¬ (x < y) → mm_Ev g l Y rm Q (pc + 3) ls st M n k j) : mm_Ev g l Y rm Q pc ls (.int y :: .int x :: st) M n k j := by
  intro p e s m args below meth c H locs lsM hC hH hS hL
  exact lv_icmp_lt hC.1 hC.2.1 hd ht (fun h => kt h p e s m args below meth c H locs lsM hC hH hS hL) (fun h => kf h p e s m args below meth c H locs lsM hC hH hS hL)
theorem mm_if_lt {x : Int32} {off : Int} {tgt : Nat} (hd : decode Y.2.1 pc = .ok (.ifCond .lt off, 3)) (ht : (pc : Int) + off = (tgt : Int)) (kt : (x < 0) → mm_Ev g l Y rm Q tgt ls st M n k j) (kf : ¬ (x < 0) → mm_Ev g l Y rm Q (pc + 3) ls st M n k j) : mm_Ev g l Y rm Q pc ls (.int x :: st) M n k j := by
  intro p e s m args below meth c H locs lsM hC hH hS hL
  exact lv_if_lt hC.1 hC.2.1 hd ht (fun h => kt h p e s m args below meth c H locs lsM hC hH hS hL) (fun h => kf h p e s m args below meth c H locs lsM hC hH hS hL)
theorem mm_icmp_ge {x y : Int32} {off : Int} {tgt : Nat} (hd : decode Y.2.1 pc = .ok (.if_icmp .ge off, 3)) (ht : (pc : Int) + off = (tgt : Int)) (kt : (y ≤ x) → mm_Ev g l Y rm Q tgt ls st M n k j) (kf : ¬ (y ≤ x) → mm_Ev g l Y rm Q (pc + 3) ls st M n k j) : mm_Ev g l Y rm Q pc ls (.int y :: .int x :: st) M n k j := by
  intro p e s m args below meth c H locs lsM hC hH hS hL
  exact lv_icmp_ge hC.1 hC.2.1 hd ht (fun h => kt h p e s m args below meth c H locs lsM hC hH hS hL) (fun h => kf h p e s m args below meth c H locs lsM hC hH hS hL)
theorem mm_if_ge {x : Int32} {off : Int} {tgt : Nat} (hd : decode Y.2.1 pc = .ok (.ifCond .ge off, 3)) (ht : (pc : Int) + off = (tgt : Int)) (kt : (0 ≤ x) → mm_Ev g l Y rm Q tgt ls st M n k j) (kf : ¬ (0 ≤ x) → mm_Ev g l Y rm Q (pc + 3) ls st M n k j) : mm_Ev g l Y rm Q pc ls (.int x :: st) M n k j := by
  intro p e s m args below meth c H locs lsM hC hH hS hL
  exact lv_if_ge hC.1 hC.2.1 hd ht (fun h => kt h p e s m args below meth c H locs lsM hC hH hS hL) (fun h => kf h p e s m args below meth c H locs lsM hC hH hS hL)
theorem mm_icmp_gt {x y : Int32} {off : Int} {tgt : Nat} (hd : decode Y.2.1 pc = .ok (.if_icmp .gt off, 3)) (ht : (pc : Int) + off = (tgt : Int)) (kt : (y < x) → mm_Ev g l Y rm Q tgt ls st M n k j) (kf : ¬ (y < x) → mm_Ev g l Y rm Q (pc + 3) ls st M n k j) : mm_Ev g l Y rm Q pc ls (.int y :: .int x :: st) M n k j := by
  intro p e s m args below meth c H locs lsM hC hH hS hL
  exact lv_icmp_gt hC.1 hC.2.1 hd ht (fun h => kt h p e s m args below meth c H locs lsM hC hH hS hL) (fun h => kf h p e s m args below meth c H locs lsM hC hH hS hL)
theorem mm_if_gt {x : Int32} {off : Int} {tgt : Nat} (hd : decode Y.2.1 pc = .ok (.ifCond .gt off, 3)) (ht : (pc : Int) + off = (tgt : Int)) (kt : (0 < x) → mm_Ev g l Y rm Q tgt ls st M n k j) (kf : ¬ (0 < x) → mm_Ev g l Y rm Q (pc + 3) ls st M n k j) : mm_Ev g l Y rm Q pc ls (.int x :: st) M n k j := by
  intro p e s m args below meth c H locs lsM hC hH hS hL
  exact lv_if_gt hC.1 hC.2.1 hd ht (fun h => kt h p e s m args below meth c H locs lsM hC hH hS hL) (fun h => kf h p e s m args below meth c H locs lsM hC hH hS hL)
theorem mm_icmp_le {x y : Int32} {off : Int} {tgt : Nat} (hd : decode Y.2.1 pc = .ok (.if_icmp .le off, 3)) (ht : (pc : Int) + off = (tgt : Int)) (kt : (x ≤ y) → mm_Ev g l Y rm Q tgt ls st M n k j) (kf : ¬ (x ≤ y) → mm_Ev g l Y rm Q (pc + 3) ls st M n k j) : mm_Ev g l Y rm Q pc ls (.int y :: .int x :: st) M n k j := by
  intro p e s m args below meth c H locs lsM hC hH hS hL
  exact lv_icmp_le hC.1 hC.2.1 hd ht (fun h => kt h p e s m args below meth c H locs lsM hC hH hS hL) (fun h => kf h p e s m args below meth c H locs lsM hC hH hS hL)
theorem mm_if_le {x : Int32} {off : Int} {tgt : Nat} (hd : decode Y.2.1 pc = .ok (.ifCond .le off, 3)) (ht : (pc : Int) + off = (tgt : Int)) (kt : (x ≤ 0) → mm_Ev g l Y rm Q tgt ls st M n k j) (kf : ¬ (x ≤ 0) → mm_Ev g l Y rm Q (pc + 3) ls st M n k j) : mm_Ev g l Y rm Q pc ls (.int x :: st) M n k j := by
  intro p e s m args below meth c H locs lsM hC hH hS hL
  exact lv_if_le hC.1 hC.2.1 hd ht (fun h => kt h p e s m args below meth c H locs lsM hC hH hS hL) (fun h => kf h p e s m args below meth c H locs lsM hC hH hS hL)
theorem mm_goto {off : Int} {tgt : Nat} (hd : decode Y.2.1 pc = .ok (.goto off, 3)) (ht : (pc : Int) + off = (tgt : Int)) (kk : mm_Ev g l Y rm Q tgt ls st M n k j) : mm_Ev g l Y rm Q pc ls st M n k j := by
  intro p e s m args below meth c H locs lsM hC hH hS hL
  exact lv_goto hC.1 hC.2.1 hd ht (kk p e s m args below meth c H locs lsM hC hH hS hL)
end MMEV
