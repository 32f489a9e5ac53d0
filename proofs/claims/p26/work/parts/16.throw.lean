/-! 'throw new E("text")', from the 'new' to the method's end. -/
section MMRS
variable {p : Program} {l : Launch} {e : Env} {R : Room} {s : State} {m : MethodId} {args : Array Value} {below : List Frame} {meth : Method} {c : Code} {T : State} {locs : List Loc} {cells slots : Nat}
/-- the state in which the invocation would have begun with the heap as it is now -/
def mm_now (s T : State) : State := { s with heap := T.heap, slotsUsed := T.slotsUsed }
theorem mm_now_warm {vm : Vm} : (mm_now s T).WarmedH vm ↔ s.WarmedH vm := Iff.rfl
theorem mm_restart (X : Stand p l e R s m args below meth c T locs cells slots) (hc : cells ≤ R.cells) (hs : slots ≤ R.slots) : Stand p l e { frames := R.frames, cells := R.cells - cells, slots := R.slots - slots, locals := R.locals } (mm_now s T) m args below meth c T [] 0 0 := by
  have h1 := X.heapSize
  have h2 := X.used
  have hr := X.room
  have hb := X.book
  simp only [State.hasRoom, Bool.and_eq_true, decide_eq_true_eq] at hr
  refine ⟨X.admits, X.cas, X.clock, X.frames, ?_, X.hears, X.method, X.code, X.here, X.tail, X.warmed, X.limits, X.bytes, ?_⟩
  · simp only [State.hasRoom, Bool.and_eq_true, decide_eq_true_eq]
    refine ⟨⟨⟨⟨hr.1.1.1.1, hr.1.1.1.2⟩, ?_⟩, ?_⟩, hb⟩
    · show T.heap.size + (R.cells - cells) ≤ _
      have := hr.1.1.2
      omega
    · show T.slotsUsed + (R.slots - slots) ≤ _
      have := hr.1.2
      omega
  · refine ⟨X.same.1, Nat.le_refl _, Nat.le_refl _, ?_, ?_, ?_⟩
    · show T.slotsUsed = T.slotsUsed + ((T.heap.toList.drop T.heap.size).map (·.slots.size)).sum
      rw [List.drop_of_length_le (by simp)]; rfl
    · show ((T.heap.toList.drop T.heap.size).map (·.slots.size)).sum ≤ 0
      rw [List.drop_of_length_le (by simp)]; exact Nat.le_refl _
    · intro a cc ha
      exact ⟨cc, ha, rfl, rfl, fun i _ => rfl⟩
end MMRS
/-- the words that a throw may ask for -/
def mm_xs : List Cond := mm_nw ++ [.isRef (.static "java/lang/Throwable" "UNASSIGNED_STACK" "[Ljava/lang/StackTraceElement;"), .isRef (.static "java/lang/Throwable" "SUPPRESSED_SENTINEL" "Ljava/util/List;"), .laysStatic "java/lang/Throwable" "UNASSIGNED_STACK" "[Ljava/lang/StackTraceElement;", .laysStatic "java/lang/Throwable" "SUPPRESSED_SENTINEL" "Ljava/util/List;"]
def mm_Xl (own : String) (ix is ic i : Nat) : Prop := Cond.classLink own ix (mm_xn i) ∈ mm_tb ∧ Cond.instantiable (mm_xn i) 6 ∈ mm_tb ∧ Cond.initialized (mm_xn i) ∈ mm_tb ∧ (∃ t : Nat, (own, is, t) ∈ mm_strs) ∧ (∀ w ∈ Bundle.ownAtoms own ic (mm_xn i) ["java/lang/RuntimeException", "java/lang/Exception"], (goodWord w = true ∧ w ∈ tables_1) ∨ w ∈ mm_xs)
theorem mm_isRef {C n d : String} {A : Nat → Prop} {U : State} {args : Array Value} (h : va_Zq C n d A U U.heap) : (Cond.isRef (.static C n d)).before args U = true := by
  rcases h with ⟨cf, kf, fi, f, a, cell, h1, h2, h3, h4, h5, h6, h7, h8⟩ | ⟨t, cf, kf, fi, f, a, cell, h1, h2, h3, h4, h5, h6, h7, h8⟩
  · simp [Cond.before, Cond.holds, Cond.value, Term.eval, State.fieldNamed?, h1, h2, h4, h5, h6, h7]
  · simp [Cond.before, Cond.holds, Cond.value, Term.eval, State.fieldNamed?, h1, h2, h4, h5, h6, h7]
theorem mm_fit (i : Nat) : Bundle.fit (mm_xn i) = true := by
  unfold mm_xn
  split <;> decide
section MMTH
variable {g : mm_G} {l : Launch} {Y : mm_Y} {rm : Room} {Q : mm_O → Prop} {pc : Nat} {ls : List (Option Value)} {st : List Value} {M : mm_M} {n k j : Nat}
set_option maxHeartbeats 1000000 in
theorem mm_throw {ix is ic i np : Nat} (hfl : l.flags = flags0) (hd0 : decode Y.2.1 pc = .ok (.new ix, 3)) (hd3 : decode Y.2.1 (pc + 3) = .ok (.dup, 1)) (hd4 : decode Y.2.1 (pc + 3 + 1) = .ok (.ldc is, 2)) (hd6 : decode Y.2.1 (pc + 3 + 1 + 2) = .ok (.invokespecial ic, 3)) (hd9 : decode Y.2.1 (pc + 3 + 1 + 2 + 3) = .ok (.athrow, 1))
    (hY : mm_Yw Y np) (hXl : mm_Xl Y.1.cls ix is ic i) (hk : k + 1 ≤ rm.cells) (hj : j + 6 ≤ rm.slots) (hroom : 5 < rm.frames ∧ (st.map fun v => v.category).sum + 82 ≤ rm.locals) (hQ : Q (.inr i, M, n + 1)) : mm_Ev g l Y rm Q pc ls st M n k j := by
  intro p e s m args below meth c H locs lsM hC hH hS hL T hT X0
  obtain ⟨hx, hb, hml, -, hown, hts, hlk, hnm, hI, hbs⟩ := id hC
  obtain ⟨w1, w2, w3, ⟨tx, hstr⟩, hat⟩ := hXl
  have X := mm_restart X0 (by omega) (by omega)
  have htr : e.platform.stackTraces = false := by
    have h9 := X0.admits.platform
    rw [h9]
    simp [Launch.stackTraces, hfl, flags0, noTraceFlag]
  have hW0 : s.WarmedH (mm_now s T).vm := State.WarmedH.refl s
  have htb : ∀ w ∈ mm_tb, w.before args (mm_now s T) = true := mm_tb_good hts hW0 args
  have hI2 : mm_I g (mm_now s T) (mm_now s T).heap := (hI.moved (U := mm_now s T) hW0).kept (fun a h1 h2 => by show T.heap[a]? = _; rw [hT]; exact hS.2.1 a h1 h2)
  have hatoms : ∀ w ∈ Bundle.ownAtoms Y.1.cls ic (mm_xn i) ["java/lang/RuntimeException", "java/lang/Exception"], w.before args (mm_now s T) = true := by
    intro w hw
    rcases hat w hw with ⟨h1, h2⟩ | h1
    · exact htb w (List.mem_filter.mpr ⟨List.mem_append_right _ h2, h1⟩)
    · rcases List.mem_append.mp h1 with h1 | h1
      · have h2 := hI2.2.2.1.1 w h1
        rcases mm_nw_ok w h1 with ⟨C, T, rfl⟩ | ⟨x, rfl⟩
        · exact va_Nw.use rfl h2
        · exact va_Nw.use rfl h2
      · simp only [List.mem_cons, List.not_mem_nil, or_false] at h1
        rcases h1 with rfl | rfl | rfl | rfl
        · exact mm_isRef hI2.2.2.1.2.1
        · exact mm_isRef hI2.2.2.1.2.2.1
        · exact hI2.2.2.2.2.2.2.2.1.use
        · exact hI2.2.2.2.2.2.2.2.2.1.use
  have hout : ∀ pc' : Nat, ∀ y ∈ c.exceptionTable.toList, covers y pc' = false := by
    obtain ⟨meth', c', h1, h2, -, -, -, -, h3, -⟩ := Cond.code_spec hnm.2 (hts _ hY.1)
    cases X0.method.symm.trans h1
    cases X0.code.symm.trans h2
    intro pc' y hy
    rw [Array.isEmpty_iff.mp h3] at hy
    simp at hy
  have hR := hI2.2.2.2.1 _ hstr
  have hw : W p l e { frames := rm.frames, cells := rm.cells - k, slots := rm.slots - j, locals := rm.locals } (mm_now s T) m args below meth c T.heap [] 0 0 (fun U => U.status = .running ∧ Ended U below (.threw T.heap.size) ∧ (mm_now s T).WarmedH U.vm ∧ (mm_now s T).sameButNew ({ U with vm := (mm_now s T).vm } : State) [] 1 6 ∧ ∃ ce, U.heap[T.heap.size]? = some ce ∧ ∃ msg, Bundle.OwnCell args (mm_now s T) (mm_xn i) T.heap.size msg ce) (F0 m pc lsM (st.map (mm_tr g))) := by
    have hown2 : (mm_now s T).vm.findClass Y.1.cls = some m.cls := hown
    refine W.newc (own := Y.1.cls) (C := mm_xn i) (index := ix) (n := 6) (g := F0 m pc lsM (st.map (mm_tr g))) hx hb hown2 (htb _ w1) (htb _ w2) (htb _ w3) rfl hd0 (by show 0 + 1 ≤ rm.cells - k; omega) (by show 0 + 6 ≤ rm.slots - j; omega) (fun cC kC h1 h2 h3 h4 => ?_)
    refine lv_dup hx hb hd3 rfl ?_
    refine va_ldcS hx hb hown2 hR hd4 ?_
    intro T2 hT2 X2
    obtain ⟨U, u1, u2, u3, u4, u5, ce, u6, u7⟩ := X2.ctorThrowS hx htr (own := Y.1.cls) (cls := mm_xn i) (names := ["java/lang/RuntimeException", "java/lang/Exception"]) (ic := ic) hown2 (mm_fit i) (by decide) hatoms (fun x hx => by cases hx) h1 h2 (a := T.heap.size) (by rw [hT2]; exact Array.getElem?_push_size) (Nat.le_refl _) (msg := .ref _) rfl
      (g := F0 m (pc + 3 + 1 + 2) lsM (.ref _ :: .ref T.heap.size :: .ref T.heap.size :: st.map (mm_tr g))) rfl (by rw [hml]; exact hL.1) rfl rfl (rest := st.map (mm_tr g)) rfl (by rw [hb]; exact hd6) (by rw [hb]; exact hd9) (hout _) hroom.1 (by
        rw [List.map_cons, List.sum_cons, mm_cat_sum]
        show 2 * 0 + (1 + (st.map fun v => v.category).sum) + (13 * (2 + 1) + 42) ≤ rm.locals
        have := hroom.2
        omega) hlk
    exact ⟨U, u1, u2, u3, u4, u5, ce, u6, _, u7⟩
  obtain ⟨U, u1, u2, u3, u4, u5, ce, u6, msg, u7⟩ := hw T rfl X
  obtain ⟨v1, v2, v3, v4, v5, v6⟩ := u5
  have hlt : T.heap.size < U.heap.size := (Array.getElem?_eq_some_iff.mp u6).1
  have hz : U.heap.size = H.size + 1 := by
    have : U.heap.size ≤ T.heap.size + 1 := v3
    rw [← hT]
    omega
  have ho : ∀ q : Nat, q < H.size → U.heap[q]? = H[q]? := by
    intro q hq
    obtain ⟨cq, h9⟩ : ∃ cq, T.heap[q]? = some cq := ⟨_, Array.getElem?_eq_getElem (by rw [hT]; exact hq)⟩
    obtain ⟨c', e1, e2, e3, e4⟩ := v6 q _ h9
    have e1 : U.heap[q]? = some c' := e1
    have e5 : c'.slots = cq.slots := Array.ext_getElem? (fun i => e4 i (by simp))
    rw [e1, ← hT, h9, e2, e5]
  have hB : (T.setVm s.vm).sameButNew ({ U with vm := s.vm } : State) [] 1 6 := by
    refine ⟨?_, v2, v3, v4, v5, v6⟩
    have h8 := X0.same.1
    rw [h8]
    have h7 : ∀ (F0 F : List Frame) (h1 h2 : Heap) (a1 a2 : Nat), ({ ({ s.setFrames F0 with heap := h1, slotsUsed := a1 } : State).setFrames F with heap := h2, slotsUsed := a2 } : State) = { s.setFrames F with heap := h2, slotsUsed := a2 } := by
      intro F0 F h1 h2 a1 a2
      show ({ (s.setFrames F0).setFrames F with heap := h2, slotsUsed := a2 } : State) = _
      rw [State.setFrames_setFrames]
    exact v1.trans (h7 _ _ _ _ _ _).symm
  have hsame := (X0.same.trans hB).mono (show k + 1 ≤ rm.cells from hk) (show j + 6 ≤ rm.slots from hj)
  rw [List.append_nil] at hsame
  refine ⟨U, u1, .threw T.heap.size, u2, u3, (.inr i, M, n + 1), locs, hQ, hH.more hz ho, fun q hq => ?_, hS.2.2, u4, hsame, T.heap.size, rfl, ce, u6, ?_, ?_⟩
  · have hlow := mm_low hS hbs q hq
    have hb2 := hH.base
    rw [ho q (by omega), hlow]
  · rw [u7.vm]; rfl
  · have hal : s.vm.Alike U.vm := State.WarmedH.alike (s := s) u4
    rw [hal.findClass]
    exact u7.cls
end MMTH
