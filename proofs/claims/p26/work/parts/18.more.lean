/-! The other rows: constants, switches, new arrays, the library's members. -/
theorem mm_ldcwS {p : Program} {l : Launch} {e : Env} {R : Room} {s : State} {m : MethodId} {args : Array Value} {below : List Frame} {meth : Method} {c : Code} {H : Heap} {locs : List Loc} {cells slots : Nat} {Q : State → Prop} {cc : ByteArray} {pc : Nat} {ls : Array Slot} {rest : List Value} (hexec : p.tables.exec = Jvm.exec) (hb : c.code = cc) {own tx : String} {index q : Nat} (hown : s.vm.findClass own = some m.cls) (hZ : vk_R own index tx q s) (hdg : decode cc pc = .ok (.ldc_w index, 3))
    (k : W p l e R s m args below meth c H locs cells slots Q (F0 m (pc + 3) ls (.ref q :: rest))) : W p l e R s m args below meth c H locs cells slots Q (F0 m pc ls rest) := by
  intro T hT X
  obtain ⟨t, a1, b1⟩ := k T hT X
  refine ⟨t, ?_, b1⟩
  obtain ⟨kk, cf, i, a', hk, hcf, hcp, -, hr, hev'⟩ := Cond.stringRef_spec hown hZ.1
  cases hZ.2.symm.trans hev'
  obtain ⟨k', hk', he⟩ := X.warmed.alike.2.2 _ _ hk
  have hr' : k'.resolved[index]? = some (some (.string q)) := by
    rcases X.warmed.entry hk hk' index with h | ⟨h, -⟩
    · rw [h]; exact hr
    · rw [hr] at h; cases h
  subst hb
  jvm_step X.here [hexec, hdg, ldc_w.wp_string (e := e) (s := T) (f := F0 m pc ls rest) X.here.top hk' (by rw [he]; exact hcf) hcp hr']
  exact a1
section MMOT
variable {g : mm_G} {l : Launch} {Y : mm_Y} {rm : Room} {Q : mm_O → Prop} {pc : Nat} {ls : List (Option Value)} {st : List Value} {M : mm_M} {n k j : Nat}
theorem mm_ldc {index : Nat} {v : Int32} (hd : decode Y.2.1 pc = .ok (.ldc index, 2)) (hw : Cond.constant Y.1.cls index v ∈ mm_tb) (kk : mm_Ev g l Y rm Q (pc + 2) ls (.int v :: st) M n k j) : mm_Ev g l Y rm Q pc ls st M n k j := by
  intro p e s m args below meth c H locs lsM hC hH hS hL
  exact lv_ldc hC.1 hC.2.1 hC.2.2.2.2.1 (hC.2.2.2.2.2.1 _ hw) hd (kk p e s m args below meth c H locs lsM hC hH hS hL)
theorem mm_ldc2 {index : Nat} {v : Int64} (hd : decode Y.2.1 pc = .ok (.ldc2_w index, 3)) (hw : Cond.constantLong Y.1.cls index v ∈ mm_tb) (kk : mm_Ev g l Y rm Q (pc + 3) ls (.long v :: st) M n k j) : mm_Ev g l Y rm Q pc ls st M n k j := by
  intro p e s m args below meth c H locs lsM hC hH hS hL
  exact lv_ldc2 hC.1 hC.2.1 hC.2.2.2.2.1 (hC.2.2.2.2.2.1 _ hw) hd (kk p e s m args below meth c H locs lsM hC hH hS hL)
theorem mm_ldcs {index t : Nat} (hd : decode Y.2.1 pc = .ok (.ldc index, 2)) (hw : (Y.1.cls, index, t) ∈ mm_strs) (ht : t < 900) (kk : mm_Ev g l Y rm Q (pc + 2) ls (.ref (100 + t) :: st) M n k j) : mm_Ev g l Y rm Q pc ls st M n k j := by
  intro p e s m args below meth c H locs lsM hC hH hS hL
  have h9 := kk p e s m args below meth c H locs lsM hC hH hS hL
  have e9 : mm_tr g (.ref (100 + t)) = .ref (g.2.2.2 (100 + t)) := by show Value.ref (mm_ad g _) = _; unfold mm_ad; rw [if_pos (by omega)]
  rw [List.map_cons, e9] at h9
  exact va_ldcS hC.1 hC.2.1 hC.2.2.2.2.1 (hC.2.2.2.2.2.2.2.2.1.2.2.2.1 _ hw) hd h9
theorem mm_objInit {a index : Nat} (hd : decode Y.2.1 pc = .ok (.invokespecial index, 3)) (hw : Cond.methodLink Y.1.cls index Lib.objectInit ∈ mm_tb ∧ Cond.instanceMethod Lib.objectInit ∈ mm_tb ∧ Cond.code Lib.objectInit ⟨#[0xb1]⟩ 1 none ∈ mm_tb) (hroom : 1 ≤ rm.frames ∧ (st.map fun v => v.category).sum + 12 ≤ rm.locals) (kk : mm_Ev g l Y rm Q (pc + 3) ls st M n k j) : mm_Ev g l Y rm Q pc ls (.ref a :: st) M n k j := by
  intro p e s m args below meth c H locs lsM hC hH hS hL
  exact W.objInit hC.1 hC.2.1 hC.2.2.2.2.1 (hC.2.2.2.2.2.1 _ hw.1) (hC.2.2.2.2.2.1 _ hw.2.1) (hC.2.2.2.2.2.1 _ hw.2.2) (g := F0 m pc lsM (.ref (mm_ad g a) :: st.map (mm_tr g))) rfl (by rw [hC.2.2.1]; exact hL.1) rfl hd hroom.1 (by rw [mm_cat_sum]; show 2 * 0 + _ + 12 ≤ _; have := hroom.2; omega) (kk p e s m args below meth c H locs lsM hC hH hS hL)
theorem mm_tableIn {dflt lo hi off : Int} {offs : Array Int} {len tgt : Nat} {x : Int32} (hd : decode Y.2.1 pc = .ok (.tableswitch dflt lo hi offs, len)) (h1 : ¬ x.toInt < lo) (h2 : ¬ hi < x.toInt) (ho : offs[(x.toInt - lo).toNat]? = some off) (ht : (pc : Int) + off = (tgt : Int)) (kk : mm_Ev g l Y rm Q tgt ls st M n k j) : mm_Ev g l Y rm Q pc ls (.int x :: st) M n k j := by
  intro p e s m args below meth c H locs lsM hC hH hS hL
  exact lv_tableIn hC.1 hC.2.1 hd h1 h2 ho ht (kk p e s m args below meth c H locs lsM hC hH hS hL)
theorem mm_tableOut {dflt lo hi : Int} {offs : Array Int} {len tgt : Nat} {x : Int32} (hd : decode Y.2.1 pc = .ok (.tableswitch dflt lo hi offs, len)) (h : x.toInt < lo ∨ hi < x.toInt) (ht : (pc : Int) + dflt = (tgt : Int)) (kk : mm_Ev g l Y rm Q tgt ls st M n k j) : mm_Ev g l Y rm Q pc ls (.int x :: st) M n k j := by
  intro p e s m args below meth c H locs lsM hC hH hS hL
  exact lv_tableOut hC.1 hC.2.1 hd h ht (kk p e s m args below meth c H locs lsM hC hH hS hL)
theorem mm_lookup {dflt off : Int} {ps : Array (Int × Int)} {len tgt : Nat} {x : Int32} (hd : decode Y.2.1 pc = .ok (.lookupswitch dflt ps, len)) (hp : (ps.toList.zip (ps.toList.drop 1)).all (fun (a, next) => a.1 < next.1) = true) (ho : Op.lookupswitch.offset ps.toList dflt x.toInt = off) (ht : (pc : Int) + off = (tgt : Int)) (kk : mm_Ev g l Y rm Q tgt ls st M n k j) : mm_Ev g l Y rm Q pc ls (.int x :: st) M n k j := by
  intro p e s m args below meth c H locs lsM hC hH hS hL
  exact lv_lookup hC.1 hC.2.1 hd hp ho ht (kk p e s m args below meth c H locs lsM hC hH hS hL)
theorem mm_newa {atype : ArrayType} {t N : Nat} {z : Int32} {a0 : vp_A} (hd : decode Y.2.1 pc = .ok (.newarray atype, 2)) (ht : mm_ty[t]? = some (newarray.typeOf atype)) (hw : Cond.arrayClass (newarray.typeOf atype) ∈ mm_tb) (hn : ¬ z < 0) (hN : z.toNatClampNeg = N) (hbytes : N * componentBytes (newarray.typeOf atype) ≤ 536870912) (ha : ∀ cA : ClassId, vp_cell cA a0 = arrV cA N (fun _ => defaultValue (newarray.typeOf atype))) (htr : ∀ g : mm_G, mm_trA g a0 = a0) (hnq : ∀ C : String, newarray.typeOf atype ≠ .object C) (hcells : k + 1 ≤ rm.cells) (hslots : j + N ≤ rm.slots)
    (kk : ∀ M1 : mm_M, M1 = mm_up M n (.inl (t, a0)) → mm_Ev g l Y rm Q (pc + 2) ls (.ref n :: st) M1 (n + 1) (k + 1) (j + N)) : mm_Ev g l Y rm Q pc ls (.int z :: st) M n k j := by
  intro p e s m args below meth c H locs lsM hC hH hS hL
  obtain ⟨hx, hb, -, -, hown, hts, -, -, hI, hbs⟩ := id hC
  refine va_newaK hx hb (hts _ hw) (g := F0 m pc lsM (.int z :: st.map (mm_tr g))) rfl hd rfl hn hN hbytes hcells hslots rfl fun H1 cA e1 z1 o1 hAr hNm => ?_
  have hend := hH.end
  have hcA : g.2.1 t = cA := by
    have h9 := (hI.1.2 t _ (mm_tys_at ht)).2
    have h8 : s.vm.findClass ("[" ++ (newarray.typeOf atype).toString) = some (g.2.1 t) := by
      cases atype <;> exact h9
    exact Option.some.inj (h8.symm.trans hNm)
  have h9 := kk _ rfl p e s m args below meth c H1 locs lsM hC (hH.push z1 o1 (by
    rw [hend]
    show H1[H.size]? = some (vp_cell (g.2.1 t) (mm_trA g a0))
    rw [htr g, hcA, ha]
    exact e1)) ⟨Nat.le_trans hS.1 (by omega), fun q h1 h2 => (o1 q (Nat.lt_of_lt_of_le h1 hS.1)).trans (hS.2.1 q h1 h2), hS.2.2⟩ hL
  have e9 : mm_tr g (.ref n) = .ref H.size := by show Value.ref (mm_ad g n) = _; rw [hend]
  rw [List.map_cons, e9] at h9
  exact h9
theorem mm_mmax {index : Nat} {x y : Int32} (hd : decode Y.2.1 pc = .ok (.invokestatic index, 3)) (hw : Cond.methodLink Y.1.cls index Lib.Math.max.name ∈ mm_tb ∧ Cond.static Lib.Math.max.name ∈ mm_tb ∧ Cond.initialized "java/lang/Math" ∈ mm_tb ∧ Cond.code Lib.Math.max.name Lib.Math.max.code 2 (some .int) ∈ mm_tb) (hroom : 1 ≤ rm.frames ∧ (st.map fun v => v.category).sum + 13 ≤ rm.locals) (hk : k ≤ rm.cells) (hj : j ≤ rm.slots) (kk : mm_Ev g l Y rm Q (pc + 3) ls (.int (if x < y then y else x) :: st) M n k j) : mm_Ev g l Y rm Q pc ls (.int y :: .int x :: st) M n k j := by
  intro p e s m args below meth c H locs lsM hC hH hS hL
  exact va_mmax hC.1 hC.2.1 (hC.2.2.1.trans hL.1.symm) hC.2.2.2.2.1 (hC.2.2.2.2.2.1 _ hw.1) (hC.2.2.2.2.2.1 _ hw.2.1) (hC.2.2.2.2.2.1 _ hw.2.2.1) (hC.2.2.2.2.2.1 _ hw.2.2.2) hroom.1 (by rw [mm_cat_sum]; exact hroom.2) hk hj hd (kk p e s m args below meth c H locs lsM hC hH hS hL)
theorem mm_mmin {index : Nat} {x y : Int32} (hd : decode Y.2.1 pc = .ok (.invokestatic index, 3)) (hw : Cond.methodLink Y.1.cls index Lib.Math.min.name ∈ mm_tb ∧ Cond.static Lib.Math.min.name ∈ mm_tb ∧ Cond.initialized "java/lang/Math" ∈ mm_tb ∧ Cond.code Lib.Math.min.name Lib.Math.min.code 2 (some .int) ∈ mm_tb) (hroom : 1 ≤ rm.frames ∧ (st.map fun v => v.category).sum + 13 ≤ rm.locals) (hk : k ≤ rm.cells) (hj : j ≤ rm.slots) (kk : mm_Ev g l Y rm Q (pc + 3) ls (.int (if y < x then y else x) :: st) M n k j) : mm_Ev g l Y rm Q pc ls (.int y :: .int x :: st) M n k j := by
  intro p e s m args below meth c H locs lsM hC hH hS hL
  exact va_mmin hC.1 hC.2.1 (hC.2.2.1.trans hL.1.symm) hC.2.2.2.2.1 (hC.2.2.2.2.2.1 _ hw.1) (hC.2.2.2.2.2.1 _ hw.2.1) (hC.2.2.2.2.2.1 _ hw.2.2.1) (hC.2.2.2.2.2.1 _ hw.2.2.2) hroom.1 (by rw [mm_cat_sum]; exact hroom.2) hk hj hd (kk p e s m args below meth c H locs lsM hC hH hS hL)
theorem mm_mmaxl {index : Nat} {x y : Int64} (hd : decode Y.2.1 pc = .ok (.invokestatic index, 3)) (hw : Cond.methodLink Y.1.cls index Lib.MathLoose.max_long.x ∈ mm_tb ∧ Cond.static Lib.MathLoose.max_long.x ∈ mm_tb ∧ Cond.initialized "java/lang/Math" ∈ mm_tb ∧ Cond.code Lib.MathLoose.max_long.x Lib.MathLoose.max_long.code 4 (some .long) ∈ mm_tb) (hroom : 1 ≤ rm.frames ∧ (st.map fun v => v.category).sum + 15 ≤ rm.locals) (hk : k ≤ rm.cells) (hj : j ≤ rm.slots) (kk : mm_Ev g l Y rm Q (pc + 3) ls (.long (if y < x then x else y) :: st) M n k j) : mm_Ev g l Y rm Q pc ls (.long y :: .long x :: st) M n k j := by
  intro p e s m args below meth c H locs lsM hC hH hS hL
  exact va_mmax_long hC.1 hC.2.1 (hC.2.2.1.trans hL.1.symm) hC.2.2.2.2.1 (hC.2.2.2.2.2.1 _ hw.1) (hC.2.2.2.2.2.1 _ hw.2.1) (hC.2.2.2.2.2.1 _ hw.2.2.1) (hC.2.2.2.2.2.1 _ hw.2.2.2) hroom.1 (by rw [mm_cat_sum]; exact hroom.2) hk hj hd (kk p e s m args below meth c H locs lsM hC hH hS hL)
theorem mm_mminl {index : Nat} {x y : Int64} (hd : decode Y.2.1 pc = .ok (.invokestatic index, 3)) (hw : Cond.methodLink Y.1.cls index Lib.MathLoose.min_long.x ∈ mm_tb ∧ Cond.static Lib.MathLoose.min_long.x ∈ mm_tb ∧ Cond.initialized "java/lang/Math" ∈ mm_tb ∧ Cond.code Lib.MathLoose.min_long.x Lib.MathLoose.min_long.code 4 (some .long) ∈ mm_tb) (hroom : 1 ≤ rm.frames ∧ (st.map fun v => v.category).sum + 15 ≤ rm.locals) (hk : k ≤ rm.cells) (hj : j ≤ rm.slots) (kk : mm_Ev g l Y rm Q (pc + 3) ls (.long (if y < x then y else x) :: st) M n k j) : mm_Ev g l Y rm Q pc ls (.long y :: .long x :: st) M n k j := by
  intro p e s m args below meth c H locs lsM hC hH hS hL
  exact va_mmin_long hC.1 hC.2.1 (hC.2.2.1.trans hL.1.symm) hC.2.2.2.2.1 (hC.2.2.2.2.2.1 _ hw.1) (hC.2.2.2.2.2.1 _ hw.2.1) (hC.2.2.2.2.2.1 _ hw.2.2.1) (hC.2.2.2.2.2.1 _ hw.2.2.2) hroom.1 (by rw [mm_cat_sum]; exact hroom.2) hk hj hd (kk p e s m args below meth c H locs lsM hC hH hS hL)
end MMOT
section MMTW
variable {g : mm_G} {l : Launch} {Y : mm_Y} {rm : Room} {Q : mm_O → Prop} {pc : Nat} {ls : List (Option Value)} {st : List Value} {M : mm_M} {n k j : Nat}
set_option maxHeartbeats 1000000 in
theorem mm_throwW {ix is ic i np : Nat} (hfl : l.flags = flags0) (hd0 : decode Y.2.1 pc = .ok (.new ix, 3)) (hd3 : decode Y.2.1 (pc + 3) = .ok (.dup, 1)) (hd4 : decode Y.2.1 (pc + 3 + 1) = .ok (.ldc_w is, 3)) (hd6 : decode Y.2.1 (pc + 3 + 1 + 3) = .ok (.invokespecial ic, 3)) (hd9 : decode Y.2.1 (pc + 3 + 1 + 3 + 3) = .ok (.athrow, 1))
    (hY : mm_Yw Y np) (hXl : mm_Xl Y.1.cls ix is ic i) (hk : k + 1 ≤ rm.cells) (hj : j + 6 ≤ rm.slots) (hroom : 5 < rm.frames ∧ (st.map fun v => v.category).sum + 82 ≤ rm.locals) (hQ : Q (.inr i, M, n + 1)) : mm_Ev g l Y rm Q pc ls st M n k j := by
  intro p e s m args below meth c H locs lsM hC hH hS hL T hT X0
  obtain ⟨hx, hb, hml, -, hown, hts, hlk, hnm, hI, hbs⟩ := id hC
  obtain ⟨w1, w2, w3, ⟨tx, hstr⟩, hat⟩ := hXl
  have X := mm_restart X0 (by omega) (by omega)
  have htr : e.platform.stackTraces = false := by
    have h9 := X0.admits.platform
    rw [h9]
    simp [Launch.stackTraces, hfl, flags0, noTraceFlag]
  have hW0 : s.WarmedH (mm_now s T).vm := State.WarmedH.refl s
  have htb : ∀ w ∈ mm_tb, w.before args (mm_now s T) = true := mm_tb_good hts hW0 args
  have hI2 : mm_I g (mm_now s T) (mm_now s T).heap := (hI.moved (U := mm_now s T) hW0).kept (fun a h1 h2 => by show T.heap[a]? = _; rw [hT]; exact hS.2.1 a h1 h2)
  have hatoms : ∀ w ∈ Bundle.ownAtoms Y.1.cls ic (mm_xn i) ["java/lang/RuntimeException", "java/lang/Exception"], w.before args (mm_now s T) = true := by
    intro w hw
    rcases hat w hw with ⟨h1, h2⟩ | h1
    · exact htb w (List.mem_filter.mpr ⟨List.mem_append_right _ h2, h1⟩)
    · rcases List.mem_append.mp h1 with h1 | h1
      · have h2 := hI2.2.2.1.1 w h1
        rcases mm_nw_ok w h1 with ⟨C, T, rfl⟩ | ⟨x, rfl⟩
        · exact va_Nw.use rfl h2
        · exact va_Nw.use rfl h2
      · simp only [List.mem_cons, List.not_mem_nil, or_false] at h1
        rcases h1 with rfl | rfl | rfl | rfl
        · exact mm_isRef hI2.2.2.1.2.1
        · exact mm_isRef hI2.2.2.1.2.2.1
        · exact hI2.2.2.2.2.2.2.2.1.use
        · exact hI2.2.2.2.2.2.2.2.2.1.use
  have hout : ∀ pc' : Nat, ∀ y ∈ c.exceptionTable.toList, covers y pc' = false := by
    obtain ⟨meth', c', h1, h2, -, -, -, -, h3, -⟩ := Cond.code_spec hnm.2 (hts _ hY.1)
    cases X0.method.symm.trans h1
    cases X0.code.symm.trans h2
    intro pc' y hy
    rw [Array.isEmpty_iff.mp h3] at hy
    simp at hy
  have hR := hI2.2.2.2.1 _ hstr
  have hw : W p l e { frames := rm.frames, cells := rm.cells - k, slots := rm.slots - j, locals := rm.locals } (mm_now s T) m args below meth c T.heap [] 0 0 (fun U => U.status = .running ∧ Ended U below (.threw T.heap.size) ∧ (mm_now s T).WarmedH U.vm ∧ (mm_now s T).sameButNew ({ U with vm := (mm_now s T).vm } : State) [] 1 6 ∧ ∃ ce, U.heap[T.heap.size]? = some ce ∧ ∃ msg, Bundle.OwnCell args (mm_now s T) (mm_xn i) T.heap.size msg ce) (F0 m pc lsM (st.map (mm_tr g))) := by
    have hown2 : (mm_now s T).vm.findClass Y.1.cls = some m.cls := hown
    refine W.newc (own := Y.1.cls) (C := mm_xn i) (index := ix) (n := 6) (g := F0 m pc lsM (st.map (mm_tr g))) hx hb hown2 (htb _ w1) (htb _ w2) (htb _ w3) rfl hd0 (by show 0 + 1 ≤ rm.cells - k; omega) (by show 0 + 6 ≤ rm.slots - j; omega) (fun cC kC h1 h2 h3 h4 => ?_)
    refine lv_dup hx hb hd3 rfl ?_
    refine mm_ldcwS hx hb hown2 hR hd4 ?_
    intro T2 hT2 X2
    obtain ⟨U, u1, u2, u3, u4, u5, ce, u6, u7⟩ := X2.ctorThrowS hx htr (own := Y.1.cls) (cls := mm_xn i) (names := ["java/lang/RuntimeException", "java/lang/Exception"]) (ic := ic) hown2 (mm_fit i) (by decide) hatoms (fun x hx => by cases hx) h1 h2 (a := T.heap.size) (by rw [hT2]; exact Array.getElem?_push_size) (Nat.le_refl _) (msg := .ref _) rfl
      (g := F0 m (pc + 3 + 1 + 3) lsM (.ref _ :: .ref T.heap.size :: .ref T.heap.size :: st.map (mm_tr g))) rfl (by rw [hml]; exact hL.1) rfl rfl (rest := st.map (mm_tr g)) rfl (by rw [hb]; exact hd6) (by rw [hb]; exact hd9) (hout _) hroom.1 (by
        rw [List.map_cons, List.sum_cons, mm_cat_sum]
        show 2 * 0 + (1 + (st.map fun v => v.category).sum) + (13 * (2 + 1) + 42) ≤ rm.locals
        have := hroom.2
        omega) hlk
    exact ⟨U, u1, u2, u3, u4, u5, ce, u6, _, u7⟩
  obtain ⟨U, u1, u2, u3, u4, u5, ce, u6, msg, u7⟩ := hw T rfl X
  obtain ⟨v1, v2, v3, v4, v5, v6⟩ := u5
  have hlt : T.heap.size < U.heap.size := (Array.getElem?_eq_some_iff.mp u6).1
  have hz : U.heap.size = H.size + 1 := by
    have : U.heap.size ≤ T.heap.size + 1 := v3
    rw [← hT]
    omega
  have ho : ∀ q : Nat, q < H.size → U.heap[q]? = H[q]? := by
    intro q hq
    obtain ⟨cq, h9⟩ : ∃ cq, T.heap[q]? = some cq := ⟨_, Array.getElem?_eq_getElem (by rw [hT]; exact hq)⟩
    obtain ⟨c', e1, e2, e3, e4⟩ := v6 q _ h9
    have e1 : U.heap[q]? = some c' := e1
    have e5 : c'.slots = cq.slots := Array.ext_getElem? (fun i => e4 i (by simp))
    rw [e1, ← hT, h9, e2, e5]
  have hB : (T.setVm s.vm).sameButNew ({ U with vm := s.vm } : State) [] 1 6 := by
    refine ⟨?_, v2, v3, v4, v5, v6⟩
    have h8 := X0.same.1
    rw [h8]
    have h7 : ∀ (F0 F : List Frame) (h1 h2 : Heap) (a1 a2 : Nat), ({ ({ s.setFrames F0 with heap := h1, slotsUsed := a1 } : State).setFrames F with heap := h2, slotsUsed := a2 } : State) = { s.setFrames F with heap := h2, slotsUsed := a2 } := by
      intro F0 F h1 h2 a1 a2
      show ({ (s.setFrames F0).setFrames F with heap := h2, slotsUsed := a2 } : State) = _
      rw [State.setFrames_setFrames]
    exact v1.trans (h7 _ _ _ _ _ _).symm
  have hsame := (X0.same.trans hB).mono (show k + 1 ≤ rm.cells from hk) (show j + 6 ≤ rm.slots from hj)
  rw [List.append_nil] at hsame
  refine ⟨U, u1, .threw T.heap.size, u2, u3, (.inr i, M, n + 1), locs, hQ, hH.more hz ho, fun q hq => ?_, hS.2.2, u4, hsame, T.heap.size, rfl, ce, u6, ?_, ?_⟩
  · have hlow := mm_low hS hbs q hq
    have hb2 := hH.base
    rw [ho q (by omega), hlow]
  · rw [u7.vm]; rfl
  · have hal : s.vm.Alike U.vm := State.WarmedH.alike (s := s) u4
    rw [hal.findClass]
    exact u7.cls
end MMTW
