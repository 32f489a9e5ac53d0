/-! The start: what the Statement gives of the state at the law's entry. By program (wip/zz/start.py). -/
abbrev st_T : Cond := Jvm.Cond.and given_1 narrow_1
def st_rep : List (String × Nat) := [("TensorForge$Words", 35), ("TensorForge$Words", 37), ("TensorForge$Words", 39), ("TensorForge$Words", 41), ("TensorForge$Words", 43), ("TensorForge$Words", 45), ("TensorForge$Words", 47), ("TensorForge$Words", 49), ("TensorForge$Words", 51), ("TensorForge$Words", 53), ("TensorForge$Assembler", 65), ("TensorForge$Assembler", 71), ("TensorForge$Assembler", 73), ("TensorForge$Assembler", 78), ("TensorForge$Assembler", 80), ("TensorForge$Assembler", 82), ("TensorForge$Assembler", 84), ("TensorForge$Assembler", 86), ("TensorForge$Assembler", 107), ("TensorForge$Assembler", 109), ("TensorForge$Assembler", 92), ("TensorForge$NetworkReader", 110), ("TensorForge$NetworkReader", 114), ("TensorForge$NetworkReader", 116), ("TensorForge$NetworkReader", 144), ("TensorForge$NetworkReader", 150), ("TensorForge$NetworkReader", 152), ("TensorForge$NetworkReader", 154), ("TensorForge$NetworkReader", 156), ("TensorForge$NetworkReader", 85), ("TensorForge", 89), ("TensorForge", 103), ("TensorForge", 112), ("TensorForge", 118), ("TensorForge", 124), ("TensorForge", 128), ("TensorForge", 131), ("TensorForge", 135), ("TensorForge", 149), ("TensorForge", 154), ("TensorForge", 160), ("TensorForge", 172), ("TensorForge$Line", 57), ("TensorForge$Line", 63), ("TensorForge$Line", 65), ("TensorForge$Line", 67), ("TensorForge", 189), ("TensorForge", 335), ("TensorForge", 195), ("TensorForge", 197), ("TensorForge", 214), ("TensorForge", 254), ("TensorForge", 329), ("TensorForge", 331), ("TensorForge", 256), ("TensorForge", 286), ("TensorForge", 299), ("TensorForge", 309), ("TensorForge", 338)]
def st_pos : List Nat := [122, 131, 142, 151, 159, 171, 182, 192, 201, 209, 214, 220, 226, 231, 236, 241, 249, 254, 261, 271, 281, 289, 297, 305, 319, 346, 354, 363, 371, 377, 392, 412, 439, 466, 492, 517, 552, 583, 609, 640, 673, 704, 788, 802, 816, 831, 846, 879, 901, 933, 975, 1008, 1035, 1058, 1092, 1128, 1168, 1277, 1311]
def st_tm (i : Nat) : Term := .string (st_rep.getD i ("", 0)).1 (st_rep.getD i ("", 0)).2
theorem st_1 : ∀ i, i < 59 → (flatC st_T)[st_pos.getD i 0]? = some (Cond.exactly (st_tm i) "java/lang/String") := by decide +kernel
theorem st_2 : ∀ i, i < 59 → (flatC st_T)[st_pos.getD i 0 + 1]? = some (Cond.eq (.field (st_tm i) "java/lang/String" "coder" "B") (.int 0)) := by decide +kernel
theorem st_3 : ∀ i, i < 59 → (flatC st_T)[st_pos.getD i 0 + 2]? = some (Cond.arrayOf (.field (st_tm i) "java/lang/String" "value" "[B") .byte) := by decide +kernel
theorem st_4 : ∀ i, i < 59 → (flatC st_T)[st_pos.getD i 0 + 3]? = some (Cond.eq (.length (.field (st_tm i) "java/lang/String" "value" "[B")) (.int (Int32.ofNat (mm_len.getD i 0)))) := by decide +kernel
theorem st_5q0 : ∀ i, i < 12 → ((flatC st_T).drop (st_pos.getD (i + 0) 0 + 4)).take (mm_len.getD (i + 0) 0) = (List.range (mm_len.getD (i + 0) 0)).map (fun j => Cond.eq (.elem (.field (st_tm (i + 0)) "java/lang/String" "value" "[B") (.int (Int32.ofNat j))) (.int ((mm_byt.getD (i + 0) []).getD j 0))) := by decide +kernel
theorem st_5q1 : ∀ i, i < 12 → ((flatC st_T).drop (st_pos.getD (i + 12) 0 + 4)).take (mm_len.getD (i + 12) 0) = (List.range (mm_len.getD (i + 12) 0)).map (fun j => Cond.eq (.elem (.field (st_tm (i + 12)) "java/lang/String" "value" "[B") (.int (Int32.ofNat j))) (.int ((mm_byt.getD (i + 12) []).getD j 0))) := by decide +kernel
theorem st_5q2 : ∀ i, i < 12 → ((flatC st_T).drop (st_pos.getD (i + 24) 0 + 4)).take (mm_len.getD (i + 24) 0) = (List.range (mm_len.getD (i + 24) 0)).map (fun j => Cond.eq (.elem (.field (st_tm (i + 24)) "java/lang/String" "value" "[B") (.int (Int32.ofNat j))) (.int ((mm_byt.getD (i + 24) []).getD j 0))) := by decide +kernel
theorem st_5q3 : ∀ i, i < 12 → ((flatC st_T).drop (st_pos.getD (i + 36) 0 + 4)).take (mm_len.getD (i + 36) 0) = (List.range (mm_len.getD (i + 36) 0)).map (fun j => Cond.eq (.elem (.field (st_tm (i + 36)) "java/lang/String" "value" "[B") (.int (Int32.ofNat j))) (.int ((mm_byt.getD (i + 36) []).getD j 0))) := by decide +kernel
theorem st_5q4 : ∀ i, i < 11 → ((flatC st_T).drop (st_pos.getD (i + 48) 0 + 4)).take (mm_len.getD (i + 48) 0) = (List.range (mm_len.getD (i + 48) 0)).map (fun j => Cond.eq (.elem (.field (st_tm (i + 48)) "java/lang/String" "value" "[B") (.int (Int32.ofNat j))) (.int ((mm_byt.getD (i + 48) []).getD j 0))) := by decide +kernel
theorem st_5q : ∀ i, i < 59 → ((flatC st_T).drop (st_pos.getD i 0 + 4)).take (mm_len.getD i 0) = (List.range (mm_len.getD i 0)).map (fun j => Cond.eq (.elem (.field (st_tm i) "java/lang/String" "value" "[B") (.int (Int32.ofNat j))) (.int ((mm_byt.getD i []).getD j 0))) := by
  intro i hi
  by_cases h0 : i < 12
  · have h := st_5q0 (i - 0) (by omega)
    rw [show i - 0 + 0 = i by omega] at h
    exact h
  by_cases h1 : i < 24
  · have h := st_5q1 (i - 12) (by omega)
    rw [show i - 12 + 12 = i by omega] at h
    exact h
  by_cases h2 : i < 36
  · have h := st_5q2 (i - 24) (by omega)
    rw [show i - 24 + 24 = i by omega] at h
    exact h
  by_cases h3 : i < 48
  · have h := st_5q3 (i - 36) (by omega)
    rw [show i - 36 + 36 = i by omega] at h
    exact h
  have h := st_5q4 (i - 48) (by omega)
  rw [show i - 48 + 48 = i by omega] at h
  exact h
theorem st_5 : ∀ i, i < 59 → ∀ j, j < mm_len.getD i 0 → (flatC st_T)[st_pos.getD i 0 + 4 + j]? = some (Cond.eq (.elem (.field (st_tm i) "java/lang/String" "value" "[B") (.int (Int32.ofNat j))) (.int ((mm_byt.getD i []).getD j 0))) := by
  intro i hi j hj
  have h := congrArg (fun l => l[j]?) (st_5q i hi)
  rw [List.getElem?_take, if_pos hj, List.getElem?_drop, List.getElem?_map, List.getElem?_range hj] at h
  exact h
theorem st_d : ∀ i, i < 59 → ∀ j, j < 59 → i ≠ j → mm_len.getD i 0 ≠ mm_len.getD j 0 ∨ ∃ k, k < mm_len.getD i 0 ∧ (mm_byt.getD i []).getD k 0 ≠ (mm_byt.getD j []).getD k 0 := by decide +kernel
theorem st_l : ∀ i, i < 59 → mm_len.getD i 0 < 100 := by decide +kernel
theorem st_hs {args : Array Value} {s : State} (h : st_T.before args s = true) {k : Nat} {w : Cond} (hk : (flatC st_T)[k]? = some w) : w.before args s = true := flat_of_before _ h _ (List.mem_of_getElem? hk)
theorem st_ofNat {a b : Nat} (ha : a < 100) (hb : b < 100) (h : Int32.ofNat a = Int32.ofNat b) : a = b := by
  rw [← Int32.ofInt_eq_ofNat, ← Int32.ofInt_eq_ofNat] at h
  have h1 := congrArg Int32.toInt h
  rw [zz_t32 (by omega), zz_t32 (by omega)] at h1
  omega
theorem st_not {args : Array Value} {s : State} {t1 t2 : Term} {a1 a2 : Nat} (h1 : t1.eval args s none [] s = some (.ref a1)) (h2 : t2.eval args s none [] s = some (.ref a2)) (hne : a1 ≠ a2) : (Cond.not (Cond.eq t1 t2)).before args s = true := by
  simp [Cond.before, Cond.holds, Cond.value, h1, h2, hne]
theorem st_eqS {args : Array Value} {s : State} {t1 t2 : Term} {a : Nat} (h : (Cond.eq t1 t2).before args s = true) (h1 : t1.eval args s none [] s = some (.ref a)) : t2.eval args s none [] s = some (.ref a) := by
  cases hv : t2.eval args s none [] s with
  | none => simp [Cond.before, Cond.holds, Cond.value, h1, hv] at h
  | some w =>
    simp only [Cond.before, Cond.holds, Cond.value, h1, hv] at h
    cases w <;> simp_all
theorem st_eqS2 {args : Array Value} {s : State} {t1 t2 : Term} {a : Nat} (h : (Cond.eq t1 t2).before args s = true) (h2 : t2.eval args s none [] s = some (.ref a)) : t1.eval args s none [] s = some (.ref a) := by
  cases hv : t1.eval args s none [] s with
  | none => simp [Cond.before, Cond.holds, Cond.value, h2, hv] at h
  | some w =>
    simp only [Cond.before, Cond.holds, Cond.value, h2, hv] at h
    cases w <;> simp_all
theorem st_strings {args : Array Value} {s : State} (h : st_T.before args s = true) {B : Nat → Prop} (hB : ∀ a : Nat, a < s.heap.size → ¬ B a) : ∃ adK adV : Nat → Nat, vk_S 59 mm_len mm_byt adK adV B s s.heap ∧ ∀ i : Nat, i < 59 → (st_tm i).eval args s none [] s = some (.ref (adK i)) := by
  refine vk_Sof (tm := st_tm) (fun i hi => Nat.lt_trans (st_l i hi) (by decide)) (fun i hi => st_hs h (st_1 i hi)) (fun i hi => st_hs h (st_2 i hi)) (fun i hi => st_hs h (st_3 i hi)) (fun i hi => st_hs h (st_4 i hi)) (fun i hi j hj => st_hs h (st_5 i hi j hj)) (fun i j hi hj hij => Or.inl ?_) hB
  obtain ⟨a1, _, _, _, e1, -⟩ := Cond.exactly_spec (st_hs h (st_1 i hi))
  obtain ⟨a2, _, _, _, e2, -⟩ := Cond.exactly_spec (st_hs h (st_1 j hj))
  refine st_not e1 e2 (fun he => ?_)
  subst he
  have ee : (st_tm i).eval args s none [] s = (st_tm j).eval args s none [] s := e1.trans e2.symm
  have l1 := va_eqt (st_hs h (st_4 i hi))
  have l2 := va_eqt (st_hs h (st_4 j hj))
  have le : (Term.length (.field (st_tm i) "java/lang/String" "value" "[B")).eval args s none [] s = (Term.length (.field (st_tm j) "java/lang/String" "value" "[B")).eval args s none [] s := by simp only [Term.eval, ee]
  rw [l1, l2] at le
  have hl : mm_len.getD i 0 = mm_len.getD j 0 := st_ofNat (st_l i hi) (st_l j hj) (by injection le with q; injection q)
  rcases st_d i hi j hj hij with h1 | ⟨k, hk, hne⟩
  · exact h1 hl
  · have m1 := va_eqt (st_hs h (st_5 i hi k hk))
    have m2 := va_eqt (st_hs h (st_5 j hj k (hl ▸ hk)))
    have me : (Term.elem (.field (st_tm i) "java/lang/String" "value" "[B") (.int (Int32.ofNat k))).eval args s none [] s = (Term.elem (.field (st_tm j) "java/lang/String" "value" "[B") (.int (Int32.ofNat k))).eval args s none [] s := by simp only [Term.eval, ee]
    rw [m1, m2] at me
    exact hne (by injection me with q; injection q)
def st_ad (tA adK adV : Nat → Nat) (L b f : Nat) (xs : Nat → Int32) : Nat → Nat := fun i => if i < 100 then tA i else if i < 500 then adK (i - 100) else if i < 900 then adV (i - 500) else if i = 997 then L else if i = 998 then b else if i = 999 then f else (xs (i - 2000)).toUInt32.toNat
theorem st_int (x : Int32) : Int32.ofNat x.toUInt32.toNat = x := by
  first
    | exact Int32.ofNat_toUInt32_toNat x
    | (apply Int32.toBitVec_inj.mp; simp)
    | simp
theorem st_arr {s : State} {args : Array Value} {ty : FieldType} (h : (Cond.arrayClass ty).before args s = true) : ∃ cA, ArrOfT s cA ty ∧ s.vm.findClass ("[" ++ ty.toString) = some cA := by
  obtain ⟨c, k, comp, h1, h2, h3⟩ := Cond.arrayClass_spec h
  exact ⟨c, fun n z => ⟨fun k h => (by cases h), k, h2, comp, h3⟩, h1⟩
theorem st_arrO {s : State} {args : Array Value} {C : String} (h : (Cond.arrayOver (.object C)).before args s = true) : ∃ cA, ArrOfT s cA (.object C) ∧ va_RA s cA (.object C) := by
  obtain ⟨comp, c, k, hc, -, hk, hkind, hn⟩ := Cond.arrayOver_spec h
  exact ⟨c, fun n z => ⟨fun k h => (by cases h), k, hk, comp, hkind⟩, k, comp, hk, hkind, hc, hn⟩
theorem st_Ls {s : State} {args : Array Value} {C n d : String} {B : Nat → Prop} (h : (Cond.laysStatic C n d).before args s = true) (hB : ∀ a : Nat, a < s.heap.size → ¬ B a) : mm_Ls C n d B s s.heap := by
  obtain ⟨c, k, i, f, a, cell, h1, h2, h3, h4, h5, h6, h7, h8, h9⟩ := Cond.laysStatic_spec h
  exact ⟨c, i, a, k, f, cell, ⟨h1, h2⟩, ⟨h3, h4, h9⟩, ⟨hB a (Array.getElem?_eq_some_iff.mp h5).1, h5⟩, h6, h7, h8⟩
theorem mm_start {s : State} {b L : Nat} {xs : Nat → Int32} (hts : ∀ w ∈ lw_tbl, w.before #[Value.ref b] s = true) (hgv : st_T.before #[Value.ref b] s = true) (hX : va_X b L xs s s.heap) (hbl : b < s.heap.size) (hL : L ≤ 3584) : ∃ g : mm_G, mm_I g s s.heap ∧ g.2.2.1 = s.heap.size ∧ g.2.2.2 998 = b ∧ g.2.2.2 997 = L := by
  have hm : ∀ w ∈ mm_tb, w.before #[Value.ref b] s = true := fun w hw => hts w (List.mem_filter.mp hw).1
  have ht : ∀ {k : Nat} {w : Cond}, tables_1[k]? = some w → w.before #[Value.ref b] s = true := fun hk => hts _ (List.mem_append_right _ (List.mem_of_getElem? hk))
  have hB : ∀ a : Nat, a < s.heap.size → ¬ (fun q : Nat => s.heap.size ≤ q) a := fun a h => Nat.not_le.mpr h
  obtain ⟨c0, i0, k0⟩ := u_known (C := R_TF) (T := F_TF) (N := 12) (n := 12) hm i_TF (ht (k := 29) (by decide +kernel))
  obtain ⟨c1, i1, k1⟩ := u_known (C := R_Network) (T := F_Network) (N := 2) (n := 2) hm i_Network (ht (k := 37) (by decide +kernel))
  obtain ⟨c2, i2, k2⟩ := u_known (C := R_Layer) (T := F_Layer) (N := 15) (n := 15) hm i_Layer (ht (k := 44) (by decide +kernel))
  obtain ⟨c3, i3, k3⟩ := u_known (C := R_Machine) (T := F_Machine) (N := 14) (n := 14) hm i_Machine (ht (k := 155) (by decide +kernel))
  obtain ⟨c4, i4, k4⟩ := u_known (C := R_Reaches) (T := F_Reaches) (N := 4) (n := 4) hm i_Reaches (ht (k := 163) (by decide +kernel))
  obtain ⟨c5, i5, k5⟩ := u_known (C := R_Run) (T := F_Run) (N := 10) (n := 10) hm i_Run (ht (k := 231) (by decide +kernel))
  obtain ⟨c6, i6, k6⟩ := u_known (C := R_Text) (T := F_Text) (N := 7) (n := 7) hm i_Text (ht (k := 276) (by decide +kernel))
  obtain ⟨c7, i7, k7⟩ := u_known (C := R_Assembler) (T := F_Assembler) (N := 4) (n := 4) hm i_Assembler (ht (k := 315) (by decide +kernel))
  obtain ⟨c8, i8, k8⟩ := u_known (C := R_NetworkReader) (T := F_NetworkReader) (N := 9) (n := 9) hm i_NetworkReader (ht (k := 335) (by decide +kernel))
  obtain ⟨c9, i9, k9⟩ := u_known (C := R_Compiler) (T := F_Compiler) (N := 17) (n := 17) hm i_Compiler (ht (k := 369) (by decide +kernel))
  obtain ⟨c10, i10, k10⟩ := u_known (C := R_Line) (T := F_Line) (N := 2) (n := 2) hm i_Line (ht (k := 428) (by decide +kernel))
  obtain ⟨c11, i11, k11⟩ := u_known (C := R_Md) (T := F_Md) (N := 69) (n := 69) hm i_Md (ht (k := 1583) (by decide +kernel))
  obtain ⟨dC, dI, hK⟩ : ∃ (dC : Nat → ClassId) (dI : Nat → Nat → Nat), ∀ (c : Nat) (q : vw_C), mm_cl[c]? = some q → u_Kn s q.1 q.2.1 q.2.2 (dC c) (dI c) := by
    refine ⟨fun k => [c0, c1, c2, c3, c4, c5, c6, c7, c8, c9, c10, c11].getD k c0, fun k => [i0, i1, i2, i3, i4, i5, i6, i7, i8, i9, i10, i11].getD k i0, ?_⟩
    intro c q hq
    match c, hq with
    | 0, hq => cases hq; exact k0
    | 1, hq => cases hq; exact k1
    | 2, hq => cases hq; exact k2
    | 3, hq => cases hq; exact k3
    | 4, hq => cases hq; exact k4
    | 5, hq => cases hq; exact k5
    | 6, hq => cases hq; exact k6
    | 7, hq => cases hq; exact k7
    | 8, hq => cases hq; exact k8
    | 9, hq => cases hq; exact k9
    | 10, hq => cases hq; exact k10
    | 11, hq => cases hq; exact k11
    | c + 12, hq => simp [mm_cl] at hq
  obtain ⟨t0, a0, r0⟩ := st_arrO (C := "TensorForge$Layer") (ht (k := 43) (by decide +kernel))
  obtain ⟨t1, a1, r1⟩ := st_arr (ty := .long) (ht (k := 181) (by decide +kernel))
  obtain ⟨t2, a2, r2⟩ := st_arr (ty := .byte) (ht (k := 182) (by decide +kernel))
  obtain ⟨t3, a3, r3⟩ := st_arr (ty := .int) (ht (k := 183) (by decide +kernel))
  obtain ⟨t4, a4, r4⟩ := st_arrO (C := "TensorForge$Reaches") (ht (k := 237) (by decide +kernel))
  obtain ⟨t5, a5, r5⟩ := st_arr (ty := .char) (ht (k := 313) (by decide +kernel))
  obtain ⟨t6, a6, r6⟩ := st_arr (ty := .boolean) (ht (k := 1819) (by decide +kernel))
  obtain ⟨s0, e0, v0⟩ := va_Tof (args := #[Value.ref b]) (s := s) (tm := (.static "TensorForge$Reaches" "SIZES" "[I")) (ty := .int) (N := 5) (f := fun j => .int (([4096, 512, 512, 256, 256] : List Int32).getD j 0)) (A := fun q : Nat => s.heap.size ≤ q) (by decide) (st_hs hgv (k := 5) (by decide +kernel)) (va_eqt (st_hs hgv (k := 6) (by decide +kernel))) (fun j hj => by
    rcases (by omega : j = 0 ∨ j = 1 ∨ j = 2 ∨ j = 3 ∨ j = 4) with rfl | rfl | rfl | rfl | rfl
    · exact va_eqt (st_hs hgv (k := 7) (by decide +kernel))
    · exact va_eqt (st_hs hgv (k := 8) (by decide +kernel))
    · exact va_eqt (st_hs hgv (k := 9) (by decide +kernel))
    · exact va_eqt (st_hs hgv (k := 10) (by decide +kernel))
    · exact va_eqt (st_hs hgv (k := 11) (by decide +kernel))) hB
  have z0 := va_Zof (A := fun q : Nat => s.heap.size ≤ q) (ht (k := 161) (by decide +kernel)) (ht (k := 5) (by decide +kernel)) e0 hB
  obtain ⟨s1, e1, v1⟩ := va_Tof (args := #[Value.ref b]) (s := s) (tm := (.static "TensorForge$Words" "LOWEST_BIT" "[I")) (ty := .int) (N := 12) (f := fun j => .int (([0, 4, 5, 6, 7, 8, 20, 26, 31, 40, 49, 59] : List Int32).getD j 0)) (A := fun q : Nat => s.heap.size ≤ q) (by decide) (st_hs hgv (k := 13) (by decide +kernel)) (va_eqt (st_hs hgv (k := 14) (by decide +kernel))) (fun j hj => by
    rcases (by omega : j = 0 ∨ j = 1 ∨ j = 2 ∨ j = 3 ∨ j = 4 ∨ j = 5 ∨ j = 6 ∨ j = 7 ∨ j = 8 ∨ j = 9 ∨ j = 10 ∨ j = 11) with rfl | rfl | rfl | rfl | rfl | rfl | rfl | rfl | rfl | rfl | rfl | rfl
    · exact va_eqt (st_hs hgv (k := 15) (by decide +kernel))
    · exact va_eqt (st_hs hgv (k := 16) (by decide +kernel))
    · exact va_eqt (st_hs hgv (k := 17) (by decide +kernel))
    · exact va_eqt (st_hs hgv (k := 18) (by decide +kernel))
    · exact va_eqt (st_hs hgv (k := 19) (by decide +kernel))
    · exact va_eqt (st_hs hgv (k := 20) (by decide +kernel))
    · exact va_eqt (st_hs hgv (k := 21) (by decide +kernel))
    · exact va_eqt (st_hs hgv (k := 22) (by decide +kernel))
    · exact va_eqt (st_hs hgv (k := 23) (by decide +kernel))
    · exact va_eqt (st_hs hgv (k := 24) (by decide +kernel))
    · exact va_eqt (st_hs hgv (k := 25) (by decide +kernel))
    · exact va_eqt (st_hs hgv (k := 26) (by decide +kernel))) hB
  have z1 := va_Zof (A := fun q : Nat => s.heap.size ≤ q) (ht (k := 496) (by decide +kernel)) (ht (k := 20) (by decide +kernel)) e1 hB
  obtain ⟨s2, e2, v2⟩ := va_Tof (args := #[Value.ref b]) (s := s) (tm := (.static "TensorForge$Words" "MOST" "[I")) (ty := .int) (N := 12) (f := fun j => .int (([15, 1, 1, 1, 1, 4095, 63, 31, 511, 511, 1023, 31] : List Int32).getD j 0)) (A := fun q : Nat => s.heap.size ≤ q) (by decide) (st_hs hgv (k := 28) (by decide +kernel)) (va_eqt (st_hs hgv (k := 29) (by decide +kernel))) (fun j hj => by
    rcases (by omega : j = 0 ∨ j = 1 ∨ j = 2 ∨ j = 3 ∨ j = 4 ∨ j = 5 ∨ j = 6 ∨ j = 7 ∨ j = 8 ∨ j = 9 ∨ j = 10 ∨ j = 11) with rfl | rfl | rfl | rfl | rfl | rfl | rfl | rfl | rfl | rfl | rfl | rfl
    · exact va_eqt (st_hs hgv (k := 30) (by decide +kernel))
    · exact va_eqt (st_hs hgv (k := 31) (by decide +kernel))
    · exact va_eqt (st_hs hgv (k := 32) (by decide +kernel))
    · exact va_eqt (st_hs hgv (k := 33) (by decide +kernel))
    · exact va_eqt (st_hs hgv (k := 34) (by decide +kernel))
    · exact va_eqt (st_hs hgv (k := 35) (by decide +kernel))
    · exact va_eqt (st_hs hgv (k := 36) (by decide +kernel))
    · exact va_eqt (st_hs hgv (k := 37) (by decide +kernel))
    · exact va_eqt (st_hs hgv (k := 38) (by decide +kernel))
    · exact va_eqt (st_hs hgv (k := 39) (by decide +kernel))
    · exact va_eqt (st_hs hgv (k := 40) (by decide +kernel))
    · exact va_eqt (st_hs hgv (k := 41) (by decide +kernel))) hB
  have z2 := va_Zof (A := fun q : Nat => s.heap.size ≤ q) (ht (k := 498) (by decide +kernel)) (ht (k := 20) (by decide +kernel)) e2 hB
  obtain ⟨s3, e3, v3⟩ := va_Tof (args := #[Value.ref b]) (s := s) (tm := (.static "TensorForge$Words" "NAMED" "[I")) (ty := .int) (N := 10) (f := fun j => .int (([0, 1504, 1504, 448, 1504, 4032, 3008, 3008, 1504, 2048] : List Int32).getD j 0)) (A := fun q : Nat => s.heap.size ≤ q) (by decide) (st_hs hgv (k := 43) (by decide +kernel)) (va_eqt (st_hs hgv (k := 44) (by decide +kernel))) (fun j hj => by
    rcases (by omega : j = 0 ∨ j = 1 ∨ j = 2 ∨ j = 3 ∨ j = 4 ∨ j = 5 ∨ j = 6 ∨ j = 7 ∨ j = 8 ∨ j = 9) with rfl | rfl | rfl | rfl | rfl | rfl | rfl | rfl | rfl | rfl
    · exact va_eqt (st_hs hgv (k := 45) (by decide +kernel))
    · exact va_eqt (st_hs hgv (k := 46) (by decide +kernel))
    · exact va_eqt (st_hs hgv (k := 47) (by decide +kernel))
    · exact va_eqt (st_hs hgv (k := 48) (by decide +kernel))
    · exact va_eqt (st_hs hgv (k := 49) (by decide +kernel))
    · exact va_eqt (st_hs hgv (k := 50) (by decide +kernel))
    · exact va_eqt (st_hs hgv (k := 51) (by decide +kernel))
    · exact va_eqt (st_hs hgv (k := 52) (by decide +kernel))
    · exact va_eqt (st_hs hgv (k := 53) (by decide +kernel))
    · exact va_eqt (st_hs hgv (k := 54) (by decide +kernel))) hB
  have z3 := va_Zof (A := fun q : Nat => s.heap.size ≤ q) (ht (k := 503) (by decide +kernel)) (ht (k := 20) (by decide +kernel)) e3 hB
  obtain ⟨adK, adV, hS, hE⟩ := st_strings hgv hB
  have zF := va_Zqof (A := fun q : Nat => s.heap.size ≤ q) (ht (k := 623) (w := (Jvm.Cond.laysStatic "jdk/internal/util/Preconditions" "SIOOBE_FORMATTER" "Ljava/util/function/BiFunction;")) (by decide +kernel)) (ht (k := 23) (w := (Jvm.Cond.initialized "jdk/internal/util/Preconditions")) (by decide +kernel)) (st_hs hgv (k := 56) (w := (Jvm.Cond.isRef (Jvm.Term.static "jdk/internal/util/Preconditions" "SIOOBE_FORMATTER" "Ljava/util/function/BiFunction;"))) (by decide +kernel)) hB
  have zU := va_Zqof (A := fun q : Nat => s.heap.size ≤ q) (ht (k := 1075) (w := (Jvm.Cond.laysStatic "java/lang/Throwable" "UNASSIGNED_STACK" "[Ljava/lang/StackTraceElement;")) (by decide +kernel)) (ht (k := 13) (w := (Jvm.Cond.initialized "java/lang/Throwable")) (by decide +kernel)) (st_hs hgv (k := 60) (w := (Jvm.Cond.isRef (Jvm.Term.static "java/lang/Throwable" "UNASSIGNED_STACK" "[Ljava/lang/StackTraceElement;"))) (by decide +kernel)) hB
  have zS := va_Zqof (A := fun q : Nat => s.heap.size ≤ q) (ht (k := 1077) (w := (Jvm.Cond.laysStatic "java/lang/Throwable" "SUPPRESSED_SENTINEL" "Ljava/util/List;")) (by decide +kernel)) (ht (k := 13) (w := (Jvm.Cond.initialized "java/lang/Throwable")) (by decide +kernel)) (st_hs hgv (k := 61) (w := (Jvm.Cond.isRef (Jvm.Term.static "java/lang/Throwable" "SUPPRESSED_SENTINEL" "Ljava/util/List;"))) (by decide +kernel)) hB
  have zC := va_Zof (A := fun q : Nat => s.heap.size ≤ q) (ht (k := 607) (w := (Jvm.Cond.laysStatic "java/lang/String" "COMPACT_STRINGS" "Z")) (by decide +kernel)) (ht (k := 21) (w := (Jvm.Cond.initialized "java/lang/String")) (by decide +kernel)) (va_eqt (st_hs hgv (k := 55) (w := (Jvm.Cond.eq (Jvm.Term.static "java/lang/String" "COMPACT_STRINGS" "Z") (Jvm.Term.int (1 : Int32)))) (by decide +kernel))) hB
  obtain ⟨f, hf⟩ : ∃ f : Nat, va_Z "jdk/internal/util/Preconditions" "SIOOBE_FORMATTER" "Ljava/util/function/BiFunction;" .null (fun q : Nat => s.heap.size ≤ q) s s.heap ∨ va_Z "jdk/internal/util/Preconditions" "SIOOBE_FORMATTER" "Ljava/util/function/BiFunction;" (.ref f) (fun q : Nat => s.heap.size ≤ q) s s.heap := by
    rcases zF with h | ⟨t, h⟩
    · exact ⟨0, Or.inl h⟩
    · exact ⟨t, Or.inr h⟩
  refine ⟨((dC, dI), fun k => [t0, t1, t2, t3, t4, t5, t6].getD k t0, s.heap.size, st_ad (fun i => [s0, s1, s2, s3].getD i 0) adK adV L b f xs), ⟨⟨hK, ?_⟩, ?_, ⟨?_, zU, zS, ?_⟩, ?_, ?_, zC, hf, st_Ls (ht (k := 1075) (w := (Jvm.Cond.laysStatic "java/lang/Throwable" "UNASSIGNED_STACK" "[Ljava/lang/StackTraceElement;")) (by decide +kernel)) hB, st_Ls (ht (k := 1077) (w := (Jvm.Cond.laysStatic "java/lang/Throwable" "SUPPRESSED_SENTINEL" "Ljava/util/List;")) (by decide +kernel)) hB, ?_, va_AO.of (ht (k := 43) (by decide +kernel)), va_AO.of (ht (k := 237) (by decide +kernel))⟩, rfl, rfl, rfl⟩
  · intro k q hq
    match k, hq with
    | 0, hq => cases hq; exact ⟨a0, r0⟩
    | 1, hq => cases hq; exact ⟨a1, r1⟩
    | 2, hq => cases hq; exact ⟨a2, r2⟩
    | 3, hq => cases hq; exact ⟨a3, r3⟩
    | 4, hq => cases hq; exact ⟨a4, r4⟩
    | 5, hq => cases hq; exact ⟨a5, r5⟩
    | 6, hq => cases hq; exact ⟨a6, r6⟩
    | k + 7, hq => simp [mm_tys, mm_ty] at hq
  · intro i q hq
    match i, hq with
    | 0, hq => cases hq; exact ⟨z0, v0⟩
    | 1, hq => cases hq; exact ⟨z1, v1⟩
    | 2, hq => cases hq; exact ⟨z2, v2⟩
    | 3, hq => cases hq; exact ⟨z3, v3⟩
    | i + 4, hq => simp [mm_sta] at hq
  · intro w hw
    simp only [mm_nw, List.mem_cons, List.not_mem_nil, or_false] at hw
    rcases hw with rfl | rfl | rfl | rfl | rfl | rfl | rfl | rfl | rfl | rfl
    · exact va_tabs (A := #[Value.ref b]) rfl rfl (ht (k := 1050) (by decide +kernel))
    · exact va_tabs (A := #[Value.ref b]) rfl rfl (ht (k := 1051) (by decide +kernel))
    · exact va_tabs (A := #[Value.ref b]) rfl rfl (ht (k := 1052) (by decide +kernel))
    · exact va_tabs (A := #[Value.ref b]) rfl rfl (ht (k := 1053) (by decide +kernel))
    · exact va_tabs (A := #[Value.ref b]) rfl rfl (ht (k := 1054) (by decide +kernel))
    · exact va_tabs (A := #[Value.ref b]) rfl rfl (ht (k := 1055) (by decide +kernel))
    · exact va_tabs (A := #[Value.ref b]) rfl rfl (ht (k := 1056) (by decide +kernel))
    · exact va_tabs (A := #[Value.ref b]) rfl rfl (ht (k := 1135) (by decide +kernel))
    · exact va_tabs (A := #[Value.ref b]) rfl rfl (ht (k := 1178) (by decide +kernel))
    · exact va_tabs (A := #[Value.ref b]) rfl rfl (ht (k := 1326) (by decide +kernel))
  · intro a b1 ha hb hab
    rcases (by omega : a = 0 ∨ a = 1 ∨ a = 2 ∨ a = 3) with rfl | rfl | rfl | rfl <;> rcases (by omega : b1 = 0 ∨ b1 = 1 ∨ b1 = 2 ∨ b1 = 3) with rfl | rfl | rfl | rfl
    · exact absurd rfl hab
    · exact va_Nc.of (st_hs hgv (k := 89) (by decide +kernel))
    · exact va_Nc.of (st_hs hgv (k := 104) (by decide +kernel))
    · exact va_Nc.of (st_hs hgv (k := 119) (by decide +kernel))
    · exact va_Nc.of (st_hs hgv (k := 74) (by decide +kernel))
    · exact absurd rfl hab
    · exact va_Nc.of (st_hs hgv (k := 105) (by decide +kernel))
    · exact va_Nc.of (st_hs hgv (k := 120) (by decide +kernel))
    · exact va_Nc.of (st_hs hgv (k := 75) (by decide +kernel))
    · exact va_Nc.of (st_hs hgv (k := 90) (by decide +kernel))
    · exact absurd rfl hab
    · exact va_Nc.of (st_hs hgv (k := 121) (by decide +kernel))
    · exact va_Nc.of (st_hs hgv (k := 76) (by decide +kernel))
    · exact va_Nc.of (st_hs hgv (k := 91) (by decide +kernel))
    · exact va_Nc.of (st_hs hgv (k := 106) (by decide +kernel))
    · exact absurd rfl hab
  · intro q hq
    simp only [mm_strs, List.mem_cons, List.not_mem_nil, or_false] at hq
    rcases hq with rfl | rfl | rfl | rfl | rfl | rfl | rfl | rfl | rfl | rfl | rfl | rfl | rfl | rfl | rfl | rfl | rfl | rfl | rfl | rfl | rfl | rfl | rfl | rfl | rfl | rfl | rfl | rfl | rfl | rfl | rfl | rfl | rfl | rfl | rfl | rfl | rfl | rfl | rfl | rfl | rfl | rfl | rfl | rfl | rfl | rfl | rfl | rfl | rfl | rfl | rfl | rfl | rfl | rfl | rfl | rfl | rfl | rfl | rfl | rfl | rfl | rfl | rfl | rfl | rfl | rfl | rfl | rfl | rfl | rfl | rfl | rfl | rfl | rfl | rfl | rfl | rfl | rfl
    · exact vk_R.of (ht (k := 584) (by decide +kernel)) (hE 0 (by decide))
    · exact vk_R.of (ht (k := 585) (by decide +kernel)) (hE 1 (by decide))
    · exact vk_R.of (ht (k := 586) (by decide +kernel)) (hE 2 (by decide))
    · exact vk_R.of (ht (k := 587) (by decide +kernel)) (hE 3 (by decide))
    · exact vk_R.of (ht (k := 588) (by decide +kernel)) (hE 4 (by decide))
    · exact vk_R.of (ht (k := 589) (by decide +kernel)) (hE 5 (by decide))
    · exact vk_R.of (ht (k := 590) (by decide +kernel)) (hE 6 (by decide))
    · exact vk_R.of (ht (k := 591) (by decide +kernel)) (hE 7 (by decide))
    · exact vk_R.of (ht (k := 592) (by decide +kernel)) (hE 8 (by decide))
    · exact vk_R.of (ht (k := 593) (by decide +kernel)) (hE 9 (by decide))
    · exact vk_R.of (ht (k := 653) (by decide +kernel)) (hE 10 (by decide))
    · exact vk_R.of (ht (k := 670) (by decide +kernel)) (hE 11 (by decide))
    · exact vk_R.of (ht (k := 671) (by decide +kernel)) (hE 12 (by decide))
    · exact vk_R.of (ht (k := 677) (by decide +kernel)) (hE 13 (by decide))
    · exact vk_R.of (ht (k := 678) (by decide +kernel)) (hE 14 (by decide))
    · exact vk_R.of (ht (k := 679) (by decide +kernel)) (hE 15 (by decide))
    · exact vk_R.of (ht (k := 680) (by decide +kernel)) (hE 16 (by decide))
    · exact vk_R.of (ht (k := 681) (by decide +kernel)) (hE 17 (by decide))
    · exact vk_R.of (ht (k := 686) (by decide +kernel)) (hE 18 (by decide))
    · exact vk_R.of (ht (k := 687) (by decide +kernel)) (hE 19 (by decide))
    · exact vk_R.of (ht (k := 688) (by decide +kernel)) (hE 20 (by decide))
    · exact vk_R.of (ht (k := 924) (by decide +kernel)) (hE 21 (by decide))
    · exact vk_R.of (ht (k := 926) (by decide +kernel)) (hE 22 (by decide))
    · exact vk_R.of (ht (k := 927) (by decide +kernel)) (hE 23 (by decide))
    · exact vk_R.of (ht (k := 953) (by decide +kernel)) (st_eqS (st_hs hgv (k := 318) (by decide +kernel)) (hE 11 (by decide)))
    · exact vk_R.of (ht (k := 954) (by decide +kernel)) (hE 24 (by decide))
    · exact vk_R.of (ht (k := 955) (by decide +kernel)) (st_eqS (st_hs hgv (k := 336) (by decide +kernel)) (hE 10 (by decide)))
    · exact vk_R.of (ht (k := 956) (by decide +kernel)) (st_eqS (st_hs hgv (k := 345) (by decide +kernel)) (hE 15 (by decide)))
    · exact vk_R.of (ht (k := 957) (by decide +kernel)) (hE 25 (by decide))
    · exact vk_R.of (ht (k := 958) (by decide +kernel)) (hE 26 (by decide))
    · exact vk_R.of (ht (k := 959) (by decide +kernel)) (hE 27 (by decide))
    · exact vk_R.of (ht (k := 960) (by decide +kernel)) (hE 28 (by decide))
    · exact vk_R.of (ht (k := 977) (by decide +kernel)) (hE 29 (by decide))
    · exact vk_R.of (ht (k := 978) (by decide +kernel)) (st_eqS (st_hs hgv (k := 391) (by decide +kernel)) (hE 12 (by decide)))
    · exact vk_R.of (ht (k := 1090) (by decide +kernel)) (hE 30 (by decide))
    · exact vk_R.of (ht (k := 1142) (by decide +kernel)) (hE 31 (by decide))
    · exact vk_R.of (ht (k := 1160) (by decide +kernel)) (hE 32 (by decide))
    · exact vk_R.of (ht (k := 1162) (by decide +kernel)) (hE 33 (by decide))
    · exact vk_R.of (ht (k := 1175) (by decide +kernel)) (hE 34 (by decide))
    · exact vk_R.of (ht (k := 1185) (by decide +kernel)) (hE 35 (by decide))
    · exact vk_R.of (ht (k := 1199) (by decide +kernel)) (hE 36 (by decide))
    · exact vk_R.of (ht (k := 1214) (by decide +kernel)) (hE 37 (by decide))
    · exact vk_R.of (ht (k := 1226) (by decide +kernel)) (hE 38 (by decide))
    · exact vk_R.of (ht (k := 1231) (by decide +kernel)) (hE 39 (by decide))
    · exact vk_R.of (ht (k := 1243) (by decide +kernel)) (hE 40 (by decide))
    · exact vk_R.of (ht (k := 1251) (by decide +kernel)) (hE 41 (by decide))
    · exact vk_R.of (ht (k := 1268) (by decide +kernel)) (st_eqS (st_hs hgv (k := 743) (by decide +kernel)) (hE 10 (by decide)))
    · exact vk_R.of (ht (k := 1282) (by decide +kernel)) (st_eqS (st_hs hgv (k := 751) (by decide +kernel)) (hE 11 (by decide)))
    · exact vk_R.of (ht (k := 1287) (by decide +kernel)) (st_eqS (st_hs hgv (k := 758) (by decide +kernel)) (hE 12 (by decide)))
    · exact vk_R.of (ht (k := 1288) (by decide +kernel)) (st_eqS (st_hs hgv (k := 765) (by decide +kernel)) (hE 13 (by decide)))
    · exact vk_R.of (ht (k := 1289) (by decide +kernel)) (st_eqS (st_hs hgv (k := 771) (by decide +kernel)) (hE 14 (by decide)))
    · exact vk_R.of (ht (k := 1290) (by decide +kernel)) (st_eqS (st_hs hgv (k := 780) (by decide +kernel)) (hE 15 (by decide)))
    · exact vk_R.of (ht (k := 1291) (by decide +kernel)) (st_eqS (st_hs hgv (k := 787) (by decide +kernel)) (hE 16 (by decide)))
    · exact vk_R.of (ht (k := 1292) (by decide +kernel)) (hE 42 (by decide))
    · exact vk_R.of (ht (k := 1297) (by decide +kernel)) (hE 43 (by decide))
    · exact vk_R.of (ht (k := 1298) (by decide +kernel)) (hE 44 (by decide))
    · exact vk_R.of (ht (k := 1299) (by decide +kernel)) (hE 45 (by decide))
    · exact vk_R.of (ht (k := 1311) (by decide +kernel)) (hE 46 (by decide))
    · exact vk_R.of (ht (k := 1333) (by decide +kernel)) (hE 47 (by decide))
    · exact vk_R.of (ht (k := 1340) (by decide +kernel)) (hE 48 (by decide))
    · exact vk_R.of (ht (k := 1341) (by decide +kernel)) (hE 49 (by decide))
    · exact vk_R.of (ht (k := 1351) (by decide +kernel)) (hE 50 (by decide))
    · exact vk_R.of (ht (k := 1372) (by decide +kernel)) (hE 51 (by decide))
    · exact vk_R.of (ht (k := 1373) (by decide +kernel)) (hE 52 (by decide))
    · exact vk_R.of (ht (k := 1374) (by decide +kernel)) (hE 53 (by decide))
    · exact vk_R.of (ht (k := 1397) (by decide +kernel)) (hE 54 (by decide))
    · exact vk_R.of (ht (k := 1480) (by decide +kernel)) (hE 55 (by decide))
    · exact vk_R.of (ht (k := 1488) (by decide +kernel)) (hE 56 (by decide))
    · exact vk_R.of (ht (k := 1493) (by decide +kernel)) (st_eqS (st_hs hgv (k := 1209) (by decide +kernel)) (hE 21 (by decide)))
    · exact vk_R.of (ht (k := 1494) (by decide +kernel)) (st_eqS (st_hs hgv (k := 1221) (by decide +kernel)) (hE 24 (by decide)))
    · exact vk_R.of (ht (k := 1495) (by decide +kernel)) (st_eqS (st_hs hgv (k := 1230) (by decide +kernel)) (hE 22 (by decide)))
    · exact vk_R.of (ht (k := 1496) (by decide +kernel)) (st_eqS (st_hs hgv (k := 1238) (by decide +kernel)) (hE 23 (by decide)))
    · exact vk_R.of (ht (k := 1497) (by decide +kernel)) (st_eqS (st_hs hgv (k := 1248) (by decide +kernel)) (hE 29 (by decide)))
    · exact vk_R.of (ht (k := 1502) (by decide +kernel)) (st_eqS (st_hs hgv (k := 1257) (by decide +kernel)) (hE 25 (by decide)))
    · exact vk_R.of (ht (k := 1503) (by decide +kernel)) (st_eqS (st_hs hgv (k := 1267) (by decide +kernel)) (hE 26 (by decide)))
    · exact vk_R.of (ht (k := 1504) (by decide +kernel)) (st_eqS (st_hs hgv (k := 1276) (by decide +kernel)) (hE 27 (by decide)))
    · exact vk_R.of (ht (k := 1528) (by decide +kernel)) (hE 57 (by decide))
    · exact vk_R.of (ht (k := 1545) (by decide +kernel)) (hE 58 (by decide))
  · refine ⟨fun i hi => ?_, fun i j hi hj he => ?_⟩
    · have hi2 : i < 59 := hi
      have e1 : st_ad (fun i => [s0, s1, s2, s3].getD i 0) adK adV L b f xs (100 + i) = adK i := by
        unfold st_ad
        rw [if_neg (by omega), if_pos (by omega), show 100 + i - 100 = i by omega]
      have e2 : st_ad (fun i => [s0, s1, s2, s3].getD i 0) adK adV L b f xs (500 + i) = adV i := by
        unfold st_ad
        rw [if_neg (by omega), if_neg (by omega), if_pos (by omega), show 500 + i - 500 = i by omega]
      have h9 := hS.1 i hi2
      show va_O "java/lang/String" (st_ad (fun i => [s0, s1, s2, s3].getD i 0) adK adV L b f xs (100 + i)) _ s s.heap ∧ va_OF "java/lang/String" "coder" "B" (.int 0) (st_ad (fun i => [s0, s1, s2, s3].getD i 0) adK adV L b f xs (100 + i)) _ s s.heap ∧ va_OF "java/lang/String" "value" "[B" (.ref (st_ad (fun i => [s0, s1, s2, s3].getD i 0) adK adV L b f xs (500 + i))) (st_ad (fun i => [s0, s1, s2, s3].getD i 0) adK adV L b f xs (100 + i)) _ s s.heap ∧ va_T .byte (st_ad (fun i => [s0, s1, s2, s3].getD i 0) adK adV L b f xs (500 + i)) _ _ _ s s.heap
      rw [e1, e2]
      exact h9
    · have hi2 : i < 59 := hi
      have hj2 : j < 59 := hj
      have e1 : ∀ i, i < 59 → st_ad (fun i => [s0, s1, s2, s3].getD i 0) adK adV L b f xs (100 + i) = adK i := fun i h => by
        unfold st_ad
        rw [if_neg (by omega), if_pos (by omega), show 100 + i - 100 = i by omega]
      exact hS.2 i j hi2 hj2 ((e1 i hi2).symm.trans ((show st_ad (fun i => [s0, s1, s2, s3].getD i 0) adK adV L b f xs (100 + i) = st_ad (fun i => [s0, s1, s2, s3].getD i 0) adK adV L b f xs (100 + j) from he).trans (e1 j hj2)))
  · obtain ⟨scr, h1, h2, h3, h4, h5⟩ := hX
    refine ⟨scr, h1, h2, h3, Nat.le_of_eq h4.symm, ?_, fun j hj => ?_, hB b hbl⟩
    · rw [h4]; rfl
    · rw [h5 j hj]
      have e1 : st_ad (fun i => [s0, s1, s2, s3].getD i 0) adK adV L b f xs (2000 + j) = (xs j).toUInt32.toNat := by
        unfold st_ad
        rw [if_neg (by omega), if_neg (by omega), if_neg (by omega), if_neg (by omega), if_neg (by omega), if_neg (by omega), show 2000 + j - 2000 = j by omega]
      show some (Value.int (xs j)) = some (Value.int (Int32.ofNat (st_ad (fun i => [s0, s1, s2, s3].getD i 0) adK adV L b f xs (2000 + j))))
      rw [e1, st_int]
