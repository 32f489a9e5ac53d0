/-! Constructors: cells made one after another, what is in its range already. -/
section ZCT
variable {g : mm_G} {l : Launch} {Y : mm_Y} {rm : Room} {Q : mm_O → Prop} {pc pc1 : Nat} {ls : List (Option Value)} {st : List Value} {M : mm_M} {S : zz_S} {n k j : Nat}
theorem zz_putrF {a kf index ci kd x : Nat} {ks : List Nat} {ty : FieldType} (z : Int) (hd : zz_D Y pc (.putfield index) 3 pc1) (hF : mm_Fl Y.1.cls index ci kf ty true) (hT : zz_T a = some (.inl (ci, ks))) (hk : ks[kf]? = some (kd + 2)) (hn : a < n) (h0 : 0 ≤ z) (hx : zz_rf (kd + 2) z = x) (hna : ∀ v, narrow ty (.ref v) = .ref v) (hfi : ∀ v, fits ty (.ref v) = true) (hin : Y.1.name = "<init>") (hcl : ∀ q : vw_C, mm_cl[ci]? = some q → q.1 = Y.1.cls) (kk : ∀ S1 : zz_S, S1 = zz_st S a kf z → zz_E g l Y rm Q S1 n pc1 ls st k j) : zz_E g l Y rm Q S n pc ls (.ref x :: .ref a :: st) k j := by
  refine mm_putF hd.1 hF (zz_M_at hn hT) (by rw [zz_fs_len]; exact (List.getElem?_eq_some_iff.mp hk).1) (hna _) (hfi _) hin hcl (fun M1 e => zz_rw hd.2 ?_)
  have h := kk _ rfl
  unfold zz_E at h
  rw [zz_M_st hn hT] at h
  rw [e]
  simp only [zz_en, zz_fs_set hk, zz_fv, if_neg (Int.not_lt.mpr h0), hx] at h
  exact h
theorem mm_anewb {index t N : Nat} {C : String} {z : Int32} (f : Nat → Option Nat) (hf : ∀ i, i < N → f i = none) (hd : decode Y.2.1 pc = .ok (.anewarray index, 3)) (ht : mm_ty[t]? = some (.object C)) (hl : Cond.classLink Y.1.cls index C ∈ mm_tb) (ho : ∀ g : mm_G, ∀ U H, mm_I g U H → va_AO C U) (hn : ¬ z < 0) (hN : z.toNatClampNeg = N) (hbytes : N * 4 ≤ 536870912) (hcells : k + 1 ≤ rm.cells) (hslots : j + N ≤ rm.slots)
    (kk : ∀ M1 : mm_M, M1 = mm_up M n (.inl (t, N, .inr (.inr (.inr (.inr f))))) → mm_Ev g l Y rm Q (pc + 3) ls (.ref n :: st) M1 (n + 1) (k + 1) (j + N)) : mm_Ev g l Y rm Q pc ls (.int z :: st) M n k j := by
  intro p e s m args below meth c H locs lsM hC hH hS hL
  obtain ⟨hx, hb, -, -, hown, hts, -, -, hI, hbs⟩ := id hC
  subst hN
  refine W.anew hx hb hown (hts _ hl) (ho g s s.heap hI).use rfl hd rfl hn hbytes hcells hslots fun cA kA comp f1 f2 f3 f4 => ?_
  generalize hH1 : H.push ({ cls := cA, slots := Array.replicate z.toNatClampNeg .null, vm := .none } : Cell) = H1
  have z1 : H1.size = H.size + 1 := by rw [← hH1, Array.size_push]
  have e1 : H1[H.size]? = some (arrV cA z.toNatClampNeg (fun _ => .null)) := by rw [← hH1, Array.getElem?_push_size, ← arrV_new]
  have o1 : ∀ q : Nat, q < H.size → H1[q]? = H[q]? := fun q hq => by rw [← hH1, Array.getElem?_push, if_neg (Nat.ne_of_lt hq)]
  have hend := hH.end
  obtain ⟨kA2, comp2, k1, k2, k3, k4⟩ := (hI.1.2 t _ (mm_tys_at ht)).2
  have hcA : g.2.1 t = cA := Option.some.inj (k4.symm.trans f1)
  have h9 := kk _ rfl p e s m args below meth c H1 locs lsM hC (hH.push z1 o1 (by
    rw [hend]
    show H1[H.size]? = some (vp_cell (g.2.1 t) (z.toNatClampNeg, .inr (.inr (.inr (.inr (fun i => (f i).map (mm_ad g)))))))
    rw [hcA, e1, vp_cell_q]
    congr 1
    unfold arrV
    congr 1
    congr 1
    funext q
    show Value.null = va_rf (Option.map (mm_ad g) (f q.val))
    rw [hf q.val q.isLt]
    rfl)) ⟨Nat.le_trans hS.1 (by omega), fun q h1 h2 => (o1 q (Nat.lt_of_lt_of_le h1 hS.1)).trans (hS.2.1 q h1 h2), hS.2.2⟩ hL
  have e9 : mm_tr g (.ref n) = .ref H.size := by show Value.ref (mm_ad g n) = _; rw [hend]
  rw [List.map_cons, e9] at h9
  exact h9
theorem zz_anewb {index t N kd : Nat} {C : String} {z : Int} (f : Nat → Int) (hd : zz_D Y pc (.anewarray index) 3 pc1) (hT : zz_T n = some (.inr (t, N, kd + 2))) (ht : mm_ty[t]? = some (.object C)) (hl : Cond.classLink Y.1.cls index C ∈ mm_tb) (ho : ∀ g : mm_G, ∀ U H, mm_I g U H → va_AO C U) (hz : z = (N : Int)) (hN : N ≤ 100000000) (hf : ∀ i, i < N → f i < 0) (hcells : k + 1 ≤ rm.cells) (hslots : j + N ≤ rm.slots) (kk : ∀ S1 : zz_S, S1 = zz_nw S n f → zz_E g l Y rm Q S1 (n + 1) pc1 ls (.ref n :: st) (k + 1) (j + N)) : zz_E g l Y rm Q S n pc ls (zi z :: st) k j := by
  subst hz
  refine mm_anewb (fun i => if f i < 0 then none else some (zz_rf (kd + 2) (f i))) (fun i hi => if_pos (hf i hi)) hd.1 ht hl ho (fun h => ?_) (N := N) ?_ (by omega) hcells hslots (fun M1 e => zz_rw hd.2 ?_)
  · rw [Int32.lt_iff_toInt_lt, zz_t32 (by omega)] at h
    have : (0 : Int32).toInt = 0 := by decide
    omega
  · rw [← Int32.toNat_toInt, zz_t32 (by omega)]
    omega
  · have h := kk _ rfl
    unfold zz_E at h
    rw [zz_M_nw hT] at h
    rw [e]
    exact h
theorem mm_objI {index a : Nat} (hd : decode Y.2.1 pc = .ok (.invokespecial index, 3)) (hl : Cond.methodLink Y.1.cls index Lib.objectInit ∈ mm_tb) (hi : Cond.instanceMethod Lib.objectInit ∈ mm_tb) (hc : Cond.code Lib.objectInit ⟨#[0xb1]⟩ 1 none ∈ mm_tb) (hf : 1 ≤ rm.frames) (hloc : (st.map fun v => v.category).sum + 12 ≤ rm.locals) (kk : mm_Ev g l Y rm Q (pc + 3) ls st M n k j) : mm_Ev g l Y rm Q pc ls (.ref a :: st) M n k j := by
  intro p e s m args below meth c H locs lsM hC hH hS hL
  obtain ⟨hx, hb, hml, -, hown, hts, -, -, hI, hbs⟩ := id hC
  exact W.objInit hx hb hown (hts _ hl) (hts _ hi) (hts _ hc) (g := F0 m pc lsM (.ref (mm_ad g a) :: st.map (mm_tr g))) rfl (by rw [hml]; exact hL.1) rfl hd hf (by rw [mm_cat_sum]; show 2 * 0 + _ + 12 ≤ _; omega) (kk p e s m args below meth c H locs lsM hC hH hS hL)
theorem zz_objI {index a : Nat} (hd : zz_D Y pc (.invokespecial index) 3 pc1) (hl : Cond.methodLink Y.1.cls index Lib.objectInit ∈ mm_tb) (hi : Cond.instanceMethod Lib.objectInit ∈ mm_tb) (hc : Cond.code Lib.objectInit ⟨#[0xb1]⟩ 1 none ∈ mm_tb) (hf : 1 ≤ rm.frames) (hloc : (st.map fun v => v.category).sum + 12 ≤ rm.locals) (kk : zz_E g l Y rm Q S n pc1 ls st k j) : zz_E g l Y rm Q S n pc ls (.ref a :: st) k j := mm_objI hd.1 hl hi hc hf hloc (zz_rw hd.2 kk)
theorem zz_callN {Z : mm_Y} {rz : Room} {P : zz_S → Prop} {a index np n1 : Nat} {stk : List Value} (as : List Value) (hd : zz_D Y pc (.invokespecial index) 3 pc1) (hZ : mm_Il Y.1.cls index np Z) (hst : stk = as.reverse ++ .ref a :: st) (hlen : as.length = np) (hroom : rz.frames + 1 ≤ rm.frames ∧ (st.map fun v => v.category).sum + (Z.2.2.1 + 11) + rz.locals ≤ rm.locals) (hk : k + rz.cells ≤ rm.cells) (hj : j + rz.slots ≤ rm.slots) (hM : mm_Met g l Z rz (.ref a :: as) (zz_M S n) n (zz_QV n1 P)) (kr : ∀ (S1 : zz_S), P S1 → zz_E g l Y rm Q S1 n1 pc1 ls (st) (k + rz.cells) (j + rz.slots)) : zz_E g l Y rm Q S n pc ls stk k j := by
  subst hst
  refine mm_callI hd.1 hZ hM hlen hroom hk hj (fun v M1 n1 hQ => ?_) (fun i M1 n1 hQ => ?_)
  · obtain ⟨S1, e, hP⟩ := hQ
    cases e
    exact zz_rw hd.2 (kr S1 hP)
  · obtain ⟨S1, e, hP⟩ := hQ
    cases e
theorem zz_setn {n1 k1 j1 : Nat} (hn : n = n1) (hk : k = k1) (hj : j = j1) (h : zz_E g l Y rm Q S n1 pc ls st k1 j1) : zz_E g l Y rm Q S n pc ls st k j := by
  subst hn; subst hk; subst hj; exact h
end ZCT
theorem zz_nwo {S S1 : zz_S} {n a i : Nat} {f : Nat → Int} {v : Int} (e : S1 = zz_nw S n f) (h : a ≠ n) (hv : S a i = v) : S1 a i = v := by rw [e, zz_nw_n h, hv]
theorem zz_fr.nw {sl : List (Nat × Nat)} {cl : List Nat} {V : Nat → Nat → Prop} {S0 S S1 : zz_S} {n : Nat} {f : Nat → Int} (h : zz_fr sl cl V S0 S) (e : S1 = zz_nw S n f) (hm : cl.contains n = true) : zz_fr sl cl V S0 S1 := by
  intro a i h1 h2 h3
  have hne : a ≠ n := by rintro rfl; rw [hm] at h2; cases h2
  rw [e, zz_nw_n hne]
  exact h a i h1 h2 h3
/-- cells C are in their ranges, but for the slots X -/
def zz_Gm (C : List Nat) (X : List (Nat × Nat)) (S : zz_S) : Prop := ∀ a i, C.contains a = true → X.contains (a, i) = false → (zz_rg a i).1 ≤ S a i ∧ S a i ≤ (zz_rg a i).2
theorem zz_Gm.put {C : List Nat} {X : List (Nat × Nat)} {S S1 : zz_S} {a i : Nat} {z : Int} (X1 : List (Nat × Nat)) (h : zz_Gm C X S) (e : S1 = zz_st S a i z) (lo hi : Int) (er : zz_rg a i = (lo, hi)) (hz : lo ≤ z ∧ z ≤ hi) (hX : X.all (fun p => p == (a, i) || X1.contains p) = true) : zz_Gm C X1 S1 := by
  intro b q hb hq
  by_cases hp : b = a ∧ q = i
  · obtain ⟨rfl, rfl⟩ := hp
    rw [zz_rs e, er]
    exact hz
  · rw [zz_ro e hp rfl]
    refine h b q hb ?_
    cases hc : X.contains (b, q) with
    | false => rfl
    | true =>
      have h1 := (List.all_eq_true.mp hX) (b, q) (List.contains_iff_mem.mp hc)
      simp only [Bool.or_eq_true, beq_iff_eq, Prod.mk.injEq] at h1
      rcases h1 with h1 | h1
      · exact absurd h1 hp
      · rw [h1] at hq; cases hq
theorem zz_Gm.nwo {C : List Nat} {X : List (Nat × Nat)} {S S1 : zz_S} {n : Nat} {f : Nat → Int} (h : zz_Gm C X S) (e : S1 = zz_nw S n f) (hC : C.contains n = false) : zz_Gm C X S1 := by
  intro b q hb hq
  have hne : b ≠ n := by rintro rfl; rw [hC] at hb; cases hb
  rw [e, zz_nw_n hne]
  exact h b q hb hq
theorem zz_Gm.nwa {C : List Nat} {X : List (Nat × Nat)} {S S1 : zz_S} {n : Nat} {f : Nat → Int} (X1 : List (Nat × Nat)) (h : zz_Gm C X S) (e : S1 = zz_nw S n f) (hX : X.all (fun p => X1.contains p) = true) (hf : ∀ i, X1.contains (n, i) = false → (zz_rg n i).1 ≤ f i ∧ f i ≤ (zz_rg n i).2) : zz_Gm (n :: C) X1 S1 := by
  intro b q hb hq
  by_cases hne : b = n
  · subst hne
    rw [e, zz_nw_s]
    exact hf q hq
  · rw [e, zz_nw_n hne]
    have hb2 : C.contains b = true := by
      rw [List.contains_cons] at hb
      simpa [hne] using hb
    refine h b q hb2 ?_
    cases hc : X.contains (b, q) with
    | false => rfl
    | true =>
      have h1 : X1.contains (b, q) = true := (List.all_eq_true.mp hX) (b, q) (List.contains_iff_mem.mp hc)
      rw [h1] at hq; cases hq
theorem zz_Gm.own {X : List (Nat × Nat)} {S S1 : zz_S} {n : Nat} {f : Nat → Int} (e : S1 = zz_nw S n f) (hf : ∀ i, X.contains (n, i) = false → (zz_rg n i).1 ≤ f i ∧ f i ≤ (zz_rg n i).2) : zz_Gm [n] X S1 := by
  intro b q hb hq
  have hne : b = n := by simpa using hb
  subst hne
  rw [e, zz_nw_s]
  exact hf q hq
theorem zz_Gm.call {C C2 : List Nat} {X X2 : List (Nat × Nat)} {sl : List (Nat × Nat)} {cl : List Nat} {S S1 : zz_S} (X1 : List (Nat × Nat)) (h : zz_Gm C X S) (f : zz_fr sl cl (fun _ _ => False) S S1) (h2 : zz_Gm C2 X2 S1) (hs : sl.all (fun p => C2.contains p.1) = true) (hc : cl.all (fun a => C2.contains a) = true) (hX2 : X2.all (fun p => X1.contains p) = true) (hX : X.all (fun p => C2.contains p.1 || X1.contains p) = true) : zz_Gm (C2 ++ C) X1 S1 := by
  intro b q hb hq
  have nx : ∀ Z : List (Nat × Nat), (∀ p ∈ Z, p = (b, q) → X1.contains p = true) → Z.contains (b, q) = false := by
    intro Z hZ
    cases hz : Z.contains (b, q) with
    | false => rfl
    | true => rw [hZ (b, q) (List.contains_iff_mem.mp hz) rfl] at hq; cases hq
  cases h3 : C2.contains b with
  | true => exact h2 b q h3 (nx X2 (fun p hp _ => (List.all_eq_true.mp hX2) p hp))
  | false =>
    have hb2 : C.contains b = true := by
      rw [List.contains_iff_mem] at hb ⊢
      rcases List.mem_append.mp hb with hm | hm
      · rw [← List.contains_iff_mem, h3] at hm; cases hm
      · exact hm
    have e1 : S1 b q = S b q := by
      refine f b q ?_ ?_ (fun h => h)
      · cases hz : sl.contains (b, q) with
        | false => rfl
        | true =>
          have := (List.all_eq_true.mp hs) (b, q) (List.contains_iff_mem.mp hz)
          simp only at this
          rw [h3] at this; cases this
      · cases hz : cl.contains b with
        | false => rfl
        | true =>
          have := (List.all_eq_true.mp hc) b (List.contains_iff_mem.mp hz)
          rw [h3] at this; cases this
    rw [e1]
    refine h b q hb2 (nx X (fun p hp he => ?_))
    have h4 := (List.all_eq_true.mp hX) p hp
    subst he
    have h5 : (C2.contains b || X1.contains (b, q)) = true := h4
    rw [h3, Bool.false_or] at h5
    exact h5
/-- the default values of an object's slots -/
def zz_ov (l : List Int) (i : Nat) : Int := l.getD i 0
theorem zz_ovG {n : Nat} {X : List (Nat × Nat)} {vs : List Int} {rs : List (Int × Int)} (hr : ∀ i, zz_rg n i = zz_gd rs i) (hl : rs.length = vs.length) (hc : (List.range rs.length).all (fun i => X.contains (n, i) || (decide ((rs.getD i (0, 0)).1 ≤ vs.getD i 0) && decide (vs.getD i 0 ≤ (rs.getD i (0, 0)).2))) = true) : ∀ i, X.contains (n, i) = false → (zz_rg n i).1 ≤ zz_ov vs i ∧ zz_ov vs i ≤ (zz_rg n i).2 := by
  intro i hi
  rw [hr]
  unfold zz_gd zz_ov
  by_cases h : i < rs.length
  · have h1 := (List.all_eq_true.mp hc) i (List.mem_range.mpr h)
    rw [hi] at h1
    simp only [Bool.false_or, Bool.and_eq_true, decide_eq_true_eq] at h1
    have e0 : rs[i]? = some (rs[i]'h) := List.getElem?_eq_getElem h
    simp only [List.getD_eq_getElem?_getD, e0, Option.getD_some] at h1 ⊢
    exact h1
  · have e1 : rs.getD i (-9223372036854775808, 9223372036854775807) = (-9223372036854775808, 9223372036854775807) := by
      rw [List.getD_eq_getElem?_getD, List.getElem?_eq_none (by omega)]; rfl
    have e2 : vs.getD i 0 = 0 := by rw [List.getD_eq_getElem?_getD, List.getElem?_eq_none (by omega)]; rfl
    rw [e1, e2]
    exact ⟨by decide, by decide⟩
theorem zz_Gm.full {C : List Nat} {S : zz_S} (h : zz_Gm C [] S) (hC : (List.range 122).all (fun k => C.contains (k + 1000)) = true) (ho : ∀ a i, 1122 ≤ a → S a i = 0) : zz_G S := by
  intro a i ha
  by_cases hb : a < 1122
  · have h1 := (List.all_eq_true.mp hC) (a - 1000) (List.mem_range.mpr (by omega))
    rw [show a - 1000 + 1000 = a by omega] at h1
    exact h a i h1 rfl
  · rw [ho a i (by omega)]
    have e1 : zz_rg a i = (-9223372036854775808, 9223372036854775807) := by
      unfold zz_rg
      rw [List.getD_eq_getElem?_getD, List.getElem?_eq_none (by have : zz_rt.length = 122 := rfl; omega)]
      rfl
    rw [e1]
    exact ⟨by decide, by decide⟩
theorem zz_Gm.sub {C C1 : List Nat} {X X1 : List (Nat × Nat)} {S : zz_S} (h : zz_Gm C X S) (hC : C1.all (fun a => C.contains a) = true) (hX : X.all (fun p => !C1.contains p.1 || X1.contains p) = true) : zz_Gm C1 X1 S := by
  intro b q hb hq
  refine h b q ((List.all_eq_true.mp hC) b (List.contains_iff_mem.mp hb)) ?_
  cases hc : X.contains (b, q) with
  | false => rfl
  | true =>
    have h1 := (List.all_eq_true.mp hX) (b, q) (List.contains_iff_mem.mp hc)
    simp only [hb] at h1
    rw [hq] at h1
    cases h1
theorem zMs_k6 {sl : List (Nat × Nat)} {i : Nat} {z : Int} (h : 0 ≤ z ∧ z ≤ 23) (e : [1003, 1004, 1005, 1006, 1007, 1008, 1009, 1010, 1011, 1012, 1013, 1014, 1017, 1018, 1019, 1020, 1021, 1022, 1023, 1024, 1025, 1026, 1027, 1028].all (fun a => sl.contains (a, i)) = true) : sl.contains (zz_rf 6 z, i) = true := by
  have h6 := zz_rf6 h
  refine (List.all_eq_true.mp e) (zz_rf 6 z) ?_
  have hm : zz_rf 6 z = 1003 ∨ zz_rf 6 z = 1004 ∨ zz_rf 6 z = 1005 ∨ zz_rf 6 z = 1006 ∨ zz_rf 6 z = 1007 ∨ zz_rf 6 z = 1008 ∨ zz_rf 6 z = 1009 ∨ zz_rf 6 z = 1010 ∨ zz_rf 6 z = 1011 ∨ zz_rf 6 z = 1012 ∨ zz_rf 6 z = 1013 ∨ zz_rf 6 z = 1014 ∨ zz_rf 6 z = 1017 ∨ zz_rf 6 z = 1018 ∨ zz_rf 6 z = 1019 ∨ zz_rf 6 z = 1020 ∨ zz_rf 6 z = 1021 ∨ zz_rf 6 z = 1022 ∨ zz_rf 6 z = 1023 ∨ zz_rf 6 z = 1024 ∨ zz_rf 6 z = 1025 ∨ zz_rf 6 z = 1026 ∨ zz_rf 6 z = 1027 ∨ zz_rf 6 z = 1028 := by omega
  simpa using hm
/-- places of tensors may change -/
theorem zz_Hc.sp {sl : List (Nat × Nat)} {cl : List Nat} {V : Nat → Nat → Prop} {S S1 : zz_S} (f : zz_fr sl cl V S S1) (hs : sl.all (fun p => (Nat.blt p.1 1001 || Nat.blt 1028 p.1) || (p.2 == 13 || p.2 == 14)) = true) (hc : cl.all (fun p => Nat.blt p 1001 || Nat.blt 1028 p) = true) (G : zz_G S) (hv : ∀ a i, V a i → a < 1001 ∨ 1028 < a ∨ i = 13 ∨ i = 14) (h : zz_Hc S) : zz_Hc S1 := by
  have key : ∀ a i, 1001 ≤ a ∧ a ≤ 1028 → i ≠ 13 → i ≠ 14 → S1 a i = S a i := by
    intro a i ha h13 h14
    refine f a i ?_ (zz_out2 hc ha) ?_
    · cases hq : sl.contains (a, i) with
      | false => rfl
      | true =>
        have h1 := (List.all_eq_true.mp hs) (a, i) (List.contains_iff_mem.mp hq)
        simp only [Bool.or_eq_true, Nat.blt_eq, beq_iff_eq] at h1
        omega
    · intro hV
      have := hv a i hV
      omega
  intro p hp k hk hkt
  have hp3 := zz_rf3 hp
  have gp := zz_G.r G (zz_rf 3 p) 1 1 11 (zR_k3_1 hp) (zB_k3 hp)
  rw [key _ 1 (by omega) (by decide) (by decide)] at hkt
  have hk6 := zz_rf6 (z := 12 * p + k) (by omega)
  have hl := h p hp k hk hkt
  unfold zz_ly at hl ⊢
  rw [key _ 0 (by omega) (by decide) (by decide), key _ 3 (by omega) (by decide) (by decide), key _ 4 (by omega) (by decide) (by decide), key _ 12 (by omega) (by decide) (by decide)]
  exact hl
