/-! Rows of the law: throws that are caught, calls of methods with handlers, the script. By program (wip/zz/95.lw.py). -/
def zz_QW (n : Nat) (P : Int → zz_S → Prop) : mm_O → Prop := fun u => ∃ v S1 d, u = (.inl (some (zi v)), zz_M S1 (n + d), n + d) ∧ d ≤ 1 ∧ P v S1
def zz_ln (g : mm_G) : Int := (g.2.2.2 997 : Nat)
def zz_sc (g : mm_G) (i : Nat) : Int := (Int32.ofNat (g.2.2.2 (2000 + i))).toInt
theorem zz_sc_r (g : mm_G) (i : Nat) : -2147483648 ≤ zz_sc g i ∧ zz_sc g i ≤ 2147483647 := ⟨Int32.le_toInt _, Int.le_of_lt_add_one (Int32.toInt_lt _)⟩
section ZL
variable {g : mm_G} {l : Launch} {Y : mm_Y} {rm : Room} {Q : mm_O → Prop} {pc pc1 : Nat} {ls : List (Option Value)} {st : List Value} {M : mm_M} {S : zz_S} {n k j : Nat}
theorem mm_catchW {i hp q : Nat} (L : List ((Nat × Nat × Nat × Nat) × Nat)) (hY : Cond.codeWith Y.1 Y.2.1 Y.2.2.1 Y.2.2.2 (L.map Prod.fst) ∈ mm_tb) (hL : ∀ z ∈ L, Cond.classLink Y.1.cls z.1.2.2.2 (mm_xn z.2) ∈ mm_tb ∧ z.1.2.2.2 ≠ 0 ∧ z.2 < 4) (hi : i < 4) (hpk : mm_pick L pc i = some hp) (hd : decode Y.2.1 hp = .ok (.astore q, 2)) (hq : q < Y.2.2.1)
    (kk : mm_Ev g l Y rm Q (hp + 2) [] [] M n k j) : mm_Tv g l Y rm Q pc ls st M n k j i := by
  intro p e s m args below meth c H locs lsM x hC hH hS hLs hX T hT X
  obtain ⟨hx, hb, hml, -, hown, hts, hlk, hnm, hI, hbs⟩ := id hC
  obtain ⟨t0, ht0, hW0, cell, hce, hob, hcl⟩ := hX
  have hcell : T.heap[x]? = some cell := by rw [hT, ← ht0]; exact hce
  have hcl0 : s.vm.findClass (mm_xn i) = some cell.cls := by rw [← hW0.alike.findClass]; exact hcl
  obtain ⟨m9, meth9, c9, hn9, h1, h2, -, -, h5, -, -, -⟩ := Cond.codeWith_spec (hts _ hY)
  cases hnm.2.symm.trans hn9
  cases X.method.symm.trans h1
  cases X.code.symm.trans h2
  have hpl : e.platform.magicAccessors = ({} : Platform).magicAccessors := by rw [X.admits.platform]
  have hAt : At T (F0 m pc lsM (st.map (mm_tr g))).method c below := X.here
  obtain ⟨vm1, hw1, hf1⟩ := mm_find (e := e) (f := F0 m pc lsM (st.map (mm_tr g))) (x := x) hpl hown hcl0 hob hi hI.2.2.1.2.2.2 hts L c.exceptionTable.toList hp h5 hL hpk ((T.setTop (F0 m pc lsM (st.map (mm_tr g)))).pushFrame (.throwing x)) X.warmed hcell
  have X1 := X.noted hw1
  have hw : W p l e rm s m args below meth c H locs k j (mm_Fin g rm.cells rm.slots below s Q) (F0 m hp lsM [.ref x]) := by
    refine lv_astore hx hb hd hLs.has hq rfl (fun ls2 h9 => ?_)
    exact kk p e s m args below meth c H locs ls2 hC hH hS ⟨h9.1, h9.2.1, fun i v hv => by cases hv⟩
  obtain ⟨t, a1, b1⟩ := hw (T.setVm vm1) hT X1
  refine ⟨t, mm_caughtSteps hAt (fun Q E d acts => ?_) a1, b1⟩
  rw [W.findHandler_eq (meth := meth) (code := c) X.method' X.code]
  exact hf1 Q E d acts
theorem zz_catch {i hp pc2 : Nat} {q : Fin 4} (L : List ((Nat × Nat × Nat × Nat) × Nat)) (hY : Cond.codeWith Y.1 Y.2.1 Y.2.2.1 Y.2.2.2 (L.map Prod.fst) ∈ mm_tb) (hL : ∀ z ∈ L, Cond.classLink Y.1.cls z.1.2.2.2 (mm_xn z.2) ∈ mm_tb ∧ z.1.2.2.2 ≠ 0 ∧ z.2 < 4) (hi : i < 4) (hpk : mm_pick L pc i = some hp) (hd : zz_D Y hp (.astore_n q) 1 pc2) (hq : (q : Nat) < Y.2.2.1) (kk : zz_E g l Y rm Q S n pc2 [] [] k j) : mm_Tv g l Y rm Q pc ls st (zz_M S n) n k j i := mm_catch L hY hL hi hpk hd.1 hq (zz_rw hd.2 kk)
theorem zz_catchW {i hp pc2 q : Nat} (L : List ((Nat × Nat × Nat × Nat) × Nat)) (hY : Cond.codeWith Y.1 Y.2.1 Y.2.2.1 Y.2.2.2 (L.map Prod.fst) ∈ mm_tb) (hL : ∀ z ∈ L, Cond.classLink Y.1.cls z.1.2.2.2 (mm_xn z.2) ∈ mm_tb ∧ z.1.2.2.2 ≠ 0 ∧ z.2 < 4) (hi : i < 4) (hpk : mm_pick L pc i = some hp) (hd : zz_D Y hp (.astore q) 2 pc2) (hq : q < Y.2.2.1) (kk : zz_E g l Y rm Q S n pc2 [] [] k j) : mm_Tv g l Y rm Q pc ls st (zz_M S n) n k j i := mm_catchW L hY hL hi hpk hd.1 hq (zz_rw hd.2 kk)
theorem zz_callVCI {Z : mm_Y} {rz : Room} {P : Int → zz_S → Prop} {X : Nat → zz_S → Prop} {a ci index np : Nat} {ks : List Nat} {stk : List Value} (as : List Value) (hd : zz_D Y pc (.invokevirtual index) 3 pc1) (hZ : mm_Vl Y.1.cls index ci np Z) (hT : zz_T a = some (.inl (ci, ks))) (hn : a < n) (hst : stk = as.reverse ++ .ref a :: st) (hlen : as.length = np) (hroom : rz.frames + 1 ≤ rm.frames ∧ (st.map fun v => v.category).sum + (Z.2.2.1 + 11) + rz.locals ≤ rm.locals) (hk : k + rz.cells ≤ rm.cells) (hj : j + rz.slots ≤ rm.slots) (hM : mm_Met g l Z rz (.ref a :: as) (zz_M S n) n (zz_XI n P X)) (kx : ∀ i S1, X i S1 → mm_Tv g l Y rm Q pc ls st (zz_M S1 (n + 1)) (n + 1) (k + rz.cells) (j + rz.slots) i) (kr : ∀ (v : Int) (S1 : zz_S), P v S1 → zz_E g l Y rm Q S1 n pc1 ls (zi v :: st) (k + rz.cells) (j + rz.slots)) : zz_E g l Y rm Q S n pc ls stk k j := by
  subst hst
  refine mm_callV hd.1 hZ hM (zz_M_at hn hT) hlen hroom hk hj (fun v M1 n1 hQ => ?_) (fun i M1 n1 hQ => ?_)
  · rcases hQ with ⟨v1, S1, e, hP⟩ | ⟨i, S1, e, hX⟩
    · cases e
      exact zz_rw hd.2 (kr v1 S1 hP)
    · cases e
  · rcases hQ with ⟨v1, S1, e, hP⟩ | ⟨i, S1, e, hX⟩
    · cases e
    · cases e
      exact kx _ _ hX
theorem zz_callVCJ {Z : mm_Y} {rz : Room} {P : Int → zz_S → Prop} {X : Nat → zz_S → Prop} {a ci index np : Nat} {ks : List Nat} {stk : List Value} (as : List Value) (hd : zz_D Y pc (.invokevirtual index) 3 pc1) (hZ : mm_Vl Y.1.cls index ci np Z) (hT : zz_T a = some (.inl (ci, ks))) (hn : a < n) (hst : stk = as.reverse ++ .ref a :: st) (hlen : as.length = np) (hroom : rz.frames + 1 ≤ rm.frames ∧ (st.map fun v => v.category).sum + (Z.2.2.1 + 11) + rz.locals ≤ rm.locals) (hk : k + rz.cells ≤ rm.cells) (hj : j + rz.slots ≤ rm.slots) (hM : mm_Met g l Z rz (.ref a :: as) (zz_M S n) n (zz_XJ n P X)) (kx : ∀ i S1, X i S1 → mm_Tv g l Y rm Q pc ls st (zz_M S1 (n + 1)) (n + 1) (k + rz.cells) (j + rz.slots) i) (kr : ∀ (v : Int) (S1 : zz_S), P v S1 → zz_E g l Y rm Q S1 n pc1 ls (zl v :: st) (k + rz.cells) (j + rz.slots)) : zz_E g l Y rm Q S n pc ls stk k j := by
  subst hst
  refine mm_callV hd.1 hZ hM (zz_M_at hn hT) hlen hroom hk hj (fun v M1 n1 hQ => ?_) (fun i M1 n1 hQ => ?_)
  · rcases hQ with ⟨v1, S1, e, hP⟩ | ⟨i, S1, e, hX⟩
    · cases e
      exact zz_rw hd.2 (kr v1 S1 hP)
    · cases e
  · rcases hQ with ⟨v1, S1, e, hP⟩ | ⟨i, S1, e, hX⟩
    · cases e
    · cases e
      exact kx _ _ hX
theorem zz_callVCV {Z : mm_Y} {rz : Room} {P : zz_S → Prop} {X : Nat → zz_S → Prop} {a ci index np : Nat} {ks : List Nat} {stk : List Value} (as : List Value) (hd : zz_D Y pc (.invokevirtual index) 3 pc1) (hZ : mm_Vl Y.1.cls index ci np Z) (hT : zz_T a = some (.inl (ci, ks))) (hn : a < n) (hst : stk = as.reverse ++ .ref a :: st) (hlen : as.length = np) (hroom : rz.frames + 1 ≤ rm.frames ∧ (st.map fun v => v.category).sum + (Z.2.2.1 + 11) + rz.locals ≤ rm.locals) (hk : k + rz.cells ≤ rm.cells) (hj : j + rz.slots ≤ rm.slots) (hM : mm_Met g l Z rz (.ref a :: as) (zz_M S n) n (zz_XV n P X)) (kx : ∀ i S1, X i S1 → mm_Tv g l Y rm Q pc ls st (zz_M S1 (n + 1)) (n + 1) (k + rz.cells) (j + rz.slots) i) (kr : ∀ (S1 : zz_S), P S1 → zz_E g l Y rm Q S1 n pc1 ls (st) (k + rz.cells) (j + rz.slots)) : zz_E g l Y rm Q S n pc ls stk k j := by
  subst hst
  refine mm_callV hd.1 hZ hM (zz_M_at hn hT) hlen hroom hk hj (fun v M1 n1 hQ => ?_) (fun i M1 n1 hQ => ?_)
  · rcases hQ with ⟨S1, e, hP⟩ | ⟨i, S1, e, hX⟩
    · cases e
      exact zz_rw hd.2 (kr S1 hP)
    · cases e
  · rcases hQ with ⟨S1, e, hP⟩ | ⟨i, S1, e, hX⟩
    · cases e
    · cases e
      exact kx _ _ hX
theorem zz_callHW {Z : mm_Y} {hh : List (Nat × Nat × Nat × Nat)} {rz : Room} {P : Int → zz_S → Prop} {index np : Nat} {stk : List Value} (as : List Value) (hd : zz_D Y pc (.invokestatic index) 3 pc1) (hZ : mm_Hl Y.1.cls index np hh Z) (hst : stk = as.reverse ++ st) (hlen : as.length = np) (hroom : rz.frames + 1 ≤ rm.frames ∧ (st.map fun v => v.category).sum + (Z.2.2.1 + 11) + rz.locals ≤ rm.locals) (hk : k + rz.cells ≤ rm.cells) (hj : j + rz.slots ≤ rm.slots) (hM : mm_MetH g l Z hh rz as (zz_M S n) n (zz_QW n P)) (kr : ∀ (v : Int) (S1 : zz_S) (d : Nat), d ≤ 1 → P v S1 → zz_E g l Y rm Q S1 (n + d) pc1 ls (zi v :: st) (k + rz.cells) (j + rz.slots)) : zz_E g l Y rm Q S n pc ls stk k j := by
  subst hst
  refine mm_callH hd.1 hZ hM hlen hroom hk hj (fun v M1 n1 hQ => ?_) (fun i M1 n1 hQ => ?_)
  · obtain ⟨v1, S1, d, e, h1, hP⟩ := hQ
    cases e
    exact zz_rw hd.2 (kr v1 S1 d h1 hP)
  · obtain ⟨v1, S1, d, e, h1, hP⟩ := hQ
    cases e
theorem zz_enterH {as : List Value} {hh : List (Nat × Nat × Nat × Nat)} (hy : plainName Y.1.cls = true) (hfit : (lg_sl (as.map (mm_tr g))).length ≤ Y.2.2.1) (h : zz_E g l Y rm Q S n 0 (mm_ent as) [] 0 0) : mm_MetH g l Y hh rm as (zz_M S n) n Q := mm_enterH hy hfit h
theorem zz_sln (hd : zz_D Y pc .arraylength 1 pc1) (kk : zz_E g l Y rm Q S n pc1 ls (zi (zz_ln g) :: st) k j) : zz_E g l Y rm Q S n pc ls (.ref 998 :: st) k j := by
  intro p e s m args below meth c H locs lsM hC hH hS hL
  have hb : mm_ad g 998 = g.2.2.2 998 := by unfold mm_ad; rw [if_pos (by decide)]
  show W p l e rm s m args below meth c H locs k j _ (F0 m pc lsM (.ref (mm_ad g 998) :: st.map (mm_tr g)))
  rw [hb]
  exact va_tlen hC.1 hC.2.1 hC.2.2.2.2.2.2.2.2.1.2.2.2.2.2.2.2.2.2.1 hS (v := Int32.ofInt (g.2.2.2 997 : Nat)) (Int32.ofInt_eq_ofNat).symm hd.1 (zz_rw hd.2 kk p e s m args below meth c H locs lsM hC hH hS hL)
theorem zz_sld {i : Int} (hN : g.2.2.2 997 ≤ 2147483647) (hd : zz_D Y pc .iaload 1 pc1) (hi : 0 ≤ i ∧ i < zz_ln g) (kk : zz_E g l Y rm Q S n pc1 ls (zi (zz_sc g i.toNat) :: st) k j) : zz_E g l Y rm Q S n pc ls (zi i :: .ref 998 :: st) k j := by
  intro p e s m args below meth c H locs lsM hC hH hS hL
  have hb : mm_ad g 998 = g.2.2.2 998 := by unfold mm_ad; rw [if_pos (by decide)]
  show W p l e rm s m args below meth c H locs k j _ (F0 m pc lsM (.int (Int32.ofInt i) :: .ref (mm_ad g 998) :: st.map (mm_tr g)))
  rw [hb]
  refine va_ti hC.1 hC.2.1 hC.2.2.2.2.2.2.2.2.1.2.2.2.2.2.2.2.2.2.1 hS (zz_in hi hN) (v := zi (zz_sc g i.toNat)) ?_ hd.1 (zz_rw hd.2 kk p e s m args below meth c H locs lsM hC hH hS hL)
  rw [zz_nc hi hN]
  show Value.int (Int32.ofNat (g.2.2.2 (2000 + i.toNat))) = Value.int (Int32.ofInt (Int32.ofNat (g.2.2.2 (2000 + i.toNat))).toInt)
  rw [Int32.ofInt_toInt]
end ZL
