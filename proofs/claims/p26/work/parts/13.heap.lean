/-! Rows over cells: fields, arrays, new cells; the ends; entering a method; calls. -/
/-- a field's link: entry index of class own's pool is field kf (of type ty, final or not) of class ci -/
def mm_Fl (own : String) (index ci kf : Nat) (ty : FieldType) (fin : Bool) : Prop := ∃ (C : String) (T : u_T) (N : Nat) (t : Nat → FieldType), mm_cl[ci]? = some (C, T, N) ∧ (∀ w ∈ u_ws C T N, w ∈ mm_tb) ∧ kf < N ∧ Cond.fieldLink own index C (T kf).2.1 (T kf).2.2.1 ∈ mm_tb ∧ (T kf).1 = C ∧ (∀ k, k < N → parseFieldDescriptor (T k).2.2.1 = some (t k)) ∧ (∀ a, a < N → ∀ b, b < N → a ≠ b → (T a).2.1 ≠ (T b).2.1) ∧ (T kf).2.2.2 = fin ∧ parseFieldDescriptor (T kf).2.2.1 = some ty
/-- a class's link for new: N fields with the default values fs -/
def mm_Nl (own : String) (index ci N : Nat) (fs : List Value) : Prop := ∃ (C : String) (T : u_T) (t : Nat → FieldType), mm_cl[ci]? = some (C, T, N) ∧ (∀ w ∈ u_ws C T N, w ∈ mm_tb) ∧ (∀ k, k < N → parseFieldDescriptor (T k).2.2.1 = some (t k)) ∧ Cond.classLink own index C ∈ mm_tb ∧ Cond.instantiable C N ∈ mm_tb ∧ Cond.initialized C ∈ mm_tb ∧ (∀ q, q < N → defaultValue (t q) = vp_V fs q) ∧ ∀ g : mm_G, fs.map (mm_tr g) = fs
theorem mm_W_mono {p : Program} {l : Launch} {e : Env} {R : Room} {s : State} {m : MethodId} {args : Array Value} {below : List Frame} {meth : Method} {c : Code} {H : Heap} {locs : List Loc} {cells slots : Nat} {Q1 Q2 : State → Prop} {fr : JFrame} (h : ∀ t, Q1 t → Q2 t) (w : W p l e R s m args below meth c H locs cells slots Q1 fr) : W p l e R s m args below meth c H locs cells slots Q2 fr := by
  intro T hT X
  obtain ⟨t, a, b⟩ := w T hT X
  exact ⟨t, a, h t b⟩
section MMHP
variable {g : mm_G} {l : Launch} {Y : mm_Y} {rm : Room} {Q : mm_O → Prop} {pc : Nat} {ls : List (Option Value)} {st : List Value} {M : mm_M} {n k j : Nat}

theorem mm_get {a ci kf index : Nat} {ty : FieldType} {fin : Bool} {fs : List Value} {v : Value} (hd : decode Y.2.1 pc = .ok (.getfield index, 3)) (hF : mm_Fl Y.1.cls index ci kf ty fin) (hm : M a = some (.inr (ci, fs))) (hv : fs[kf]? = some v) (kk : mm_Ev g l Y rm Q (pc + 3) ls (v :: st) M n k j) : mm_Ev g l Y rm Q pc ls (.ref a :: st) M n k j := by
  intro p e s m args below meth c H locs lsM hC hH hS hL
  obtain ⟨C, T, N, t, hc, hw, hk, hl, hT, -, -, -, -⟩ := hF
  exact va_get (D := g.1) (ci := ci) (ref := C) (v := mm_tr g v) hC.1 hC.2.1 hC.2.2.2.2.2.1 hw hC.2.2.2.2.1 hC.2.2.2.2.2.2.2.2.1.1 (hH.P hm) 0 rfl hc kf hk (hC.2.2.2.2.2.1 _ hl) (fun x hx => by rw [hT] at hx; exact hx) (by rw [List.getElem?_map, hv]; rfl) hd (kk p e s m args below meth c H locs lsM hC hH hS hL)
theorem mm_put {a ci kf index : Nat} {ty : FieldType} {fs : List Value} {v : Value} (hd : decode Y.2.1 pc = .ok (.putfield index, 3)) (hF : mm_Fl Y.1.cls index ci kf ty false) (hm : M a = some (.inr (ci, fs))) (hlen : kf < fs.length) (hn : narrow ty (mm_tr g v) = mm_tr g v) (hfit : fits ty (mm_tr g v) = true) (kk : ∀ M1 : mm_M, M1 = mm_up M a (.inr (ci, fs.set kf v)) → mm_Ev g l Y rm Q (pc + 3) ls st M1 n k j) : mm_Ev g l Y rm Q pc ls (v :: .ref a :: st) M n k j := by
  intro p e s m args below meth c H locs lsM hC hH hS hL
  obtain ⟨C, T, N, t, hc, hw, hk, hl, hT, hty, hnm, hfin, hd0⟩ := hF
  obtain ⟨hx, hb, -, -, hown, hts, -, hname, hI, -⟩ := id hC
  have hK := hI.1
  have hap := va_apart (own := Y.1.cls) hts hw t hty hnm hK hc
  obtain ⟨h1000, -, r, h1, cell, q1, q2, q3, q4⟩ := hH.2.2 a _ hm
  have hr : r = (C, T, N) := Option.some.inj (h1.symm.trans hc)
  subst hr
  obtain ⟨hSl, hfc, kC, hkC, hkind⟩ := hK.1 ci _ hc
  obtain ⟨cf, kf', fi, f, hi, hsl⟩ := hSl kf hk
  have hlay := hts _ (hw _ (u_in_lay hk))
  unfold u_lay at hlay
  rw [if_neg (by rw [hfin]; decide)] at hlay
  have hst := (u_facts hfc hkC (u_lays hts hw hk) hi).1
  have h6 := u_store hfc hkC hkind hlay hi hd0 hn hfit
  refine W.putK hx hb (f := f) ⟨hown, hts _ hl, ⟨_, _, _, by rw [hT] at hi; exact hi⟩, hst⟩ (by rw [q2]; exact h6) q1 q3 (by rw [hsl]; exact k2_hasslot (q4 kf hk)) rfl rfl hd fun H' e1 e2 e3 => ?_
  rw [hsl] at e1 ⊢
  refine kk _ rfl p e s m args below meth c H' _ lsM hC (hH.set hm e2 e3 ⟨_, hc, t_OB.to (V := updV (vp_V (fs.map (mm_tr g))) kf (mm_tr g v)) ⟨_, e1, q2, q3, t_set q4 hap hk _⟩ (fun q _ => ?_)⟩) (hS.put e2 e3 (mm_ad_A h1000)) hL
  rw [List.map_set]
  exact vp_updV_set (by rw [List.length_map]; exact hlen) _ q
theorem mm_putF {a ci kf index : Nat} {ty : FieldType} {fs : List Value} {v : Value} (hd : decode Y.2.1 pc = .ok (.putfield index, 3)) (hF : mm_Fl Y.1.cls index ci kf ty true) (hm : M a = some (.inr (ci, fs))) (hlen : kf < fs.length) (hn : narrow ty (mm_tr g v) = mm_tr g v) (hfit : fits ty (mm_tr g v) = true) (hin : Y.1.name = "<init>") (hcl : ∀ q : vw_C, mm_cl[ci]? = some q → q.1 = Y.1.cls) (kk : ∀ M1 : mm_M, M1 = mm_up M a (.inr (ci, fs.set kf v)) → mm_Ev g l Y rm Q (pc + 3) ls st M1 n k j) : mm_Ev g l Y rm Q pc ls (v :: .ref a :: st) M n k j := by
  intro p e s m args below meth c H locs lsM hC hH hS hL
  obtain ⟨C, T, N, t, hc, hw, hk, hl, hT, hty, hnm, hfin, hd0⟩ := hF
  obtain ⟨hx, hb, -, -, hown, hts, -, hname, hI, -⟩ := id hC
  have hK := hI.1
  have hap := va_apart (own := Y.1.cls) hts hw t hty hnm hK hc
  obtain ⟨h1000, -, r, h1, cell, q1, q2, q3, q4⟩ := hH.2.2 a _ hm
  have hr : r = (C, T, N) := Option.some.inj (h1.symm.trans hc)
  subst hr
  obtain ⟨hSl, hfc, kC, hkC, hkind⟩ := hK.1 ci _ hc
  obtain ⟨cf, kf', fi, f, hi, hsl⟩ := hSl kf hk
  have hlay := hts _ (hw _ (u_in_lay hk))
  unfold u_lay at hlay
  rw [if_pos hfin] at hlay
  have hst := (u_facts hfc hkC (u_lays hts hw hk) hi).1
  have hdecl : (T kf).1 = Y.1.cls := hT.trans (hcl _ hc)
  have hcf : m.cls = cf := by
    obtain ⟨_, _, c', _, _, _, -, -, hf', -, -, -, hown2, -⟩ := Cond.laysFinal_spec hlay
    have e1 : c' = cf := by have := hi.symm.trans hf'; simp at this; exact this.1.symm
    rw [hdecl] at hown2
    rw [← e1]; exact Option.some.inj (hown.symm.trans hown2)
  have h6 := u_fits hfc hkC hkind (Or.inr hlay) hi hd0 hn hfit
  refine W.putFinK hx hb hown (hts _ hl) (by rw [hT] at hi; exact hi) hst hcf (hname.1.trans hin) (by rw [q2]; exact h6) q1 q3 (by rw [hsl]; exact k2_hasslot (q4 kf hk)) rfl rfl hd fun H' e1 e2 e3 => ?_
  rw [hsl] at e1 ⊢
  refine kk _ rfl p e s m args below meth c H' _ lsM hC (hH.set hm e2 e3 ⟨_, hc, t_OB.to (V := updV (vp_V (fs.map (mm_tr g))) kf (mm_tr g v)) ⟨_, e1, q2, q3, t_set q4 hap hk _⟩ (fun q _ => ?_)⟩) (hS.put e2 e3 (mm_ad_A h1000)) hL
  rw [List.map_set]
  exact vp_updV_set (by rw [List.length_map]; exact hlen) _ q
theorem mm_iald {a t N : Nat} {f : Nat → Int32} {i : Int32} (hd : decode Y.2.1 pc = .ok (.iaload, 1)) (hm : M a = some (.inl (t, N, .inl f))) (ht : mm_ty[t]? = some .int) (hin : vp_in i N) (kk : mm_Ev g l Y rm Q (pc + 1) ls (.int (f i.toNatClampNeg) :: st) M n k j) : mm_Ev g l Y rm Q pc ls (.int i :: .ref a :: st) M n k j := by
  intro p e s m args below meth c H locs lsM hC hH hS hL
  exact va_iald hC.1 hC.2.1 hC.2.2.2.2.2.2.2.2.1.1 (hH.P hm) 0 t rfl (mm_tys_at ht) hin hd (kk p e s m args below meth c H locs lsM hC hH hS hL)
theorem mm_bald {a t N : Nat} {f : Nat → Int32} {i : Int32} (hd : decode Y.2.1 pc = .ok (.baload, 1)) (hm : M a = some (.inl (t, N, .inl f))) (ht : mm_ty[t]? = some .byte) (hin : vp_in i N) (kk : mm_Ev g l Y rm Q (pc + 1) ls (.int (f i.toNatClampNeg) :: st) M n k j) : mm_Ev g l Y rm Q pc ls (.int i :: .ref a :: st) M n k j := by
  intro p e s m args below meth c H locs lsM hC hH hS hL
  exact va_bald hC.1 hC.2.1 hC.2.2.2.2.2.2.2.2.1.1 (hH.P hm) 0 t rfl (mm_tys_at ht) hin hd (kk p e s m args below meth c H locs lsM hC hH hS hL)
theorem mm_zald {a t N : Nat} {f : Nat → Int32} {i : Int32} (hd : decode Y.2.1 pc = .ok (.baload, 1)) (hm : M a = some (.inl (t, N, .inl f))) (ht : mm_ty[t]? = some .boolean) (hin : vp_in i N) (kk : mm_Ev g l Y rm Q (pc + 1) ls (.int (f i.toNatClampNeg) :: st) M n k j) : mm_Ev g l Y rm Q pc ls (.int i :: .ref a :: st) M n k j := by
  intro p e s m args below meth c H locs lsM hC hH hS hL
  exact va_zald hC.1 hC.2.1 hC.2.2.2.2.2.2.2.2.1.1 (hH.P hm) 0 t rfl (mm_tys_at ht) hin hd (kk p e s m args below meth c H locs lsM hC hH hS hL)
theorem mm_cald {a t N : Nat} {f : Nat → Int32} {i : Int32} (hd : decode Y.2.1 pc = .ok (.caload, 1)) (hm : M a = some (.inl (t, N, .inl f))) (ht : mm_ty[t]? = some .char) (hin : vp_in i N) (kk : mm_Ev g l Y rm Q (pc + 1) ls (.int (f i.toNatClampNeg) :: st) M n k j) : mm_Ev g l Y rm Q pc ls (.int i :: .ref a :: st) M n k j := by
  intro p e s m args below meth c H locs lsM hC hH hS hL
  exact va_cald hC.1 hC.2.1 hC.2.2.2.2.2.2.2.2.1.1 (hH.P hm) 0 t rfl (mm_tys_at ht) hin hd (kk p e s m args below meth c H locs lsM hC hH hS hL)
theorem mm_lald {a t N : Nat} {f : Nat → Int64} {i : Int32} (hd : decode Y.2.1 pc = .ok (.laload, 1)) (hm : M a = some (.inl (t, N, .inr (.inl f)))) (ht : mm_ty[t]? = some .long) (hin : vp_in i N) (kk : mm_Ev g l Y rm Q (pc + 1) ls (.long (f i.toNatClampNeg) :: st) M n k j) : mm_Ev g l Y rm Q pc ls (.int i :: .ref a :: st) M n k j := by
  intro p e s m args below meth c H locs lsM hC hH hS hL
  exact va_lald hC.1 hC.2.1 hC.2.2.2.2.2.2.2.2.1.1 (hH.P hm) 0 t rfl (mm_tys_at ht) hin hd (kk p e s m args below meth c H locs lsM hC hH hS hL)
theorem mm_aald {a t N : Nat} {C : String} {f : Nat → Option Nat} {i : Int32} {x : Nat} (hd : decode Y.2.1 pc = .ok (.aaload, 1)) (hm : M a = some (.inl (t, N, .inr (.inr (.inr (.inr f)))))) (ht : mm_ty[t]? = some (.object C)) (hin : vp_in i N) (hf : f i.toNatClampNeg = some x) (kk : mm_Ev g l Y rm Q (pc + 1) ls (.ref x :: st) M n k j) : mm_Ev g l Y rm Q pc ls (.int i :: .ref a :: st) M n k j := by
  intro p e s m args below meth c H locs lsM hC hH hS hL
  refine va_aldq hC.1 hC.2.1 hC.2.2.2.2.2.2.2.2.1.1 (hH.P hm) 0 t rfl (mm_tys_at ht) hin hd ?_
  rw [hf]
  exact kk p e s m args below meth c H locs lsM hC hH hS hL
theorem mm_alen {a t : Nat} {x : vp_A} {ty : FieldType} {v : Int32} (hd : decode Y.2.1 pc = .ok (.arraylength, 1)) (hm : M a = some (.inl (t, x))) (ht : mm_ty[t]? = some ty) (hv : Int32.ofNat x.1 = v) (kk : mm_Ev g l Y rm Q (pc + 1) ls (.int v :: st) M n k j) : mm_Ev g l Y rm Q pc ls (.ref a :: st) M n k j := by
  intro p e s m args below meth c H locs lsM hC hH hS hL
  refine va_alen hC.1 hC.2.1 hC.2.2.2.2.2.2.2.2.1.1 (hH.P hm) 0 t rfl (mm_tys_at ht) ?_ hd (kk p e s m args below meth c H locs lsM hC hH hS hL)
  rw [← hv]
  obtain ⟨N, y⟩ := x
  rcases y with y | y | y | y | y <;> rfl
theorem mm_tiald {q0 : Nat} {q : String × String × List Int32} {i : Int32} (hd : decode Y.2.1 pc = .ok (.iaload, 1)) (hq : mm_sta[q0]? = some q) (h0 : q0 < 1000) (hin : vp_in i q.2.2.length) (kk : mm_Ev g l Y rm Q (pc + 1) ls (.int (q.2.2.getD i.toNatClampNeg 0) :: st) M n k j) : mm_Ev g l Y rm Q pc ls (.int i :: .ref q0 :: st) M n k j := by
  intro p e s m args below meth c H locs lsM hC hH hS hL
  have ha : mm_ad g q0 = g.2.2.2 q0 := by unfold mm_ad; rw [if_pos h0]
  show W p l e rm s m args below meth c H locs k j _ (F0 m pc lsM (.int i :: .ref (mm_ad g q0) :: st.map (mm_tr g)))
  rw [ha]
  exact va_ti hC.1 hC.2.1 (hC.2.2.2.2.2.2.2.2.1.2.1 q0 q hq).2 hS hin rfl hd (kk p e s m args below meth c H locs lsM hC hH hS hL)
theorem mm_gets {q0 index : Nat} {q : String × String × List Int32} (hd : decode Y.2.1 pc = .ok (.getstatic index, 3)) (hq : mm_sta[q0]? = some q) (h0 : q0 < 1000) (hl : Cond.fieldLink Y.1.cls index q.1 q.2.1 "[I" ∈ mm_tb) (kk : mm_Ev g l Y rm Q (pc + 3) ls (.ref q0 :: st) M n k j) : mm_Ev g l Y rm Q pc ls st M n k j := by
  intro p e s m args below meth c H locs lsM hC hH hS hL
  have ha : mm_ad g q0 = g.2.2.2 q0 := by unfold mm_ad; rw [if_pos h0]
  refine va_gets hC.1 hC.2.1 (hC.2.2.2.2.2.2.2.2.1.2.1 q0 q hq).1 hS hC.2.2.2.2.1 (hC.2.2.2.2.2.1 _ hl) (fun _ h => h) hd ?_
  rw [← ha]
  exact kk p e s m args below meth c H locs lsM hC hH hS hL
theorem mm_iast {a t N : Nat} {f : Nat → Int32} {i : Int32} {x : Int32} (hd : decode Y.2.1 pc = .ok (.iastore, 1)) (hm : M a = some (.inl (t, N, .inl f))) (ht : mm_ty[t]? = some .int) (hin : vp_in i N) (kk : ∀ M1 : mm_M, M1 = mm_up M a (.inl (t, N, .inl (upd f i.toNatClampNeg x))) → mm_Ev g l Y rm Q (pc + 1) ls st M1 n k j) : mm_Ev g l Y rm Q pc ls (.int x :: .int i :: .ref a :: st) M n k j := by
  intro p e s m args below meth c H locs lsM hC hH hS hL
  obtain ⟨h1000, -, hat⟩ := hH.2.2 a _ hm
  refine W.iast hC.1 hC.2.1 hat ((hC.2.2.2.2.2.2.2.2.1.1.2 t _ (mm_tys_at ht)).1 N (fun q => .int (f q))) (fun q => by cases q) (by show ¬ (i < 0 ∨ (arrV _ _ _).slots.size ≤ _); rw [arrV_size]; exact hin) rfl rfl hd fun H1 e1 z oq => ?_
  refine kk _ rfl p e s m args below meth c H1 _ lsM hC (hH.set hm z oq ?_) (hS.put z oq (mm_ad_A h1000)) hL
  show H1[_]? = some (vp_cell _ _)
  rw [e1]
  show some ((vp_cell _ (N, .inl f)).setSlot _ _) = some (vp_cell _ (N, .inl (upd f i.toNatClampNeg x)))
  rw [vp_cell_i, vp_cell_i, arrV_store]
  congr 2
  funext q
  by_cases hq : q = i.toNatClampNeg
  · subst hq
    simp [updV, upd, vp_updL, vp_nar]
    try rfl
  · simp [updV, upd, vp_updL, hq]
theorem mm_bast {a t N : Nat} {f : Nat → Int32} {i : Int32} {x : Int32} (hd : decode Y.2.1 pc = .ok (.bastore, 1)) (hm : M a = some (.inl (t, N, .inl f))) (ht : mm_ty[t]? = some .byte) (hin : vp_in i N) (kk : ∀ M1 : mm_M, M1 = mm_up M a (.inl (t, N, .inl (upd f i.toNatClampNeg (vp_nar .byte x)))) → mm_Ev g l Y rm Q (pc + 1) ls st M1 n k j) : mm_Ev g l Y rm Q pc ls (.int x :: .int i :: .ref a :: st) M n k j := by
  intro p e s m args below meth c H locs lsM hC hH hS hL
  obtain ⟨h1000, -, hat⟩ := hH.2.2 a _ hm
  refine W.bast hC.1 hC.2.1 hat ((hC.2.2.2.2.2.2.2.2.1.1.2 t _ (mm_tys_at ht)).1 N (fun q => .int (f q))) (fun q => by cases q) (by show ¬ (i < 0 ∨ (arrV _ _ _).slots.size ≤ _); rw [arrV_size]; exact hin) rfl rfl hd fun H1 e1 z oq => ?_
  refine kk _ rfl p e s m args below meth c H1 _ lsM hC (hH.set hm z oq ?_) (hS.put z oq (mm_ad_A h1000)) hL
  show H1[_]? = some (vp_cell _ _)
  rw [e1]
  show some ((vp_cell _ (N, .inl f)).setSlot _ _) = some (vp_cell _ (N, .inl (upd f i.toNatClampNeg (vp_nar .byte x))))
  rw [vp_cell_i, vp_cell_i, arrV_store]
  congr 2
  funext q
  by_cases hq : q = i.toNatClampNeg
  · subst hq
    simp [updV, upd, vp_updL, vp_nar]
    try rfl
  · simp [updV, upd, vp_updL, hq]
theorem mm_zast {a t N : Nat} {f : Nat → Int32} {i : Int32} {x : Int32} (hd : decode Y.2.1 pc = .ok (.bastore, 1)) (hm : M a = some (.inl (t, N, .inl f))) (ht : mm_ty[t]? = some .boolean) (hin : vp_in i N) (kk : ∀ M1 : mm_M, M1 = mm_up M a (.inl (t, N, .inl (upd f i.toNatClampNeg (vp_nar .boolean x)))) → mm_Ev g l Y rm Q (pc + 1) ls st M1 n k j) : mm_Ev g l Y rm Q pc ls (.int x :: .int i :: .ref a :: st) M n k j := by
  intro p e s m args below meth c H locs lsM hC hH hS hL
  obtain ⟨h1000, -, hat⟩ := hH.2.2 a _ hm
  refine W.zast hC.1 hC.2.1 hat ((hC.2.2.2.2.2.2.2.2.1.1.2 t _ (mm_tys_at ht)).1 N (fun q => .int (f q))) (fun q => by cases q) (by show ¬ (i < 0 ∨ (arrV _ _ _).slots.size ≤ _); rw [arrV_size]; exact hin) rfl rfl hd fun H1 e1 z oq => ?_
  refine kk _ rfl p e s m args below meth c H1 _ lsM hC (hH.set hm z oq ?_) (hS.put z oq (mm_ad_A h1000)) hL
  show H1[_]? = some (vp_cell _ _)
  rw [e1]
  show some ((vp_cell _ (N, .inl f)).setSlot _ _) = some (vp_cell _ (N, .inl (upd f i.toNatClampNeg (vp_nar .boolean x))))
  rw [vp_cell_i, vp_cell_i, arrV_store]
  congr 2
  funext q
  by_cases hq : q = i.toNatClampNeg
  · subst hq
    simp [updV, upd, vp_updL, vp_nar]
    try rfl
  · simp [updV, upd, vp_updL, hq]
theorem mm_cast {a t N : Nat} {f : Nat → Int32} {i : Int32} {x : Int32} (hd : decode Y.2.1 pc = .ok (.castore, 1)) (hm : M a = some (.inl (t, N, .inl f))) (ht : mm_ty[t]? = some .char) (hin : vp_in i N) (kk : ∀ M1 : mm_M, M1 = mm_up M a (.inl (t, N, .inl (upd f i.toNatClampNeg (vp_nar .char x)))) → mm_Ev g l Y rm Q (pc + 1) ls st M1 n k j) : mm_Ev g l Y rm Q pc ls (.int x :: .int i :: .ref a :: st) M n k j := by
  intro p e s m args below meth c H locs lsM hC hH hS hL
  obtain ⟨h1000, -, hat⟩ := hH.2.2 a _ hm
  refine W.cast hC.1 hC.2.1 hat ((hC.2.2.2.2.2.2.2.2.1.1.2 t _ (mm_tys_at ht)).1 N (fun q => .int (f q))) (fun q => by cases q) (by show ¬ (i < 0 ∨ (arrV _ _ _).slots.size ≤ _); rw [arrV_size]; exact hin) rfl rfl hd fun H1 e1 z oq => ?_
  refine kk _ rfl p e s m args below meth c H1 _ lsM hC (hH.set hm z oq ?_) (hS.put z oq (mm_ad_A h1000)) hL
  show H1[_]? = some (vp_cell _ _)
  rw [e1]
  show some ((vp_cell _ (N, .inl f)).setSlot _ _) = some (vp_cell _ (N, .inl (upd f i.toNatClampNeg (vp_nar .char x))))
  rw [vp_cell_i, vp_cell_i, arrV_store]
  congr 2
  funext q
  by_cases hq : q = i.toNatClampNeg
  · subst hq
    simp [updV, upd, vp_updL, vp_nar]
    try rfl
  · simp [updV, upd, vp_updL, hq]
theorem mm_last {a t N : Nat} {f : Nat → Int64} {i : Int32} {x : Int64} (hd : decode Y.2.1 pc = .ok (.lastore, 1)) (hm : M a = some (.inl (t, N, .inr (.inl f)))) (ht : mm_ty[t]? = some .long) (hin : vp_in i N) (kk : ∀ M1 : mm_M, M1 = mm_up M a (.inl (t, N, .inr (.inl (vp_updL f i.toNatClampNeg x)))) → mm_Ev g l Y rm Q (pc + 1) ls st M1 n k j) : mm_Ev g l Y rm Q pc ls (.long x :: .int i :: .ref a :: st) M n k j := by
  intro p e s m args below meth c H locs lsM hC hH hS hL
  obtain ⟨h1000, -, hat⟩ := hH.2.2 a _ hm
  refine W.last hC.1 hC.2.1 hat ((hC.2.2.2.2.2.2.2.2.1.1.2 t _ (mm_tys_at ht)).1 N (fun q => .long (f q))) (fun q => by cases q) (by show ¬ (i < 0 ∨ (arrV _ _ _).slots.size ≤ _); rw [arrV_size]; exact hin) rfl rfl hd fun H1 e1 z oq => ?_
  refine kk _ rfl p e s m args below meth c H1 _ lsM hC (hH.set hm z oq ?_) (hS.put z oq (mm_ad_A h1000)) hL
  show H1[_]? = some (vp_cell _ _)
  rw [e1]
  show some ((vp_cell _ (N, .inr (.inl f))).setSlot _ _) = some (vp_cell _ (N, .inr (.inl (vp_updL f i.toNatClampNeg x))))
  rw [vp_cell_l, vp_cell_l, arrV_store]
  congr 2
  funext q
  by_cases hq : q = i.toNatClampNeg
  · subst hq
    simp [updV, upd, vp_updL, vp_nar]
    try rfl
  · simp [updV, upd, vp_updL, hq]
theorem mm_new {index ci N : Nat} {fs : List Value} (hd : decode Y.2.1 pc = .ok (.new index, 3)) (hN : mm_Nl Y.1.cls index ci N fs) (hcells : k + 1 ≤ rm.cells) (hslots : j + N ≤ rm.slots) (kk : ∀ M1 : mm_M, M1 = mm_up M n (.inr (ci, fs)) → mm_Ev g l Y rm Q (pc + 3) ls (.ref n :: st) M1 (n + 1) (k + 1) (j + N)) : mm_Ev g l Y rm Q pc ls st M n k j := by
  intro p e s m args below meth c H locs lsM hC hH hS hL
  obtain ⟨C, T, t, hc, hw, hty, w1, w2, w3, hfs, hmap⟩ := hN
  obtain ⟨hx, hb, -, -, hown, hts, -, -, hI, hbs⟩ := id hC
  have hKn := hI.1.1 ci _ hc
  refine W.newcK hx hb hown (hts _ w1) (hts _ w2) (hts _ w3) rfl hd hcells hslots hKn.2.1 rfl fun H1 kC hkC e1 z1 o1 => ?_
  have hend := hH.end
  have h9 := kk _ rfl p e s m args below meth c H1 locs lsM hC (hH.push z1 o1 (by
    rw [hend]
    show va_at _ _ (H.size, .inr (ci, fs.map (mm_tr g))) H1
    rw [hmap g]
    exact ⟨_, hc, (u_born t hts hw hKn hkC e1 hty).to hfs⟩)) ⟨Nat.le_trans hS.1 (by omega), fun q h1 h2 => (o1 q (Nat.lt_of_lt_of_le h1 hS.1)).trans (hS.2.1 q h1 h2), hS.2.2⟩ hL
  have e9 : mm_tr g (.ref n) = .ref H.size := by show Value.ref (mm_ad g n) = _; rw [hend]
  rw [List.map_cons, e9] at h9
  exact h9
end MMHP
