/-! Rows for references in arrays, System.arraycopy of long[], and the texts' own methods. -/
section ZJ
variable {g : mm_G} {l : Launch} {Y : mm_Y} {rm : Room} {Q : mm_O → Prop} {pc pc1 : Nat} {ls : List (Option Value)} {st : List Value} {M : mm_M} {S : zz_S} {n k j : Nat}
theorem mm_aast {a t N ci v : Nat} {r : vw_C} {f : Nat → Option Nat} {i : Int32} {vs : List Value} (hd : decode Y.2.1 pc = .ok (.aastore, 1)) (hm : M a = some (.inl (t, N, .inr (.inr (.inr (.inr f)))))) (ht : mm_ty[t]? = some (.object r.1)) (hc : mm_cl[ci]? = some r) (hv : M v = some (.inr (ci, vs))) (hin : vp_in i N) (kk : ∀ M1 : mm_M, M1 = mm_up M a (.inl (t, N, .inr (.inr (.inr (.inr (fun q => if q = i.toNatClampNeg then some v else f q)))))) → mm_Ev g l Y rm Q (pc + 1) ls st M1 n k j) : mm_Ev g l Y rm Q pc ls (.ref v :: .int i :: .ref a :: st) M n k j := by
  intro p e s m args below meth c H locs lsM hC hH hS hL
  obtain ⟨h1000, -, hat⟩ := hH.2.2 a _ hm
  obtain ⟨-, -, r', hr', cellV, g1, g2, g3, -⟩ := hH.2.2 v _ hv
  have hI := hC.2.2.2.2.2.2.2.2.1
  have hlt : i.toNatClampNeg < N := Nat.not_le.mp fun q => hin (Or.inr q)
  have h0 : ¬ i < 0 := fun q => hin (Or.inl q)
  have hcls := (hI.1.1 ci r hc).2
  obtain ⟨kA, comp, k1, k2, k3, -⟩ := (hI.1.2 t _ (mm_tys_at ht)).2
  have hcomp : comp = g.1.1 ci := Option.some.inj (k3.symm.trans hcls.1)
  subst hcomp
  obtain ⟨kC, hkC, -⟩ := hcls.2
  refine W.aast hC.1 hC.2.1 hat (fun q h => by cases h) (fun h => by cases h) k1 k2 rfl hkC ⟨h0, by show _ < (arrV _ _ _).slots.size; rw [arrV_size]; exact hlt⟩ g1 (fun q h => by rw [g3] at h; cases h) (by rw [g2]; exact hkC) (by rw [g2]; exact va_assign hcls) rfl rfl hd fun H1 e1 z oq => ?_
  refine kk _ rfl p e s m args below meth c H1 _ lsM hC (hH.set hm z oq ?_) (hS.put z oq (mm_ad_A h1000)) hL
  show H1[_]? = some (vp_cell _ _)
  rw [e1]
  show some ((vp_cell _ (N, .inr (.inr (.inr (.inr (fun i => (f i).map (mm_ad g)))))) ).setSlot _ _) = some (vp_cell _ (N, .inr (.inr (.inr (.inr (fun q => (if q = i.toNatClampNeg then some v else f q).map (mm_ad g)))))))
  rw [vp_cell_q, vp_cell_q, arrV_store]
  congr 2
  funext q
  by_cases hq : q = i.toNatClampNeg
  · subst hq
    simp [updV, va_up, va_rf]
  · simp [updV, va_up, hq]
theorem mm_copyl {a0 a t0 t1 n0 n1 index : Nat} {f h : Nat → Int64} {sp dp nn : Int32} (hd : decode Y.2.1 pc = .ok (.invokestatic index, 3)) (hw : Cond.methodLink Y.1.cls index arraycopyName ∈ mm_tb ∧ Cond.native arraycopyName ∈ mm_tb ∧ Cond.static arraycopyName ∈ mm_tb ∧ Cond.initialized "java/lang/System" ∈ mm_tb) (hm0 : M a0 = some (.inl (t0, n0, .inr (.inl f)))) (hm1 : M a = some (.inl (t1, n1, .inr (.inl h)))) (ht0 : mm_ty[t0]? = some .long) (ht1 : mm_ty[t1]? = some .long) (h1 : ¬ sp < 0) (h2 : ¬ dp < 0) (h3 : ¬ nn < 0) (h4 : sp.toNatClampNeg + nn.toNatClampNeg ≤ n0) (h5 : dp.toNatClampNeg + nn.toNatClampNeg ≤ n1)
    (hroom : 1 ≤ rm.frames ∧ (st.map fun v => v.category).sum + (nativeFrameWords "java/lang/System" "arraycopy" 5 + 11) ≤ rm.locals)
    (kk : ∀ M1 : mm_M, M1 = mm_up M a (.inl (t1, n1, .inr (.inl (va_cpy f h sp.toNatClampNeg dp.toNatClampNeg nn.toNatClampNeg)))) → mm_Ev g l Y rm Q (pc + 3) ls st M1 n k j) : mm_Ev g l Y rm Q pc ls (.int nn :: .int dp :: .ref a :: .int sp :: .ref a0 :: st) M n k j := by
  intro p e s m args below meth c H locs lsM hC hH hS hL T hT X
  have hI := hC.2.2.2.2.2.2.2.2.1
  have hts := hC.2.2.2.2.2.1
  have n9 : ∀ z : Int32, ¬ z < 0 → z.toInt = (z.toNatClampNeg : Int) := by
    intro z hz
    have hz0 : (0 : Int) ≤ z.toInt := by
      have := Int32.not_lt.mp hz
      simpa using Int32.le_iff_toInt_le.mp this
    show z.toInt = ((z.toInt.toNat : Nat) : Int)
    omega
  obtain ⟨-, -, hc0⟩ := hH.2.2 a0 _ hm0
  obtain ⟨h1000, -, hc1⟩ := hH.2.2 a _ hm1
  have hc0 : H[mm_ad g a0]? = some (vp_cell (g.2.1 t0) (n0, .inr (.inl f))) := hc0
  have hc1 : H[mm_ad g a]? = some (vp_cell (g.2.1 t1) (n1, .inr (.inl h))) := hc1
  obtain ⟨-, k0, hk0, cm0, hkk0⟩ := (hI.1.2 t0 _ (mm_tys_at ht0)).1 n0 (fun j => .long (f j))
  obtain ⟨-, k1, hk1, cm1, hkk1⟩ := (hI.1.2 t1 _ (mm_tys_at ht1)).1 n1 (fun j => .long (h j))
  obtain ⟨vm', X', step⟩ := X.arraycopy hC.1 hC.2.2.2.2.1 (hts _ hw.1) (hts _ hw.2.1) (hts _ hw.2.2.1) (hts _ hw.2.2.2) (src := mm_ad g a0) (dst := mm_ad g a) (cs := vp_cell (g.2.1 t0) (n0, .inr (.inl f))) (cd := vp_cell (g.2.1 t1) (n1, .inr (.inl h))) (srcPos := sp) (destPos := dp) (n := nn) (by rw [hT]; exact hc0) (by rw [hT]; exact hc1)
    (fun _ h => by cases h) (fun _ h => by cases h) (fun h => by cases h) (fun h => by cases h) hk0 hk1 hkk0 hkk1 (by simp [refKind]) h1 h2 h3
    (by rw [n9 sp h1, n9 nn h3]; show ¬ _ > ((arrV _ n0 (fun j => .long (f j))).slots.size : Int); rw [arrV_size]; omega)
    (by rw [n9 dp h2, n9 nn h3]; show ¬ _ > ((arrV _ n1 (fun j => .long (h j))).slots.size : Int); rw [arrV_size]; omega)
    (fun vm₁ _ i hi => by
      have e : (vp_cell (g.2.1 t0) (n0, .inr (.inl f))).slots.getD (sp.toNatClampNeg + i) .null = .long (f (sp.toNatClampNeg + i)) := by
        show (arrV _ n0 (fun j => .long (f j))).slots.getD _ _ = _
        rw [Array.getD_eq_getD_getElem?, arrV_read _ _ (by omega)]
        rfl
      refine ⟨?_, ?_⟩
      · rw [e]
        rfl
      · rw [e]
        exact trivial)
    (g := F0 m pc lsM (.int nn :: .int dp :: .ref (mm_ad g a) :: .int sp :: .ref (mm_ad g a0) :: st.map (mm_tr g))) rfl (by rw [hC.2.2.1]; exact hL.1) (rest := st.map (mm_tr g)) rfl (by rw [hC.2.1]; exact hd) hroom.1 (by rw [mm_cat_sum]; show 2 * 0 + _ + _ ≤ _; omega)
  have e1 : copied (vp_cell (g.2.1 t0) (n0, .inr (.inl f))) (vp_cell (g.2.1 t1) (n1, .inr (.inl h))) sp dp nn = vp_cell (g.2.1 t1) (n1, .inr (.inl (va_cpy f h sp.toNatClampNeg dp.toNatClampNeg nn.toNatClampNeg))) := va_copied (fun z => .long z) _ _ f h h4
  rw [e1] at X' step
  have hl : mm_ad g a < H.size := (Array.getElem?_eq_some_iff.mp hc1).1
  have hheap : ((T.setVm vm').setCell (mm_ad g a) (vp_cell (g.2.1 t1) (n1, .inr (.inl (va_cpy f h sp.toNatClampNeg dp.toNatClampNeg nn.toNatClampNeg))))).heap = H.setIfInBounds (mm_ad g a) (vp_cell (g.2.1 t1) (n1, .inr (.inl (va_cpy f h sp.toNatClampNeg dp.toNatClampNeg nn.toNatClampNeg)))) := by rw [← hT]; rfl
  have oq : ∀ q : Nat, q ≠ mm_ad g a → (H.setIfInBounds (mm_ad g a) (vp_cell (g.2.1 t1) (n1, .inr (.inl (va_cpy f h sp.toNatClampNeg dp.toNatClampNeg nn.toNatClampNeg)))))[q]? = H[q]? := fun q hq => by simp [Array.getElem?_setIfInBounds, Ne.symm hq]
  obtain ⟨t, a1, b1⟩ := kk _ rfl p e s m args below meth c _ _ lsM hC (hH.set hm1 (e1 := .inl (t1, n1, .inr (.inl (va_cpy f h sp.toNatClampNeg dp.toNatClampNeg nn.toNatClampNeg)))) (by simp) oq (show (H.setIfInBounds (mm_ad g a) _)[mm_ad g a]? = some _ by simp [Array.getElem?_setIfInBounds, hl]; rfl)) ⟨by simp; exact hS.1, fun q g1 g2 => by
      rw [oq q (fun e => g2 (by rw [e]; exact mm_ad_A h1000))]
      exact hS.2.1 q g1 g2, fun q hq => by
      rcases List.mem_append.mp hq with h | h
      · exact hS.2.2 q h
      · obtain ⟨z, -, hz⟩ := List.mem_map.mp h
        rw [← hz]
        exact mm_ad_A h1000⟩ hL _ hheap X'
  exact ⟨t, step t a1, b1⟩
theorem zz_aast {a t N kd ci v : Nat} {ks : List Nat} {r : vw_C} {i : Int} (z : Int) (hd : zz_D Y pc .aastore 1 pc1) (hT : zz_T a = some (.inr (t, N, kd + 2))) (ht : mm_ty[t]? = some (.object r.1)) (hc : mm_cl[ci]? = some r) (hTv : zz_T v = some (.inl (ci, ks))) (hn : a < n) (hnv : v < n) (hN : N ≤ 2147483647) (hi : 0 ≤ i ∧ i < N) (h0 : 0 ≤ z) (hx : zz_rf (kd + 2) z = v) (kk : ∀ S1 : zz_S, S1 = zz_st S a i.toNat z → zz_E g l Y rm Q S1 n pc1 ls st k j) : zz_E g l Y rm Q S n pc ls (.ref v :: zi i :: .ref a :: st) k j := by
  refine mm_aast hd.1 (zz_M_at hn hT) ht hc (zz_M_at hnv hTv) (zz_in hi hN) (fun M1 e => zz_rw hd.2 ?_)
  have h := kk _ rfl
  unfold zz_E at h
  rw [zz_M_st hn hT] at h
  rw [e, zz_nc hi hN]
  have e2 : zz_en (.inr (t, N, kd + 2)) (zz_st S a i.toNat z a) = .inl (t, N, .inr (.inr (.inr (.inr (fun q => if q = i.toNat then some v else (if S a q < 0 then none else some (zz_rf (kd + 2) (S a q)))))))) := by
    have e3 : (fun q => if zz_st S a i.toNat z a q < 0 then none else some (zz_rf (kd + 2) (zz_st S a i.toNat z a q))) = (fun q => if q = i.toNat then some v else (if S a q < 0 then none else some (zz_rf (kd + 2) (S a q)))) := by
      funext q
      by_cases hq : q = i.toNat
      · subst hq
        rw [zz_st_s, if_neg (Int.not_lt.mpr h0), if_pos rfl, hx]
      · rw [zz_st_n (fun w => hq w.2), if_neg hq]
    simp only [zz_en, zz_av]
    rw [e3]
  rw [e2] at h
  exact h
theorem zz_copyl {a0 a n0 n1 t0 t1 index : Nat} {sp dp nn : Int} (hd : zz_D Y pc (.invokestatic index) 3 pc1) (hw : Cond.methodLink Y.1.cls index arraycopyName ∈ mm_tb ∧ Cond.native arraycopyName ∈ mm_tb ∧ Cond.static arraycopyName ∈ mm_tb ∧ Cond.initialized "java/lang/System" ∈ mm_tb) (hT0 : zz_T a0 = some (.inr (t0, n0, 1))) (hT1 : zz_T a = some (.inr (t1, n1, 1))) (ht0 : mm_ty[t0]? = some .long) (ht1 : mm_ty[t1]? = some .long) (hn0 : a0 < n) (hn1 : a < n) (hr : ∀ i, zz_rg a i = (-9223372036854775808, 9223372036854775807)) (hp : 0 ≤ sp ∧ 0 ≤ dp ∧ 0 ≤ nn ∧ sp + nn ≤ n0 ∧ dp + nn ≤ n1) (hN : n0 ≤ 2147483647 ∧ n1 ≤ 2147483647)
    (hroom : 1 ≤ rm.frames ∧ (st.map fun v => v.category).sum + (nativeFrameWords "java/lang/System" "arraycopy" 5 + 11) ≤ rm.locals) (G : zz_G S)
    (kk : ∀ S1 : zz_S, zz_G S1 → zz_fr [] [a] (fun _ _ => False) S S1 → zz_E g l Y rm Q S1 n pc1 ls st k j) : zz_E g l Y rm Q S n pc ls (zi nn :: zi dp :: .ref a :: zi sp :: .ref a0 :: st) k j := by
  have nz : ∀ z : Int, 0 ≤ z → z ≤ 2147483647 → ¬ Int32.ofInt z < 0 := fun z h1 h2 h => by
    rw [Int32.lt_iff_toInt_lt, zz_t32 (by omega)] at h
    have : (0 : Int32).toInt = 0 := by decide
    omega
  have nc : ∀ z : Int, 0 ≤ z → z ≤ 2147483647 → (Int32.ofInt z).toNatClampNeg = z.toNat := fun z h1 h2 => by
    rw [← Int32.toNat_toInt, zz_t32 (by omega)]
  refine mm_copyl hd.1 hw (zz_M_at hn0 hT0) (zz_M_at hn1 hT1) ht0 ht1 (nz sp hp.1 (by omega)) (nz dp hp.2.1 (by omega)) (nz nn hp.2.2.1 (by omega)) (by rw [nc sp hp.1 (by omega), nc nn hp.2.2.1 (by omega)]; omega) (by rw [nc dp hp.2.1 (by omega), nc nn hp.2.2.1 (by omega)]; omega) hroom (fun M1 e => zz_rw hd.2 ?_)
  generalize hF : va_cpy (fun i => Int64.ofInt (S a0 i)) (fun i => Int64.ofInt (S a i)) (Int32.ofInt sp).toNatClampNeg (Int32.ofInt dp).toNatClampNeg (Int32.ofInt nn).toNatClampNeg = F at e
  have h := kk (fun b i => if b = a then (F i).toInt else S b i) (fun b i hb => by
      show (zz_rg b i).1 ≤ (if b = a then (F i).toInt else S b i) ∧ (if b = a then (F i).toInt else S b i) ≤ (zz_rg b i).2
      by_cases q : b = a
      · subst q
        rw [if_pos rfl, hr]
        exact zz_r64 _
      · rw [if_neg q]
        exact G b i hb) (fun b i h1 h2 h3 => by
      have q : ¬ b = a := fun w => by subst w; simp at h2
      show (if b = a then _ else _) = _
      rw [if_neg q])
  unfold zz_E at h
  have e2 : zz_M (fun b i => if b = a then (F i).toInt else S b i) n = M1 := by
    rw [e]
    funext b
    by_cases q : b = a
    · subst q
      rw [mm_up_s, zz_M_at hn1 hT1]
      simp only [zz_en, zz_av, if_true, Int64.ofInt_toInt]
    · rw [mm_up_n q]
      simp only [zz_M, if_neg q]
  rw [e2] at h
  exact h
theorem zz_strV {t index : Nat} (ht : t < mm_txt.length) (h4 : t < 400) (hd : zz_D Y pc (.getfield index) 3 pc1) (hl : Cond.fieldLink Y.1.cls index "java/lang/String" "value" "[B" ∈ mm_tb) (kk : zz_E g l Y rm Q S n pc1 ls (.ref (500 + t) :: st) k j) : zz_E g l Y rm Q S n pc ls (.ref (100 + t) :: st) k j := by
  intro p e s m args below meth c H locs lsM hC hH hS hL
  have ha : mm_ad g (100 + t) = g.2.2.2 (100 + t) := by unfold mm_ad; rw [if_pos (by omega)]
  have hb : mm_ad g (500 + t) = g.2.2.2 (500 + t) := by unfold mm_ad; rw [if_pos (by omega)]
  show W p l e rm s m args below meth c H locs k j _ (F0 m pc lsM (.ref (mm_ad g (100 + t)) :: st.map (mm_tr g)))
  rw [ha]
  refine vk_getf hC.1 hC.2.1 (hC.2.2.2.2.2.2.2.2.1.2.2.2.2.1.1 t ht).2.2.1 hS hC.2.2.2.2.1 (hC.2.2.2.2.2.1 _ hl) (fun _ h => h) hd.1 ?_
  show W p l e rm s m args below meth c H locs k j _ (F0 m (pc + 3) lsM (.ref (g.2.2.2 (500 + t)) :: st.map (mm_tr g)))
  rw [← hb]
  exact zz_rw hd.2 kk p e s m args below meth c H locs lsM hC hH hS hL
theorem zz_strC {t index : Nat} (ht : t < mm_txt.length) (h4 : t < 400) (hd : zz_D Y pc (.getfield index) 3 pc1) (hl : Cond.fieldLink Y.1.cls index "java/lang/String" "coder" "B" ∈ mm_tb) (kk : zz_E g l Y rm Q S n pc1 ls (zi 0 :: st) k j) : zz_E g l Y rm Q S n pc ls (.ref (100 + t) :: st) k j := by
  intro p e s m args below meth c H locs lsM hC hH hS hL
  have ha : mm_ad g (100 + t) = g.2.2.2 (100 + t) := by unfold mm_ad; rw [if_pos (by omega)]
  show W p l e rm s m args below meth c H locs k j _ (F0 m pc lsM (.ref (mm_ad g (100 + t)) :: st.map (mm_tr g)))
  rw [ha]
  exact vk_getf hC.1 hC.2.1 (hC.2.2.2.2.2.2.2.2.1.2.2.2.2.1.1 t ht).2.1 hS hC.2.2.2.2.1 (hC.2.2.2.2.2.1 _ hl) (fun _ h => h) hd.1 (zz_rw hd.2 kk p e s m args below meth c H locs lsM hC hH hS hL)
theorem zz_gsZ {index : Nat} (hd : zz_D Y pc (.getstatic index) 3 pc1) (hl : Cond.fieldLink Y.1.cls index "java/lang/String" "COMPACT_STRINGS" "Z" ∈ mm_tb) (kk : zz_E g l Y rm Q S n pc1 ls (zi 1 :: st) k j) : zz_E g l Y rm Q S n pc ls st k j := by
  intro p e s m args below meth c H locs lsM hC hH hS hL
  exact va_gets hC.1 hC.2.1 hC.2.2.2.2.2.2.2.2.1.2.2.2.2.2.1 hS hC.2.2.2.2.1 (hC.2.2.2.2.2.1 _ hl) (fun _ h => h) hd.1 (zz_rw hd.2 kk p e s m args below meth c H locs lsM hC hH hS hL)
theorem zz_strL {t : Nat} (ht : t < mm_txt.length) (h4 : t < 400) (hd : zz_D Y pc .arraylength 1 pc1) (kk : zz_E g l Y rm Q S n pc1 ls (zi (mm_len.getD t 0 : Nat) :: st) k j) : zz_E g l Y rm Q S n pc ls (.ref (500 + t) :: st) k j := by
  intro p e s m args below meth c H locs lsM hC hH hS hL
  have hb : mm_ad g (500 + t) = g.2.2.2 (500 + t) := by unfold mm_ad; rw [if_pos (by omega)]
  show W p l e rm s m args below meth c H locs k j _ (F0 m pc lsM (.ref (mm_ad g (500 + t)) :: st.map (mm_tr g)))
  rw [hb]
  exact va_tlen hC.1 hC.2.1 (hC.2.2.2.2.2.2.2.2.1.2.2.2.2.1.1 t ht).2.2.2 hS (v := Int32.ofInt (mm_len.getD t 0 : Nat)) (Int32.ofInt_eq_ofNat).symm hd.1 (zz_rw hd.2 kk p e s m args below meth c H locs lsM hC hH hS hL)
theorem zz_strB {t : Nat} {i : Int} (ht : t < mm_txt.length) (h4 : t < 400) (hd : zz_D Y pc .baload 1 pc1) (hN : mm_len.getD t 0 ≤ 2147483647) (hi : 0 ≤ i ∧ i < (mm_len.getD t 0 : Nat)) (kk : ∀ v : Int, (-2147483648 ≤ v ∧ v ≤ 2147483647) → zz_E g l Y rm Q S n pc1 ls (zi v :: st) k j) : zz_E g l Y rm Q S n pc ls (zi i :: .ref (500 + t) :: st) k j := by
  intro p e s m args below meth c H locs lsM hC hH hS hL
  have hb : mm_ad g (500 + t) = g.2.2.2 (500 + t) := by unfold mm_ad; rw [if_pos (by omega)]
  show W p l e rm s m args below meth c H locs k j _ (F0 m pc lsM (.int (Int32.ofInt i) :: .ref (mm_ad g (500 + t)) :: st.map (mm_tr g)))
  rw [hb]
  have h9 := kk ((mm_byt.getD t []).getD (Int32.ofInt i).toNatClampNeg 0).toInt (zz_r32 _)
  unfold zi at h9
  rw [Int32.ofInt_toInt] at h9
  exact va_tb hC.1 hC.2.1 (hC.2.2.2.2.2.2.2.2.1.2.2.2.2.1.1 t ht).2.2.2 hS (zz_in hi hN) rfl hd.1 (zz_rw hd.2 h9 p e s m args below meth c H locs lsM hC hH hS hL)
theorem zz_gsQ {index : Nat} (hd : zz_D Y pc (.getstatic index) 3 pc1) (hl : Cond.fieldLink Y.1.cls index "jdk/internal/util/Preconditions" "SIOOBE_FORMATTER" "Ljava/util/function/BiFunction;" ∈ mm_tb) (kk : ∀ v : Value, v = .null ∨ v = .ref 999 → zz_E g l Y rm Q S n pc1 ls (v :: st) k j) : zz_E g l Y rm Q S n pc ls st k j := by
  intro p e s m args below meth c H locs lsM hC hH hS hL
  have ha : mm_ad g 999 = g.2.2.2 999 := rfl
  rcases hC.2.2.2.2.2.2.2.2.1.2.2.2.2.2.2.1 with h | h
  · exact va_gets hC.1 hC.2.1 h hS hC.2.2.2.2.1 (hC.2.2.2.2.2.1 _ hl) (fun _ h => h) hd.1 (zz_rw hd.2 (kk .null (Or.inl rfl)) p e s m args below meth c H locs lsM hC hH hS hL)
  · exact va_gets hC.1 hC.2.1 h hS hC.2.2.2.2.1 (hC.2.2.2.2.2.1 _ hl) (fun _ h => h) hd.1 (zz_rw hd.2 (kk (.ref 999) (Or.inr rfl)) p e s m args below meth c H locs lsM hC hH hS hL)
/-- a call of a text's own method -/
theorem zz_callT {Z : mm_Y} {rz : Room} {P : Int → zz_S → Prop} {t index np : Nat} {stk : List Value} (as : List Value) (ht : t < mm_txt.length) (h4 : t < 400) (hd : zz_D Y pc (.invokevirtual index) 3 pc1) (hZ : mm_Yw Z np ∧ Cond.methodLink Y.1.cls index Z.1 ∈ mm_tb ∧ Cond.instanceMethod Z.1 ∈ mm_tb ∧ Cond.selects "java/lang/String" Z.1 Z.1 ∈ mm_tb) (hst : stk = as.reverse ++ .ref (100 + t) :: st) (hlen : as.length = np) (hroom : rz.frames + 1 ≤ rm.frames ∧ (st.map fun v => v.category).sum + (Z.2.2.1 + 11) + rz.locals ≤ rm.locals) (hz : rz.cells = 0 ∧ rz.slots = 0) (hk : k ≤ rm.cells) (hj : j ≤ rm.slots) (hM : mm_Met g l Z rz (.ref (100 + t) :: as) (zz_M S n) n (zz_QI n P)) (kr : ∀ (v : Int) (S1 : zz_S), P v S1 → zz_E g l Y rm Q S1 n pc1 ls (zi v :: st) k j) : zz_E g l Y rm Q S n pc ls stk k j := by
  subst hst
  intro p e s m args below meth c H locs lsM hC hH hS hL
  obtain ⟨hx, hb, hml, -, hown, hts, -, -, hI, hbs⟩ := id hC
  obtain ⟨hYw, w1, w2, w3⟩ := hZ
  have ha : mm_ad g (100 + t) = g.2.2.2 (100 + t) := by unfold mm_ad; rw [if_pos (by omega)]
  obtain ⟨cellB, hcB, hoB, hclB⟩ := vk_recv hI.2.2.2.2.1 ht hS
  have hst : (as.reverse ++ .ref (100 + t) :: st).map (mm_tr g) = (as.map (mm_tr g)).reverse ++ .ref (mm_ad g (100 + t)) :: st.map (mm_tr g) := by
    rw [List.map_append, List.map_reverse]; rfl
  rw [hst]
  obtain ⟨mk0, methM0, hnamed0, hmeth0, -, -⟩ := Cond.instanceMethod_spec (hts _ w2)
  obtain ⟨methM', cM, hmethM', -, -, -, -, -, -, hsigM⟩ := Cond.code_spec hnamed0 (hts _ hYw.1)
  have hLk := mm_lkV (l := l) (e := e) (R := rm) (below := below) (meth := meth) (locs := locs) (cells := k) (slots := j) hx hown (hts _ w1) (hts _ w2) (hts _ w3) (sig0 := methM'.sig) (fun mk methM h1 h2 => by
    cases hnamed0.symm.trans h1
    cases hmethM'.symm.trans h2
    rfl) hYw.2.2.1 (by rw [ha]; exact hcB) hoB hclB (fr := F0 m pc lsM ((as.map (mm_tr g)).reverse ++ .ref (mm_ad g (100 + t)) :: st.map (mm_tr g))) rfl (argsL := as.map (mm_tr g)) (rest := st.map (mm_tr g)) (by rw [List.length_map, hlen]; exact hYw.len _ hsigM) rfl (by rw [hb]; exact hd.1)
  refine mm_callAny (S := headSpec (mm_wd Z) rz) (maxL := Z.2.2.1) (Wd := (st.map fun v => v.category).sum) hLk hM rfl (by rw [hml]; exact hL.1) hroom.1 hroom.2 (by rw [mm_cat_sum]; show 2 * 0 + _ ≤ _; omega) (by rw [hb]; exact hd.1)
    (fun U mk hW hn => mm_pay hYw hts hW hn) (by show k + rz.cells ≤ _; omega) (by show j + rz.slots ≤ _; omega) (fun U hW hU => ⟨rfl, (hI.moved hW).kept (by rw [hU]; exact hS.2.1), by rw [hU]; exact hH⟩) hS hbs
    (fun v M1 n1 H1 locs1 hQz hH1 hS1 => ?_) (fun i x M1 n1 H1 locs1 hQz hH1 hS1 hX => ?_)
  · obtain ⟨v1, S1, e1, hP⟩ := hQz
    cases e1
    have h9 := zz_rw hd.2 (kr v1 S1 hP) p e s m args below meth c H1 locs1 lsM hC hH1 hS1 hL
    have e2 : k + rz.cells = k := by omega
    have e3 : j + rz.slots = j := by omega
    show W p l e rm s m args below meth c H1 locs1 (k + rz.cells) (j + rz.slots) _ _
    rw [e2, e3]
    exact h9
  · obtain ⟨v1, S1, e1, hP⟩ := hQz
    cases e1
end ZJ
