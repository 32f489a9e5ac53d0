/-! New cells: objects, arrays, arrays of references; writes of final fields. -/
section ZN
variable {g : mm_G} {l : Launch} {Y : mm_Y} {rm : Room} {Q : mm_O → Prop} {pc pc1 : Nat} {ls : List (Option Value)} {st : List Value} {M : mm_M} {S : zz_S} {n k j : Nat}
theorem mm_anewa {index t N : Nat} {C : String} {z : Int32} (hd : decode Y.2.1 pc = .ok (.anewarray index, 3)) (ht : mm_ty[t]? = some (.object C)) (hl : Cond.classLink Y.1.cls index C ∈ mm_tb) (ho : Cond.arrayOver (.object C) ∈ mm_tb) (hn : ¬ z < 0) (hN : z.toNatClampNeg = N) (hbytes : N * 4 ≤ 536870912) (hcells : k + 1 ≤ rm.cells) (hslots : j + N ≤ rm.slots)
    (kk : ∀ M1 : mm_M, M1 = mm_up M n (.inl (t, N, .inr (.inr (.inr (.inr (fun _ => none)))))) → mm_Ev g l Y rm Q (pc + 3) ls (.ref n :: st) M1 (n + 1) (k + 1) (j + N)) : mm_Ev g l Y rm Q pc ls (.int z :: st) M n k j := by
  intro p e s m args below meth c H locs lsM hC hH hS hL
  obtain ⟨hx, hb, -, -, hown, hts, -, -, hI, hbs⟩ := id hC
  subst hN
  refine W.anew hx hb hown (hts _ hl) (hts _ ho) rfl hd rfl hn hbytes hcells hslots fun cA kA comp f1 f2 f3 f4 => ?_
  generalize hH1 : H.push ({ cls := cA, slots := Array.replicate z.toNatClampNeg .null, vm := .none } : Cell) = H1
  have z1 : H1.size = H.size + 1 := by rw [← hH1, Array.size_push]
  have e1 : H1[H.size]? = some (arrV cA z.toNatClampNeg (fun _ => .null)) := by rw [← hH1, Array.getElem?_push_size, ← arrV_new]
  have o1 : ∀ q : Nat, q < H.size → H1[q]? = H[q]? := fun q hq => by rw [← hH1, Array.getElem?_push, if_neg (Nat.ne_of_lt hq)]
  have hend := hH.end
  obtain ⟨kA2, comp2, k1, k2, k3, k4⟩ := (hI.1.2 t _ (mm_tys_at ht)).2
  have hcA : g.2.1 t = cA := Option.some.inj (k4.symm.trans f1)
  have h9 := kk _ rfl p e s m args below meth c H1 locs lsM hC (hH.push z1 o1 (by
    rw [hend]
    show H1[H.size]? = some (vp_cell (g.2.1 t) (z.toNatClampNeg, .inr (.inr (.inr (.inr (fun _ => none))))))
    rw [hcA, e1, vp_cell_q]
    rfl)) ⟨Nat.le_trans hS.1 (by omega), fun q h1 h2 => (o1 q (Nat.lt_of_lt_of_le h1 hS.1)).trans (hS.2.1 q h1 h2), hS.2.2⟩ hL
  have e9 : mm_tr g (.ref n) = .ref H.size := by show Value.ref (mm_ad g n) = _; rw [hend]
  rw [List.map_cons, e9] at h9
  exact h9
def zz_nw (S : zz_S) (n : Nat) (f : Nat → Int) : zz_S := fun a i => if a = n then f i else S a i
theorem zz_nw_s {S : zz_S} {n i : Nat} {f : Nat → Int} : zz_nw S n f n i = f i := if_pos rfl
theorem zz_nw_n {S : zz_S} {n a i : Nat} {f : Nat → Int} (h : a ≠ n) : zz_nw S n f a i = S a i := if_neg h
theorem zz_M_nw {S : zz_S} {n : Nat} {f : Nat → Int} {L : zz_L} (hT : zz_T n = some L) : zz_M (zz_nw S n f) (n + 1) = mm_up (zz_M S n) n (zz_en L f) := by
  funext b
  by_cases h : b = n
  · subst h
    rw [mm_up_s, zz_M_at (Nat.lt_succ_self _) hT]
    congr 2
    funext i
    exact zz_nw_s
  · rw [mm_up_n h]
    simp only [zz_M]
    by_cases h2 : b < n
    · rw [if_pos h2, if_pos (by omega)]
      congr 1
      funext L2
      congr 1
      funext i
      exact zz_nw_n h
    · rw [if_neg h2, if_neg (by omega)]
theorem zz_new {index ci N : Nat} {fs : List Value} {ks : List Nat} (f : Nat → Int) (hd : zz_D Y pc (.new index) 3 pc1) (hN : mm_Nl Y.1.cls index ci N fs) (hT : zz_T n = some (.inl (ci, ks))) (hfs : zz_fs ks f = fs) (hcells : k + 1 ≤ rm.cells) (hslots : j + N ≤ rm.slots) (kk : ∀ S1 : zz_S, S1 = zz_nw S n f → zz_E g l Y rm Q S1 (n + 1) pc1 ls (.ref n :: st) (k + 1) (j + N)) : zz_E g l Y rm Q S n pc ls st k j := by
  refine mm_new hd.1 hN hcells hslots (fun M1 e => zz_rw hd.2 ?_)
  have h := kk _ rfl
  unfold zz_E at h
  rw [zz_M_nw hT] at h
  rw [e]
  simp only [zz_en, hfs] at h
  exact h
theorem zz_newa {atype : ArrayType} {t N kd : Nat} {z : Int} (f : Nat → Int) (hd : zz_D Y pc (.newarray atype) 2 pc1) (hT : zz_T n = some (.inr (t, N, kd))) (ht : mm_ty[t]? = some (newarray.typeOf atype)) (hw : Cond.arrayClass (newarray.typeOf atype) ∈ mm_tb) (hz : z = (N : Int)) (hN : N ≤ 2147483647) (hbytes : N * componentBytes (newarray.typeOf atype) ≤ 536870912) (ha : ∀ cA : ClassId, vp_cell cA (zz_av N kd f) = arrV cA N (fun _ => defaultValue (newarray.typeOf atype))) (htr : ∀ g : mm_G, mm_trA g (zz_av N kd f) = zz_av N kd f) (hnq : ∀ C : String, newarray.typeOf atype ≠ .object C) (hcells : k + 1 ≤ rm.cells) (hslots : j + N ≤ rm.slots) (kk : ∀ S1 : zz_S, S1 = zz_nw S n f → zz_E g l Y rm Q S1 (n + 1) pc1 ls (.ref n :: st) (k + 1) (j + N)) : zz_E g l Y rm Q S n pc ls (zi z :: st) k j := by
  subst hz
  refine mm_newa hd.1 ht hw (fun h => ?_) ?_ hbytes ha htr hnq hcells hslots (fun M1 e => zz_rw hd.2 ?_)
  · rw [Int32.lt_iff_toInt_lt, zz_t32 (by omega)] at h
    have : (0 : Int32).toInt = 0 := by decide
    omega
  · rw [← Int32.toNat_toInt, zz_t32 (by omega)]
    omega
  · have h := kk _ rfl
    unfold zz_E at h
    rw [zz_M_nw hT] at h
    rw [e]
    exact h
theorem zz_anewa {index t N kd : Nat} {C : String} {z : Int} (f : Nat → Int) (hd : zz_D Y pc (.anewarray index) 3 pc1) (hT : zz_T n = some (.inr (t, N, kd + 2))) (ht : mm_ty[t]? = some (.object C)) (hl : Cond.classLink Y.1.cls index C ∈ mm_tb) (ho : Cond.arrayOver (.object C) ∈ mm_tb) (hz : z = (N : Int)) (hN : N ≤ 100000000) (hf : ∀ i, f i < 0) (hcells : k + 1 ≤ rm.cells) (hslots : j + N ≤ rm.slots) (kk : ∀ S1 : zz_S, S1 = zz_nw S n f → zz_E g l Y rm Q S1 (n + 1) pc1 ls (.ref n :: st) (k + 1) (j + N)) : zz_E g l Y rm Q S n pc ls (zi z :: st) k j := by
  subst hz
  refine mm_anewa hd.1 ht hl ho (fun h => ?_) (N := N) ?_ (by omega) hcells hslots (fun M1 e => zz_rw hd.2 ?_)
  · rw [Int32.lt_iff_toInt_lt, zz_t32 (by omega)] at h
    have : (0 : Int32).toInt = 0 := by decide
    omega
  · rw [← Int32.toNat_toInt, zz_t32 (by omega)]
    omega
  · have h := kk _ rfl
    unfold zz_E at h
    rw [zz_M_nw hT] at h
    rw [e]
    have e2 : zz_en (.inr (t, N, kd + 2)) f = .inl (t, N, .inr (.inr (.inr (.inr (fun _ => none))))) := by
      have e3 : (fun i => if f i < 0 then none else some (zz_rf (kd + 2) (f i))) = (fun _ => (none : Option Nat)) := by
        funext i
        rw [if_pos (hf i)]
      simp only [zz_en, zz_av]
      rw [e3]
    rw [e2] at h
    exact h
end ZN
