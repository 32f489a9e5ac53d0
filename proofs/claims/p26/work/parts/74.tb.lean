/-! A string's byte, exactly. By hand. -/
/-- a string's byte, exactly -/
theorem zt_strB {g : mm_G} {l : Launch} {Y : mm_Y} {rm : Room} {Q : mm_O → Prop} {pc pc1 : Nat} {ls : List (Option Value)} {st : List Value} {S : zz_S} {n k j : Nat} {t : Nat} {i : Int} (ht : t < mm_txt.length) (h4 : t < 400) (hd : zz_D Y pc .baload 1 pc1) (hN : mm_len.getD t 0 ≤ 2147483647) (hi : 0 ≤ i ∧ i < (mm_len.getD t 0 : Nat)) (kk : ∀ v : Int, (-2147483648 ≤ v ∧ v ≤ 2147483647) → v = zt_by t i.toNat → zz_E g l Y rm Q S n pc1 ls (zi v :: st) k j) : zz_E g l Y rm Q S n pc ls (zi i :: .ref (500 + t) :: st) k j := by
  intro p e s m args below meth c H locs lsM hC hH hS hL
  have hb : mm_ad g (500 + t) = g.2.2.2 (500 + t) := by unfold mm_ad; rw [if_pos (by omega)]
  show W p l e rm s m args below meth c H locs k j _ (F0 m pc lsM (.int (Int32.ofInt i) :: .ref (mm_ad g (500 + t)) :: st.map (mm_tr g)))
  rw [hb]
  have hx : (Int32.ofInt i).toNatClampNeg = i.toNat := by
    show (Int32.ofInt i).toInt.toNat = i.toNat
    rw [zz_t32 (by omega)]
  have h9 := kk ((mm_byt.getD t []).getD (Int32.ofInt i).toNatClampNeg 0).toInt (zz_r32 _) (by rw [hx]; exact zt_gdm _ _)
  unfold zi at h9
  rw [Int32.ofInt_toInt] at h9
  exact va_tb hC.1 hC.2.1 (hC.2.2.2.2.2.2.2.2.1.2.2.2.2.1.1 t ht).2.2.2 hS (zz_in hi hN) rfl hd.1 (zz_rw hd.2 h9 p e s m args below meth c H locs lsM hC hH hS hL)
