-- TensorForgeModel takeParts (I)Z
abbrev zr_takeParts_14_101 : Room := { frames := 5, cells := 0, slots := 0, locals := 75 }
def zp_takeParts_14_101 (p0 : Int) (S0 : zz_S) : Int → zz_S → Prop := fun r S => zz_G S ∧ zz_fr [(1079, 30), (1079, 31), (1079, 32), (1079, 61), (1079, 64), (1079, 65), (1118, 7)] [1118] (fun _ _ => False) S0 S ∧ (0 ≤ r ∧ r ≤ 1) ∧ (∀ p K : Int, zt_MK (S0 1099) (S0 1079 33) p (S0 1079 30) (S0 1079 32) (S0 1079 31) (S0 1079 61) → 0 ≤ p → 0 ≤ K ∧ K ≤ 3 → p0 = zn_ma K → (r = 1 ∧ (zt_no (zt_km (S0 1099) (S0 1079 33)) (zt_tn (S0 1099) (S0 1079 33)) (zt_tv (S0 1099) (S0 1079 33)) (zt_kd (S0 1099) (S0 1079 33)) (zn_al K) (S0 1117) (S0 1079 36).toNat 1600 ((zt_km (S0 1099) (S0 1079 33)) p) ((zt_kd (S0 1099) (S0 1079 33)) p) ((zt_tn (S0 1099) (S0 1079 33)) p) zn_o0) 0 = 1 ∧ (zn_T8 (S 1118) (zt_no (zt_km (S0 1099) (S0 1079 33)) (zt_tn (S0 1099) (S0 1079 33)) (zt_tv (S0 1099) (S0 1079 33)) (zt_kd (S0 1099) (S0 1079 33)) (zn_al K) (S0 1117) (S0 1079 36).toNat 1600 ((zt_km (S0 1099) (S0 1079 33)) p) ((zt_kd (S0 1099) (S0 1079 33)) p) ((zt_tn (S0 1099) (S0 1079 33)) p) zn_o0) ∧ S 1079 64 = (zt_no (zt_km (S0 1099) (S0 1079 33)) (zt_tn (S0 1099) (S0 1079 33)) (zt_tv (S0 1099) (S0 1079 33)) (zt_kd (S0 1099) (S0 1079 33)) (zn_al K) (S0 1117) (S0 1079 36).toNat 1600 ((zt_km (S0 1099) (S0 1079 33)) p) ((zt_kd (S0 1099) (S0 1079 33)) p) ((zt_tn (S0 1099) (S0 1079 33)) p) zn_o0) 9) ∧ ∀ i : Int, 1 ≤ i → i ≤ 8 → (zt_bt (S 1079 65) (i.toNat - 1) = true ↔ (zt_no (zt_km (S0 1099) (S0 1079 33)) (zt_tn (S0 1099) (S0 1079 33)) (zt_tv (S0 1099) (S0 1079 33)) (zt_kd (S0 1099) (S0 1079 33)) (zn_al K) (S0 1117) (S0 1079 36).toNat 1600 ((zt_km (S0 1099) (S0 1079 33)) p) ((zt_kd (S0 1099) (S0 1079 33)) p) ((zt_tn (S0 1099) (S0 1079 33)) p) zn_o0) (10 + i.toNat) = 1)) ∨ (r = 0 ∧ (zt_no (zt_km (S0 1099) (S0 1079 33)) (zt_tn (S0 1099) (S0 1079 33)) (zt_tv (S0 1099) (S0 1079 33)) (zt_kd (S0 1099) (S0 1079 33)) (zn_al K) (S0 1117) (S0 1079 36).toNat 1600 ((zt_km (S0 1099) (S0 1079 33)) p) ((zt_kd (S0 1099) (S0 1079 33)) p) ((zt_tn (S0 1099) (S0 1079 33)) p) zn_o0) 0 ≠ 1))
theorem zb_takeParts_14_101_40 {g : mm_G} {l : Launch} (p0 : Int) (S0 : zz_S) (n : Nat) (hn : zz_end ≤ n) (G_S0 : zz_G S0) (hp0 : (-2147483648) ≤ p0 ∧ p0 ≤ 2147483647) (hN : ∀ w : Nat, 1 ≤ w → w ≤ 20 → S0 1100 w = zt_cd (zt_nw.getD w []))  (S : zz_S) (G_S : zz_G S) (F_S : zz_fr [(1079, 30), (1079, 31), (1079, 32), (1079, 61), (1079, 64), (1079, 65), (1118, 7)] [1118] (fun _ _ => False) S0 S) (i40_0 : ∀ p K : Int, zt_MK (S0 1099) (S0 1079 33) p (S0 1079 30) (S0 1079 32) (S0 1079 31) (S0 1079 61) → 0 ≤ p → 0 ≤ K ∧ K ≤ 3 → p0 = zn_ma K → ∃ q : Int, zt_MK (S0 1099) (S0 1079 33) q (S 1079 30) (S 1079 32) (S 1079 31) (S 1079 61) ∧ 0 ≤ q ∧ zn_IO (zt_km (S0 1099) (S0 1079 33)) (zt_tn (S0 1099) (S0 1079 33)) (zt_tv (S0 1099) (S0 1079 33)) (zt_kd (S0 1099) (S0 1079 33)) K (S0 1117) (S0 1079 36).toNat (S 1079 65) q (fun o => zn_T8 (S 1118) o ∧ S 1079 64 = o 9) (zt_no (zt_km (S0 1099) (S0 1079 33)) (zt_tn (S0 1099) (S0 1079 33)) (zt_tv (S0 1099) (S0 1079 33)) (zt_kd (S0 1099) (S0 1079 33)) (zn_al K) (S0 1117) (S0 1079 36).toNat 1600 ((zt_km (S0 1099) (S0 1079 33)) p) ((zt_kd (S0 1099) (S0 1079 33)) p) ((zt_tn (S0 1099) (S0 1079 33)) p) zn_o0)) (R : Nat) (hR : 3 * (1501 - S 1079 32).toNat + (if S 1079 30 = 0 then (0 : Int) else if S 1079 30 = 101 then 1 else 2).toNat = R) (k40 : ∀  (S : zz_S), zz_G S → zz_fr [(1079, 30), (1079, 31), (1079, 32), (1079, 61), (1079, 64), (1079, 65), (1118, 7)] [1118] (fun _ _ => False) S0 S → (∀ p K : Int, zt_MK (S0 1099) (S0 1079 33) p (S0 1079 30) (S0 1079 32) (S0 1079 31) (S0 1079 61) → 0 ≤ p → 0 ≤ K ∧ K ≤ 3 → p0 = zn_ma K → ∃ q : Int, zt_MK (S0 1099) (S0 1079 33) q (S 1079 30) (S 1079 32) (S 1079 31) (S 1079 61) ∧ 0 ≤ q ∧ zn_IO (zt_km (S0 1099) (S0 1079 33)) (zt_tn (S0 1099) (S0 1079 33)) (zt_tv (S0 1099) (S0 1079 33)) (zt_kd (S0 1099) (S0 1079 33)) K (S0 1117) (S0 1079 36).toNat (S 1079 65) q (fun o => zn_T8 (S 1118) o ∧ S 1079 64 = o 9) (zt_no (zt_km (S0 1099) (S0 1079 33)) (zt_tn (S0 1099) (S0 1079 33)) (zt_tv (S0 1099) (S0 1079 33)) (zt_kd (S0 1099) (S0 1079 33)) (zn_al K) (S0 1117) (S0 1079 36).toNat 1600 ((zt_km (S0 1099) (S0 1079 33)) p) ((zt_kd (S0 1099) (S0 1079 33)) p) ((zt_tn (S0 1099) (S0 1079 33)) p) zn_o0)) → 3 * (1501 - S 1079 32).toNat + (if S 1079 30 = 0 then (0 : Int) else if S 1079 30 = 101 then 1 else 2).toNat < R → zz_E g l zy_takeParts_14_101 zr_takeParts_14_101 (zz_QI n (zp_takeParts_14_101 p0 S0)) S n 40 [some (.ref 1079), some (zi p0)] [] 0 0) : zz_E g l zy_takeParts_14_101 zr_takeParts_14_101 (zz_QI n (zp_takeParts_14_101 p0 S0)) S n 40 [some (.ref 1079), some (zi p0)] [] 0 0 := by
  refine zz_aload_n (x := 1079) rfl zd_14_101_40 ?_
  have g37 := zz_G.r G_S 1079 30 0 102 rfl rfl
  refine zz_geti (z := S 1079 30) zd_14_101_41 zf_Md_347 zT_1079 rfl (zz_ltn hn rfl) rfl ?_
  refine zz_if_eq (by omega) zd_14_101_44 (fun c38 => ?_) (fun c38 => ?_)
  · refine zz_iconst zd_14_101_96 ?_
    have g39 := zz_G.r G_S 1079 65 0 255 rfl rfl
    exact zz_zret zd_14_101_97 rfl (by omega) (Nat.zero_le _) (Nat.zero_le _) ⟨_, _, rfl, G_S, F_S, by omega, (fun p K hM hp hK hm => by have g9_ := zz_G.r G_S 1079 32 0 1500 rfl rfl; obtain ⟨q, hQ, hq0, i9⟩ := i40_0 p K hM hp hK hm; have q1 := hQ.1; have q2 := hQ.2.1; have q3 := zt_tnge (f := (S0 1099)) (e := S0 1079 33) (p := q); have E9 := zn_IOE i9 (fun o ho => ho) (by omega) (by omega); exact Or.inl ⟨rfl, E9.1, E9.2.2, E9.2.1⟩)⟩
  · refine zz_aload_n (x := 1079) rfl zd_14_101_47 ?_
    refine zz_callVI [] zd_14_101_48 zk_Md_570 zT_1079 (zz_ltn hn rfl) rfl rfl ⟨Nat.le_of_ble_eq_true rfl, Nat.le_of_ble_eq_true rfl⟩ ⟨rfl, rfl⟩ (Nat.zero_le _) (Nat.zero_le _) (zc_partOf_14_99  S n hn G_S ) (fun v41 S40 hP => ?_)
    obtain ⟨rfl, o42, o43, o44⟩ := hP
    refine zz_istore_n [some (.ref 1079), some (zi p0), some (zi v41)] zd_14_101_51 (by decide) rfl ?_
    refine zz_iload_n (x := v41) rfl zd_14_101_52 ?_
    refine zz_iload_n (x := p0) rfl zd_14_101_53 ?_
    refine zz_iand (by omega) (by omega) zd_14_101_54 (fun v45 hv45 av45 bv45 ev45 => ?_)
    skip
    refine zz_if_eq (by omega) zd_14_101_55 (fun c46 => ?_) (fun c46 => ?_)
    · refine zz_iconst zd_14_101_67 ?_
      have g47 := zz_G.r G_S 1079 65 0 255 rfl rfl
      exact zz_zret zd_14_101_68 rfl (by omega) (Nat.zero_le _) (Nat.zero_le _) ⟨_, _, rfl, G_S, F_S, by omega, (fun p K hM hp hK hm => by have g9_ := zz_G.r G_S 1079 32 0 1500 rfl rfl; obtain ⟨q, hQ, hq0, i9⟩ := i40_0 p K hM hp hK hm; have q1 := hQ.1; have q2 := hQ.2.1; have q3 := zt_tnge (f := (S0 1099)) (e := S0 1079 33) (p := q); have b9 := o44; rw [zt_obc (u := zt_kd (S0 1099) (S0 1079 33) q) (fun h => hQ.2.2.2 h), q1] at b9; exact Or.inr ⟨rfl, fun x => by have z := zn_RON i9 (by omega) hK (by omega) b9 hm ev45 (Or.inl (by omega)); omega⟩)⟩
    · refine zz_iload_n (x := v41) rfl zd_14_101_58 ?_
      refine zz_aload_n (x := 1079) rfl zd_14_101_59 ?_
      have g48 := zz_G.r G_S 1079 65 0 255 rfl rfl
      refine zz_geti (z := S 1079 65) zd_14_101_60 zf_Md_567 zT_1079 rfl (zz_ltn hn rfl) rfl ?_
      refine zz_iand (by omega) (by omega) zd_14_101_63 (fun v49 hv49 av49 bv49 ev49 => ?_)
      skip
      refine zz_if_eq (by omega) zd_14_101_64 (fun c50 => ?_) (fun c50 => ?_)
      · refine zz_aload_n (x := 1079) rfl zd_14_101_69 ?_
        refine zz_aload_n (x := 1079) rfl zd_14_101_70 ?_
        refine zz_geti (z := S 1079 65) zd_14_101_71 zf_Md_567 zT_1079 rfl (zz_ltn hn rfl) rfl ?_
        refine zz_iload_n (x := v41) rfl zd_14_101_74 ?_
        refine zz_ior (by omega) (by omega) zd_14_101_75 (fun v51 hv51 av51 ev51 => ?_)
        have ob9 := zz_orb8 (by omega) (by omega) ev51
        skip
        refine zz_puti zd_14_101_76 zf_Md_567 zT_1079 rfl (zz_ltn hn rfl) (fun S52 qS52 => ?_)
        have G_S52 := zz_G.put G_S qS52 0 255 rfl (by omega)
        have F_S52 := zz_fr.puts F_S qS52 rfl
        refine zz_aload_n (x := 1079) rfl zd_14_101_79 ?_
        have g53 := zz_G.r G_S 1079 32 0 1500 rfl rfl
        have e54 : S52 1079 32 = S 1079 32 := (zz_ro qS52 (fun h => absurd h.2 (by decide)) rfl)
        have g55 := zz_G.r G_S0 1079 33 0 1500 rfl rfl
        have e56 : S52 1079 33 = S0 1079 33 := (zz_ro qS52 (fun h => absurd h.2 (by decide)) (zz_rc F_S rfl rfl (fun h => h) rfl))
        refine zz_callVV [] zd_14_101_80 zk_Md_526 zT_1079 (zz_ltn hn rfl) rfl rfl ⟨Nat.le_of_ble_eq_true rfl, Nat.le_of_ble_eq_true rfl⟩ ⟨rfl, rfl⟩ (Nat.zero_le _) (Nat.zero_le _) (zc_advanceNet_14_93  S52 n hn G_S52 (fun u h1 h2 => ((zz_ro qS52 (fun h => absurd h.1 (by decide)) (zz_rc F_S (zz_nc1 rfl) rfl (fun h => h) rfl))).trans (hN u h1 h2))) (fun S57 hP => ?_)
        obtain ⟨G_S57, fS57, o59, o60, o61, o62, o63, o64⟩ := hP
        rw [show S52 1079 32 = S 1079 32 from (zz_ro qS52 (fun h => absurd h.2 (by decide)) rfl)] at o59
        rw [show S52 1099 = S0 1099 from funext (fun u => (zz_ro qS52 (fun h => absurd h.1 (by decide)) (zz_rc F_S (zz_nc1 rfl) rfl (fun h => h) rfl))), show S52 1079 33 = S0 1079 33 from (zz_ro qS52 (fun h => absurd h.2 (by decide)) (zz_rc F_S rfl rfl (fun h => h) rfl)), show S52 1079 32 = S 1079 32 from (zz_ro qS52 (fun h => absurd h.2 (by decide)) rfl)] at o60
        rw [show S52 1099 = S0 1099 from funext (fun u => (zz_ro qS52 (fun h => absurd h.1 (by decide)) (zz_rc F_S (zz_nc1 rfl) rfl (fun h => h) rfl))), show S52 1079 33 = S0 1079 33 from (zz_ro qS52 (fun h => absurd h.2 (by decide)) (zz_rc F_S rfl rfl (fun h => h) rfl)), show S52 1079 32 = S 1079 32 from (zz_ro qS52 (fun h => absurd h.2 (by decide)) rfl)] at o61
        rw [show S52 1099 = S0 1099 from funext (fun u => (zz_ro qS52 (fun h => absurd h.1 (by decide)) (zz_rc F_S (zz_nc1 rfl) rfl (fun h => h) rfl))), show S52 1079 33 = S0 1079 33 from (zz_ro qS52 (fun h => absurd h.2 (by decide)) (zz_rc F_S rfl rfl (fun h => h) rfl)), show S52 1079 32 = S 1079 32 from (zz_ro qS52 (fun h => absurd h.2 (by decide)) rfl)] at o62
        rw [show S52 1099 = S0 1099 from funext (fun u => (zz_ro qS52 (fun h => absurd h.1 (by decide)) (zz_rc F_S (zz_nc1 rfl) rfl (fun h => h) rfl))), show S52 1079 33 = S0 1079 33 from (zz_ro qS52 (fun h => absurd h.2 (by decide)) (zz_rc F_S rfl rfl (fun h => h) rfl)), show S52 1079 32 = S 1079 32 from (zz_ro qS52 (fun h => absurd h.2 (by decide)) rfl)] at o63
        rw [show S52 1099 = S0 1099 from funext (fun u => (zz_ro qS52 (fun h => absurd h.1 (by decide)) (zz_rc F_S (zz_nc1 rfl) rfl (fun h => h) rfl))), show S52 1079 33 = S0 1079 33 from (zz_ro qS52 (fun h => absurd h.2 (by decide)) (zz_rc F_S rfl rfl (fun h => h) rfl)), show S52 1079 32 = S 1079 32 from (zz_ro qS52 (fun h => absurd h.2 (by decide)) rfl)] at o64
        have F_S57 := zz_fr.trans F_S52 fS57 rfl zz_nv
        refine zz_aload_n (x := 1079) rfl zd_14_101_83 ?_
        refine zz_iload_n (x := v41) rfl zd_14_101_84 ?_
        have g65 := zz_G.r G_S57 1079 30 0 102 rfl rfl
        have g66 := zz_G.r G_S57 1079 32 0 1500 rfl rfl
        have g67 := zz_G.r G_S57 1079 31 0 9999 rfl rfl
        have e68 : S57 1079 33 = S0 1079 33 := (zz_rc fS57 rfl rfl (fun h => h) (zz_ro qS52 (fun h => absurd h.2 (by decide)) (zz_rc F_S rfl rfl (fun h => h) rfl)))
        have g69 := zz_G.r G_S0 1079 36 0 11 rfl rfl
        have e70 : S57 1079 36 = S0 1079 36 := (zz_rc fS57 rfl rfl (fun h => h) (zz_ro qS52 (fun h => absurd h.2 (by decide)) (zz_rc F_S rfl rfl (fun h => h) rfl)))
        have e71 : S57 1079 64 = S 1079 64 := (zz_rc fS57 rfl rfl (fun h => h) (zz_ro qS52 (fun h => absurd h.2 (by decide)) rfl))
        refine zz_callVI [zi v41] zd_14_101_85 zk_Md_573 zT_1079 (zz_ltn hn rfl) rfl rfl ⟨Nat.le_of_ble_eq_true rfl, Nat.le_of_ble_eq_true rfl⟩ ⟨rfl, rfl⟩ (Nat.zero_le _) (Nat.zero_le _) (zc_takePart_14_100 v41 S57 n hn G_S57 (by omega) (fun u h1 h2 => ((zz_rc fS57 (zz_nc1 rfl) rfl (fun h => h) (zz_ro qS52 (fun h => absurd h.1 (by decide)) (zz_rc F_S (zz_nc1 rfl) rfl (fun h => h) rfl)))).trans (hN u h1 h2))) (fun v73 S72 hP => ?_)
        obtain ⟨G_S72, fS72, o74, o75, o76⟩ := hP
        rw [show S57 1099 = S0 1099 from funext (fun u => (zz_rc fS57 (zz_nc1 rfl) rfl (fun h => h) (zz_ro qS52 (fun h => absurd h.1 (by decide)) (zz_rc F_S (zz_nc1 rfl) rfl (fun h => h) rfl)))), show S57 1117 = S0 1117 from funext (fun u => (zz_rc fS57 (zz_nc1 rfl) rfl (fun h => h) (zz_ro qS52 (fun h => absurd h.1 (by decide)) (zz_rc F_S (zz_nc1 rfl) rfl (fun h => h) rfl)))), show S57 1079 36 = S0 1079 36 from (zz_rc fS57 rfl rfl (fun h => h) (zz_ro qS52 (fun h => absurd h.2 (by decide)) (zz_rc F_S rfl rfl (fun h => h) rfl))), show S57 1079 33 = S0 1079 33 from (zz_rc fS57 rfl rfl (fun h => h) (zz_ro qS52 (fun h => absurd h.2 (by decide)) (zz_rc F_S rfl rfl (fun h => h) rfl)))] at o76
        have F_S72 := zz_fr.trans F_S57 fS72 rfl (fun a i h => by rcases h with h | h | h | h | h | h | h; exact Or.inr (Or.inl (by rw [h.1]; rfl)); exact Or.inr (Or.inl (by rw [h.1]; rfl)); exact Or.inr (Or.inl (by rw [h.1]; rfl)); exact Or.inr (Or.inl (by rw [h.1]; rfl)); exact Or.inr (Or.inl (by rw [h.1]; rfl)); exact Or.inr (Or.inl (by rw [h.1]; rfl)); exact Or.inr (Or.inl (by rw [h.1]; rfl)))
        rcases (by omega : v73 = 0 ∨ v73 = 1) with rfl | rfl
        · refine zz_if_ne (by omega) zd_14_101_88 (fun c77 => ?_) (fun c77 => ?_)
          · exfalso; omega
          · refine zz_iconst zd_14_101_91 ?_
            have e78 : S72 1079 65 = v51 := (zz_rc fS72 rfl rfl (by first | decide | (intro h; rcases h with h | h | h | h | h | h | h; exact absurd h.1 (by decide); exact absurd h.1 (by decide); exact absurd h.1 (by decide); exact absurd h.1 (by decide); exact absurd h.1 (by decide); exact absurd h.1 (by decide); exact absurd h.1 (by decide)) | omega) (zz_rc fS57 rfl rfl (fun h => h) (zz_rs qS52)))
            exact zz_zret zd_14_101_92 rfl (by omega) (Nat.zero_le _) (Nat.zero_le _) ⟨_, _, rfl, G_S72, F_S72, by omega, (fun p K hM hp hK hm => by have g9_ := zz_G.r G_S 1079 32 0 1500 rfl rfl; obtain ⟨q, hQ, hq0, i9⟩ := i40_0 p K hM hp hK hm; have q1 := hQ.1; have q2 := hQ.2.1; have q3 := zt_tnge (f := (S0 1099)) (e := S0 1079 33) (p := q); have b9 := o44; rw [zt_obc (u := zt_kd (S0 1099) (S0 1079 33) q) (fun h => hQ.2.2.2 h), q1] at b9; have y9 := zn_oby b9 ev45 (by omega); exact Or.inr ⟨rfl, fun x => by have z := zn_RON i9 (by omega) hK (by omega) b9 hm ev45 (Or.inr (Or.inr ⟨by omega, fun o ho => by rcases o76 _ _ o (by have a9 := o64; rw [q2] at a9; exact a9) y9 b9 ⟨by rw [show S57 1118 = S 1118 from funext (fun u => (zz_rc fS57 (zz_nc1 rfl) rfl (fun h => h) (zz_ro qS52 (fun h => absurd h.1 (by decide)) rfl)))]; exact ho.1, by have z := ho.2; omega⟩ with x | x; exact absurd x.1 (by decide); exact x.2⟩)); omega⟩)⟩
        · refine zz_if_ne (by omega) zd_14_101_88 (fun c79 => ?_) (fun c79 => ?_)
          · refine zz_goto zd_14_101_93 ?_
            have g80 := zz_G.r G_S72 1079 30 0 102 rfl rfl
            have g81 := zz_G.r G_S72 1079 31 0 9999 rfl rfl
            have g82 := zz_G.r G_S72 1079 32 0 1500 rfl rfl
            have e83 : S72 1079 65 = v51 := (zz_rc fS72 rfl rfl (by first | decide | (intro h; rcases h with h | h | h | h | h | h | h; exact absurd h.1 (by decide); exact absurd h.1 (by decide); exact absurd h.1 (by decide); exact absurd h.1 (by decide); exact absurd h.1 (by decide); exact absurd h.1 (by decide); exact absurd h.1 (by decide)) | omega) (zz_rc fS57 rfl rfl (fun h => h) (zz_rs qS52)))
            refine zz_less (ls1 := [some (.ref 1079), some (zi p0)]) ⟨rfl, ⟨rfl, trivial⟩⟩ ?_
            exact k40 S72 G_S72 F_S72 (fun p K hM hp hK hm => by have g9_ := zz_G.r G_S 1079 32 0 1500 rfl rfl; obtain ⟨q, hQ, hq0, i9⟩ := i40_0 p K hM hp hK hm; have q1 := hQ.1; have q2 := hQ.2.1; have q3 := zt_tnge (f := (S0 1099)) (e := S0 1079 33) (p := q); have b9 := o44; rw [zt_obc (u := zt_kd (S0 1099) (S0 1079 33) q) (fun h => hQ.2.2.2 h), q1] at b9; have y9 := zn_oby b9 ev45 (by omega); have c9 := zt_ob2 (c := zt_km (S0 1099) (S0 1079 33) q) (w := zt_kd (S0 1099) (S0 1079 33) q) (by omega); have l9 := zt_kmx c9; have g9 := zt_oege (te := zt_tn (S0 1099) (S0 1079 33)) (i := zt_ob (zt_km (S0 1099) (S0 1079 33) q) (zt_kd (S0 1099) (S0 1079 33) q)) (p := zt_tn (S0 1099) (S0 1079 33) q) (fun _ => zt_tnge); have i8 := i9; obtain ⟨k7, o7, _, _, _, d7⟩ := i8; have x8 := (fun (o : Nat → Int) (ho : (fun o => zn_T8 (S 1118) o ∧ S 1079 64 = o 9) o) => o76 _ _ o (by have a9 := o64; rw [q2] at a9; exact a9) y9 b9 ⟨by rw [show S57 1118 = S 1118 from funext (fun u => (zz_rc fS57 (zz_nc1 rfl) rfl (fun h => h) (zz_ro qS52 (fun h => absurd h.1 (by decide)) rfl)))]; exact ho.1, by have z := ho.2; omega⟩) o7 d7; have x7 := x8.resolve_right (fun h => absurd h.1 (by decide)); exact ⟨_, x7.2.2.1, by omega, by rw [show S72 1079 65 = v51 by omega]; exact zn_ROS (r := 1) i9 (by omega) hK (by omega) b9 hm ev45 (by omega) ev49 (by omega) ev51 (fun o ho => (by rcases o76 _ _ o (by have a9 := o64; rw [q2] at a9; exact a9) y9 b9 ⟨by rw [show S57 1118 = S 1118 from funext (fun u => (zz_rc fS57 (zz_nc1 rfl) rfl (fun h => h) (zz_ro qS52 (fun h => absurd h.1 (by decide)) rfl)))]; exact ho.1, by have z := ho.2; omega⟩ with x | x; exact Or.inl ⟨x.1, x.2.1, rfl, x.2.2.2⟩; exact Or.inr x)) rfl (by omega)⟩) (by omega)
          · exfalso; omega
      · refine zz_iconst zd_14_101_67 ?_
        exact zz_zret zd_14_101_68 rfl (by omega) (Nat.zero_le _) (Nat.zero_le _) ⟨_, _, rfl, G_S, F_S, by omega, (fun p K hM hp hK hm => by have g9_ := zz_G.r G_S 1079 32 0 1500 rfl rfl; obtain ⟨q, hQ, hq0, i9⟩ := i40_0 p K hM hp hK hm; have q1 := hQ.1; have q2 := hQ.2.1; have q3 := zt_tnge (f := (S0 1099)) (e := S0 1079 33) (p := q); have b9 := o44; rw [zt_obc (u := zt_kd (S0 1099) (S0 1079 33) q) (fun h => hQ.2.2.2 h), q1] at b9; exact Or.inr ⟨rfl, fun x => by have z := zn_RON i9 (by omega) hK (by omega) b9 hm ev45 (Or.inr (Or.inl ⟨by omega, _, ev49, by omega⟩)); omega⟩)⟩
theorem zi_takeParts_14_101 {g : mm_G} {l : Launch} (p0 : Int) (S0 : zz_S) (n : Nat) (hn : zz_end ≤ n) (G_S0 : zz_G S0) (hp0 : (-2147483648) ≤ p0 ∧ p0 ≤ 2147483647) (hN : ∀ w : Nat, 1 ≤ w → w ≤ 20 → S0 1100 w = zt_cd (zt_nw.getD w [])) : ∀ N : Nat, (∀  (S : zz_S), zz_G S → zz_fr [(1079, 30), (1079, 31), (1079, 32), (1079, 61), (1079, 64), (1079, 65), (1118, 7)] [1118] (fun _ _ => False) S0 S → (∀ p K : Int, zt_MK (S0 1099) (S0 1079 33) p (S0 1079 30) (S0 1079 32) (S0 1079 31) (S0 1079 61) → 0 ≤ p → 0 ≤ K ∧ K ≤ 3 → p0 = zn_ma K → ∃ q : Int, zt_MK (S0 1099) (S0 1079 33) q (S 1079 30) (S 1079 32) (S 1079 31) (S 1079 61) ∧ 0 ≤ q ∧ zn_IO (zt_km (S0 1099) (S0 1079 33)) (zt_tn (S0 1099) (S0 1079 33)) (zt_tv (S0 1099) (S0 1079 33)) (zt_kd (S0 1099) (S0 1079 33)) K (S0 1117) (S0 1079 36).toNat (S 1079 65) q (fun o => zn_T8 (S 1118) o ∧ S 1079 64 = o 9) (zt_no (zt_km (S0 1099) (S0 1079 33)) (zt_tn (S0 1099) (S0 1079 33)) (zt_tv (S0 1099) (S0 1079 33)) (zt_kd (S0 1099) (S0 1079 33)) (zn_al K) (S0 1117) (S0 1079 36).toNat 1600 ((zt_km (S0 1099) (S0 1079 33)) p) ((zt_kd (S0 1099) (S0 1079 33)) p) ((zt_tn (S0 1099) (S0 1079 33)) p) zn_o0)) → 3 * (1501 - S 1079 32).toNat + (if S 1079 30 = 0 then (0 : Int) else if S 1079 30 = 101 then 1 else 2).toNat < N → zz_E g l zy_takeParts_14_101 zr_takeParts_14_101 (zz_QI n (zp_takeParts_14_101 p0 S0)) S n 40 [some (.ref 1079), some (zi p0)] [] 0 0) := by
  intro N
  induction N with
  | zero => exact fun  S _ _ _ h => absurd h (Nat.not_lt_zero _)
  | succ N ih =>
    exact fun  S a b j0 hR => zb_takeParts_14_101_40 p0 S0 n hn G_S0 hp0 hN  S a b j0 _ rfl (fun  S a b j0 h => ih  S a b j0 (Nat.lt_of_lt_of_le h (Nat.le_of_lt_succ hR)))
theorem zc_takeParts_14_101 {g : mm_G} {l : Launch} (p0 : Int) (S0 : zz_S) (n : Nat) (hn : zz_end ≤ n) (G_S0 : zz_G S0) (hp0 : (-2147483648) ≤ p0 ∧ p0 ≤ 2147483647) (hN : ∀ w : Nat, 1 ≤ w → w ≤ 20 → S0 1100 w = zt_cd (zt_nw.getD w [])) : mm_Met g l zy_takeParts_14_101 zr_takeParts_14_101 [.ref 1079, zi p0] (zz_M S0 n) n (zz_QI n (zp_takeParts_14_101 p0 S0)) := by
  refine zz_enter (by decide) (Nat.le_of_ble_eq_true rfl) (zz_less (ls1 := [some (.ref 1079), some (zi p0)]) ⟨rfl, ⟨rfl, trivial⟩⟩ ?_)
  have F_S0 : zz_fr [(1079, 30), (1079, 31), (1079, 32), (1079, 61), (1079, 64), (1079, 65), (1118, 7)] [1118] (fun _ _ => False) S0 S0 := zz_fr.refl
  have k40 : ∀  (S : zz_S), zz_G S → zz_fr [(1079, 30), (1079, 31), (1079, 32), (1079, 61), (1079, 64), (1079, 65), (1118, 7)] [1118] (fun _ _ => False) S0 S → (∀ p K : Int, zt_MK (S0 1099) (S0 1079 33) p (S0 1079 30) (S0 1079 32) (S0 1079 31) (S0 1079 61) → 0 ≤ p → 0 ≤ K ∧ K ≤ 3 → p0 = zn_ma K → ∃ q : Int, zt_MK (S0 1099) (S0 1079 33) q (S 1079 30) (S 1079 32) (S 1079 31) (S 1079 61) ∧ 0 ≤ q ∧ zn_IO (zt_km (S0 1099) (S0 1079 33)) (zt_tn (S0 1099) (S0 1079 33)) (zt_tv (S0 1099) (S0 1079 33)) (zt_kd (S0 1099) (S0 1079 33)) K (S0 1117) (S0 1079 36).toNat (S 1079 65) q (fun o => zn_T8 (S 1118) o ∧ S 1079 64 = o 9) (zt_no (zt_km (S0 1099) (S0 1079 33)) (zt_tn (S0 1099) (S0 1079 33)) (zt_tv (S0 1099) (S0 1079 33)) (zt_kd (S0 1099) (S0 1079 33)) (zn_al K) (S0 1117) (S0 1079 36).toNat 1600 ((zt_km (S0 1099) (S0 1079 33)) p) ((zt_kd (S0 1099) (S0 1079 33)) p) ((zt_tn (S0 1099) (S0 1079 33)) p) zn_o0)) → zz_E g l zy_takeParts_14_101 zr_takeParts_14_101 (zz_QI n (zp_takeParts_14_101 p0 S0)) S n 40 [some (.ref 1079), some (zi p0)] [] 0 0 := fun  S a b j0 => (zi_takeParts_14_101 (g := g) (l := l) p0 S0 n hn G_S0 hp0 hN _)  S a b j0 (Nat.lt_succ_self _)
  refine zz_iconst zd_14_101_0 ?_
  refine zz_istore_n [some (.ref 1079), some (zi p0), some (zi 0)] zd_14_101_1 (by decide) rfl ?_
  refine zz_iload_n (x := 0) rfl zd_14_101_2 ?_
  refine zz_bipush (by decide) zd_14_101_3 ?_
  refine zz_icmp_ge (by omega) (by omega) zd_14_101_5 (fun c1 => ?_) (fun c1 => ?_)
  · exfalso; omega
  · refine zz_aload_n (x := 1079) rfl zd_14_101_8 ?_
    refine zz_getr (kd := 0) (z := 1118) zd_14_101_9 zf_Md_136 zT_1079 rfl (zz_ltn hn rfl) (zz_G.eq G_S0 1079 63 1118 rfl rfl) (by decide) 1118 rfl ?_
    refine zz_iload_n (x := 0) rfl zd_14_101_12 ?_
    refine zz_iload_n (x := 0) rfl zd_14_101_13 ?_
    refine zz_iconst zd_14_101_14 ?_
    refine zz_icmp_ne (by omega) (by omega) zd_14_101_15 (fun c2 => ?_) (fun c2 => ?_)
    · refine zz_iconst zd_14_101_22 ?_
      refine zz_iast zd_14_101_23 zT_1118 rfl (zz_ltn hn rfl) (by decide) (by decide) (fun S3 qS3 => ?_)
      have G_S3 := zz_G.put G_S0 qS3 0 9999 rfl (by omega)
      have F_S3 := zz_fr.putc F_S0 qS3 rfl
      refine zz_iinc [some (.ref 1079), some (zi p0), some (zi 1)] zd_14_101_24 rfl rfl ?_
      refine zz_goto zd_14_101_27 ?_
      refine zz_iload_n (x := 1) rfl zd_14_101_2 ?_
      refine zz_bipush (by decide) zd_14_101_3 ?_
      refine zz_icmp_ge (by omega) (by omega) zd_14_101_5 (fun c4 => ?_) (fun c4 => ?_)
      · exfalso; omega
      · refine zz_aload_n (x := 1079) rfl zd_14_101_8 ?_
        refine zz_getr (kd := 0) (z := 1118) zd_14_101_9 zf_Md_136 zT_1079 rfl (zz_ltn hn rfl) (zz_G.eq G_S3 1079 63 1118 rfl rfl) (by decide) 1118 rfl ?_
        refine zz_iload_n (x := 1) rfl zd_14_101_12 ?_
        refine zz_iload_n (x := 1) rfl zd_14_101_13 ?_
        refine zz_iconst zd_14_101_14 ?_
        refine zz_icmp_ne (by omega) (by omega) zd_14_101_15 (fun c5 => ?_) (fun c5 => ?_)
        · refine zz_iconst zd_14_101_22 ?_
          refine zz_iast zd_14_101_23 zT_1118 rfl (zz_ltn hn rfl) (by decide) (by decide) (fun S6 qS6 => ?_)
          have G_S6 := zz_G.put G_S3 qS6 0 9999 rfl (by omega)
          have F_S6 := zz_fr.putc F_S3 qS6 rfl
          refine zz_iinc [some (.ref 1079), some (zi p0), some (zi 2)] zd_14_101_24 rfl rfl ?_
          refine zz_goto zd_14_101_27 ?_
          refine zz_iload_n (x := 2) rfl zd_14_101_2 ?_
          refine zz_bipush (by decide) zd_14_101_3 ?_
          refine zz_icmp_ge (by omega) (by omega) zd_14_101_5 (fun c7 => ?_) (fun c7 => ?_)
          · exfalso; omega
          · refine zz_aload_n (x := 1079) rfl zd_14_101_8 ?_
            refine zz_getr (kd := 0) (z := 1118) zd_14_101_9 zf_Md_136 zT_1079 rfl (zz_ltn hn rfl) (zz_G.eq G_S6 1079 63 1118 rfl rfl) (by decide) 1118 rfl ?_
            refine zz_iload_n (x := 2) rfl zd_14_101_12 ?_
            refine zz_iload_n (x := 2) rfl zd_14_101_13 ?_
            refine zz_iconst zd_14_101_14 ?_
            refine zz_icmp_ne (by omega) (by omega) zd_14_101_15 (fun c8 => ?_) (fun c8 => ?_)
            · refine zz_iconst zd_14_101_22 ?_
              refine zz_iast zd_14_101_23 zT_1118 rfl (zz_ltn hn rfl) (by decide) (by decide) (fun S9 qS9 => ?_)
              have G_S9 := zz_G.put G_S6 qS9 0 9999 rfl (by omega)
              have F_S9 := zz_fr.putc F_S6 qS9 rfl
              refine zz_iinc [some (.ref 1079), some (zi p0), some (zi 3)] zd_14_101_24 rfl rfl ?_
              refine zz_goto zd_14_101_27 ?_
              refine zz_iload_n (x := 3) rfl zd_14_101_2 ?_
              refine zz_bipush (by decide) zd_14_101_3 ?_
              refine zz_icmp_ge (by omega) (by omega) zd_14_101_5 (fun c10 => ?_) (fun c10 => ?_)
              · exfalso; omega
              · refine zz_aload_n (x := 1079) rfl zd_14_101_8 ?_
                refine zz_getr (kd := 0) (z := 1118) zd_14_101_9 zf_Md_136 zT_1079 rfl (zz_ltn hn rfl) (zz_G.eq G_S9 1079 63 1118 rfl rfl) (by decide) 1118 rfl ?_
                refine zz_iload_n (x := 3) rfl zd_14_101_12 ?_
                refine zz_iload_n (x := 3) rfl zd_14_101_13 ?_
                refine zz_iconst zd_14_101_14 ?_
                refine zz_icmp_ne (by omega) (by omega) zd_14_101_15 (fun c11 => ?_) (fun c11 => ?_)
                · refine zz_iconst zd_14_101_22 ?_
                  refine zz_iast zd_14_101_23 zT_1118 rfl (zz_ltn hn rfl) (by decide) (by decide) (fun S12 qS12 => ?_)
                  have G_S12 := zz_G.put G_S9 qS12 0 9999 rfl (by omega)
                  have F_S12 := zz_fr.putc F_S9 qS12 rfl
                  refine zz_iinc [some (.ref 1079), some (zi p0), some (zi 4)] zd_14_101_24 rfl rfl ?_
                  refine zz_goto zd_14_101_27 ?_
                  refine zz_iload_n (x := 4) rfl zd_14_101_2 ?_
                  refine zz_bipush (by decide) zd_14_101_3 ?_
                  refine zz_icmp_ge (by omega) (by omega) zd_14_101_5 (fun c13 => ?_) (fun c13 => ?_)
                  · exfalso; omega
                  · refine zz_aload_n (x := 1079) rfl zd_14_101_8 ?_
                    refine zz_getr (kd := 0) (z := 1118) zd_14_101_9 zf_Md_136 zT_1079 rfl (zz_ltn hn rfl) (zz_G.eq G_S12 1079 63 1118 rfl rfl) (by decide) 1118 rfl ?_
                    refine zz_iload_n (x := 4) rfl zd_14_101_12 ?_
                    refine zz_iload_n (x := 4) rfl zd_14_101_13 ?_
                    refine zz_iconst zd_14_101_14 ?_
                    refine zz_icmp_ne (by omega) (by omega) zd_14_101_15 (fun c14 => ?_) (fun c14 => ?_)
                    · exfalso; omega
                    · refine zz_iconst zd_14_101_18 ?_
                      refine zz_goto zd_14_101_19 ?_
                      refine zz_iast zd_14_101_23 zT_1118 rfl (zz_ltn hn rfl) (by decide) (by decide) (fun S15 qS15 => ?_)
                      have G_S15 := zz_G.put G_S12 qS15 0 9999 rfl (by omega)
                      have F_S15 := zz_fr.putc F_S12 qS15 rfl
                      refine zz_iinc [some (.ref 1079), some (zi p0), some (zi 5)] zd_14_101_24 rfl rfl ?_
                      refine zz_goto zd_14_101_27 ?_
                      refine zz_iload_n (x := 5) rfl zd_14_101_2 ?_
                      refine zz_bipush (by decide) zd_14_101_3 ?_
                      refine zz_icmp_ge (by omega) (by omega) zd_14_101_5 (fun c16 => ?_) (fun c16 => ?_)
                      · exfalso; omega
                      · refine zz_aload_n (x := 1079) rfl zd_14_101_8 ?_
                        refine zz_getr (kd := 0) (z := 1118) zd_14_101_9 zf_Md_136 zT_1079 rfl (zz_ltn hn rfl) (zz_G.eq G_S15 1079 63 1118 rfl rfl) (by decide) 1118 rfl ?_
                        refine zz_iload_n (x := 5) rfl zd_14_101_12 ?_
                        refine zz_iload_n (x := 5) rfl zd_14_101_13 ?_
                        refine zz_iconst zd_14_101_14 ?_
                        refine zz_icmp_ne (by omega) (by omega) zd_14_101_15 (fun c17 => ?_) (fun c17 => ?_)
                        · refine zz_iconst zd_14_101_22 ?_
                          refine zz_iast zd_14_101_23 zT_1118 rfl (zz_ltn hn rfl) (by decide) (by decide) (fun S18 qS18 => ?_)
                          have G_S18 := zz_G.put G_S15 qS18 0 9999 rfl (by omega)
                          have F_S18 := zz_fr.putc F_S15 qS18 rfl
                          refine zz_iinc [some (.ref 1079), some (zi p0), some (zi 6)] zd_14_101_24 rfl rfl ?_
                          refine zz_goto zd_14_101_27 ?_
                          refine zz_iload_n (x := 6) rfl zd_14_101_2 ?_
                          refine zz_bipush (by decide) zd_14_101_3 ?_
                          refine zz_icmp_ge (by omega) (by omega) zd_14_101_5 (fun c19 => ?_) (fun c19 => ?_)
                          · exfalso; omega
                          · refine zz_aload_n (x := 1079) rfl zd_14_101_8 ?_
                            refine zz_getr (kd := 0) (z := 1118) zd_14_101_9 zf_Md_136 zT_1079 rfl (zz_ltn hn rfl) (zz_G.eq G_S18 1079 63 1118 rfl rfl) (by decide) 1118 rfl ?_
                            refine zz_iload_n (x := 6) rfl zd_14_101_12 ?_
                            refine zz_iload_n (x := 6) rfl zd_14_101_13 ?_
                            refine zz_iconst zd_14_101_14 ?_
                            refine zz_icmp_ne (by omega) (by omega) zd_14_101_15 (fun c20 => ?_) (fun c20 => ?_)
                            · refine zz_iconst zd_14_101_22 ?_
                              refine zz_iast zd_14_101_23 zT_1118 rfl (zz_ltn hn rfl) (by decide) (by decide) (fun S21 qS21 => ?_)
                              have G_S21 := zz_G.put G_S18 qS21 0 9999 rfl (by omega)
                              have F_S21 := zz_fr.putc F_S18 qS21 rfl
                              refine zz_iinc [some (.ref 1079), some (zi p0), some (zi 7)] zd_14_101_24 rfl rfl ?_
                              refine zz_goto zd_14_101_27 ?_
                              refine zz_iload_n (x := 7) rfl zd_14_101_2 ?_
                              refine zz_bipush (by decide) zd_14_101_3 ?_
                              refine zz_icmp_ge (by omega) (by omega) zd_14_101_5 (fun c22 => ?_) (fun c22 => ?_)
                              · exfalso; omega
                              · refine zz_aload_n (x := 1079) rfl zd_14_101_8 ?_
                                refine zz_getr (kd := 0) (z := 1118) zd_14_101_9 zf_Md_136 zT_1079 rfl (zz_ltn hn rfl) (zz_G.eq G_S21 1079 63 1118 rfl rfl) (by decide) 1118 rfl ?_
                                refine zz_iload_n (x := 7) rfl zd_14_101_12 ?_
                                refine zz_iload_n (x := 7) rfl zd_14_101_13 ?_
                                refine zz_iconst zd_14_101_14 ?_
                                refine zz_icmp_ne (by omega) (by omega) zd_14_101_15 (fun c23 => ?_) (fun c23 => ?_)
                                · refine zz_iconst zd_14_101_22 ?_
                                  refine zz_iast zd_14_101_23 zT_1118 rfl (zz_ltn hn rfl) (by decide) (by decide) (fun S24 qS24 => ?_)
                                  have G_S24 := zz_G.put G_S21 qS24 0 9999 rfl (by omega)
                                  have F_S24 := zz_fr.putc F_S21 qS24 rfl
                                  refine zz_iinc [some (.ref 1079), some (zi p0), some (zi 8)] zd_14_101_24 rfl rfl ?_
                                  refine zz_goto zd_14_101_27 ?_
                                  refine zz_iload_n (x := 8) rfl zd_14_101_2 ?_
                                  refine zz_bipush (by decide) zd_14_101_3 ?_
                                  refine zz_icmp_ge (by omega) (by omega) zd_14_101_5 (fun c25 => ?_) (fun c25 => ?_)
                                  · refine zz_aload_n (x := 1079) rfl zd_14_101_30 ?_
                                    refine zz_lconst (z := 0) (by decide) zd_14_101_31 ?_
                                    refine zz_putl zd_14_101_32 zf_Md_564 zT_1079 rfl (zz_ltn hn rfl) (fun S26 qS26 => ?_)
                                    have G_S26 := zz_G.put G_S24 qS26 (-9223372036854775808) 9223372036854775807 rfl (by omega)
                                    have F_S26 := zz_fr.puts F_S24 qS26 rfl
                                    refine zz_aload_n (x := 1079) rfl zd_14_101_35 ?_
                                    refine zz_iconst zd_14_101_36 ?_
                                    refine zz_puti zd_14_101_37 zf_Md_567 zT_1079 rfl (zz_ltn hn rfl) (fun S27 qS27 => ?_)
                                    have G_S27 := zz_G.put G_S26 qS27 0 255 rfl (by omega)
                                    have F_S27 := zz_fr.puts F_S26 qS27 rfl
                                    have g28 := zz_G.r G_S0 1079 30 0 102 rfl rfl
                                    have e29 : S27 1079 30 = S0 1079 30 := (zz_ro qS27 (fun h => absurd h.2 (by decide)) (zz_ro qS26 (fun h => absurd h.2 (by decide)) (zz_ro qS24 (fun h => absurd h.1 (by decide)) (zz_ro qS21 (fun h => absurd h.1 (by decide)) (zz_ro qS18 (fun h => absurd h.1 (by decide)) (zz_ro qS15 (fun h => absurd h.1 (by decide)) (zz_ro qS12 (fun h => absurd h.1 (by decide)) (zz_ro qS9 (fun h => absurd h.1 (by decide)) (zz_ro qS6 (fun h => absurd h.1 (by decide)) (zz_ro qS3 (fun h => absurd h.1 (by decide)) rfl))))))))))
                                    have g30 := zz_G.r G_S0 1079 31 0 9999 rfl rfl
                                    have e31 : S27 1079 31 = S0 1079 31 := (zz_ro qS27 (fun h => absurd h.2 (by decide)) (zz_ro qS26 (fun h => absurd h.2 (by decide)) (zz_ro qS24 (fun h => absurd h.1 (by decide)) (zz_ro qS21 (fun h => absurd h.1 (by decide)) (zz_ro qS18 (fun h => absurd h.1 (by decide)) (zz_ro qS15 (fun h => absurd h.1 (by decide)) (zz_ro qS12 (fun h => absurd h.1 (by decide)) (zz_ro qS9 (fun h => absurd h.1 (by decide)) (zz_ro qS6 (fun h => absurd h.1 (by decide)) (zz_ro qS3 (fun h => absurd h.1 (by decide)) rfl))))))))))
                                    have g32 := zz_G.r G_S0 1079 32 0 1500 rfl rfl
                                    have e33 : S27 1079 32 = S0 1079 32 := (zz_ro qS27 (fun h => absurd h.2 (by decide)) (zz_ro qS26 (fun h => absurd h.2 (by decide)) (zz_ro qS24 (fun h => absurd h.1 (by decide)) (zz_ro qS21 (fun h => absurd h.1 (by decide)) (zz_ro qS18 (fun h => absurd h.1 (by decide)) (zz_ro qS15 (fun h => absurd h.1 (by decide)) (zz_ro qS12 (fun h => absurd h.1 (by decide)) (zz_ro qS9 (fun h => absurd h.1 (by decide)) (zz_ro qS6 (fun h => absurd h.1 (by decide)) (zz_ro qS3 (fun h => absurd h.1 (by decide)) rfl))))))))))
                                    have e34 : S27 1079 61 = S0 1079 61 := (zz_ro qS27 (fun h => absurd h.2 (by decide)) (zz_ro qS26 (fun h => absurd h.2 (by decide)) (zz_ro qS24 (fun h => absurd h.1 (by decide)) (zz_ro qS21 (fun h => absurd h.1 (by decide)) (zz_ro qS18 (fun h => absurd h.1 (by decide)) (zz_ro qS15 (fun h => absurd h.1 (by decide)) (zz_ro qS12 (fun h => absurd h.1 (by decide)) (zz_ro qS9 (fun h => absurd h.1 (by decide)) (zz_ro qS6 (fun h => absurd h.1 (by decide)) (zz_ro qS3 (fun h => absurd h.1 (by decide)) rfl))))))))))
                                    have e35 : S27 1079 64 = 0 := (zz_ro qS27 (fun h => absurd h.2 (by decide)) (zz_rs qS26))
                                    have e36 : S27 1079 65 = 0 := (zz_rs qS27)
                                    refine zz_less (ls1 := [some (.ref 1079), some (zi p0)]) ⟨rfl, ⟨rfl, trivial⟩⟩ ?_
                                    exact k40 S27 G_S27 F_S27 (fun p K hM hp hK hm => ⟨p, by rw [show S27 1079 30 = S0 1079 30 by omega, show S27 1079 32 = S0 1079 32 by omega, show S27 1079 31 = S0 1079 31 by omega, show S27 1079 61 = S0 1079 61 by omega]; exact hM, hp, by rw [show S27 1079 65 = 0 by omega]; exact zn_IO0 hp ⟨⟨fun x => absurd x (by decide), fun x => absurd x (by decide), ((zz_ro qS27 (fun h => absurd h.1 (by decide)) (zz_ro qS26 (fun h => absurd h.1 (by decide)) (zz_ro qS24 (fun h => absurd h.2 (by decide)) (zz_ro qS21 (fun h => absurd h.2 (by decide)) (zz_ro qS18 (fun h => absurd h.2 (by decide)) (zz_ro qS15 (fun h => absurd h.2 (by decide)) (zz_rs qS12))))))) : S27 1118 3 = 0), ((zz_ro qS27 (fun h => absurd h.1 (by decide)) (zz_ro qS26 (fun h => absurd h.1 (by decide)) (zz_ro qS24 (fun h => absurd h.2 (by decide)) (zz_ro qS21 (fun h => absurd h.2 (by decide)) (zz_ro qS18 (fun h => absurd h.2 (by decide)) (zz_rs qS15)))))) : S27 1118 4 = 1), ((zz_ro qS27 (fun h => absurd h.1 (by decide)) (zz_ro qS26 (fun h => absurd h.1 (by decide)) (zz_ro qS24 (fun h => absurd h.2 (by decide)) (zz_ro qS21 (fun h => absurd h.2 (by decide)) (zz_rs qS18))))) : S27 1118 5 = 0), ((zz_ro qS27 (fun h => absurd h.1 (by decide)) (zz_ro qS26 (fun h => absurd h.1 (by decide)) (zz_ro qS24 (fun h => absurd h.2 (by decide)) (zz_rs qS21)))) : S27 1118 6 = 0), ((zz_ro qS27 (fun h => absurd h.1 (by decide)) (zz_ro qS26 (fun h => absurd h.1 (by decide)) (zz_rs qS24))) : S27 1118 7 = 0)⟩, (show S27 1079 64 = 0 by omega)⟩⟩)
                                  · exfalso; omega
                                · exfalso; omega
                            · exfalso; omega
                        · exfalso; omega
                · exfalso; omega
            · exfalso; omega
        · exfalso; omega
    · exfalso; omega
abbrev zy_takeTensor_14_102 : mm_Y := (⟨"TensorForgeModel", "takeTensor", "()I"⟩, prog_14_method_102_code, 2, (some .int))
theorem zyw_takeTensor_14_102 : mm_Yw zy_takeTensor_14_102 0 := ⟨mm_tb_1 2214 (by decide +kernel) rfl, mm_tb_1 12 (by decide +kernel) rfl, ⟨by decide, by decide⟩, by decide +kernel⟩
theorem zg_14_102_0 : zq_at zy_takeTensor_14_102.2.1 0 42 ∧ zq_at zy_takeTensor_14_102.2.1 1 180 ∧ zq_at zy_takeTensor_14_102.2.1 2 1 ∧ zq_at zy_takeTensor_14_102.2.1 3 91 ∧ zq_at zy_takeTensor_14_102.2.1 4 16 ∧ zq_at zy_takeTensor_14_102.2.1 5 100 ∧ zq_at zy_takeTensor_14_102.2.1 6 160 ∧ zq_at zy_takeTensor_14_102.2.1 7 0 ∧ zq_at zy_takeTensor_14_102.2.1 8 10 ∧ zq_at zy_takeTensor_14_102.2.1 16 42 ∧ zq_at zy_takeTensor_14_102.2.1 17 180 ∧ zq_at zy_takeTensor_14_102.2.1 18 1 ∧ zq_at zy_takeTensor_14_102.2.1 19 91 ∧ zq_at zy_takeTensor_14_102.2.1 20 16 ∧ zq_at zy_takeTensor_14_102.2.1 21 102 ∧ zq_at zy_takeTensor_14_102.2.1 22 160 ∧ zq_at zy_takeTensor_14_102.2.1 23 0 ∧ zq_at zy_takeTensor_14_102.2.1 24 14 ∧ zq_at zy_takeTensor_14_102.2.1 36 2 ∧ zq_at zy_takeTensor_14_102.2.1 37 60 ∧ zq_at zy_takeTensor_14_102.2.1 38 42 ∧ zq_at zy_takeTensor_14_102.2.1 39 182 ∧ zq_at zy_takeTensor_14_102.2.1 40 2 ∧ zq_at zy_takeTensor_14_102.2.1 41 14 := by decide +kernel
theorem zd_14_102_0 : zz_D zy_takeTensor_14_102 0 (.aload_n 0) 1 1 := ⟨zq_42 zg_14_102_0.1, rfl⟩
theorem zd_14_102_1 : zz_D zy_takeTensor_14_102 1 (.getfield 347) 3 4 := ⟨zq_180 zg_14_102_0.2.1 zg_14_102_0.2.2.1 zg_14_102_0.2.2.2.1 rfl, rfl⟩
theorem zd_14_102_4 : zz_D zy_takeTensor_14_102 4 (.bipush 100) 2 6 := ⟨zq_16 zg_14_102_0.2.2.2.2.1 zg_14_102_0.2.2.2.2.2.1 (by decide), rfl⟩
theorem zd_14_102_6 : zz_B zy_takeTensor_14_102 6 (Instr.if_icmp .ne) 16 9 := ⟨10, zq_160 zg_14_102_0.2.2.2.2.2.2.1 zg_14_102_0.2.2.2.2.2.2.2.1 zg_14_102_0.2.2.2.2.2.2.2.2.1 (by decide), rfl, rfl⟩
theorem zd_14_102_16 : zz_D zy_takeTensor_14_102 16 (.aload_n 0) 1 17 := ⟨zq_42 zg_14_102_0.2.2.2.2.2.2.2.2.2.1, rfl⟩
theorem zd_14_102_17 : zz_D zy_takeTensor_14_102 17 (.getfield 347) 3 20 := ⟨zq_180 zg_14_102_0.2.2.2.2.2.2.2.2.2.2.1 zg_14_102_0.2.2.2.2.2.2.2.2.2.2.2.1 zg_14_102_0.2.2.2.2.2.2.2.2.2.2.2.2.1 rfl, rfl⟩
theorem zd_14_102_20 : zz_D zy_takeTensor_14_102 20 (.bipush 102) 2 22 := ⟨zq_16 zg_14_102_0.2.2.2.2.2.2.2.2.2.2.2.2.2.1 zg_14_102_0.2.2.2.2.2.2.2.2.2.2.2.2.2.2.1 (by decide), rfl⟩
theorem zd_14_102_22 : zz_B zy_takeTensor_14_102 22 (Instr.if_icmp .ne) 36 25 := ⟨14, zq_160 zg_14_102_0.2.2.2.2.2.2.2.2.2.2.2.2.2.2.2.1 zg_14_102_0.2.2.2.2.2.2.2.2.2.2.2.2.2.2.2.2.1 zg_14_102_0.2.2.2.2.2.2.2.2.2.2.2.2.2.2.2.2.2.1 (by decide), rfl, rfl⟩
theorem zd_14_102_36 : zz_D zy_takeTensor_14_102 36 (.iconst (-1)) 1 37 := ⟨zq_2 zg_14_102_0.2.2.2.2.2.2.2.2.2.2.2.2.2.2.2.2.2.2.1, rfl⟩
theorem zd_14_102_37 : zz_D zy_takeTensor_14_102 37 (.istore_n 1) 1 38 := ⟨zq_60 zg_14_102_0.2.2.2.2.2.2.2.2.2.2.2.2.2.2.2.2.2.2.2.1, rfl⟩
theorem zd_14_102_38 : zz_D zy_takeTensor_14_102 38 (.aload_n 0) 1 39 := ⟨zq_42 zg_14_102_0.2.2.2.2.2.2.2.2.2.2.2.2.2.2.2.2.2.2.2.2.1, rfl⟩
theorem zd_14_102_39 : zz_D zy_takeTensor_14_102 39 (.invokevirtual 526) 3 42 := ⟨zq_182 zg_14_102_0.2.2.2.2.2.2.2.2.2.2.2.2.2.2.2.2.2.2.2.2.2.1 zg_14_102_0.2.2.2.2.2.2.2.2.2.2.2.2.2.2.2.2.2.2.2.2.2.2.1 zg_14_102_0.2.2.2.2.2.2.2.2.2.2.2.2.2.2.2.2.2.2.2.2.2.2.2 rfl, rfl⟩
theorem zg_14_102_42 : zq_at zy_takeTensor_14_102.2.1 42 27 ∧ zq_at zy_takeTensor_14_102.2.1 43 172 ∧ zq_at zy_takeTensor_14_102.2.1 25 42 ∧ zq_at zy_takeTensor_14_102.2.1 26 42 ∧ zq_at zy_takeTensor_14_102.2.1 27 180 ∧ zq_at zy_takeTensor_14_102.2.1 28 2 ∧ zq_at zy_takeTensor_14_102.2.1 29 10 ∧ zq_at zy_takeTensor_14_102.2.1 30 182 ∧ zq_at zy_takeTensor_14_102.2.1 31 2 ∧ zq_at zy_takeTensor_14_102.2.1 32 48 ∧ zq_at zy_takeTensor_14_102.2.1 33 167 ∧ zq_at zy_takeTensor_14_102.2.1 34 0 ∧ zq_at zy_takeTensor_14_102.2.1 35 4 ∧ zq_at zy_takeTensor_14_102.2.1 9 42 ∧ zq_at zy_takeTensor_14_102.2.1 10 180 ∧ zq_at zy_takeTensor_14_102.2.1 11 1 ∧ zq_at zy_takeTensor_14_102.2.1 12 98 ∧ zq_at zy_takeTensor_14_102.2.1 13 167 ∧ zq_at zy_takeTensor_14_102.2.1 14 0 ∧ zq_at zy_takeTensor_14_102.2.1 15 24 := by decide +kernel
theorem zd_14_102_42 : zz_D zy_takeTensor_14_102 42 (.iload_n 1) 1 43 := ⟨zq_27 zg_14_102_42.1, rfl⟩
theorem zd_14_102_43 : zz_D zy_takeTensor_14_102 43 (.ireturn) 1 44 := ⟨zq_172 zg_14_102_42.2.1, rfl⟩
theorem zd_14_102_25 : zz_D zy_takeTensor_14_102 25 (.aload_n 0) 1 26 := ⟨zq_42 zg_14_102_42.2.2.1, rfl⟩
theorem zd_14_102_26 : zz_D zy_takeTensor_14_102 26 (.aload_n 0) 1 27 := ⟨zq_42 zg_14_102_42.2.2.2.1, rfl⟩
theorem zd_14_102_27 : zz_D zy_takeTensor_14_102 27 (.getfield 522) 3 30 := ⟨zq_180 zg_14_102_42.2.2.2.2.1 zg_14_102_42.2.2.2.2.2.1 zg_14_102_42.2.2.2.2.2.2.1 rfl, rfl⟩
theorem zd_14_102_30 : zz_D zy_takeTensor_14_102 30 (.invokevirtual 560) 3 33 := ⟨zq_182 zg_14_102_42.2.2.2.2.2.2.2.1 zg_14_102_42.2.2.2.2.2.2.2.2.1 zg_14_102_42.2.2.2.2.2.2.2.2.2.1 rfl, rfl⟩
theorem zd_14_102_33 : zz_B zy_takeTensor_14_102 33 Instr.goto 37 36 := ⟨4, zq_167 zg_14_102_42.2.2.2.2.2.2.2.2.2.2.1 zg_14_102_42.2.2.2.2.2.2.2.2.2.2.2.1 zg_14_102_42.2.2.2.2.2.2.2.2.2.2.2.2.1 (by decide), rfl, rfl⟩
theorem zd_14_102_9 : zz_D zy_takeTensor_14_102 9 (.aload_n 0) 1 10 := ⟨zq_42 zg_14_102_42.2.2.2.2.2.2.2.2.2.2.2.2.2.1, rfl⟩
theorem zd_14_102_10 : zz_D zy_takeTensor_14_102 10 (.getfield 354) 3 13 := ⟨zq_180 zg_14_102_42.2.2.2.2.2.2.2.2.2.2.2.2.2.2.1 zg_14_102_42.2.2.2.2.2.2.2.2.2.2.2.2.2.2.2.1 zg_14_102_42.2.2.2.2.2.2.2.2.2.2.2.2.2.2.2.2.1 rfl, rfl⟩
theorem zd_14_102_13 : zz_B zy_takeTensor_14_102 13 Instr.goto 37 16 := ⟨24, zq_167 zg_14_102_42.2.2.2.2.2.2.2.2.2.2.2.2.2.2.2.2.2.1 zg_14_102_42.2.2.2.2.2.2.2.2.2.2.2.2.2.2.2.2.2.2.1 zg_14_102_42.2.2.2.2.2.2.2.2.2.2.2.2.2.2.2.2.2.2.2 (by decide), rfl, rfl⟩
-- TensorForgeModel takeTensor ()I
abbrev zr_takeTensor_14_102 : Room := { frames := 3, cells := 0, slots := 0, locals := 48 }
def zp_takeTensor_14_102  (S0 : zz_S) : Int → zz_S → Prop := fun r S => zz_G S ∧ zz_fr [(1079, 30), (1079, 31), (1079, 32), (1079, 61)] [] (fun _ _ => False) S0 S ∧ ((-1) ≤ r ∧ r ≤ 9999) ∧ (S 1079 32 > S0 1079 32 ∨ (S 1079 32 = S0 1079 32 ∧ (S 1079 30 = S0 1079 30 ∨ S 1079 30 = 0 ∨ S 1079 30 = 101))) ∧ (∀ p : Int, zt_MK (S0 1099) (S0 1079 33) p (S0 1079 30) (S0 1079 32) (S0 1079 31) (S0 1079 61) → r = zn_tt (zt_km (S0 1099) (S0 1079 33) p) (zt_tv (S0 1099) (S0 1079 33) p) (zt_kd (S0 1099) (S0 1079 33) p) (S0 1117) (S0 1079 36).toNat) ∧ (zt_MK (S0 1099) (S0 1079 33) (S0 1079 32) (S 1079 30) (S 1079 32) (S 1079 31) (S 1079 61))
theorem zc_takeTensor_14_102 {g : mm_G} {l : Launch}  (S0 : zz_S) (n : Nat) (hn : zz_end ≤ n) (G_S0 : zz_G S0) (hN : ∀ w : Nat, 1 ≤ w → w ≤ 20 → S0 1100 w = zt_cd (zt_nw.getD w [])) : mm_Met g l zy_takeTensor_14_102 zr_takeTensor_14_102 [.ref 1079] (zz_M S0 n) n (zz_QI n (zp_takeTensor_14_102  S0)) := by
  refine zz_enter (by decide) (Nat.le_of_ble_eq_true rfl) (zz_less (ls1 := [some (.ref 1079)]) ⟨rfl, trivial⟩ ?_)
  have F_S0 : zz_fr [(1079, 30), (1079, 31), (1079, 32), (1079, 61)] [] (fun _ _ => False) S0 S0 := zz_fr.refl
  refine zz_aload_n (x := 1079) rfl zd_14_102_0 ?_
  have g1 := zz_G.r G_S0 1079 30 0 102 rfl rfl
  refine zz_geti (z := S0 1079 30) zd_14_102_1 zf_Md_347 zT_1079 rfl (zz_ltn hn rfl) rfl ?_
  refine zz_bipush (by decide) zd_14_102_4 ?_
  refine zz_icmp_ne (by omega) (by omega) zd_14_102_6 (fun c2 => ?_) (fun c2 => ?_)
  · refine zz_aload_n (x := 1079) rfl zd_14_102_16 ?_
    refine zz_geti (z := S0 1079 30) zd_14_102_17 zf_Md_347 zT_1079 rfl (zz_ltn hn rfl) rfl ?_
    refine zz_bipush (by decide) zd_14_102_20 ?_
    refine zz_icmp_ne (by omega) (by omega) zd_14_102_22 (fun c3 => ?_) (fun c3 => ?_)
    · refine zz_iconst zd_14_102_36 ?_
      refine zz_istore_n [some (.ref 1079), some (zi (-1))] zd_14_102_37 (by decide) rfl ?_
      refine zz_aload_n (x := 1079) rfl zd_14_102_38 ?_
      have g4 := zz_G.r G_S0 1079 32 0 1500 rfl rfl
      have g5 := zz_G.r G_S0 1079 33 0 1500 rfl rfl
      refine zz_callVV [] zd_14_102_39 zk_Md_526 zT_1079 (zz_ltn hn rfl) rfl rfl ⟨Nat.le_of_ble_eq_true rfl, Nat.le_of_ble_eq_true rfl⟩ ⟨rfl, rfl⟩ (Nat.zero_le _) (Nat.zero_le _) (zc_advanceNet_14_93  S0 n hn G_S0 hN) (fun S6 hP => ?_)
      obtain ⟨G_S6, fS6, o8, o9, o10, o11, o12, o13⟩ := hP
      have F_S6 := zz_fr.trans F_S0 fS6 rfl zz_nv
      refine zz_iload_n (x := (-1)) rfl zd_14_102_42 ?_
      have g14 := zz_G.r G_S6 1079 30 0 102 rfl rfl
      have g15 := zz_G.r G_S6 1079 32 0 1500 rfl rfl
      have g16 := zz_G.r G_S6 1079 31 0 9999 rfl rfl
      exact zz_iret zd_14_102_43 rfl (Nat.zero_le _) (Nat.zero_le _) ⟨_, _, rfl, G_S6, F_S6, by omega, by omega, (fun p h => by have h1 := h.1; unfold zn_tt; rw [if_neg (by omega), if_neg (by omega)]), o13⟩
    · refine zz_aload_n (x := 1079) rfl zd_14_102_25 ?_
      refine zz_aload_n (x := 1079) rfl zd_14_102_26 ?_
      have g17 := zz_G.r G_S0 1079 61 (-9223372036854775808) 9223372036854775807 rfl rfl
      refine zz_getl (z := S0 1079 61) zd_14_102_27 zf_Md_522 zT_1079 rfl (zz_ltn hn rfl) rfl ?_
      have g18 := zz_G.r G_S0 1079 36 0 11 rfl rfl
      refine zz_callVI [zl (S0 1079 61)] zd_14_102_30 zk_Md_560 zT_1079 (zz_ltn hn rfl) rfl rfl ⟨Nat.le_of_ble_eq_true rfl, Nat.le_of_ble_eq_true rfl⟩ ⟨rfl, rfl⟩ (Nat.zero_le _) (Nat.zero_le _) (zc_named_14_98 (S0 1079 61) S0 n hn G_S0 (by omega)) (fun v20 S19 hP => ?_)
      obtain ⟨rfl, o21, o22⟩ := hP
      refine zz_goto zd_14_102_33 ?_
      refine zz_istore_n [some (.ref 1079), some (zi v20)] zd_14_102_37 (by decide) rfl ?_
      refine zz_aload_n (x := 1079) rfl zd_14_102_38 ?_
      have g23 := zz_G.r G_S0 1079 32 0 1500 rfl rfl
      have g24 := zz_G.r G_S0 1079 33 0 1500 rfl rfl
      refine zz_callVV [] zd_14_102_39 zk_Md_526 zT_1079 (zz_ltn hn rfl) rfl rfl ⟨Nat.le_of_ble_eq_true rfl, Nat.le_of_ble_eq_true rfl⟩ ⟨rfl, rfl⟩ (Nat.zero_le _) (Nat.zero_le _) (zc_advanceNet_14_93  S0 n hn G_S0 hN) (fun S25 hP => ?_)
      obtain ⟨G_S25, fS25, o27, o28, o29, o30, o31, o32⟩ := hP
      have F_S25 := zz_fr.trans F_S0 fS25 rfl zz_nv
      refine zz_iload_n (x := v20) rfl zd_14_102_42 ?_
      have g33 := zz_G.r G_S25 1079 30 0 102 rfl rfl
      have g34 := zz_G.r G_S25 1079 32 0 1500 rfl rfl
      have g35 := zz_G.r G_S25 1079 31 0 9999 rfl rfl
      exact zz_iret zd_14_102_43 rfl (Nat.zero_le _) (Nat.zero_le _) ⟨_, _, rfl, G_S25, F_S25, by omega, by omega, (fun p h => by have h1 := h.1; have h2 := h.2.2.2 (by omega); unfold zn_tt; rw [if_neg (by omega), if_pos (by omega), ← h2]; exact o22), o32⟩
  · refine zz_aload_n (x := 1079) rfl zd_14_102_9 ?_
    have g36 := zz_G.r G_S0 1079 31 0 9999 rfl rfl
    refine zz_geti (z := S0 1079 31) zd_14_102_10 zf_Md_354 zT_1079 rfl (zz_ltn hn rfl) rfl ?_
    refine zz_goto zd_14_102_13 ?_
    refine zz_istore_n [some (.ref 1079), some (zi (S0 1079 31))] zd_14_102_37 (by decide) rfl ?_
    refine zz_aload_n (x := 1079) rfl zd_14_102_38 ?_
    have g37 := zz_G.r G_S0 1079 32 0 1500 rfl rfl
    have g38 := zz_G.r G_S0 1079 33 0 1500 rfl rfl
    refine zz_callVV [] zd_14_102_39 zk_Md_526 zT_1079 (zz_ltn hn rfl) rfl rfl ⟨Nat.le_of_ble_eq_true rfl, Nat.le_of_ble_eq_true rfl⟩ ⟨rfl, rfl⟩ (Nat.zero_le _) (Nat.zero_le _) (zc_advanceNet_14_93  S0 n hn G_S0 hN) (fun S39 hP => ?_)
    obtain ⟨G_S39, fS39, o41, o42, o43, o44, o45, o46⟩ := hP
    have F_S39 := zz_fr.trans F_S0 fS39 rfl zz_nv
    refine zz_iload_n (x := S0 1079 31) rfl zd_14_102_42 ?_
    have g47 := zz_G.r G_S39 1079 30 0 102 rfl rfl
    have g48 := zz_G.r G_S39 1079 32 0 1500 rfl rfl
    have g49 := zz_G.r G_S39 1079 31 0 9999 rfl rfl
    exact zz_iret zd_14_102_43 rfl (Nat.zero_le _) (Nat.zero_le _) ⟨_, _, rfl, G_S39, F_S39, by omega, by omega, (fun p h => by have h1 := h.1; have h2 := h.2.2.1 (by omega); unfold zn_tt; rw [if_pos (by omega)]; omega), o46⟩
abbrev zy_readInput_14_103 : mm_Y := (⟨"TensorForgeModel", "readInput", "()Z"⟩, prog_14_method_103_code, 5, (some .boolean))
theorem zyw_readInput_14_103 : mm_Yw zy_readInput_14_103 0 := ⟨mm_tb_1 2255 (by decide +kernel) rfl, mm_tb_1 12 (by decide +kernel) rfl, ⟨by decide, by decide⟩, by decide +kernel⟩
theorem zk_Md_576 : mm_Vl "TensorForgeModel" 576 11 1 zy_takeParts_14_101 := ⟨zyw_takeParts_14_101, (R_Md, F_Md, 69), rfl, mm_tb_1 2219 (by decide +kernel) rfl, mm_tb_1 2221 (by decide +kernel) rfl, mm_tb_s 145 (by decide +kernel) rfl⟩
theorem zk_Md_579 : mm_Vl "TensorForgeModel" 579 11 3 zy_input_14_63 := ⟨zyw_input_14_63, (R_Md, F_Md, 69), rfl, mm_tb_1 2256 (by decide +kernel) rfl, mm_tb_1 2074 (by decide +kernel) rfl, mm_tb_1 2075 (by decide +kernel) rfl⟩
theorem zg_14_103_0 : zq_at zy_readInput_14_103.2.1 0 42 ∧ zq_at zy_readInput_14_103.2.1 1 20 ∧ zq_at zy_readInput_14_103.2.1 2 2 ∧ zq_at zy_readInput_14_103.2.1 3 20 ∧ zq_at zy_readInput_14_103.2.1 4 182 ∧ zq_at zy_readInput_14_103.2.1 5 2 ∧ zq_at zy_readInput_14_103.2.1 6 17 ∧ zq_at zy_readInput_14_103.2.1 7 154 ∧ zq_at zy_readInput_14_103.2.1 8 0 ∧ zq_at zy_readInput_14_103.2.1 9 5 ∧ zq_at zy_readInput_14_103.2.1 10 3 ∧ zq_at zy_readInput_14_103.2.1 11 172 ∧ zq_at zy_readInput_14_103.2.1 12 42 ∧ zq_at zy_readInput_14_103.2.1 13 182 ∧ zq_at zy_readInput_14_103.2.1 14 2 ∧ zq_at zy_readInput_14_103.2.1 15 14 ∧ zq_at zy_readInput_14_103.2.1 16 42 ∧ zq_at zy_readInput_14_103.2.1 17 3 ∧ zq_at zy_readInput_14_103.2.1 18 182 ∧ zq_at zy_readInput_14_103.2.1 19 2 ∧ zq_at zy_readInput_14_103.2.1 20 38 ∧ zq_at zy_readInput_14_103.2.1 21 153 ∧ zq_at zy_readInput_14_103.2.1 22 0 ∧ zq_at zy_readInput_14_103.2.1 23 37 := by decide +kernel
theorem zd_14_103_0 : zz_D zy_readInput_14_103 0 (.aload_n 0) 1 1 := ⟨zq_42 zg_14_103_0.1, rfl⟩
theorem zd_14_103_1 : zz_D zy_readInput_14_103 1 (.ldc2_w 532) 3 4 := ⟨zq_20 zg_14_103_0.2.1 zg_14_103_0.2.2.1 zg_14_103_0.2.2.2.1 rfl, rfl⟩
theorem zd_14_103_4 : zz_D zy_readInput_14_103 4 (.invokevirtual 529) 3 7 := ⟨zq_182 zg_14_103_0.2.2.2.2.1 zg_14_103_0.2.2.2.2.2.1 zg_14_103_0.2.2.2.2.2.2.1 rfl, rfl⟩
theorem zd_14_103_7 : zz_B zy_readInput_14_103 7 (Instr.ifCond .ne) 12 10 := ⟨5, zq_154 zg_14_103_0.2.2.2.2.2.2.2.1 zg_14_103_0.2.2.2.2.2.2.2.2.1 zg_14_103_0.2.2.2.2.2.2.2.2.2.1 (by decide), rfl, rfl⟩
theorem zd_14_103_10 : zz_D zy_readInput_14_103 10 (.iconst 0) 1 11 := ⟨zq_3 zg_14_103_0.2.2.2.2.2.2.2.2.2.2.1, rfl⟩
theorem zd_14_103_11 : zz_D zy_readInput_14_103 11 (.ireturn) 1 12 := ⟨zq_172 zg_14_103_0.2.2.2.2.2.2.2.2.2.2.2.1, rfl⟩
theorem zd_14_103_12 : zz_D zy_readInput_14_103 12 (.aload_n 0) 1 13 := ⟨zq_42 zg_14_103_0.2.2.2.2.2.2.2.2.2.2.2.2.1, rfl⟩
theorem zd_14_103_13 : zz_D zy_readInput_14_103 13 (.invokevirtual 526) 3 16 := ⟨zq_182 zg_14_103_0.2.2.2.2.2.2.2.2.2.2.2.2.2.1 zg_14_103_0.2.2.2.2.2.2.2.2.2.2.2.2.2.2.1 zg_14_103_0.2.2.2.2.2.2.2.2.2.2.2.2.2.2.2.1 rfl, rfl⟩
theorem zd_14_103_16 : zz_D zy_readInput_14_103 16 (.aload_n 0) 1 17 := ⟨zq_42 zg_14_103_0.2.2.2.2.2.2.2.2.2.2.2.2.2.2.2.2.1, rfl⟩
theorem zd_14_103_17 : zz_D zy_readInput_14_103 17 (.iconst 0) 1 18 := ⟨zq_3 zg_14_103_0.2.2.2.2.2.2.2.2.2.2.2.2.2.2.2.2.2.1, rfl⟩
theorem zd_14_103_18 : zz_D zy_readInput_14_103 18 (.invokevirtual 550) 3 21 := ⟨zq_182 zg_14_103_0.2.2.2.2.2.2.2.2.2.2.2.2.2.2.2.2.2.2.1 zg_14_103_0.2.2.2.2.2.2.2.2.2.2.2.2.2.2.2.2.2.2.2.1 zg_14_103_0.2.2.2.2.2.2.2.2.2.2.2.2.2.2.2.2.2.2.2.2.1 rfl, rfl⟩
theorem zd_14_103_21 : zz_B zy_readInput_14_103 21 (Instr.ifCond .eq) 58 24 := ⟨37, zq_153 zg_14_103_0.2.2.2.2.2.2.2.2.2.2.2.2.2.2.2.2.2.2.2.2.2.1 zg_14_103_0.2.2.2.2.2.2.2.2.2.2.2.2.2.2.2.2.2.2.2.2.2.2.1 zg_14_103_0.2.2.2.2.2.2.2.2.2.2.2.2.2.2.2.2.2.2.2.2.2.2.2 (by decide), rfl, rfl⟩
theorem zg_14_103_58 : zq_at zy_readInput_14_103.2.1 58 3 ∧ zq_at zy_readInput_14_103.2.1 59 60 ∧ zq_at zy_readInput_14_103.2.1 60 42 ∧ zq_at zy_readInput_14_103.2.1 61 180 ∧ zq_at zy_readInput_14_103.2.1 62 0 ∧ zq_at zy_readInput_14_103.2.1 63 136 ∧ zq_at zy_readInput_14_103.2.1 64 3 ∧ zq_at zy_readInput_14_103.2.1 65 46 ∧ zq_at zy_readInput_14_103.2.1 66 61 ∧ zq_at zy_readInput_14_103.2.1 67 42 ∧ zq_at zy_readInput_14_103.2.1 68 180 ∧ zq_at zy_readInput_14_103.2.1 69 0 ∧ zq_at zy_readInput_14_103.2.1 70 136 ∧ zq_at zy_readInput_14_103.2.1 71 4 ∧ zq_at zy_readInput_14_103.2.1 72 46 ∧ zq_at zy_readInput_14_103.2.1 73 62 ∧ zq_at zy_readInput_14_103.2.1 74 42 ∧ zq_at zy_readInput_14_103.2.1 75 180 ∧ zq_at zy_readInput_14_103.2.1 76 0 ∧ zq_at zy_readInput_14_103.2.1 77 136 ∧ zq_at zy_readInput_14_103.2.1 78 5 ∧ zq_at zy_readInput_14_103.2.1 79 46 ∧ zq_at zy_readInput_14_103.2.1 80 54 ∧ zq_at zy_readInput_14_103.2.1 81 4 := by decide +kernel
theorem zd_14_103_58 : zz_D zy_readInput_14_103 58 (.iconst 0) 1 59 := ⟨zq_3 zg_14_103_58.1, rfl⟩
theorem zd_14_103_59 : zz_D zy_readInput_14_103 59 (.istore_n 1) 1 60 := ⟨zq_60 zg_14_103_58.2.1, rfl⟩
theorem zd_14_103_60 : zz_D zy_readInput_14_103 60 (.aload_n 0) 1 61 := ⟨zq_42 zg_14_103_58.2.2.1, rfl⟩
theorem zd_14_103_61 : zz_D zy_readInput_14_103 61 (.getfield 136) 3 64 := ⟨zq_180 zg_14_103_58.2.2.2.1 zg_14_103_58.2.2.2.2.1 zg_14_103_58.2.2.2.2.2.1 rfl, rfl⟩
theorem zd_14_103_64 : zz_D zy_readInput_14_103 64 (.iconst 0) 1 65 := ⟨zq_3 zg_14_103_58.2.2.2.2.2.2.1, rfl⟩
theorem zd_14_103_65 : zz_D zy_readInput_14_103 65 (.iaload) 1 66 := ⟨zq_46 zg_14_103_58.2.2.2.2.2.2.2.1, rfl⟩
theorem zd_14_103_66 : zz_D zy_readInput_14_103 66 (.istore_n 2) 1 67 := ⟨zq_61 zg_14_103_58.2.2.2.2.2.2.2.2.1, rfl⟩
theorem zd_14_103_67 : zz_D zy_readInput_14_103 67 (.aload_n 0) 1 68 := ⟨zq_42 zg_14_103_58.2.2.2.2.2.2.2.2.2.1, rfl⟩
theorem zd_14_103_68 : zz_D zy_readInput_14_103 68 (.getfield 136) 3 71 := ⟨zq_180 zg_14_103_58.2.2.2.2.2.2.2.2.2.2.1 zg_14_103_58.2.2.2.2.2.2.2.2.2.2.2.1 zg_14_103_58.2.2.2.2.2.2.2.2.2.2.2.2.1 rfl, rfl⟩
theorem zd_14_103_71 : zz_D zy_readInput_14_103 71 (.iconst 1) 1 72 := ⟨zq_4 zg_14_103_58.2.2.2.2.2.2.2.2.2.2.2.2.2.1, rfl⟩
theorem zd_14_103_72 : zz_D zy_readInput_14_103 72 (.iaload) 1 73 := ⟨zq_46 zg_14_103_58.2.2.2.2.2.2.2.2.2.2.2.2.2.2.1, rfl⟩
theorem zd_14_103_73 : zz_D zy_readInput_14_103 73 (.istore_n 3) 1 74 := ⟨zq_62 zg_14_103_58.2.2.2.2.2.2.2.2.2.2.2.2.2.2.2.1, rfl⟩
theorem zd_14_103_74 : zz_D zy_readInput_14_103 74 (.aload_n 0) 1 75 := ⟨zq_42 zg_14_103_58.2.2.2.2.2.2.2.2.2.2.2.2.2.2.2.2.1, rfl⟩
theorem zd_14_103_75 : zz_D zy_readInput_14_103 75 (.getfield 136) 3 78 := ⟨zq_180 zg_14_103_58.2.2.2.2.2.2.2.2.2.2.2.2.2.2.2.2.2.1 zg_14_103_58.2.2.2.2.2.2.2.2.2.2.2.2.2.2.2.2.2.2.1 zg_14_103_58.2.2.2.2.2.2.2.2.2.2.2.2.2.2.2.2.2.2.2.1 rfl, rfl⟩
theorem zd_14_103_78 : zz_D zy_readInput_14_103 78 (.iconst 2) 1 79 := ⟨zq_5 zg_14_103_58.2.2.2.2.2.2.2.2.2.2.2.2.2.2.2.2.2.2.2.2.1, rfl⟩
theorem zd_14_103_79 : zz_D zy_readInput_14_103 79 (.iaload) 1 80 := ⟨zq_46 zg_14_103_58.2.2.2.2.2.2.2.2.2.2.2.2.2.2.2.2.2.2.2.2.2.1, rfl⟩
theorem zd_14_103_80 : zz_D zy_readInput_14_103 80 (.istore 4) 2 82 := ⟨zq_54 zg_14_103_58.2.2.2.2.2.2.2.2.2.2.2.2.2.2.2.2.2.2.2.2.2.2.1 zg_14_103_58.2.2.2.2.2.2.2.2.2.2.2.2.2.2.2.2.2.2.2.2.2.2.2, rfl⟩
theorem zg_14_103_82 : zq_at zy_readInput_14_103.2.1 82 42 ∧ zq_at zy_readInput_14_103.2.1 83 3 ∧ zq_at zy_readInput_14_103.2.1 84 181 ∧ zq_at zy_readInput_14_103.2.1 85 0 ∧ zq_at zy_readInput_14_103.2.1 86 85 ∧ zq_at zy_readInput_14_103.2.1 87 27 ∧ zq_at zy_readInput_14_103.2.1 88 153 ∧ zq_at zy_readInput_14_103.2.1 89 0 ∧ zq_at zy_readInput_14_103.2.1 90 13 ∧ zq_at zy_readInput_14_103.2.1 101 3 ∧ zq_at zy_readInput_14_103.2.1 102 172 ∧ zq_at zy_readInput_14_103.2.1 24 42 ∧ zq_at zy_readInput_14_103.2.1 25 182 ∧ zq_at zy_readInput_14_103.2.1 26 2 ∧ zq_at zy_readInput_14_103.2.1 27 41 ∧ zq_at zy_readInput_14_103.2.1 28 153 ∧ zq_at zy_readInput_14_103.2.1 29 0 ∧ zq_at zy_readInput_14_103.2.1 30 30 ∧ zq_at zy_readInput_14_103.2.1 31 42 ∧ zq_at zy_readInput_14_103.2.1 32 4 ∧ zq_at zy_readInput_14_103.2.1 33 182 ∧ zq_at zy_readInput_14_103.2.1 34 2 ∧ zq_at zy_readInput_14_103.2.1 35 38 := by decide +kernel
theorem zd_14_103_82 : zz_D zy_readInput_14_103 82 (.aload_n 0) 1 83 := ⟨zq_42 zg_14_103_82.1, rfl⟩
theorem zd_14_103_83 : zz_D zy_readInput_14_103 83 (.iconst 0) 1 84 := ⟨zq_3 zg_14_103_82.2.1, rfl⟩
theorem zd_14_103_84 : zz_D zy_readInput_14_103 84 (.putfield 85) 3 87 := ⟨zq_181 zg_14_103_82.2.2.1 zg_14_103_82.2.2.2.1 zg_14_103_82.2.2.2.2.1 rfl, rfl⟩
theorem zd_14_103_87 : zz_D zy_readInput_14_103 87 (.iload_n 1) 1 88 := ⟨zq_27 zg_14_103_82.2.2.2.2.2.1, rfl⟩
theorem zd_14_103_88 : zz_B zy_readInput_14_103 88 (Instr.ifCond .eq) 101 91 := ⟨13, zq_153 zg_14_103_82.2.2.2.2.2.2.1 zg_14_103_82.2.2.2.2.2.2.2.1 zg_14_103_82.2.2.2.2.2.2.2.2.1 (by decide), rfl, rfl⟩
theorem zd_14_103_101 : zz_D zy_readInput_14_103 101 (.iconst 0) 1 102 := ⟨zq_3 zg_14_103_82.2.2.2.2.2.2.2.2.2.1, rfl⟩
theorem zd_14_103_102 : zz_D zy_readInput_14_103 102 (.ireturn) 1 103 := ⟨zq_172 zg_14_103_82.2.2.2.2.2.2.2.2.2.2.1, rfl⟩
theorem zd_14_103_24 : zz_D zy_readInput_14_103 24 (.aload_n 0) 1 25 := ⟨zq_42 zg_14_103_82.2.2.2.2.2.2.2.2.2.2.2.1, rfl⟩
theorem zd_14_103_25 : zz_D zy_readInput_14_103 25 (.invokevirtual 553) 3 28 := ⟨zq_182 zg_14_103_82.2.2.2.2.2.2.2.2.2.2.2.2.1 zg_14_103_82.2.2.2.2.2.2.2.2.2.2.2.2.2.1 zg_14_103_82.2.2.2.2.2.2.2.2.2.2.2.2.2.2.1 rfl, rfl⟩
theorem zd_14_103_28 : zz_B zy_readInput_14_103 28 (Instr.ifCond .eq) 58 31 := ⟨30, zq_153 zg_14_103_82.2.2.2.2.2.2.2.2.2.2.2.2.2.2.2.1 zg_14_103_82.2.2.2.2.2.2.2.2.2.2.2.2.2.2.2.2.1 zg_14_103_82.2.2.2.2.2.2.2.2.2.2.2.2.2.2.2.2.2.1 (by decide), rfl, rfl⟩
theorem zd_14_103_31 : zz_D zy_readInput_14_103 31 (.aload_n 0) 1 32 := ⟨zq_42 zg_14_103_82.2.2.2.2.2.2.2.2.2.2.2.2.2.2.2.2.2.2.1, rfl⟩
theorem zd_14_103_32 : zz_D zy_readInput_14_103 32 (.iconst 1) 1 33 := ⟨zq_4 zg_14_103_82.2.2.2.2.2.2.2.2.2.2.2.2.2.2.2.2.2.2.2.1, rfl⟩
theorem zd_14_103_33 : zz_D zy_readInput_14_103 33 (.invokevirtual 550) 3 36 := ⟨zq_182 zg_14_103_82.2.2.2.2.2.2.2.2.2.2.2.2.2.2.2.2.2.2.2.2.1 zg_14_103_82.2.2.2.2.2.2.2.2.2.2.2.2.2.2.2.2.2.2.2.2.2.1 zg_14_103_82.2.2.2.2.2.2.2.2.2.2.2.2.2.2.2.2.2.2.2.2.2.2 rfl, rfl⟩
theorem zg_14_103_36 : zq_at zy_readInput_14_103.2.1 36 153 ∧ zq_at zy_readInput_14_103.2.1 37 0 ∧ zq_at zy_readInput_14_103.2.1 38 22 ∧ zq_at zy_readInput_14_103.2.1 39 42 ∧ zq_at zy_readInput_14_103.2.1 40 182 ∧ zq_at zy_readInput_14_103.2.1 41 2 ∧ zq_at zy_readInput_14_103.2.1 42 41 ∧ zq_at zy_readInput_14_103.2.1 43 153 ∧ zq_at zy_readInput_14_103.2.1 44 0 ∧ zq_at zy_readInput_14_103.2.1 45 15 ∧ zq_at zy_readInput_14_103.2.1 46 42 ∧ zq_at zy_readInput_14_103.2.1 47 5 ∧ zq_at zy_readInput_14_103.2.1 48 182 ∧ zq_at zy_readInput_14_103.2.1 49 2 ∧ zq_at zy_readInput_14_103.2.1 50 38 ∧ zq_at zy_readInput_14_103.2.1 51 153 ∧ zq_at zy_readInput_14_103.2.1 52 0 ∧ zq_at zy_readInput_14_103.2.1 53 7 ∧ zq_at zy_readInput_14_103.2.1 54 4 ∧ zq_at zy_readInput_14_103.2.1 55 167 ∧ zq_at zy_readInput_14_103.2.1 56 0 ∧ zq_at zy_readInput_14_103.2.1 57 4 ∧ zq_at zy_readInput_14_103.2.1 91 42 := by decide +kernel
theorem zd_14_103_36 : zz_B zy_readInput_14_103 36 (Instr.ifCond .eq) 58 39 := ⟨22, zq_153 zg_14_103_36.1 zg_14_103_36.2.1 zg_14_103_36.2.2.1 (by decide), rfl, rfl⟩
theorem zd_14_103_39 : zz_D zy_readInput_14_103 39 (.aload_n 0) 1 40 := ⟨zq_42 zg_14_103_36.2.2.2.1, rfl⟩
theorem zd_14_103_40 : zz_D zy_readInput_14_103 40 (.invokevirtual 553) 3 43 := ⟨zq_182 zg_14_103_36.2.2.2.2.1 zg_14_103_36.2.2.2.2.2.1 zg_14_103_36.2.2.2.2.2.2.1 rfl, rfl⟩
theorem zd_14_103_43 : zz_B zy_readInput_14_103 43 (Instr.ifCond .eq) 58 46 := ⟨15, zq_153 zg_14_103_36.2.2.2.2.2.2.2.1 zg_14_103_36.2.2.2.2.2.2.2.2.1 zg_14_103_36.2.2.2.2.2.2.2.2.2.1 (by decide), rfl, rfl⟩
theorem zd_14_103_46 : zz_D zy_readInput_14_103 46 (.aload_n 0) 1 47 := ⟨zq_42 zg_14_103_36.2.2.2.2.2.2.2.2.2.2.1, rfl⟩
theorem zd_14_103_47 : zz_D zy_readInput_14_103 47 (.iconst 2) 1 48 := ⟨zq_5 zg_14_103_36.2.2.2.2.2.2.2.2.2.2.2.1, rfl⟩
theorem zd_14_103_48 : zz_D zy_readInput_14_103 48 (.invokevirtual 550) 3 51 := ⟨zq_182 zg_14_103_36.2.2.2.2.2.2.2.2.2.2.2.2.1 zg_14_103_36.2.2.2.2.2.2.2.2.2.2.2.2.2.1 zg_14_103_36.2.2.2.2.2.2.2.2.2.2.2.2.2.2.1 rfl, rfl⟩
theorem zd_14_103_51 : zz_B zy_readInput_14_103 51 (Instr.ifCond .eq) 58 54 := ⟨7, zq_153 zg_14_103_36.2.2.2.2.2.2.2.2.2.2.2.2.2.2.2.1 zg_14_103_36.2.2.2.2.2.2.2.2.2.2.2.2.2.2.2.2.1 zg_14_103_36.2.2.2.2.2.2.2.2.2.2.2.2.2.2.2.2.2.1 (by decide), rfl, rfl⟩
theorem zd_14_103_54 : zz_D zy_readInput_14_103 54 (.iconst 1) 1 55 := ⟨zq_4 zg_14_103_36.2.2.2.2.2.2.2.2.2.2.2.2.2.2.2.2.2.2.1, rfl⟩
theorem zd_14_103_55 : zz_B zy_readInput_14_103 55 Instr.goto 59 58 := ⟨4, zq_167 zg_14_103_36.2.2.2.2.2.2.2.2.2.2.2.2.2.2.2.2.2.2.2.1 zg_14_103_36.2.2.2.2.2.2.2.2.2.2.2.2.2.2.2.2.2.2.2.2.1 zg_14_103_36.2.2.2.2.2.2.2.2.2.2.2.2.2.2.2.2.2.2.2.2.2.1 (by decide), rfl, rfl⟩
theorem zd_14_103_91 : zz_D zy_readInput_14_103 91 (.aload_n 0) 1 92 := ⟨zq_42 zg_14_103_36.2.2.2.2.2.2.2.2.2.2.2.2.2.2.2.2.2.2.2.2.2.2, rfl⟩
theorem zg_14_103_92 : zq_at zy_readInput_14_103.2.1 92 17 ∧ zq_at zy_readInput_14_103.2.1 93 0 ∧ zq_at zy_readInput_14_103.2.1 94 128 ∧ zq_at zy_readInput_14_103.2.1 95 182 ∧ zq_at zy_readInput_14_103.2.1 96 2 ∧ zq_at zy_readInput_14_103.2.1 97 64 ∧ zq_at zy_readInput_14_103.2.1 98 154 ∧ zq_at zy_readInput_14_103.2.1 99 0 ∧ zq_at zy_readInput_14_103.2.1 100 5 ∧ zq_at zy_readInput_14_103.2.1 103 42 ∧ zq_at zy_readInput_14_103.2.1 104 28 ∧ zq_at zy_readInput_14_103.2.1 105 29 ∧ zq_at zy_readInput_14_103.2.1 106 21 ∧ zq_at zy_readInput_14_103.2.1 107 4 ∧ zq_at zy_readInput_14_103.2.1 108 182 ∧ zq_at zy_readInput_14_103.2.1 109 2 ∧ zq_at zy_readInput_14_103.2.1 110 67 ∧ zq_at zy_readInput_14_103.2.1 111 42 ∧ zq_at zy_readInput_14_103.2.1 112 180 ∧ zq_at zy_readInput_14_103.2.1 113 0 ∧ zq_at zy_readInput_14_103.2.1 114 133 ∧ zq_at zy_readInput_14_103.2.1 115 3 ∧ zq_at zy_readInput_14_103.2.1 116 42 := by decide +kernel
theorem zd_14_103_92 : zz_D zy_readInput_14_103 92 (.sipush 128) 3 95 := ⟨zq_17 zg_14_103_92.1 zg_14_103_92.2.1 zg_14_103_92.2.2.1 (by decide), rfl⟩
theorem zd_14_103_95 : zz_D zy_readInput_14_103 95 (.invokevirtual 576) 3 98 := ⟨zq_182 zg_14_103_92.2.2.2.1 zg_14_103_92.2.2.2.2.1 zg_14_103_92.2.2.2.2.2.1 rfl, rfl⟩
theorem zd_14_103_98 : zz_B zy_readInput_14_103 98 (Instr.ifCond .ne) 103 101 := ⟨5, zq_154 zg_14_103_92.2.2.2.2.2.2.1 zg_14_103_92.2.2.2.2.2.2.2.1 zg_14_103_92.2.2.2.2.2.2.2.2.1 (by decide), rfl, rfl⟩
theorem zd_14_103_103 : zz_D zy_readInput_14_103 103 (.aload_n 0) 1 104 := ⟨zq_42 zg_14_103_92.2.2.2.2.2.2.2.2.2.1, rfl⟩
theorem zd_14_103_104 : zz_D zy_readInput_14_103 104 (.iload_n 2) 1 105 := ⟨zq_28 zg_14_103_92.2.2.2.2.2.2.2.2.2.2.1, rfl⟩
theorem zd_14_103_105 : zz_D zy_readInput_14_103 105 (.iload_n 3) 1 106 := ⟨zq_29 zg_14_103_92.2.2.2.2.2.2.2.2.2.2.2.1, rfl⟩
theorem zd_14_103_106 : zz_D zy_readInput_14_103 106 (.iload 4) 2 108 := ⟨zq_21 zg_14_103_92.2.2.2.2.2.2.2.2.2.2.2.2.1 zg_14_103_92.2.2.2.2.2.2.2.2.2.2.2.2.2.1, rfl⟩
theorem zd_14_103_108 : zz_D zy_readInput_14_103 108 (.invokevirtual 579) 3 111 := ⟨zq_182 zg_14_103_92.2.2.2.2.2.2.2.2.2.2.2.2.2.2.1 zg_14_103_92.2.2.2.2.2.2.2.2.2.2.2.2.2.2.2.1 zg_14_103_92.2.2.2.2.2.2.2.2.2.2.2.2.2.2.2.2.1 rfl, rfl⟩
theorem zd_14_103_111 : zz_D zy_readInput_14_103 111 (.aload_n 0) 1 112 := ⟨zq_42 zg_14_103_92.2.2.2.2.2.2.2.2.2.2.2.2.2.2.2.2.2.1, rfl⟩
theorem zd_14_103_112 : zz_D zy_readInput_14_103 112 (.getfield 133) 3 115 := ⟨zq_180 zg_14_103_92.2.2.2.2.2.2.2.2.2.2.2.2.2.2.2.2.2.2.1 zg_14_103_92.2.2.2.2.2.2.2.2.2.2.2.2.2.2.2.2.2.2.2.1 zg_14_103_92.2.2.2.2.2.2.2.2.2.2.2.2.2.2.2.2.2.2.2.2.1 rfl, rfl⟩
theorem zd_14_103_115 : zz_D zy_readInput_14_103 115 (.iconst 0) 1 116 := ⟨zq_3 zg_14_103_92.2.2.2.2.2.2.2.2.2.2.2.2.2.2.2.2.2.2.2.2.2.1, rfl⟩
theorem zd_14_103_116 : zz_D zy_readInput_14_103 116 (.aload_n 0) 1 117 := ⟨zq_42 zg_14_103_92.2.2.2.2.2.2.2.2.2.2.2.2.2.2.2.2.2.2.2.2.2.2, rfl⟩
theorem zg_14_103_117 : zq_at zy_readInput_14_103.2.1 117 180 ∧ zq_at zy_readInput_14_103.2.1 118 2 ∧ zq_at zy_readInput_14_103.2.1 119 52 ∧ zq_at zy_readInput_14_103.2.1 120 80 ∧ zq_at zy_readInput_14_103.2.1 121 42 ∧ zq_at zy_readInput_14_103.2.1 122 180 ∧ zq_at zy_readInput_14_103.2.1 123 0 ∧ zq_at zy_readInput_14_103.2.1 124 187 ∧ zq_at zy_readInput_14_103.2.1 125 154 ∧ zq_at zy_readInput_14_103.2.1 126 0 ∧ zq_at zy_readInput_14_103.2.1 127 7 ∧ zq_at zy_readInput_14_103.2.1 132 3 ∧ zq_at zy_readInput_14_103.2.1 133 172 ∧ zq_at zy_readInput_14_103.2.1 128 4 ∧ zq_at zy_readInput_14_103.2.1 129 167 ∧ zq_at zy_readInput_14_103.2.1 130 0 ∧ zq_at zy_readInput_14_103.2.1 131 4 := by decide +kernel
theorem zd_14_103_117 : zz_D zy_readInput_14_103 117 (.getfield 564) 3 120 := ⟨zq_180 zg_14_103_117.1 zg_14_103_117.2.1 zg_14_103_117.2.2.1 rfl, rfl⟩
theorem zd_14_103_120 : zz_D zy_readInput_14_103 120 (.lastore) 1 121 := ⟨zq_80 zg_14_103_117.2.2.2.1, rfl⟩
theorem zd_14_103_121 : zz_D zy_readInput_14_103 121 (.aload_n 0) 1 122 := ⟨zq_42 zg_14_103_117.2.2.2.2.1, rfl⟩
theorem zd_14_103_122 : zz_D zy_readInput_14_103 122 (.getfield 187) 3 125 := ⟨zq_180 zg_14_103_117.2.2.2.2.2.1 zg_14_103_117.2.2.2.2.2.2.1 zg_14_103_117.2.2.2.2.2.2.2.1 rfl, rfl⟩
theorem zd_14_103_125 : zz_B zy_readInput_14_103 125 (Instr.ifCond .ne) 132 128 := ⟨7, zq_154 zg_14_103_117.2.2.2.2.2.2.2.2.1 zg_14_103_117.2.2.2.2.2.2.2.2.2.1 zg_14_103_117.2.2.2.2.2.2.2.2.2.2.1 (by decide), rfl, rfl⟩
theorem zd_14_103_132 : zz_D zy_readInput_14_103 132 (.iconst 0) 1 133 := ⟨zq_3 zg_14_103_117.2.2.2.2.2.2.2.2.2.2.2.1, rfl⟩
theorem zd_14_103_133 : zz_D zy_readInput_14_103 133 (.ireturn) 1 134 := ⟨zq_172 zg_14_103_117.2.2.2.2.2.2.2.2.2.2.2.2.1, rfl⟩
theorem zd_14_103_128 : zz_D zy_readInput_14_103 128 (.iconst 1) 1 129 := ⟨zq_4 zg_14_103_117.2.2.2.2.2.2.2.2.2.2.2.2.2.1, rfl⟩
theorem zd_14_103_129 : zz_B zy_readInput_14_103 129 Instr.goto 133 132 := ⟨4, zq_167 zg_14_103_117.2.2.2.2.2.2.2.2.2.2.2.2.2.2.1 zg_14_103_117.2.2.2.2.2.2.2.2.2.2.2.2.2.2.2.1 zg_14_103_117.2.2.2.2.2.2.2.2.2.2.2.2.2.2.2.2 (by decide), rfl, rfl⟩
