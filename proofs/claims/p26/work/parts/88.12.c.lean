-- TensorForge$NetworkReader readKernelFrom (ILTensorForge$Layer;)Z
abbrev zr_readKernelFrom_8_10 : Room := { frames := 6, cells := 0, slots := 0, locals := 81 }
def zp_readKernelFrom_8_10 (p0 : Int) (p1 : Int) (S0 : zz_S) : Int → zz_S → Prop := fun r S => zz_G S ∧ zz_fr [(1070, 3), (1070, 4), (1070, 5), (1070, 6)] [] (fun a i => (a = zz_rf 6 p1 ∧ i = 3) ∨ (a = zz_rf 6 p1 ∧ i = 4)) S0 S ∧ (0 ≤ r ∧ r ≤ 1) ∧ ((r = 1 ∧ (((zt_kn (S0 1071) (S0 1070 2) (S0 1070 3)) = 102 ∧ (zt_kc (S0 1071) (S0 1070 2) (S0 1070 3)) = 24) ∧ zt_kn (S0 1071) (S0 1070 2) (zt_te (S0 1071) (S0 1070 2) (S0 1070 3)) = 100) ∧ S (zz_rf 6 p1) 3 = p0 ∧ S (zz_rf 6 p1) 4 = zt_tv (S0 1071) (S0 1070 2) (zt_te (S0 1071) (S0 1070 2) (S0 1070 3)) ∧ S 1070 3 = zt_te (S0 1071) (S0 1070 2) (zt_te (S0 1071) (S0 1070 2) (S0 1070 3))) ∨ (r = 0 ∧ ¬ (((zt_kn (S0 1071) (S0 1070 2) (S0 1070 3)) = 102 ∧ (zt_kc (S0 1071) (S0 1070 2) (S0 1070 3)) = 24) ∧ zt_kn (S0 1071) (S0 1070 2) (zt_te (S0 1071) (S0 1070 2) (S0 1070 3)) = 100))) ∧ (S0 1070 3 ≤ S 1070 3) ∧ (S0 1070 3 ≤ S0 1070 2 → S 1070 3 ≤ S0 1070 2)
theorem zc_readKernelFrom_8_10 {g : mm_G} {l : Launch} (p0 : Int) (p1 : Int) (S0 : zz_S) (n : Nat) (hn : zz_end ≤ n) (G_S0 : zz_G S0) (hp0 : (-2147483648) ≤ p0 ∧ p0 ≤ 2147483647) (hp1 : 0 ≤ p1 ∧ p1 ≤ 23) : mm_Met g l zy_readKernelFrom_8_10 zr_readKernelFrom_8_10 [.ref 1073, zi p0, .ref (zz_rf 6 p1)] (zz_M S0 n) n (zz_QI n (zp_readKernelFrom_8_10 p0 p1 S0)) := by
  refine zz_enter (by decide) (Nat.le_of_ble_eq_true rfl) (zz_less (ls1 := [some (.ref 1073), some (zi p0), some (.ref (zz_rf 6 p1))]) ⟨rfl, ⟨rfl, ⟨rfl, trivial⟩⟩⟩ ?_)
  have F_S0 : zz_fr [(1070, 3), (1070, 4), (1070, 5), (1070, 6)] [] (fun a i => (a = zz_rf 6 p1 ∧ i = 3) ∨ (a = zz_rf 6 p1 ∧ i = 4)) S0 S0 := zz_fr.refl
  have b_p1 := zz_rf6 (z := p1) (by omega)
  refine zz_aload_n (x := 1073) rfl zd_8_10_0 ?_
  refine zz_getr (kd := 0) (z := 1070) zd_8_10_1 zf_NetworkReader_9 zT_1073 rfl (zz_ltn hn rfl) (zz_G.eq G_S0 1073 0 1070 rfl rfl) (by decide) 1070 rfl ?_
  refine zz_ldcs (t := 12) (by decide +kernel) (by decide) zd_8_10_4 ?_
  have g1 := zz_G.r G_S0 1070 2 (-1) 1500 rfl rfl
  have g2 := zz_G.r G_S0 1070 3 0 1500 rfl rfl
  refine zz_callVI [.ref (100 + 12)] zd_8_10_6 zk_NetworkReader_99 zT_1070 (zz_ltn hn rfl) rfl rfl ⟨Nat.le_of_ble_eq_true rfl, Nat.le_of_ble_eq_true rfl⟩ ⟨rfl, rfl⟩ (Nat.zero_le _) (Nat.zero_le _) (zc_nextIsWord_11_10 12 S0 n hn G_S0 (by omega)) (fun v4 S3 hP => ?_)
  obtain ⟨G_S3, fS3, o5, o6, o7, o8, o9, o10, o11, o12, o13, o14, o15⟩ := hP
  have F_S3 := zz_fr.trans F_S0 fS3 rfl zz_nv
  rcases (by omega : v4 = 0 ∨ v4 = 1) with rfl | rfl
  · refine zz_if_eq (by omega) zd_8_10_9 (fun c16 => ?_) (fun c16 => ?_)
    · refine zz_iconst zd_8_10_22 ?_
      have g17 := zz_G.r G_S3 1070 3 0 1500 rfl rfl
      have e18 : S3 (zz_rf 6 p1) 3 = S0 (zz_rf 6 p1) 3 := (zz_rc fS3 (zP_k6 (by omega) rfl) (zQ_k6 (by omega) rfl) (fun h => h) rfl)
      have e19 : S3 (zz_rf 6 p1) 4 = S0 (zz_rf 6 p1) 4 := (zz_rc fS3 (zP_k6 (by omega) rfl) (zQ_k6 (by omega) rfl) (fun h => h) rfl)
      exact zz_zret zd_8_10_23 rfl (by omega) (Nat.zero_le _) (Nat.zero_le _) ⟨_, _, rfl, G_S3, F_S3, by omega, (by have w9 := zt_NKw o15 (t := 12) (by decide) (by decide) o14; exact Or.inr ⟨rfl, fun h9 => (w9.resolve_left (fun h => absurd h.1 (by decide))).2 h9.1⟩), by omega, by omega⟩
    · exfalso; omega
  · refine zz_if_eq (by omega) zd_8_10_9 (fun c20 => ?_) (fun c20 => ?_)
    · exfalso; omega
    · refine zz_aload_n (x := 1073) rfl zd_8_10_12 ?_
      refine zz_getr (kd := 0) (z := 1070) zd_8_10_13 zf_NetworkReader_9 zT_1073 rfl (zz_ltn hn rfl) (zz_G.eq G_S3 1073 0 1070 rfl rfl) (by decide) 1070 rfl ?_
      have e21 : S3 1070 2 = S0 1070 2 := (zz_rc fS3 rfl rfl (fun h => h) rfl)
      have g22 := zz_G.r G_S3 1070 3 0 1500 rfl rfl
      refine zz_callVI [] zd_8_10_16 zk_NetworkReader_91 zT_1070 (zz_ltn hn rfl) rfl rfl ⟨Nat.le_of_ble_eq_true rfl, Nat.le_of_ble_eq_true rfl⟩ ⟨rfl, rfl⟩ (Nat.zero_le _) (Nat.zero_le _) (zc_nextIsNumber_11_11  S3 n hn G_S3 ) (fun v24 S23 hP => ?_)
      obtain ⟨G_S23, fS23, o25, o26, o27, o28, o29, o30, o31, o32, o33, o34, o35⟩ := hP
      rw [show S3 1071 = S0 1071 from funext (fun u => (zz_rc fS3 (zz_nc1 rfl) rfl (fun h => h) rfl)), show S3 1070 2 = S0 1070 2 from (zz_rc fS3 rfl rfl (fun h => h) rfl)] at o26
      rw [show S3 1071 = S0 1071 from funext (fun u => (zz_rc fS3 (zz_nc1 rfl) rfl (fun h => h) rfl)), show S3 1070 2 = S0 1070 2 from (zz_rc fS3 rfl rfl (fun h => h) rfl)] at o27
      rw [show S3 1071 = S0 1071 from funext (fun u => (zz_rc fS3 (zz_nc1 rfl) rfl (fun h => h) rfl)), show S3 1070 2 = S0 1070 2 from (zz_rc fS3 rfl rfl (fun h => h) rfl)] at o28
      rw [show S3 1070 2 = S0 1070 2 from (zz_rc fS3 rfl rfl (fun h => h) rfl)] at o33
      rw [show S3 1071 = S0 1071 from funext (fun u => (zz_rc fS3 (zz_nc1 rfl) rfl (fun h => h) rfl)), show S3 1070 2 = S0 1070 2 from (zz_rc fS3 rfl rfl (fun h => h) rfl)] at o34
      rw [show S3 1071 = S0 1071 from funext (fun u => (zz_rc fS3 (zz_nc1 rfl) rfl (fun h => h) rfl)), show S3 1070 2 = S0 1070 2 from (zz_rc fS3 rfl rfl (fun h => h) rfl)] at o35
      have F_S23 := zz_fr.trans F_S3 fS23 rfl zz_nv
      rcases (by omega : v24 = 0 ∨ v24 = 1) with rfl | rfl
      · refine zz_if_ne (by omega) zd_8_10_19 (fun c36 => ?_) (fun c36 => ?_)
        · exfalso; omega
        · refine zz_iconst zd_8_10_22 ?_
          have g37 := zz_G.r G_S23 1070 3 0 1500 rfl rfl
          have e38 : S23 (zz_rf 6 p1) 3 = S0 (zz_rf 6 p1) 3 := (zz_rc fS23 (zP_k6 (by omega) rfl) (zQ_k6 (by omega) rfl) (fun h => h) (zz_rc fS3 (zP_k6 (by omega) rfl) (zQ_k6 (by omega) rfl) (fun h => h) rfl))
          have e39 : S23 (zz_rf 6 p1) 4 = S0 (zz_rf 6 p1) 4 := (zz_rc fS23 (zP_k6 (by omega) rfl) (zQ_k6 (by omega) rfl) (fun h => h) (zz_rc fS3 (zP_k6 (by omega) rfl) (zQ_k6 (by omega) rfl) (fun h => h) rfl))
          exact zz_zret zd_8_10_23 rfl (by omega) (Nat.zero_le _) (Nat.zero_le _) ⟨_, _, rfl, G_S23, F_S23, by omega, (by have w9 := zt_NKw o15 (t := 12) (by decide) (by decide) o14; have y9 := (w9.resolve_right (fun h => absurd h.1 (by decide))).2; have k9 := zt_NKs o35; rw [show S3 1070 3 = zt_te (S0 1071) (S0 1070 2) (S0 1070 3) by omega] at k9; exact Or.inr ⟨rfl, fun h9 => by have h8 := h9.2; omega⟩), by omega, by omega⟩
      · refine zz_if_ne (by omega) zd_8_10_19 (fun c40 => ?_) (fun c40 => ?_)
        · refine zz_aload_n (x := zz_rf 6 p1) rfl zd_8_10_24 ?_
          refine zz_iload_n (x := p0) rfl zd_8_10_25 ?_
          refine zz_aload_n (x := 1073) rfl zd_8_10_26 ?_
          refine zz_getr (kd := 0) (z := 1070) zd_8_10_27 zf_NetworkReader_9 zT_1073 rfl (zz_ltn hn rfl) (zz_G.eq G_S23 1073 0 1070 rfl rfl) (by decide) 1070 rfl ?_
          have g41 := zz_G.r G_S23 1070 6 (-2147483648) 2147483647 rfl rfl
          refine zz_geti (z := S23 1070 6) zd_8_10_30 zf_NetworkReader_94 zT_1070 rfl (zz_ltn hn rfl) rfl ?_
          refine zz_callVV [zi p0, zi (S23 1070 6)] zd_8_10_33 zk_NetworkReader_180 (zT_k6 (by omega)) (zN_k6 hn (by omega)) rfl rfl ⟨Nat.le_of_ble_eq_true rfl, Nat.le_of_ble_eq_true rfl⟩ ⟨rfl, rfl⟩ (Nat.zero_le _) (Nat.zero_le _) (zc_takeKernel_4_4 p1 p0 (S23 1070 6) S23 n hn G_S23 (by omega) (by omega) (by omega)) (fun S42 hP => ?_)
          obtain ⟨G_S42, fS42, o44⟩ := hP
          have F_S42 := zz_fr.trans F_S23 fS42 rfl (fun a i h => by rcases h with h | h; exact Or.inr (Or.inr (Or.inl h)); exact Or.inr (Or.inr (Or.inr (h))))
          have b45 := zz_rf6 (z := p1) (by omega)
          refine zz_iconst zd_8_10_36 ?_
          have g46 := zz_G.r G_S23 1070 3 0 1500 rfl rfl
          have e47 : S42 1070 3 = S23 1070 3 := (zz_rc fS42 rfl rfl (by first | decide | omega) rfl)
          exact zz_zret zd_8_10_37 rfl (by omega) (Nat.zero_le _) (Nat.zero_le _) ⟨_, _, rfl, G_S42, F_S42, by omega, (by have w9 := zt_NKw o15 (t := 12) (by decide) (by decide) o14; have y9 := (w9.resolve_right (fun h => absurd h.1 (by decide))).2; have k9 := zt_NKs o35; rw [show S3 1070 3 = zt_te (S0 1071) (S0 1070 2) (S0 1070 3) by omega] at k9; exact Or.inl ⟨rfl, ⟨y9, by omega⟩, by omega, by rw [← show S3 1070 3 = zt_te (S0 1071) (S0 1070 2) (S0 1070 3) by omega]; omega, by rw [← show S3 1070 3 = zt_te (S0 1071) (S0 1070 2) (S0 1070 3) by omega]; omega⟩), by omega, by omega⟩
        · exfalso; omega
theorem zk_NetworkReader_176 : mm_Vl "TensorForge$NetworkReader" 176 8 2 zy_readKernelFrom_8_10 := ⟨zyw_readKernelFrom_8_10, (R_NetworkReader, F_NetworkReader, 9), rfl, mm_tb_1 980 (by decide +kernel) rfl, mm_tb_1 982 (by decide +kernel) rfl, mm_tb_s 49 (by decide +kernel) rfl⟩
theorem zf_NetworkReader_161 : mm_Fl "TensorForge$NetworkReader" 161 2 8 .boolean false := ⟨R_Layer, F_Layer, 15, t_Layer, rfl, i_Layer, by decide, mm_tb_1 89 (by decide +kernel) rfl, rfl, t_Layer_ok, n_Layer, rfl, by decide +kernel⟩
abbrev zy_readName_8_11 : mm_Y := (⟨"TensorForge$NetworkReader", "readName", "()Z"⟩, prog_8_method_11_code, 1, (some .boolean))
theorem zyw_readName_8_11 : mm_Yw zy_readName_8_11 0 := ⟨mm_tb_1 968 (by decide +kernel) rfl, mm_tb_1 9 (by decide +kernel) rfl, ⟨by decide, by decide⟩, by decide +kernel⟩
abbrev zy_tokenSize_11_8 : mm_Y := (⟨"TensorForge$Text", "tokenSize", "()I"⟩, prog_11_method_8_code, 1, (some .int))
theorem zyw_tokenSize_11_8 : mm_Yw zy_tokenSize_11_8 0 := ⟨mm_tb_1 972 (by decide +kernel) rfl, mm_tb_1 7 (by decide +kernel) rfl, ⟨by decide, by decide⟩, by decide +kernel⟩
theorem zg_8_9_173 : zq_at zy_readOption_8_9.2.1 173 172 ∧ zq_at zy_readOption_8_9.2.1 26 44 ∧ zq_at zy_readOption_8_9.2.1 27 4 ∧ zq_at zy_readOption_8_9.2.1 28 181 ∧ zq_at zy_readOption_8_9.2.1 29 0 ∧ zq_at zy_readOption_8_9.2.1 30 161 ∧ zq_at zy_readOption_8_9.2.1 31 4 ∧ zq_at zy_readOption_8_9.2.1 32 172 ∧ zq_at zy_readOption_8_9.2.1 7 42 ∧ zq_at zy_readOption_8_9.2.1 8 182 ∧ zq_at zy_readOption_8_9.2.1 9 0 ∧ zq_at zy_readOption_8_9.2.1 10 158 := by decide +kernel
theorem zd_8_9_173 : zz_D zy_readOption_8_9 173 (.ireturn) 1 174 := ⟨zq_172 zg_8_9_173.1, rfl⟩
theorem zd_8_9_26 : zz_D zy_readOption_8_9 26 (.aload_n 2) 1 27 := ⟨zq_44 zg_8_9_173.2.1, rfl⟩
theorem zd_8_9_27 : zz_D zy_readOption_8_9 27 (.iconst 1) 1 28 := ⟨zq_4 zg_8_9_173.2.2.1, rfl⟩
theorem zd_8_9_28 : zz_D zy_readOption_8_9 28 (.putfield 161) 3 31 := ⟨zq_181 zg_8_9_173.2.2.2.1 zg_8_9_173.2.2.2.2.1 zg_8_9_173.2.2.2.2.2.1 rfl, rfl⟩
theorem zd_8_9_31 : zz_D zy_readOption_8_9 31 (.iconst 1) 1 32 := ⟨zq_4 zg_8_9_173.2.2.2.2.2.2.1, rfl⟩
theorem zd_8_9_32 : zz_D zy_readOption_8_9 32 (.ireturn) 1 33 := ⟨zq_172 zg_8_9_173.2.2.2.2.2.2.2.1, rfl⟩
theorem zd_8_9_7 : zz_D zy_readOption_8_9 7 (.aload_n 0) 1 8 := ⟨zq_42 zg_8_9_173.2.2.2.2.2.2.2.2.1, rfl⟩
theorem zd_8_9_8 : zz_D zy_readOption_8_9 8 (.invokevirtual 158) 3 11 := ⟨zq_182 zg_8_9_173.2.2.2.2.2.2.2.2.2.1 zg_8_9_173.2.2.2.2.2.2.2.2.2.2.1 zg_8_9_173.2.2.2.2.2.2.2.2.2.2.2 rfl, rfl⟩
theorem zg_8_11_0 : zq_at zy_readName_8_11.2.1 0 42 ∧ zq_at zy_readName_8_11.2.1 1 180 ∧ zq_at zy_readName_8_11.2.1 2 0 ∧ zq_at zy_readName_8_11.2.1 3 9 ∧ zq_at zy_readName_8_11.2.1 4 182 ∧ zq_at zy_readName_8_11.2.1 5 0 ∧ zq_at zy_readName_8_11.2.1 6 59 ∧ zq_at zy_readName_8_11.2.1 7 42 ∧ zq_at zy_readName_8_11.2.1 8 180 ∧ zq_at zy_readName_8_11.2.1 9 0 ∧ zq_at zy_readName_8_11.2.1 10 9 ∧ zq_at zy_readName_8_11.2.1 11 180 ∧ zq_at zy_readName_8_11.2.1 12 0 ∧ zq_at zy_readName_8_11.2.1 13 62 ∧ zq_at zy_readName_8_11.2.1 14 4 ∧ zq_at zy_readName_8_11.2.1 15 160 ∧ zq_at zy_readName_8_11.2.1 16 0 ∧ zq_at zy_readName_8_11.2.1 17 37 ∧ zq_at zy_readName_8_11.2.1 52 3 ∧ zq_at zy_readName_8_11.2.1 53 172 ∧ zq_at zy_readName_8_11.2.1 18 42 ∧ zq_at zy_readName_8_11.2.1 19 180 ∧ zq_at zy_readName_8_11.2.1 20 0 ∧ zq_at zy_readName_8_11.2.1 21 9 := by decide +kernel
theorem zd_8_11_0 : zz_D zy_readName_8_11 0 (.aload_n 0) 1 1 := ⟨zq_42 zg_8_11_0.1, rfl⟩
theorem zd_8_11_1 : zz_D zy_readName_8_11 1 (.getfield 9) 3 4 := ⟨zq_180 zg_8_11_0.2.1 zg_8_11_0.2.2.1 zg_8_11_0.2.2.2.1 rfl, rfl⟩
theorem zd_8_11_4 : zz_D zy_readName_8_11 4 (.invokevirtual 59) 3 7 := ⟨zq_182 zg_8_11_0.2.2.2.2.1 zg_8_11_0.2.2.2.2.2.1 zg_8_11_0.2.2.2.2.2.2.1 rfl, rfl⟩
theorem zd_8_11_7 : zz_D zy_readName_8_11 7 (.aload_n 0) 1 8 := ⟨zq_42 zg_8_11_0.2.2.2.2.2.2.2.1, rfl⟩
theorem zd_8_11_8 : zz_D zy_readName_8_11 8 (.getfield 9) 3 11 := ⟨zq_180 zg_8_11_0.2.2.2.2.2.2.2.2.1 zg_8_11_0.2.2.2.2.2.2.2.2.2.1 zg_8_11_0.2.2.2.2.2.2.2.2.2.2.1 rfl, rfl⟩
theorem zd_8_11_11 : zz_D zy_readName_8_11 11 (.getfield 62) 3 14 := ⟨zq_180 zg_8_11_0.2.2.2.2.2.2.2.2.2.2.2.1 zg_8_11_0.2.2.2.2.2.2.2.2.2.2.2.2.1 zg_8_11_0.2.2.2.2.2.2.2.2.2.2.2.2.2.1 rfl, rfl⟩
theorem zd_8_11_14 : zz_D zy_readName_8_11 14 (.iconst 1) 1 15 := ⟨zq_4 zg_8_11_0.2.2.2.2.2.2.2.2.2.2.2.2.2.2.1, rfl⟩
theorem zd_8_11_15 : zz_B zy_readName_8_11 15 (Instr.if_icmp .ne) 52 18 := ⟨37, zq_160 zg_8_11_0.2.2.2.2.2.2.2.2.2.2.2.2.2.2.2.1 zg_8_11_0.2.2.2.2.2.2.2.2.2.2.2.2.2.2.2.2.1 zg_8_11_0.2.2.2.2.2.2.2.2.2.2.2.2.2.2.2.2.2.1 (by decide), rfl, rfl⟩
theorem zd_8_11_52 : zz_D zy_readName_8_11 52 (.iconst 0) 1 53 := ⟨zq_3 zg_8_11_0.2.2.2.2.2.2.2.2.2.2.2.2.2.2.2.2.2.2.1, rfl⟩
theorem zd_8_11_53 : zz_D zy_readName_8_11 53 (.ireturn) 1 54 := ⟨zq_172 zg_8_11_0.2.2.2.2.2.2.2.2.2.2.2.2.2.2.2.2.2.2.2.1, rfl⟩
theorem zd_8_11_18 : zz_D zy_readName_8_11 18 (.aload_n 0) 1 19 := ⟨zq_42 zg_8_11_0.2.2.2.2.2.2.2.2.2.2.2.2.2.2.2.2.2.2.2.2.1, rfl⟩
theorem zd_8_11_19 : zz_D zy_readName_8_11 19 (.getfield 9) 3 22 := ⟨zq_180 zg_8_11_0.2.2.2.2.2.2.2.2.2.2.2.2.2.2.2.2.2.2.2.2.2.1 zg_8_11_0.2.2.2.2.2.2.2.2.2.2.2.2.2.2.2.2.2.2.2.2.2.2.1 zg_8_11_0.2.2.2.2.2.2.2.2.2.2.2.2.2.2.2.2.2.2.2.2.2.2.2 rfl, rfl⟩
theorem zg_8_11_22 : zq_at zy_readName_8_11.2.1 22 182 ∧ zq_at zy_readName_8_11.2.1 23 0 ∧ zq_at zy_readName_8_11.2.1 24 184 := by decide +kernel
theorem zd_8_11_22 : zz_D zy_readName_8_11 22 (.invokevirtual 184) 3 25 := ⟨zq_182 zg_8_11_22.1 zg_8_11_22.2.1 zg_8_11_22.2.2 rfl, rfl⟩
theorem zg_11_8_0 : zq_at zy_tokenSize_11_8.2.1 0 42 ∧ zq_at zy_tokenSize_11_8.2.1 1 180 ∧ zq_at zy_tokenSize_11_8.2.1 2 0 ∧ zq_at zy_tokenSize_11_8.2.1 3 25 ∧ zq_at zy_tokenSize_11_8.2.1 4 42 ∧ zq_at zy_tokenSize_11_8.2.1 5 180 ∧ zq_at zy_tokenSize_11_8.2.1 6 0 ∧ zq_at zy_tokenSize_11_8.2.1 7 31 ∧ zq_at zy_tokenSize_11_8.2.1 8 100 ∧ zq_at zy_tokenSize_11_8.2.1 9 172 := by decide +kernel
theorem zd_11_8_0 : zz_D zy_tokenSize_11_8 0 (.aload_n 0) 1 1 := ⟨zq_42 zg_11_8_0.1, rfl⟩
theorem zd_11_8_1 : zz_D zy_tokenSize_11_8 1 (.getfield 25) 3 4 := ⟨zq_180 zg_11_8_0.2.1 zg_11_8_0.2.2.1 zg_11_8_0.2.2.2.1 rfl, rfl⟩
theorem zd_11_8_4 : zz_D zy_tokenSize_11_8 4 (.aload_n 0) 1 5 := ⟨zq_42 zg_11_8_0.2.2.2.2.1, rfl⟩
theorem zd_11_8_5 : zz_D zy_tokenSize_11_8 5 (.getfield 31) 3 8 := ⟨zq_180 zg_11_8_0.2.2.2.2.2.1 zg_11_8_0.2.2.2.2.2.2.1 zg_11_8_0.2.2.2.2.2.2.2.1 rfl, rfl⟩
theorem zd_11_8_8 : zz_D zy_tokenSize_11_8 8 (.isub) 1 9 := ⟨zq_100 zg_11_8_0.2.2.2.2.2.2.2.2.1, rfl⟩
theorem zd_11_8_9 : zz_D zy_tokenSize_11_8 9 (.ireturn) 1 10 := ⟨zq_172 zg_11_8_0.2.2.2.2.2.2.2.2.2, rfl⟩
-- TensorForge$Text tokenSize ()I
abbrev zr_tokenSize_11_8 : Room := { frames := 0, cells := 0, slots := 0, locals := 0 }
def zp_tokenSize_11_8  (S0 : zz_S) : Int → zz_S → Prop := fun r S => S0 = S ∧ ((-1500) ≤ r ∧ r ≤ 1500) ∧ (r = S0 1070 3 - S0 1070 5)
theorem zc_tokenSize_11_8 {g : mm_G} {l : Launch}  (S0 : zz_S) (n : Nat) (hn : zz_end ≤ n) (G_S0 : zz_G S0)  : mm_Met g l zy_tokenSize_11_8 zr_tokenSize_11_8 [.ref 1070] (zz_M S0 n) n (zz_QI n (zp_tokenSize_11_8  S0)) := by
  refine zz_enter (by decide) (Nat.le_of_ble_eq_true rfl) (zz_less (ls1 := [some (.ref 1070)]) ⟨rfl, trivial⟩ ?_)
  refine zz_aload_n (x := 1070) rfl zd_11_8_0 ?_
  have g1 := zz_G.r G_S0 1070 3 0 1500 rfl rfl
  refine zz_geti (z := S0 1070 3) zd_11_8_1 zf_Text_25 zT_1070 rfl (zz_ltn hn rfl) rfl ?_
  refine zz_aload_n (x := 1070) rfl zd_11_8_4 ?_
  have g2 := zz_G.r G_S0 1070 5 0 1500 rfl rfl
  refine zz_geti (z := S0 1070 5) zd_11_8_5 zf_Text_31 zT_1070 rfl (zz_ltn hn rfl) rfl ?_
  refine zz_isub zd_11_8_8 ?_
  exact zz_iret zd_11_8_9 rfl (Nat.zero_le _) (Nat.zero_le _) ⟨_, _, rfl, rfl, by omega, by omega⟩
theorem zk_NetworkReader_184 : mm_Vl "TensorForge$NetworkReader" 184 6 0 zy_tokenSize_11_8 := ⟨zyw_tokenSize_11_8, (R_Text, F_Text, 7), rfl, mm_tb_1 969 (by decide +kernel) rfl, mm_tb_1 970 (by decide +kernel) rfl, mm_tb_1 971 (by decide +kernel) rfl⟩
abbrev zy_tensorNamed_8_6 : mm_Y := (⟨"TensorForge$NetworkReader", "tensorNamed", "()I"⟩, prog_8_method_6_code, 2, (some .int))
theorem zyw_tensorNamed_8_6 : mm_Yw zy_tensorNamed_8_6 0 := ⟨mm_tb_1 935 (by decide +kernel) rfl, mm_tb_1 9 (by decide +kernel) rfl, ⟨by decide, by decide⟩, by decide +kernel⟩
abbrev zy_isSameAs_11_12 : mm_Y := (⟨"TensorForge$Text", "isSameAs", "(II)Z"⟩, prog_11_method_12_code, 4, (some .boolean))
theorem zyw_isSameAs_11_12 : mm_Yw zy_isSameAs_11_12 2 := ⟨mm_tb_1 939 (by decide +kernel) rfl, mm_tb_1 7 (by decide +kernel) rfl, ⟨by decide, by decide⟩, by decide +kernel⟩
theorem zg_8_11_25 : zq_at zy_readName_8_11.2.1 25 16 ∧ zq_at zy_readName_8_11.2.1 26 8 ∧ zq_at zy_readName_8_11.2.1 27 163 ∧ zq_at zy_readName_8_11.2.1 28 0 ∧ zq_at zy_readName_8_11.2.1 29 25 ∧ zq_at zy_readName_8_11.2.1 30 42 ∧ zq_at zy_readName_8_11.2.1 31 182 ∧ zq_at zy_readName_8_11.2.1 32 0 ∧ zq_at zy_readName_8_11.2.1 33 128 := by decide +kernel
theorem zd_8_11_25 : zz_D zy_readName_8_11 25 (.bipush 8) 2 27 := ⟨zq_16 zg_8_11_25.1 zg_8_11_25.2.1 (by decide), rfl⟩
theorem zd_8_11_27 : zz_B zy_readName_8_11 27 (Instr.if_icmp .gt) 52 30 := ⟨25, zq_163 zg_8_11_25.2.2.1 zg_8_11_25.2.2.2.1 zg_8_11_25.2.2.2.2.1 (by decide), rfl, rfl⟩
theorem zd_8_11_30 : zz_D zy_readName_8_11 30 (.aload_n 0) 1 31 := ⟨zq_42 zg_8_11_25.2.2.2.2.2.1, rfl⟩
theorem zd_8_11_31 : zz_D zy_readName_8_11 31 (.invokevirtual 128) 3 34 := ⟨zq_182 zg_8_11_25.2.2.2.2.2.2.1 zg_8_11_25.2.2.2.2.2.2.2.1 zg_8_11_25.2.2.2.2.2.2.2.2 rfl, rfl⟩
theorem zg_8_6_0 : zq_at zy_tensorNamed_8_6.2.1 0 3 ∧ zq_at zy_tensorNamed_8_6.2.1 1 60 ∧ zq_at zy_tensorNamed_8_6.2.1 2 27 ∧ zq_at zy_tensorNamed_8_6.2.1 3 42 ∧ zq_at zy_tensorNamed_8_6.2.1 4 180 ∧ zq_at zy_tensorNamed_8_6.2.1 5 0 ∧ zq_at zy_tensorNamed_8_6.2.1 6 25 ∧ zq_at zy_tensorNamed_8_6.2.1 7 190 ∧ zq_at zy_tensorNamed_8_6.2.1 8 162 ∧ zq_at zy_tensorNamed_8_6.2.1 9 0 ∧ zq_at zy_tensorNamed_8_6.2.1 10 42 ∧ zq_at zy_tensorNamed_8_6.2.1 50 2 ∧ zq_at zy_tensorNamed_8_6.2.1 51 172 ∧ zq_at zy_tensorNamed_8_6.2.1 11 42 ∧ zq_at zy_tensorNamed_8_6.2.1 12 180 ∧ zq_at zy_tensorNamed_8_6.2.1 13 0 ∧ zq_at zy_tensorNamed_8_6.2.1 14 25 ∧ zq_at zy_tensorNamed_8_6.2.1 15 27 ∧ zq_at zy_tensorNamed_8_6.2.1 16 46 ∧ zq_at zy_tensorNamed_8_6.2.1 17 158 ∧ zq_at zy_tensorNamed_8_6.2.1 18 0 ∧ zq_at zy_tensorNamed_8_6.2.1 19 27 := by decide +kernel
theorem zd_8_6_0 : zz_D zy_tensorNamed_8_6 0 (.iconst 0) 1 1 := ⟨zq_3 zg_8_6_0.1, rfl⟩
theorem zd_8_6_1 : zz_D zy_tensorNamed_8_6 1 (.istore_n 1) 1 2 := ⟨zq_60 zg_8_6_0.2.1, rfl⟩
theorem zd_8_6_2 : zz_D zy_tensorNamed_8_6 2 (.iload_n 1) 1 3 := ⟨zq_27 zg_8_6_0.2.2.1, rfl⟩
theorem zd_8_6_3 : zz_D zy_tensorNamed_8_6 3 (.aload_n 0) 1 4 := ⟨zq_42 zg_8_6_0.2.2.2.1, rfl⟩
theorem zd_8_6_4 : zz_D zy_tensorNamed_8_6 4 (.getfield 25) 3 7 := ⟨zq_180 zg_8_6_0.2.2.2.2.1 zg_8_6_0.2.2.2.2.2.1 zg_8_6_0.2.2.2.2.2.2.1 rfl, rfl⟩
theorem zd_8_6_7 : zz_D zy_tensorNamed_8_6 7 (.arraylength) 1 8 := ⟨zq_190 zg_8_6_0.2.2.2.2.2.2.2.1, rfl⟩
theorem zd_8_6_8 : zz_B zy_tensorNamed_8_6 8 (Instr.if_icmp .ge) 50 11 := ⟨42, zq_162 zg_8_6_0.2.2.2.2.2.2.2.2.1 zg_8_6_0.2.2.2.2.2.2.2.2.2.1 zg_8_6_0.2.2.2.2.2.2.2.2.2.2.1 (by decide), rfl, rfl⟩
theorem zd_8_6_50 : zz_D zy_tensorNamed_8_6 50 (.iconst (-1)) 1 51 := ⟨zq_2 zg_8_6_0.2.2.2.2.2.2.2.2.2.2.2.1, rfl⟩
theorem zd_8_6_51 : zz_D zy_tensorNamed_8_6 51 (.ireturn) 1 52 := ⟨zq_172 zg_8_6_0.2.2.2.2.2.2.2.2.2.2.2.2.1, rfl⟩
theorem zd_8_6_11 : zz_D zy_tensorNamed_8_6 11 (.aload_n 0) 1 12 := ⟨zq_42 zg_8_6_0.2.2.2.2.2.2.2.2.2.2.2.2.2.1, rfl⟩
theorem zd_8_6_12 : zz_D zy_tensorNamed_8_6 12 (.getfield 25) 3 15 := ⟨zq_180 zg_8_6_0.2.2.2.2.2.2.2.2.2.2.2.2.2.2.1 zg_8_6_0.2.2.2.2.2.2.2.2.2.2.2.2.2.2.2.1 zg_8_6_0.2.2.2.2.2.2.2.2.2.2.2.2.2.2.2.2.1 rfl, rfl⟩
theorem zd_8_6_15 : zz_D zy_tensorNamed_8_6 15 (.iload_n 1) 1 16 := ⟨zq_27 zg_8_6_0.2.2.2.2.2.2.2.2.2.2.2.2.2.2.2.2.2.1, rfl⟩
theorem zd_8_6_16 : zz_D zy_tensorNamed_8_6 16 (.iaload) 1 17 := ⟨zq_46 zg_8_6_0.2.2.2.2.2.2.2.2.2.2.2.2.2.2.2.2.2.2.1, rfl⟩
theorem zd_8_6_17 : zz_B zy_tensorNamed_8_6 17 (Instr.ifCond .le) 44 20 := ⟨27, zq_158 zg_8_6_0.2.2.2.2.2.2.2.2.2.2.2.2.2.2.2.2.2.2.2.1 zg_8_6_0.2.2.2.2.2.2.2.2.2.2.2.2.2.2.2.2.2.2.2.2.1 zg_8_6_0.2.2.2.2.2.2.2.2.2.2.2.2.2.2.2.2.2.2.2.2.2 (by decide), rfl, rfl⟩
theorem zg_8_6_44 : zq_at zy_tensorNamed_8_6.2.1 44 132 ∧ zq_at zy_tensorNamed_8_6.2.1 45 1 ∧ zq_at zy_tensorNamed_8_6.2.1 46 1 ∧ zq_at zy_tensorNamed_8_6.2.1 47 167 ∧ zq_at zy_tensorNamed_8_6.2.1 48 255 ∧ zq_at zy_tensorNamed_8_6.2.1 49 211 ∧ zq_at zy_tensorNamed_8_6.2.1 20 42 ∧ zq_at zy_tensorNamed_8_6.2.1 21 180 ∧ zq_at zy_tensorNamed_8_6.2.1 22 0 ∧ zq_at zy_tensorNamed_8_6.2.1 23 9 ∧ zq_at zy_tensorNamed_8_6.2.1 24 42 ∧ zq_at zy_tensorNamed_8_6.2.1 25 180 ∧ zq_at zy_tensorNamed_8_6.2.1 26 0 ∧ zq_at zy_tensorNamed_8_6.2.1 27 21 ∧ zq_at zy_tensorNamed_8_6.2.1 28 27 ∧ zq_at zy_tensorNamed_8_6.2.1 29 46 ∧ zq_at zy_tensorNamed_8_6.2.1 30 42 ∧ zq_at zy_tensorNamed_8_6.2.1 31 180 ∧ zq_at zy_tensorNamed_8_6.2.1 32 0 ∧ zq_at zy_tensorNamed_8_6.2.1 33 25 ∧ zq_at zy_tensorNamed_8_6.2.1 34 27 ∧ zq_at zy_tensorNamed_8_6.2.1 35 46 := by decide +kernel
theorem zd_8_6_44 : zz_D zy_tensorNamed_8_6 44 (.iinc 1 1) 3 47 := ⟨zq_132 zg_8_6_44.1 zg_8_6_44.2.1 zg_8_6_44.2.2.1 (by decide), rfl⟩
theorem zd_8_6_47 : zz_B zy_tensorNamed_8_6 47 Instr.goto 2 50 := ⟨(-45), zq_167 zg_8_6_44.2.2.2.1 zg_8_6_44.2.2.2.2.1 zg_8_6_44.2.2.2.2.2.1 (by decide), rfl, rfl⟩
theorem zd_8_6_20 : zz_D zy_tensorNamed_8_6 20 (.aload_n 0) 1 21 := ⟨zq_42 zg_8_6_44.2.2.2.2.2.2.1, rfl⟩
theorem zd_8_6_21 : zz_D zy_tensorNamed_8_6 21 (.getfield 9) 3 24 := ⟨zq_180 zg_8_6_44.2.2.2.2.2.2.2.1 zg_8_6_44.2.2.2.2.2.2.2.2.1 zg_8_6_44.2.2.2.2.2.2.2.2.2.1 rfl, rfl⟩
theorem zd_8_6_24 : zz_D zy_tensorNamed_8_6 24 (.aload_n 0) 1 25 := ⟨zq_42 zg_8_6_44.2.2.2.2.2.2.2.2.2.2.1, rfl⟩
theorem zd_8_6_25 : zz_D zy_tensorNamed_8_6 25 (.getfield 21) 3 28 := ⟨zq_180 zg_8_6_44.2.2.2.2.2.2.2.2.2.2.2.1 zg_8_6_44.2.2.2.2.2.2.2.2.2.2.2.2.1 zg_8_6_44.2.2.2.2.2.2.2.2.2.2.2.2.2.1 rfl, rfl⟩
theorem zd_8_6_28 : zz_D zy_tensorNamed_8_6 28 (.iload_n 1) 1 29 := ⟨zq_27 zg_8_6_44.2.2.2.2.2.2.2.2.2.2.2.2.2.2.1, rfl⟩
theorem zd_8_6_29 : zz_D zy_tensorNamed_8_6 29 (.iaload) 1 30 := ⟨zq_46 zg_8_6_44.2.2.2.2.2.2.2.2.2.2.2.2.2.2.2.1, rfl⟩
theorem zd_8_6_30 : zz_D zy_tensorNamed_8_6 30 (.aload_n 0) 1 31 := ⟨zq_42 zg_8_6_44.2.2.2.2.2.2.2.2.2.2.2.2.2.2.2.2.1, rfl⟩
theorem zd_8_6_31 : zz_D zy_tensorNamed_8_6 31 (.getfield 25) 3 34 := ⟨zq_180 zg_8_6_44.2.2.2.2.2.2.2.2.2.2.2.2.2.2.2.2.2.1 zg_8_6_44.2.2.2.2.2.2.2.2.2.2.2.2.2.2.2.2.2.2.1 zg_8_6_44.2.2.2.2.2.2.2.2.2.2.2.2.2.2.2.2.2.2.2.1 rfl, rfl⟩
theorem zd_8_6_34 : zz_D zy_tensorNamed_8_6 34 (.iload_n 1) 1 35 := ⟨zq_27 zg_8_6_44.2.2.2.2.2.2.2.2.2.2.2.2.2.2.2.2.2.2.2.2.1, rfl⟩
theorem zd_8_6_35 : zz_D zy_tensorNamed_8_6 35 (.iaload) 1 36 := ⟨zq_46 zg_8_6_44.2.2.2.2.2.2.2.2.2.2.2.2.2.2.2.2.2.2.2.2.2, rfl⟩
theorem zg_8_6_36 : zq_at zy_tensorNamed_8_6.2.1 36 182 ∧ zq_at zy_tensorNamed_8_6.2.1 37 0 ∧ zq_at zy_tensorNamed_8_6.2.1 38 131 := by decide +kernel
theorem zd_8_6_36 : zz_D zy_tensorNamed_8_6 36 (.invokevirtual 131) 3 39 := ⟨zq_182 zg_8_6_36.1 zg_8_6_36.2.1 zg_8_6_36.2.2 rfl, rfl⟩
theorem zg_11_12_0 : zq_at zy_isSameAs_11_12.2.1 0 42 ∧ zq_at zy_isSameAs_11_12.2.1 1 180 ∧ zq_at zy_isSameAs_11_12.2.1 2 0 ∧ zq_at zy_isSameAs_11_12.2.1 3 25 ∧ zq_at zy_isSameAs_11_12.2.1 4 42 ∧ zq_at zy_isSameAs_11_12.2.1 5 180 ∧ zq_at zy_isSameAs_11_12.2.1 6 0 ∧ zq_at zy_isSameAs_11_12.2.1 7 31 ∧ zq_at zy_isSameAs_11_12.2.1 8 100 ∧ zq_at zy_isSameAs_11_12.2.1 9 28 ∧ zq_at zy_isSameAs_11_12.2.1 10 160 ∧ zq_at zy_isSameAs_11_12.2.1 11 0 ∧ zq_at zy_isSameAs_11_12.2.1 12 17 ∧ zq_at zy_isSameAs_11_12.2.1 27 3 ∧ zq_at zy_isSameAs_11_12.2.1 28 172 ∧ zq_at zy_isSameAs_11_12.2.1 13 27 ∧ zq_at zy_isSameAs_11_12.2.1 14 155 ∧ zq_at zy_isSameAs_11_12.2.1 15 0 ∧ zq_at zy_isSameAs_11_12.2.1 16 13 ∧ zq_at zy_isSameAs_11_12.2.1 17 27 ∧ zq_at zy_isSameAs_11_12.2.1 18 28 ∧ zq_at zy_isSameAs_11_12.2.1 19 96 ∧ zq_at zy_isSameAs_11_12.2.1 20 42 := by decide +kernel
theorem zd_11_12_0 : zz_D zy_isSameAs_11_12 0 (.aload_n 0) 1 1 := ⟨zq_42 zg_11_12_0.1, rfl⟩
theorem zd_11_12_1 : zz_D zy_isSameAs_11_12 1 (.getfield 25) 3 4 := ⟨zq_180 zg_11_12_0.2.1 zg_11_12_0.2.2.1 zg_11_12_0.2.2.2.1 rfl, rfl⟩
theorem zd_11_12_4 : zz_D zy_isSameAs_11_12 4 (.aload_n 0) 1 5 := ⟨zq_42 zg_11_12_0.2.2.2.2.1, rfl⟩
theorem zd_11_12_5 : zz_D zy_isSameAs_11_12 5 (.getfield 31) 3 8 := ⟨zq_180 zg_11_12_0.2.2.2.2.2.1 zg_11_12_0.2.2.2.2.2.2.1 zg_11_12_0.2.2.2.2.2.2.2.1 rfl, rfl⟩
theorem zd_11_12_8 : zz_D zy_isSameAs_11_12 8 (.isub) 1 9 := ⟨zq_100 zg_11_12_0.2.2.2.2.2.2.2.2.1, rfl⟩
theorem zd_11_12_9 : zz_D zy_isSameAs_11_12 9 (.iload_n 2) 1 10 := ⟨zq_28 zg_11_12_0.2.2.2.2.2.2.2.2.2.1, rfl⟩
theorem zd_11_12_10 : zz_B zy_isSameAs_11_12 10 (Instr.if_icmp .ne) 27 13 := ⟨17, zq_160 zg_11_12_0.2.2.2.2.2.2.2.2.2.2.1 zg_11_12_0.2.2.2.2.2.2.2.2.2.2.2.1 zg_11_12_0.2.2.2.2.2.2.2.2.2.2.2.2.1 (by decide), rfl, rfl⟩
theorem zd_11_12_27 : zz_D zy_isSameAs_11_12 27 (.iconst 0) 1 28 := ⟨zq_3 zg_11_12_0.2.2.2.2.2.2.2.2.2.2.2.2.2.1, rfl⟩
theorem zd_11_12_28 : zz_D zy_isSameAs_11_12 28 (.ireturn) 1 29 := ⟨zq_172 zg_11_12_0.2.2.2.2.2.2.2.2.2.2.2.2.2.2.1, rfl⟩
theorem zd_11_12_13 : zz_D zy_isSameAs_11_12 13 (.iload_n 1) 1 14 := ⟨zq_27 zg_11_12_0.2.2.2.2.2.2.2.2.2.2.2.2.2.2.2.1, rfl⟩
theorem zd_11_12_14 : zz_B zy_isSameAs_11_12 14 (Instr.ifCond .lt) 27 17 := ⟨13, zq_155 zg_11_12_0.2.2.2.2.2.2.2.2.2.2.2.2.2.2.2.2.1 zg_11_12_0.2.2.2.2.2.2.2.2.2.2.2.2.2.2.2.2.2.1 zg_11_12_0.2.2.2.2.2.2.2.2.2.2.2.2.2.2.2.2.2.2.1 (by decide), rfl, rfl⟩
theorem zd_11_12_17 : zz_D zy_isSameAs_11_12 17 (.iload_n 1) 1 18 := ⟨zq_27 zg_11_12_0.2.2.2.2.2.2.2.2.2.2.2.2.2.2.2.2.2.2.2.1, rfl⟩
theorem zd_11_12_18 : zz_D zy_isSameAs_11_12 18 (.iload_n 2) 1 19 := ⟨zq_28 zg_11_12_0.2.2.2.2.2.2.2.2.2.2.2.2.2.2.2.2.2.2.2.2.1, rfl⟩
theorem zd_11_12_19 : zz_D zy_isSameAs_11_12 19 (.iadd) 1 20 := ⟨zq_96 zg_11_12_0.2.2.2.2.2.2.2.2.2.2.2.2.2.2.2.2.2.2.2.2.2.1, rfl⟩
theorem zd_11_12_20 : zz_D zy_isSameAs_11_12 20 (.aload_n 0) 1 21 := ⟨zq_42 zg_11_12_0.2.2.2.2.2.2.2.2.2.2.2.2.2.2.2.2.2.2.2.2.2.2, rfl⟩
theorem zg_11_12_21 : zq_at zy_isSameAs_11_12.2.1 21 180 ∧ zq_at zy_isSameAs_11_12.2.1 22 0 ∧ zq_at zy_isSameAs_11_12.2.1 23 15 ∧ zq_at zy_isSameAs_11_12.2.1 24 164 ∧ zq_at zy_isSameAs_11_12.2.1 25 0 ∧ zq_at zy_isSameAs_11_12.2.1 26 5 ∧ zq_at zy_isSameAs_11_12.2.1 29 3 ∧ zq_at zy_isSameAs_11_12.2.1 30 62 ∧ zq_at zy_isSameAs_11_12.2.1 31 29 ∧ zq_at zy_isSameAs_11_12.2.1 32 28 ∧ zq_at zy_isSameAs_11_12.2.1 33 162 ∧ zq_at zy_isSameAs_11_12.2.1 34 0 ∧ zq_at zy_isSameAs_11_12.2.1 35 33 ∧ zq_at zy_isSameAs_11_12.2.1 66 4 ∧ zq_at zy_isSameAs_11_12.2.1 67 172 ∧ zq_at zy_isSameAs_11_12.2.1 36 42 ∧ zq_at zy_isSameAs_11_12.2.1 37 180 ∧ zq_at zy_isSameAs_11_12.2.1 38 0 ∧ zq_at zy_isSameAs_11_12.2.1 39 9 ∧ zq_at zy_isSameAs_11_12.2.1 40 42 ∧ zq_at zy_isSameAs_11_12.2.1 41 180 ∧ zq_at zy_isSameAs_11_12.2.1 42 0 ∧ zq_at zy_isSameAs_11_12.2.1 43 31 ∧ zq_at zy_isSameAs_11_12.2.1 44 29 := by decide +kernel
theorem zd_11_12_21 : zz_D zy_isSameAs_11_12 21 (.getfield 15) 3 24 := ⟨zq_180 zg_11_12_21.1 zg_11_12_21.2.1 zg_11_12_21.2.2.1 rfl, rfl⟩
theorem zd_11_12_24 : zz_B zy_isSameAs_11_12 24 (Instr.if_icmp .le) 29 27 := ⟨5, zq_164 zg_11_12_21.2.2.2.1 zg_11_12_21.2.2.2.2.1 zg_11_12_21.2.2.2.2.2.1 (by decide), rfl, rfl⟩
theorem zd_11_12_29 : zz_D zy_isSameAs_11_12 29 (.iconst 0) 1 30 := ⟨zq_3 zg_11_12_21.2.2.2.2.2.2.1, rfl⟩
theorem zd_11_12_30 : zz_D zy_isSameAs_11_12 30 (.istore_n 3) 1 31 := ⟨zq_62 zg_11_12_21.2.2.2.2.2.2.2.1, rfl⟩
theorem zd_11_12_31 : zz_D zy_isSameAs_11_12 31 (.iload_n 3) 1 32 := ⟨zq_29 zg_11_12_21.2.2.2.2.2.2.2.2.1, rfl⟩
theorem zd_11_12_32 : zz_D zy_isSameAs_11_12 32 (.iload_n 2) 1 33 := ⟨zq_28 zg_11_12_21.2.2.2.2.2.2.2.2.2.1, rfl⟩
theorem zd_11_12_33 : zz_B zy_isSameAs_11_12 33 (Instr.if_icmp .ge) 66 36 := ⟨33, zq_162 zg_11_12_21.2.2.2.2.2.2.2.2.2.2.1 zg_11_12_21.2.2.2.2.2.2.2.2.2.2.2.1 zg_11_12_21.2.2.2.2.2.2.2.2.2.2.2.2.1 (by decide), rfl, rfl⟩
theorem zd_11_12_66 : zz_D zy_isSameAs_11_12 66 (.iconst 1) 1 67 := ⟨zq_4 zg_11_12_21.2.2.2.2.2.2.2.2.2.2.2.2.2.1, rfl⟩
theorem zd_11_12_67 : zz_D zy_isSameAs_11_12 67 (.ireturn) 1 68 := ⟨zq_172 zg_11_12_21.2.2.2.2.2.2.2.2.2.2.2.2.2.2.1, rfl⟩
theorem zd_11_12_36 : zz_D zy_isSameAs_11_12 36 (.aload_n 0) 1 37 := ⟨zq_42 zg_11_12_21.2.2.2.2.2.2.2.2.2.2.2.2.2.2.2.1, rfl⟩
theorem zd_11_12_37 : zz_D zy_isSameAs_11_12 37 (.getfield 9) 3 40 := ⟨zq_180 zg_11_12_21.2.2.2.2.2.2.2.2.2.2.2.2.2.2.2.2.1 zg_11_12_21.2.2.2.2.2.2.2.2.2.2.2.2.2.2.2.2.2.1 zg_11_12_21.2.2.2.2.2.2.2.2.2.2.2.2.2.2.2.2.2.2.1 rfl, rfl⟩
theorem zd_11_12_40 : zz_D zy_isSameAs_11_12 40 (.aload_n 0) 1 41 := ⟨zq_42 zg_11_12_21.2.2.2.2.2.2.2.2.2.2.2.2.2.2.2.2.2.2.2.1, rfl⟩
theorem zd_11_12_41 : zz_D zy_isSameAs_11_12 41 (.getfield 31) 3 44 := ⟨zq_180 zg_11_12_21.2.2.2.2.2.2.2.2.2.2.2.2.2.2.2.2.2.2.2.2.1 zg_11_12_21.2.2.2.2.2.2.2.2.2.2.2.2.2.2.2.2.2.2.2.2.2.1 zg_11_12_21.2.2.2.2.2.2.2.2.2.2.2.2.2.2.2.2.2.2.2.2.2.2.1 rfl, rfl⟩
theorem zd_11_12_44 : zz_D zy_isSameAs_11_12 44 (.iload_n 3) 1 45 := ⟨zq_29 zg_11_12_21.2.2.2.2.2.2.2.2.2.2.2.2.2.2.2.2.2.2.2.2.2.2.2, rfl⟩
theorem zg_11_12_45 : zq_at zy_isSameAs_11_12.2.1 45 96 ∧ zq_at zy_isSameAs_11_12.2.1 46 52 ∧ zq_at zy_isSameAs_11_12.2.1 47 42 ∧ zq_at zy_isSameAs_11_12.2.1 48 180 ∧ zq_at zy_isSameAs_11_12.2.1 49 0 ∧ zq_at zy_isSameAs_11_12.2.1 50 9 ∧ zq_at zy_isSameAs_11_12.2.1 51 27 ∧ zq_at zy_isSameAs_11_12.2.1 52 29 ∧ zq_at zy_isSameAs_11_12.2.1 53 96 ∧ zq_at zy_isSameAs_11_12.2.1 54 52 ∧ zq_at zy_isSameAs_11_12.2.1 55 159 ∧ zq_at zy_isSameAs_11_12.2.1 56 0 ∧ zq_at zy_isSameAs_11_12.2.1 57 5 ∧ zq_at zy_isSameAs_11_12.2.1 60 132 ∧ zq_at zy_isSameAs_11_12.2.1 61 3 ∧ zq_at zy_isSameAs_11_12.2.1 62 1 ∧ zq_at zy_isSameAs_11_12.2.1 63 167 ∧ zq_at zy_isSameAs_11_12.2.1 64 255 ∧ zq_at zy_isSameAs_11_12.2.1 65 224 ∧ zq_at zy_isSameAs_11_12.2.1 58 3 ∧ zq_at zy_isSameAs_11_12.2.1 59 172 := by decide +kernel
theorem zd_11_12_45 : zz_D zy_isSameAs_11_12 45 (.iadd) 1 46 := ⟨zq_96 zg_11_12_45.1, rfl⟩
theorem zd_11_12_46 : zz_D zy_isSameAs_11_12 46 (.caload) 1 47 := ⟨zq_52 zg_11_12_45.2.1, rfl⟩
theorem zd_11_12_47 : zz_D zy_isSameAs_11_12 47 (.aload_n 0) 1 48 := ⟨zq_42 zg_11_12_45.2.2.1, rfl⟩
theorem zd_11_12_48 : zz_D zy_isSameAs_11_12 48 (.getfield 9) 3 51 := ⟨zq_180 zg_11_12_45.2.2.2.1 zg_11_12_45.2.2.2.2.1 zg_11_12_45.2.2.2.2.2.1 rfl, rfl⟩
theorem zd_11_12_51 : zz_D zy_isSameAs_11_12 51 (.iload_n 1) 1 52 := ⟨zq_27 zg_11_12_45.2.2.2.2.2.2.1, rfl⟩
theorem zd_11_12_52 : zz_D zy_isSameAs_11_12 52 (.iload_n 3) 1 53 := ⟨zq_29 zg_11_12_45.2.2.2.2.2.2.2.1, rfl⟩
theorem zd_11_12_53 : zz_D zy_isSameAs_11_12 53 (.iadd) 1 54 := ⟨zq_96 zg_11_12_45.2.2.2.2.2.2.2.2.1, rfl⟩
theorem zd_11_12_54 : zz_D zy_isSameAs_11_12 54 (.caload) 1 55 := ⟨zq_52 zg_11_12_45.2.2.2.2.2.2.2.2.2.1, rfl⟩
theorem zd_11_12_55 : zz_B zy_isSameAs_11_12 55 (Instr.if_icmp .eq) 60 58 := ⟨5, zq_159 zg_11_12_45.2.2.2.2.2.2.2.2.2.2.1 zg_11_12_45.2.2.2.2.2.2.2.2.2.2.2.1 zg_11_12_45.2.2.2.2.2.2.2.2.2.2.2.2.1 (by decide), rfl, rfl⟩
theorem zd_11_12_60 : zz_D zy_isSameAs_11_12 60 (.iinc 3 1) 3 63 := ⟨zq_132 zg_11_12_45.2.2.2.2.2.2.2.2.2.2.2.2.2.1 zg_11_12_45.2.2.2.2.2.2.2.2.2.2.2.2.2.2.1 zg_11_12_45.2.2.2.2.2.2.2.2.2.2.2.2.2.2.2.1 (by decide), rfl⟩
theorem zd_11_12_63 : zz_B zy_isSameAs_11_12 63 Instr.goto 31 66 := ⟨(-32), zq_167 zg_11_12_45.2.2.2.2.2.2.2.2.2.2.2.2.2.2.2.2.1 zg_11_12_45.2.2.2.2.2.2.2.2.2.2.2.2.2.2.2.2.2.1 zg_11_12_45.2.2.2.2.2.2.2.2.2.2.2.2.2.2.2.2.2.2.1 (by decide), rfl, rfl⟩
theorem zd_11_12_58 : zz_D zy_isSameAs_11_12 58 (.iconst 0) 1 59 := ⟨zq_3 zg_11_12_45.2.2.2.2.2.2.2.2.2.2.2.2.2.2.2.2.2.2.2.1, rfl⟩
theorem zd_11_12_59 : zz_D zy_isSameAs_11_12 59 (.ireturn) 1 60 := ⟨zq_172 zg_11_12_45.2.2.2.2.2.2.2.2.2.2.2.2.2.2.2.2.2.2.2.2, rfl⟩
-- TensorForge$Text isSameAs (II)Z
abbrev zr_isSameAs_11_12 : Room := { frames := 0, cells := 0, slots := 0, locals := 0 }
def zp_isSameAs_11_12 (p0 : Int) (p1 : Int) (S0 : zz_S) : Int → zz_S → Prop := fun r S => S0 = S ∧ (0 ≤ r ∧ r ≤ 1) ∧ ((r = 1 ∧ zt_SA (S0 1071) (S0 1070 5) (S0 1070 3) p0 p1 (S0 1070 1)) ∨ (r = 0 ∧ ¬ zt_SA (S0 1071) (S0 1070 5) (S0 1070 3) p0 p1 (S0 1070 1)))
theorem zb_isSameAs_11_12_31 {g : mm_G} {l : Launch} (p0 : Int) (p1 : Int) (S0 : zz_S) (n : Nat) (hn : zz_end ≤ n) (G_S0 : zz_G S0) (hp0 : 0 ≤ p0 ∧ p0 ≤ 1500) (hp1 : (-1500) ≤ p1 ∧ p1 ≤ 1500) (x3 : Int) (S : zz_S) (G_S : zz_G S) (F_S : zz_fr [] [] (fun _ _ => False) S0 S) (i31_0 : 0 ≤ x3 ∧ x3 ≤ 1500) (i31_1 : (S0 1070 3) - (S0 1070 5) = p1) (i31_2 : p0 + p1 ≤ S0 1070 1) (i31_3 : p0 ≥ 0) (i31_4 : x3 ≤ p1 ∨ x3 = 0) (i31_5 : S0 1070 3 - S0 1070 5 = p1) (i31_6 : 0 ≤ p0 ∧ p0 + p1 ≤ S0 1070 1) (i31_7 : ∀ i : Int, 0 ≤ i → i < x3 → S0 1071 (S0 1070 5 + i).toNat = S0 1071 (p0 + i).toNat) (R : Nat) (hR : (p1 - x3).toNat = R) (k31 : ∀ (x3 : Int) (S : zz_S), zz_G S → zz_fr [] [] (fun _ _ => False) S0 S → (0 ≤ x3 ∧ x3 ≤ 1500) → ((S0 1070 3) - (S0 1070 5) = p1) → (p0 + p1 ≤ S0 1070 1) → (p0 ≥ 0) → (x3 ≤ p1 ∨ x3 = 0) → (S0 1070 3 - S0 1070 5 = p1) → (0 ≤ p0 ∧ p0 + p1 ≤ S0 1070 1) → (∀ i : Int, 0 ≤ i → i < x3 → S0 1071 (S0 1070 5 + i).toNat = S0 1071 (p0 + i).toNat) → (p1 - x3).toNat < R → zz_E g l zy_isSameAs_11_12 zr_isSameAs_11_12 (zz_QI n (zp_isSameAs_11_12 p0 p1 S0)) S n 31 [some (.ref 1070), some (zi p0), some (zi p1), some (zi x3)] [] 0 0) : zz_E g l zy_isSameAs_11_12 zr_isSameAs_11_12 (zz_QI n (zp_isSameAs_11_12 p0 p1 S0)) S n 31 [some (.ref 1070), some (zi p0), some (zi p1), some (zi x3)] [] 0 0 := by
  have g3_ := zz_G.r G_S0 1070 3 0 1500 rfl rfl
  have g1_ := zz_G.r G_S0 1070 1 0 1500 rfl rfl
  have g5_ := zz_G.r G_S0 1070 5 0 1500 rfl rfl
  refine zz_iload_n (x := x3) rfl zd_11_12_31 ?_
  refine zz_iload_n (x := p1) rfl zd_11_12_32 ?_
  refine zz_icmp_ge (by omega) (by omega) zd_11_12_33 (fun c7 => ?_) (fun c7 => ?_)
  · refine zz_iconst zd_11_12_66 ?_
    exact zz_zret zd_11_12_67 rfl (by omega) (Nat.zero_le _) (Nat.zero_le _) ⟨_, _, rfl, zz_fr.eq F_S, by omega, (Or.inl ⟨rfl, by omega, by omega, fun i h1 h2 => i31_7 i h1 (by omega)⟩)⟩
  · refine zz_aload_n (x := 1070) rfl zd_11_12_36 ?_
    refine zz_getr (kd := 0) (z := 1071) zd_11_12_37 zf_Text_9 zT_1070 rfl (zz_ltn hn rfl) (zz_G.eq G_S 1070 0 1071 rfl rfl) (by decide) 1071 rfl ?_
    refine zz_aload_n (x := 1070) rfl zd_11_12_40 ?_
    have g8 := zz_G.r G_S0 1070 5 0 1500 rfl rfl
    refine zz_geti (z := S0 1070 5) zd_11_12_41 zf_Text_31 zT_1070 rfl (zz_ltn hn rfl) (zz_rc F_S rfl rfl (fun h => h) rfl) ?_
    refine zz_iload_n (x := x3) rfl zd_11_12_44 ?_
    refine zz_iadd zd_11_12_45 ?_
    have g9 := zz_G.r G_S0 1071 (((S0 1070 5) + x3).toNat) 0 65535 rfl rfl
    refine zz_cald (z := S0 1071 (((S0 1070 5) + x3).toNat)) zd_11_12_46 zT_1071 rfl (zz_ltn hn rfl) (by decide) (by omega) (zz_rc F_S (zz_nc1 rfl) rfl (fun h => h) rfl) ?_
    refine zz_aload_n (x := 1070) rfl zd_11_12_47 ?_
    refine zz_getr (kd := 0) (z := 1071) zd_11_12_48 zf_Text_9 zT_1070 rfl (zz_ltn hn rfl) (zz_G.eq G_S 1070 0 1071 rfl rfl) (by decide) 1071 rfl ?_
    refine zz_iload_n (x := p0) rfl zd_11_12_51 ?_
    refine zz_iload_n (x := x3) rfl zd_11_12_52 ?_
    refine zz_iadd zd_11_12_53 ?_
    have g10 := zz_G.r G_S0 1071 ((p0 + x3).toNat) 0 65535 rfl rfl
    refine zz_cald (z := S0 1071 ((p0 + x3).toNat)) zd_11_12_54 zT_1071 rfl (zz_ltn hn rfl) (by decide) (by omega) (zz_rc F_S (zz_nc1 rfl) rfl (fun h => h) rfl) ?_
    refine zz_icmp_eq (by omega) (by omega) zd_11_12_55 (fun c11 => ?_) (fun c11 => ?_)
    · refine zz_iinc [some (.ref 1070), some (zi p0), some (zi p1), some (zi (x3 + 1))] zd_11_12_60 rfl rfl ?_
      refine zz_goto zd_11_12_63 ?_
      refine zz_less (ls1 := [some (.ref 1070), some (zi p0), some (zi p1), some (zi (x3 + 1))]) ⟨rfl, ⟨rfl, ⟨rfl, ⟨rfl, trivial⟩⟩⟩⟩ ?_
      exact k31 (x3 + 1) S G_S F_S (by omega) (by omega) (by omega) (by omega) (by omega) (by omega) (by omega) (fun i h1 h2 => by rcases (by omega : i < x3 ∨ i = x3) with e | e; exact i31_7 i h1 e; rw [e]; omega) (by omega)
    · refine zz_iconst zd_11_12_58 ?_
      exact zz_zret zd_11_12_59 rfl (by omega) (Nat.zero_le _) (Nat.zero_le _) ⟨_, _, rfl, zz_fr.eq F_S, by omega, (Or.inr ⟨rfl, fun h => by have h1 := h.2.2 x3 (by omega) (by omega); omega⟩)⟩
theorem zi_isSameAs_11_12 {g : mm_G} {l : Launch} (p0 : Int) (p1 : Int) (S0 : zz_S) (n : Nat) (hn : zz_end ≤ n) (G_S0 : zz_G S0) (hp0 : 0 ≤ p0 ∧ p0 ≤ 1500) (hp1 : (-1500) ≤ p1 ∧ p1 ≤ 1500) : ∀ N : Nat, (∀ (x3 : Int) (S : zz_S), zz_G S → zz_fr [] [] (fun _ _ => False) S0 S → (0 ≤ x3 ∧ x3 ≤ 1500) → ((S0 1070 3) - (S0 1070 5) = p1) → (p0 + p1 ≤ S0 1070 1) → (p0 ≥ 0) → (x3 ≤ p1 ∨ x3 = 0) → (S0 1070 3 - S0 1070 5 = p1) → (0 ≤ p0 ∧ p0 + p1 ≤ S0 1070 1) → (∀ i : Int, 0 ≤ i → i < x3 → S0 1071 (S0 1070 5 + i).toNat = S0 1071 (p0 + i).toNat) → (p1 - x3).toNat < N → zz_E g l zy_isSameAs_11_12 zr_isSameAs_11_12 (zz_QI n (zp_isSameAs_11_12 p0 p1 S0)) S n 31 [some (.ref 1070), some (zi p0), some (zi p1), some (zi x3)] [] 0 0) := by
  intro N
  induction N with
  | zero => exact fun x3 S _ _ _ _ _ _ _ _ _ _ h => absurd h (Nat.not_lt_zero _)
  | succ N ih =>
    exact fun x3 S a b j0 j1 j2 j3 j4 j5 j6 j7 hR => zb_isSameAs_11_12_31 p0 p1 S0 n hn G_S0 hp0 hp1 x3 S a b j0 j1 j2 j3 j4 j5 j6 j7 _ rfl (fun x3 S a b j0 j1 j2 j3 j4 j5 j6 j7 h => ih x3 S a b j0 j1 j2 j3 j4 j5 j6 j7 (Nat.lt_of_lt_of_le h (Nat.le_of_lt_succ hR)))
theorem zc_isSameAs_11_12 {g : mm_G} {l : Launch} (p0 : Int) (p1 : Int) (S0 : zz_S) (n : Nat) (hn : zz_end ≤ n) (G_S0 : zz_G S0) (hp0 : 0 ≤ p0 ∧ p0 ≤ 1500) (hp1 : (-1500) ≤ p1 ∧ p1 ≤ 1500) : mm_Met g l zy_isSameAs_11_12 zr_isSameAs_11_12 [.ref 1070, zi p0, zi p1] (zz_M S0 n) n (zz_QI n (zp_isSameAs_11_12 p0 p1 S0)) := by
  refine zz_enter (by decide) (Nat.le_of_ble_eq_true rfl) (zz_less (ls1 := [some (.ref 1070), some (zi p0), some (zi p1)]) ⟨rfl, ⟨rfl, ⟨rfl, trivial⟩⟩⟩ ?_)
  have F_S0 : zz_fr [] [] (fun _ _ => False) S0 S0 := zz_fr.refl
  have k31 : ∀ (x3 : Int) (S : zz_S), zz_G S → zz_fr [] [] (fun _ _ => False) S0 S → (0 ≤ x3 ∧ x3 ≤ 1500) → ((S0 1070 3) - (S0 1070 5) = p1) → (p0 + p1 ≤ S0 1070 1) → (p0 ≥ 0) → (x3 ≤ p1 ∨ x3 = 0) → (S0 1070 3 - S0 1070 5 = p1) → (0 ≤ p0 ∧ p0 + p1 ≤ S0 1070 1) → (∀ i : Int, 0 ≤ i → i < x3 → S0 1071 (S0 1070 5 + i).toNat = S0 1071 (p0 + i).toNat) → zz_E g l zy_isSameAs_11_12 zr_isSameAs_11_12 (zz_QI n (zp_isSameAs_11_12 p0 p1 S0)) S n 31 [some (.ref 1070), some (zi p0), some (zi p1), some (zi x3)] [] 0 0 := fun x3 S a b j0 j1 j2 j3 j4 j5 j6 j7 => (zi_isSameAs_11_12 (g := g) (l := l) p0 p1 S0 n hn G_S0 hp0 hp1 _) x3 S a b j0 j1 j2 j3 j4 j5 j6 j7 (Nat.lt_succ_self _)
  refine zz_aload_n (x := 1070) rfl zd_11_12_0 ?_
  have g1 := zz_G.r G_S0 1070 3 0 1500 rfl rfl
  refine zz_geti (z := S0 1070 3) zd_11_12_1 zf_Text_25 zT_1070 rfl (zz_ltn hn rfl) rfl ?_
  refine zz_aload_n (x := 1070) rfl zd_11_12_4 ?_
  have g2 := zz_G.r G_S0 1070 5 0 1500 rfl rfl
  refine zz_geti (z := S0 1070 5) zd_11_12_5 zf_Text_31 zT_1070 rfl (zz_ltn hn rfl) rfl ?_
  refine zz_isub zd_11_12_8 ?_
  refine zz_iload_n (x := p1) rfl zd_11_12_9 ?_
  refine zz_icmp_ne (by omega) (by omega) zd_11_12_10 (fun c3 => ?_) (fun c3 => ?_)
  · refine zz_iconst zd_11_12_27 ?_
    exact zz_zret zd_11_12_28 rfl (by omega) (Nat.zero_le _) (Nat.zero_le _) ⟨_, _, rfl, rfl, by omega, (Or.inr ⟨rfl, fun h => by have h1 := h.1; have h2 := h.2.1; omega⟩)⟩
  · refine zz_iload_n (x := p0) rfl zd_11_12_13 ?_
    refine zz_if_lt (by omega) zd_11_12_14 (fun c4 => ?_) (fun c4 => ?_)
    · exfalso; omega
    · refine zz_iload_n (x := p0) rfl zd_11_12_17 ?_
      refine zz_iload_n (x := p1) rfl zd_11_12_18 ?_
      refine zz_iadd zd_11_12_19 ?_
      refine zz_aload_n (x := 1070) rfl zd_11_12_20 ?_
      have g5 := zz_G.r G_S0 1070 1 0 1500 rfl rfl
      refine zz_geti (z := S0 1070 1) zd_11_12_21 zf_Text_15 zT_1070 rfl (zz_ltn hn rfl) rfl ?_
      refine zz_icmp_le (by omega) (by omega) zd_11_12_24 (fun c6 => ?_) (fun c6 => ?_)
      · refine zz_iconst zd_11_12_29 ?_
        refine zz_istore_n [some (.ref 1070), some (zi p0), some (zi p1), some (zi 0)] zd_11_12_30 (by decide) rfl ?_
        refine zz_less (ls1 := [some (.ref 1070), some (zi p0), some (zi p1), some (zi 0)]) ⟨rfl, ⟨rfl, ⟨rfl, ⟨rfl, trivial⟩⟩⟩⟩ ?_
        exact k31 0 S0 G_S0 F_S0 (by omega) (by omega) (by omega) (by omega) (by omega) (by omega) (by omega) (fun i h1 h2 => by omega)
      · refine zz_iconst zd_11_12_27 ?_
        exact zz_zret zd_11_12_28 rfl (by omega) (Nat.zero_le _) (Nat.zero_le _) ⟨_, _, rfl, rfl, by omega, (Or.inr ⟨rfl, fun h => by have h1 := h.1; have h2 := h.2.1; omega⟩)⟩
theorem zk_NetworkReader_131 : mm_Vl "TensorForge$NetworkReader" 131 6 2 zy_isSameAs_11_12 := ⟨zyw_isSameAs_11_12, (R_Text, F_Text, 7), rfl, mm_tb_1 936 (by decide +kernel) rfl, mm_tb_1 937 (by decide +kernel) rfl, mm_tb_1 938 (by decide +kernel) rfl⟩
theorem zg_8_6_39 : zq_at zy_tensorNamed_8_6.2.1 39 153 ∧ zq_at zy_tensorNamed_8_6.2.1 40 0 ∧ zq_at zy_tensorNamed_8_6.2.1 41 5 ∧ zq_at zy_tensorNamed_8_6.2.1 42 27 ∧ zq_at zy_tensorNamed_8_6.2.1 43 172 := by decide +kernel
theorem zd_8_6_39 : zz_B zy_tensorNamed_8_6 39 (Instr.ifCond .eq) 44 42 := ⟨5, zq_153 zg_8_6_39.1 zg_8_6_39.2.1 zg_8_6_39.2.2.1 (by decide), rfl, rfl⟩
theorem zd_8_6_42 : zz_D zy_tensorNamed_8_6 42 (.iload_n 1) 1 43 := ⟨zq_27 zg_8_6_39.2.2.2.1, rfl⟩
theorem zd_8_6_43 : zz_D zy_tensorNamed_8_6 43 (.ireturn) 1 44 := ⟨zq_172 zg_8_6_39.2.2.2.2, rfl⟩
-- TensorForge$NetworkReader tensorNamed ()I
abbrev zr_tensorNamed_8_6 : Room := { frames := 1, cells := 0, slots := 0, locals := 15 }
def zp_tensorNamed_8_6  (S0 : zz_S) : Int → zz_S → Prop := fun r S => S0 = S ∧ ((-2147483648) ≤ r ∧ r ≤ 2147483647) ∧ (∀ (N : Nat → Int) (e p : Int), zt_NM (S0 1071) (S0 1074) (S0 1075) (S0 1070 1) N → zt_NK (S0 1071) e p (S0 1070 4) (S0 1070 5) (S0 1070 3) → S0 1070 4 = 1 → r = zt_nf N (zt_kc (S0 1071) e p) 11)
theorem zb_tensorNamed_8_6_2 {g : mm_G} {l : Launch}  (S0 : zz_S) (n : Nat) (hn : zz_end ≤ n) (G_S0 : zz_G S0)  (x1 : Int) (S : zz_S) (G_S : zz_G S) (F_S : zz_fr [] [] (fun _ _ => False) S0 S) (i2_0 : 0 ≤ x1 ∧ x1 ≤ 11) (i2_1 : ∀ (N : Nat → Int) (e p : Int), zt_NM (S0 1071) (S0 1074) (S0 1075) (S0 1070 1) N → zt_NK (S0 1071) e p (S0 1070 4) (S0 1070 5) (S0 1070 3) → S0 1070 4 = 1 → ∀ i : Nat, (i : Int) < x1 → N i ≠ zt_kc (S0 1071) e p) (R : Nat) (hR : (2147483647 - x1).toNat = R) (k2 : ∀ (x1 : Int) (S : zz_S), zz_G S → zz_fr [] [] (fun _ _ => False) S0 S → (0 ≤ x1 ∧ x1 ≤ 11) → (∀ (N : Nat → Int) (e p : Int), zt_NM (S0 1071) (S0 1074) (S0 1075) (S0 1070 1) N → zt_NK (S0 1071) e p (S0 1070 4) (S0 1070 5) (S0 1070 3) → S0 1070 4 = 1 → ∀ i : Nat, (i : Int) < x1 → N i ≠ zt_kc (S0 1071) e p) → (2147483647 - x1).toNat < R → zz_E g l zy_tensorNamed_8_6 zr_tensorNamed_8_6 (zz_QI n (zp_tensorNamed_8_6  S0)) S n 2 [some (.ref 1073), some (zi x1)] [] 0 0) : zz_E g l zy_tensorNamed_8_6 zr_tensorNamed_8_6 (zz_QI n (zp_tensorNamed_8_6  S0)) S n 2 [some (.ref 1073), some (zi x1)] [] 0 0 := by
  refine zz_iload_n (x := x1) rfl zd_8_6_2 ?_
  refine zz_aload_n (x := 1073) rfl zd_8_6_3 ?_
  refine zz_getr (kd := 0) (z := 1075) zd_8_6_4 zf_NetworkReader_25 zT_1073 rfl (zz_ltn hn rfl) (zz_G.eq G_S 1073 3 1075 rfl rfl) (by decide) 1075 rfl ?_
  refine zz_alen zd_8_6_7 zT_1075 rfl (zz_ltn hn rfl) ?_
  refine zz_icmp_ge (by omega) (by omega) zd_8_6_8 (fun c5 => ?_) (fun c5 => ?_)
  · refine zz_iconst zd_8_6_50 ?_
    exact zz_iret zd_8_6_51 rfl (Nat.zero_le _) (Nat.zero_le _) ⟨_, _, rfl, zz_fr.eq F_S, by omega, (fun N e p hN hK hs => (zt_nfN 11 (fun i hi => i2_1 N e p hN hK hs i (by omega))).symm)⟩
  · refine zz_aload_n (x := 1073) rfl zd_8_6_11 ?_
    refine zz_getr (kd := 0) (z := 1075) zd_8_6_12 zf_NetworkReader_25 zT_1073 rfl (zz_ltn hn rfl) (zz_G.eq G_S 1073 3 1075 rfl rfl) (by decide) 1075 rfl ?_
    refine zz_iload_n (x := x1) rfl zd_8_6_15 ?_
    have g6 := zz_G.r G_S0 1075 x1.toNat (-1500) 1500 rfl rfl
    refine zz_iald (z := S0 1075 x1.toNat) zd_8_6_16 zT_1075 rfl (zz_ltn hn rfl) (by decide) (by omega) (zz_rc F_S (zz_nc1 rfl) rfl (fun h => h) rfl) ?_
    refine zz_if_le (by omega) zd_8_6_17 (fun c7 => ?_) (fun c7 => ?_)
    · refine zz_iinc [some (.ref 1073), some (zi (x1 + 1))] zd_8_6_44 rfl rfl ?_
      refine zz_goto zd_8_6_47 ?_
      refine zz_less (ls1 := [some (.ref 1073), some (zi (x1 + 1))]) ⟨rfl, ⟨rfl, trivial⟩⟩ ?_
      exact k2 (x1 + 1) S G_S F_S (by omega) (fun N e p hN hK hs i hi => by rcases (by omega : (i : Int) < x1 ∨ i = x1.toNat) with q | q; exact i2_1 N e p hN hK hs i q; rw [q]; exact (fun h9 => by have h8 := (zt_NMn hN (k := x1.toNat) (by omega)).2 (by omega); have h7 := zt_NKp hK hs; omega)) (by omega)
    · refine zz_aload_n (x := 1073) rfl zd_8_6_20 ?_
      refine zz_getr (kd := 0) (z := 1070) zd_8_6_21 zf_NetworkReader_9 zT_1073 rfl (zz_ltn hn rfl) (zz_G.eq G_S 1073 0 1070 rfl rfl) (by decide) 1070 rfl ?_
      refine zz_aload_n (x := 1073) rfl zd_8_6_24 ?_
      refine zz_getr (kd := 0) (z := 1074) zd_8_6_25 zf_NetworkReader_21 zT_1073 rfl (zz_ltn hn rfl) (zz_G.eq G_S 1073 2 1074 rfl rfl) (by decide) 1074 rfl ?_
      refine zz_iload_n (x := x1) rfl zd_8_6_28 ?_
      have g8 := zz_G.r G_S0 1074 x1.toNat 0 1500 rfl rfl
      refine zz_iald (z := S0 1074 x1.toNat) zd_8_6_29 zT_1074 rfl (zz_ltn hn rfl) (by decide) (by omega) (zz_rc F_S (zz_nc1 rfl) rfl (fun h => h) rfl) ?_
      refine zz_aload_n (x := 1073) rfl zd_8_6_30 ?_
      refine zz_getr (kd := 0) (z := 1075) zd_8_6_31 zf_NetworkReader_25 zT_1073 rfl (zz_ltn hn rfl) (zz_G.eq G_S 1073 3 1075 rfl rfl) (by decide) 1075 rfl ?_
      refine zz_iload_n (x := x1) rfl zd_8_6_34 ?_
      refine zz_iald (z := S0 1075 x1.toNat) zd_8_6_35 zT_1075 rfl (zz_ltn hn rfl) (by decide) (by omega) (zz_rc F_S (zz_nc1 rfl) rfl (fun h => h) rfl) ?_
      have g9 := zz_G.r G_S0 1070 1 0 1500 rfl rfl
      have e10 : S 1070 1 = S0 1070 1 := (zz_rc F_S rfl rfl (fun h => h) rfl)
      have g11 := zz_G.r G_S0 1070 3 0 1500 rfl rfl
      have e12 : S 1070 3 = S0 1070 3 := (zz_rc F_S rfl rfl (fun h => h) rfl)
      have g13 := zz_G.r G_S0 1070 5 0 1500 rfl rfl
      have e14 : S 1070 5 = S0 1070 5 := (zz_rc F_S rfl rfl (fun h => h) rfl)
      refine zz_callVI [zi (S0 1074 x1.toNat), zi (S0 1075 x1.toNat)] zd_8_6_36 zk_NetworkReader_131 zT_1070 (zz_ltn hn rfl) rfl rfl ⟨Nat.le_of_ble_eq_true rfl, Nat.le_of_ble_eq_true rfl⟩ ⟨rfl, rfl⟩ (Nat.zero_le _) (Nat.zero_le _) (zc_isSameAs_11_12 (S0 1074 x1.toNat) (S0 1075 x1.toNat) S n hn G_S (by omega) (by omega)) (fun v16 S15 hP => ?_)
      obtain ⟨rfl, o17, o18⟩ := hP
      rw [show S 1071 = S0 1071 from funext (fun u => (zz_rc F_S (zz_nc1 rfl) rfl (fun h => h) rfl)), show S 1070 1 = S0 1070 1 from (zz_rc F_S rfl rfl (fun h => h) rfl), show S 1070 3 = S0 1070 3 from (zz_rc F_S rfl rfl (fun h => h) rfl), show S 1070 5 = S0 1070 5 from (zz_rc F_S rfl rfl (fun h => h) rfl)] at o18
      rcases (by omega : v16 = 0 ∨ v16 = 1) with rfl | rfl
      · refine zz_if_eq (by omega) zd_8_6_39 (fun c19 => ?_) (fun c19 => ?_)
        · refine zz_iinc [some (.ref 1073), some (zi (x1 + 1))] zd_8_6_44 rfl rfl ?_
          refine zz_goto zd_8_6_47 ?_
          refine zz_less (ls1 := [some (.ref 1073), some (zi (x1 + 1))]) ⟨rfl, ⟨rfl, trivial⟩⟩ ?_
          exact k2 (x1 + 1) S G_S F_S (by omega) (fun N e p hN hK hs i hi => by rcases (by omega : (i : Int) < x1 ∨ i = x1.toNat) with q | q; exact i2_1 N e p hN hK hs i q; rw [q]; exact (fun h9 => (o18.resolve_left (fun h8 => absurd h8.1 (by decide))).2 ((zt_NMs hN hK hs (k := x1.toNat) (by omega) (by omega)).mpr h9))) (by omega)
        · exfalso; omega
      · refine zz_if_eq (by omega) zd_8_6_39 (fun c20 => ?_) (fun c20 => ?_)
        · exfalso; omega
        · refine zz_iload_n (x := x1) rfl zd_8_6_42 ?_
          exact zz_iret zd_8_6_43 rfl (Nat.zero_le _) (Nat.zero_le _) ⟨_, _, rfl, zz_fr.eq F_S, by omega, (fun N e p hN hK hs => by have h9 := (zt_NMs hN hK hs (k := x1.toNat) (by omega) (by omega)).mp (o18.resolve_right (fun h8 => absurd h8.1 (by decide))).2; have h7 := zt_NKp hK hs; have h6 := zt_nfY h9 11 (by omega) (fun i h1 h2 h3 => hN.2 x1.toNat i h1 h2 (by omega) (h9.trans h3.symm)); omega)⟩
theorem zi_tensorNamed_8_6 {g : mm_G} {l : Launch}  (S0 : zz_S) (n : Nat) (hn : zz_end ≤ n) (G_S0 : zz_G S0)  : ∀ N : Nat, (∀ (x1 : Int) (S : zz_S), zz_G S → zz_fr [] [] (fun _ _ => False) S0 S → (0 ≤ x1 ∧ x1 ≤ 11) → (∀ (N : Nat → Int) (e p : Int), zt_NM (S0 1071) (S0 1074) (S0 1075) (S0 1070 1) N → zt_NK (S0 1071) e p (S0 1070 4) (S0 1070 5) (S0 1070 3) → S0 1070 4 = 1 → ∀ i : Nat, (i : Int) < x1 → N i ≠ zt_kc (S0 1071) e p) → (2147483647 - x1).toNat < N → zz_E g l zy_tensorNamed_8_6 zr_tensorNamed_8_6 (zz_QI n (zp_tensorNamed_8_6  S0)) S n 2 [some (.ref 1073), some (zi x1)] [] 0 0) := by
  intro N
  induction N with
  | zero => exact fun x1 S _ _ _ _ h => absurd h (Nat.not_lt_zero _)
  | succ N ih =>
    exact fun x1 S a b j0 j1 hR => zb_tensorNamed_8_6_2  S0 n hn G_S0  x1 S a b j0 j1 _ rfl (fun x1 S a b j0 j1 h => ih x1 S a b j0 j1 (Nat.lt_of_lt_of_le h (Nat.le_of_lt_succ hR)))
theorem zc_tensorNamed_8_6 {g : mm_G} {l : Launch}  (S0 : zz_S) (n : Nat) (hn : zz_end ≤ n) (G_S0 : zz_G S0)  : mm_Met g l zy_tensorNamed_8_6 zr_tensorNamed_8_6 [.ref 1073] (zz_M S0 n) n (zz_QI n (zp_tensorNamed_8_6  S0)) := by
  refine zz_enter (by decide) (Nat.le_of_ble_eq_true rfl) (zz_less (ls1 := [some (.ref 1073)]) ⟨rfl, trivial⟩ ?_)
  have F_S0 : zz_fr [] [] (fun _ _ => False) S0 S0 := zz_fr.refl
  have k2 : ∀ (x1 : Int) (S : zz_S), zz_G S → zz_fr [] [] (fun _ _ => False) S0 S → (0 ≤ x1 ∧ x1 ≤ 11) → (∀ (N : Nat → Int) (e p : Int), zt_NM (S0 1071) (S0 1074) (S0 1075) (S0 1070 1) N → zt_NK (S0 1071) e p (S0 1070 4) (S0 1070 5) (S0 1070 3) → S0 1070 4 = 1 → ∀ i : Nat, (i : Int) < x1 → N i ≠ zt_kc (S0 1071) e p) → zz_E g l zy_tensorNamed_8_6 zr_tensorNamed_8_6 (zz_QI n (zp_tensorNamed_8_6  S0)) S n 2 [some (.ref 1073), some (zi x1)] [] 0 0 := fun x1 S a b j0 j1 => (zi_tensorNamed_8_6 (g := g) (l := l)  S0 n hn G_S0  _) x1 S a b j0 j1 (Nat.lt_succ_self _)
  refine zz_iconst zd_8_6_0 ?_
  refine zz_istore_n [some (.ref 1073), some (zi 0)] zd_8_6_1 (by decide) rfl ?_
  have g1 := zz_G.r G_S0 1070 1 0 1500 rfl rfl
  have g2 := zz_G.r G_S0 1070 3 0 1500 rfl rfl
  have g3 := zz_G.r G_S0 1070 4 (-2147483648) 2147483647 rfl rfl
  have g4 := zz_G.r G_S0 1070 5 0 1500 rfl rfl
  refine zz_less (ls1 := [some (.ref 1073), some (zi 0)]) ⟨rfl, ⟨rfl, trivial⟩⟩ ?_
  exact k2 0 S0 G_S0 F_S0 (by omega) (fun N e p hN hK hs i hi => by omega)
theorem zk_NetworkReader_128 : mm_Vl "TensorForge$NetworkReader" 128 8 0 zy_tensorNamed_8_6 := ⟨zyw_tensorNamed_8_6, (R_NetworkReader, F_NetworkReader, 9), rfl, mm_tb_1 932 (by decide +kernel) rfl, mm_tb_1 934 (by decide +kernel) rfl, mm_tb_s 43 (by decide +kernel) rfl⟩
abbrev zy_beginsLineOrIsX_8_12 : mm_Y := (⟨"TensorForge$NetworkReader", "beginsLineOrIsX", "()Z"⟩, prog_8_method_12_code, 1, (some .boolean))
theorem zyw_beginsLineOrIsX_8_12 : mm_Yw zy_beginsLineOrIsX_8_12 0 := ⟨mm_tb_1 976 (by decide +kernel) rfl, mm_tb_1 9 (by decide +kernel) rfl, ⟨by decide, by decide⟩, by decide +kernel⟩
theorem zg_8_11_34 : zq_at zy_readName_8_11.2.1 34 2 ∧ zq_at zy_readName_8_11.2.1 35 160 ∧ zq_at zy_readName_8_11.2.1 36 0 ∧ zq_at zy_readName_8_11.2.1 37 17 ∧ zq_at zy_readName_8_11.2.1 38 42 ∧ zq_at zy_readName_8_11.2.1 39 182 ∧ zq_at zy_readName_8_11.2.1 40 0 ∧ zq_at zy_readName_8_11.2.1 41 135 ∧ zq_at zy_readName_8_11.2.1 42 154 ∧ zq_at zy_readName_8_11.2.1 43 0 ∧ zq_at zy_readName_8_11.2.1 44 10 ∧ zq_at zy_readName_8_11.2.1 45 42 ∧ zq_at zy_readName_8_11.2.1 46 182 ∧ zq_at zy_readName_8_11.2.1 47 0 ∧ zq_at zy_readName_8_11.2.1 48 187 := by decide +kernel
theorem zd_8_11_34 : zz_D zy_readName_8_11 34 (.iconst (-1)) 1 35 := ⟨zq_2 zg_8_11_34.1, rfl⟩
theorem zd_8_11_35 : zz_B zy_readName_8_11 35 (Instr.if_icmp .ne) 52 38 := ⟨17, zq_160 zg_8_11_34.2.1 zg_8_11_34.2.2.1 zg_8_11_34.2.2.2.1 (by decide), rfl, rfl⟩
theorem zd_8_11_38 : zz_D zy_readName_8_11 38 (.aload_n 0) 1 39 := ⟨zq_42 zg_8_11_34.2.2.2.2.1, rfl⟩
theorem zd_8_11_39 : zz_D zy_readName_8_11 39 (.invokevirtual 135) 3 42 := ⟨zq_182 zg_8_11_34.2.2.2.2.2.1 zg_8_11_34.2.2.2.2.2.2.1 zg_8_11_34.2.2.2.2.2.2.2.1 rfl, rfl⟩
theorem zd_8_11_42 : zz_B zy_readName_8_11 42 (Instr.ifCond .ne) 52 45 := ⟨10, zq_154 zg_8_11_34.2.2.2.2.2.2.2.2.1 zg_8_11_34.2.2.2.2.2.2.2.2.2.1 zg_8_11_34.2.2.2.2.2.2.2.2.2.2.1 (by decide), rfl, rfl⟩
theorem zd_8_11_45 : zz_D zy_readName_8_11 45 (.aload_n 0) 1 46 := ⟨zq_42 zg_8_11_34.2.2.2.2.2.2.2.2.2.2.2.1, rfl⟩
theorem zd_8_11_46 : zz_D zy_readName_8_11 46 (.invokevirtual 187) 3 49 := ⟨zq_182 zg_8_11_34.2.2.2.2.2.2.2.2.2.2.2.2.1 zg_8_11_34.2.2.2.2.2.2.2.2.2.2.2.2.2.1 zg_8_11_34.2.2.2.2.2.2.2.2.2.2.2.2.2.2 rfl, rfl⟩
theorem zg_8_12_0 : zq_at zy_beginsLineOrIsX_8_12.2.1 0 42 ∧ zq_at zy_beginsLineOrIsX_8_12.2.1 1 180 ∧ zq_at zy_beginsLineOrIsX_8_12.2.1 2 0 ∧ zq_at zy_beginsLineOrIsX_8_12.2.1 3 9 ∧ zq_at zy_beginsLineOrIsX_8_12.2.1 4 18 ∧ zq_at zy_beginsLineOrIsX_8_12.2.1 5 85 ∧ zq_at zy_beginsLineOrIsX_8_12.2.1 6 182 ∧ zq_at zy_beginsLineOrIsX_8_12.2.1 7 0 ∧ zq_at zy_beginsLineOrIsX_8_12.2.1 8 87 ∧ zq_at zy_beginsLineOrIsX_8_12.2.1 9 154 ∧ zq_at zy_beginsLineOrIsX_8_12.2.1 10 0 ∧ zq_at zy_beginsLineOrIsX_8_12.2.1 11 51 ∧ zq_at zy_beginsLineOrIsX_8_12.2.1 12 42 ∧ zq_at zy_beginsLineOrIsX_8_12.2.1 13 180 ∧ zq_at zy_beginsLineOrIsX_8_12.2.1 14 0 ∧ zq_at zy_beginsLineOrIsX_8_12.2.1 15 9 ∧ zq_at zy_beginsLineOrIsX_8_12.2.1 16 18 ∧ zq_at zy_beginsLineOrIsX_8_12.2.1 17 110 ∧ zq_at zy_beginsLineOrIsX_8_12.2.1 18 182 ∧ zq_at zy_beginsLineOrIsX_8_12.2.1 19 0 ∧ zq_at zy_beginsLineOrIsX_8_12.2.1 20 87 ∧ zq_at zy_beginsLineOrIsX_8_12.2.1 21 154 ∧ zq_at zy_beginsLineOrIsX_8_12.2.1 22 0 ∧ zq_at zy_beginsLineOrIsX_8_12.2.1 23 39 := by decide +kernel
theorem zd_8_12_0 : zz_D zy_beginsLineOrIsX_8_12 0 (.aload_n 0) 1 1 := ⟨zq_42 zg_8_12_0.1, rfl⟩
theorem zd_8_12_1 : zz_D zy_beginsLineOrIsX_8_12 1 (.getfield 9) 3 4 := ⟨zq_180 zg_8_12_0.2.1 zg_8_12_0.2.2.1 zg_8_12_0.2.2.2.1 rfl, rfl⟩
theorem zd_8_12_4 : zz_D zy_beginsLineOrIsX_8_12 4 (.ldc 85) 2 6 := ⟨zq_18 zg_8_12_0.2.2.2.2.1 zg_8_12_0.2.2.2.2.2.1, rfl⟩
theorem zd_8_12_6 : zz_D zy_beginsLineOrIsX_8_12 6 (.invokevirtual 87) 3 9 := ⟨zq_182 zg_8_12_0.2.2.2.2.2.2.1 zg_8_12_0.2.2.2.2.2.2.2.1 zg_8_12_0.2.2.2.2.2.2.2.2.1 rfl, rfl⟩
theorem zd_8_12_9 : zz_B zy_beginsLineOrIsX_8_12 9 (Instr.ifCond .ne) 60 12 := ⟨51, zq_154 zg_8_12_0.2.2.2.2.2.2.2.2.2.1 zg_8_12_0.2.2.2.2.2.2.2.2.2.2.1 zg_8_12_0.2.2.2.2.2.2.2.2.2.2.2.1 (by decide), rfl, rfl⟩
theorem zd_8_12_12 : zz_D zy_beginsLineOrIsX_8_12 12 (.aload_n 0) 1 13 := ⟨zq_42 zg_8_12_0.2.2.2.2.2.2.2.2.2.2.2.2.1, rfl⟩
theorem zd_8_12_13 : zz_D zy_beginsLineOrIsX_8_12 13 (.getfield 9) 3 16 := ⟨zq_180 zg_8_12_0.2.2.2.2.2.2.2.2.2.2.2.2.2.1 zg_8_12_0.2.2.2.2.2.2.2.2.2.2.2.2.2.2.1 zg_8_12_0.2.2.2.2.2.2.2.2.2.2.2.2.2.2.2.1 rfl, rfl⟩
theorem zd_8_12_16 : zz_D zy_beginsLineOrIsX_8_12 16 (.ldc 110) 2 18 := ⟨zq_18 zg_8_12_0.2.2.2.2.2.2.2.2.2.2.2.2.2.2.2.2.1 zg_8_12_0.2.2.2.2.2.2.2.2.2.2.2.2.2.2.2.2.2.1, rfl⟩
theorem zd_8_12_18 : zz_D zy_beginsLineOrIsX_8_12 18 (.invokevirtual 87) 3 21 := ⟨zq_182 zg_8_12_0.2.2.2.2.2.2.2.2.2.2.2.2.2.2.2.2.2.2.1 zg_8_12_0.2.2.2.2.2.2.2.2.2.2.2.2.2.2.2.2.2.2.2.1 zg_8_12_0.2.2.2.2.2.2.2.2.2.2.2.2.2.2.2.2.2.2.2.2.1 rfl, rfl⟩
theorem zd_8_12_21 : zz_B zy_beginsLineOrIsX_8_12 21 (Instr.ifCond .ne) 60 24 := ⟨39, zq_154 zg_8_12_0.2.2.2.2.2.2.2.2.2.2.2.2.2.2.2.2.2.2.2.2.2.1 zg_8_12_0.2.2.2.2.2.2.2.2.2.2.2.2.2.2.2.2.2.2.2.2.2.2.1 zg_8_12_0.2.2.2.2.2.2.2.2.2.2.2.2.2.2.2.2.2.2.2.2.2.2.2 (by decide), rfl, rfl⟩
theorem zg_8_12_24 : zq_at zy_beginsLineOrIsX_8_12.2.1 24 42 ∧ zq_at zy_beginsLineOrIsX_8_12.2.1 25 180 ∧ zq_at zy_beginsLineOrIsX_8_12.2.1 26 0 ∧ zq_at zy_beginsLineOrIsX_8_12.2.1 27 9 ∧ zq_at zy_beginsLineOrIsX_8_12.2.1 28 18 ∧ zq_at zy_beginsLineOrIsX_8_12.2.1 29 114 ∧ zq_at zy_beginsLineOrIsX_8_12.2.1 30 182 ∧ zq_at zy_beginsLineOrIsX_8_12.2.1 31 0 ∧ zq_at zy_beginsLineOrIsX_8_12.2.1 32 87 ∧ zq_at zy_beginsLineOrIsX_8_12.2.1 33 154 ∧ zq_at zy_beginsLineOrIsX_8_12.2.1 34 0 ∧ zq_at zy_beginsLineOrIsX_8_12.2.1 35 27 ∧ zq_at zy_beginsLineOrIsX_8_12.2.1 36 42 ∧ zq_at zy_beginsLineOrIsX_8_12.2.1 37 180 ∧ zq_at zy_beginsLineOrIsX_8_12.2.1 38 0 ∧ zq_at zy_beginsLineOrIsX_8_12.2.1 39 9 ∧ zq_at zy_beginsLineOrIsX_8_12.2.1 40 18 ∧ zq_at zy_beginsLineOrIsX_8_12.2.1 41 116 ∧ zq_at zy_beginsLineOrIsX_8_12.2.1 42 182 ∧ zq_at zy_beginsLineOrIsX_8_12.2.1 43 0 ∧ zq_at zy_beginsLineOrIsX_8_12.2.1 44 87 ∧ zq_at zy_beginsLineOrIsX_8_12.2.1 45 154 ∧ zq_at zy_beginsLineOrIsX_8_12.2.1 46 0 ∧ zq_at zy_beginsLineOrIsX_8_12.2.1 47 15 := by decide +kernel
theorem zd_8_12_24 : zz_D zy_beginsLineOrIsX_8_12 24 (.aload_n 0) 1 25 := ⟨zq_42 zg_8_12_24.1, rfl⟩
theorem zd_8_12_25 : zz_D zy_beginsLineOrIsX_8_12 25 (.getfield 9) 3 28 := ⟨zq_180 zg_8_12_24.2.1 zg_8_12_24.2.2.1 zg_8_12_24.2.2.2.1 rfl, rfl⟩
theorem zd_8_12_28 : zz_D zy_beginsLineOrIsX_8_12 28 (.ldc 114) 2 30 := ⟨zq_18 zg_8_12_24.2.2.2.2.1 zg_8_12_24.2.2.2.2.2.1, rfl⟩
theorem zd_8_12_30 : zz_D zy_beginsLineOrIsX_8_12 30 (.invokevirtual 87) 3 33 := ⟨zq_182 zg_8_12_24.2.2.2.2.2.2.1 zg_8_12_24.2.2.2.2.2.2.2.1 zg_8_12_24.2.2.2.2.2.2.2.2.1 rfl, rfl⟩
theorem zd_8_12_33 : zz_B zy_beginsLineOrIsX_8_12 33 (Instr.ifCond .ne) 60 36 := ⟨27, zq_154 zg_8_12_24.2.2.2.2.2.2.2.2.2.1 zg_8_12_24.2.2.2.2.2.2.2.2.2.2.1 zg_8_12_24.2.2.2.2.2.2.2.2.2.2.2.1 (by decide), rfl, rfl⟩
theorem zd_8_12_36 : zz_D zy_beginsLineOrIsX_8_12 36 (.aload_n 0) 1 37 := ⟨zq_42 zg_8_12_24.2.2.2.2.2.2.2.2.2.2.2.2.1, rfl⟩
theorem zd_8_12_37 : zz_D zy_beginsLineOrIsX_8_12 37 (.getfield 9) 3 40 := ⟨zq_180 zg_8_12_24.2.2.2.2.2.2.2.2.2.2.2.2.2.1 zg_8_12_24.2.2.2.2.2.2.2.2.2.2.2.2.2.2.1 zg_8_12_24.2.2.2.2.2.2.2.2.2.2.2.2.2.2.2.1 rfl, rfl⟩
theorem zd_8_12_40 : zz_D zy_beginsLineOrIsX_8_12 40 (.ldc 116) 2 42 := ⟨zq_18 zg_8_12_24.2.2.2.2.2.2.2.2.2.2.2.2.2.2.2.2.1 zg_8_12_24.2.2.2.2.2.2.2.2.2.2.2.2.2.2.2.2.2.1, rfl⟩
theorem zd_8_12_42 : zz_D zy_beginsLineOrIsX_8_12 42 (.invokevirtual 87) 3 45 := ⟨zq_182 zg_8_12_24.2.2.2.2.2.2.2.2.2.2.2.2.2.2.2.2.2.2.1 zg_8_12_24.2.2.2.2.2.2.2.2.2.2.2.2.2.2.2.2.2.2.2.1 zg_8_12_24.2.2.2.2.2.2.2.2.2.2.2.2.2.2.2.2.2.2.2.2.1 rfl, rfl⟩
theorem zd_8_12_45 : zz_B zy_beginsLineOrIsX_8_12 45 (Instr.ifCond .ne) 60 48 := ⟨15, zq_154 zg_8_12_24.2.2.2.2.2.2.2.2.2.2.2.2.2.2.2.2.2.2.2.2.2.1 zg_8_12_24.2.2.2.2.2.2.2.2.2.2.2.2.2.2.2.2.2.2.2.2.2.2.1 zg_8_12_24.2.2.2.2.2.2.2.2.2.2.2.2.2.2.2.2.2.2.2.2.2.2.2 (by decide), rfl, rfl⟩
theorem zg_8_12_48 : zq_at zy_beginsLineOrIsX_8_12.2.1 48 42 ∧ zq_at zy_beginsLineOrIsX_8_12.2.1 49 180 ∧ zq_at zy_beginsLineOrIsX_8_12.2.1 50 0 ∧ zq_at zy_beginsLineOrIsX_8_12.2.1 51 9 ∧ zq_at zy_beginsLineOrIsX_8_12.2.1 52 18 ∧ zq_at zy_beginsLineOrIsX_8_12.2.1 53 97 ∧ zq_at zy_beginsLineOrIsX_8_12.2.1 54 182 ∧ zq_at zy_beginsLineOrIsX_8_12.2.1 55 0 ∧ zq_at zy_beginsLineOrIsX_8_12.2.1 56 87 ∧ zq_at zy_beginsLineOrIsX_8_12.2.1 57 153 ∧ zq_at zy_beginsLineOrIsX_8_12.2.1 58 0 ∧ zq_at zy_beginsLineOrIsX_8_12.2.1 59 7 ∧ zq_at zy_beginsLineOrIsX_8_12.2.1 64 3 ∧ zq_at zy_beginsLineOrIsX_8_12.2.1 65 172 ∧ zq_at zy_beginsLineOrIsX_8_12.2.1 60 4 ∧ zq_at zy_beginsLineOrIsX_8_12.2.1 61 167 ∧ zq_at zy_beginsLineOrIsX_8_12.2.1 62 0 ∧ zq_at zy_beginsLineOrIsX_8_12.2.1 63 4 := by decide +kernel
theorem zd_8_12_48 : zz_D zy_beginsLineOrIsX_8_12 48 (.aload_n 0) 1 49 := ⟨zq_42 zg_8_12_48.1, rfl⟩
theorem zd_8_12_49 : zz_D zy_beginsLineOrIsX_8_12 49 (.getfield 9) 3 52 := ⟨zq_180 zg_8_12_48.2.1 zg_8_12_48.2.2.1 zg_8_12_48.2.2.2.1 rfl, rfl⟩
theorem zd_8_12_52 : zz_D zy_beginsLineOrIsX_8_12 52 (.ldc 97) 2 54 := ⟨zq_18 zg_8_12_48.2.2.2.2.1 zg_8_12_48.2.2.2.2.2.1, rfl⟩
theorem zd_8_12_54 : zz_D zy_beginsLineOrIsX_8_12 54 (.invokevirtual 87) 3 57 := ⟨zq_182 zg_8_12_48.2.2.2.2.2.2.1 zg_8_12_48.2.2.2.2.2.2.2.1 zg_8_12_48.2.2.2.2.2.2.2.2.1 rfl, rfl⟩
theorem zd_8_12_57 : zz_B zy_beginsLineOrIsX_8_12 57 (Instr.ifCond .eq) 64 60 := ⟨7, zq_153 zg_8_12_48.2.2.2.2.2.2.2.2.2.1 zg_8_12_48.2.2.2.2.2.2.2.2.2.2.1 zg_8_12_48.2.2.2.2.2.2.2.2.2.2.2.1 (by decide), rfl, rfl⟩
theorem zd_8_12_64 : zz_D zy_beginsLineOrIsX_8_12 64 (.iconst 0) 1 65 := ⟨zq_3 zg_8_12_48.2.2.2.2.2.2.2.2.2.2.2.2.1, rfl⟩
theorem zd_8_12_65 : zz_D zy_beginsLineOrIsX_8_12 65 (.ireturn) 1 66 := ⟨zq_172 zg_8_12_48.2.2.2.2.2.2.2.2.2.2.2.2.2.1, rfl⟩
theorem zd_8_12_60 : zz_D zy_beginsLineOrIsX_8_12 60 (.iconst 1) 1 61 := ⟨zq_4 zg_8_12_48.2.2.2.2.2.2.2.2.2.2.2.2.2.2.1, rfl⟩
theorem zd_8_12_61 : zz_B zy_beginsLineOrIsX_8_12 61 Instr.goto 65 64 := ⟨4, zq_167 zg_8_12_48.2.2.2.2.2.2.2.2.2.2.2.2.2.2.2.1 zg_8_12_48.2.2.2.2.2.2.2.2.2.2.2.2.2.2.2.2.1 zg_8_12_48.2.2.2.2.2.2.2.2.2.2.2.2.2.2.2.2.2 (by decide), rfl, rfl⟩
-- TensorForge$NetworkReader beginsLineOrIsX ()Z
abbrev zr_beginsLineOrIsX_8_12 : Room := { frames := 5, cells := 0, slots := 0, locals := 68 }
def zp_beginsLineOrIsX_8_12  (S0 : zz_S) : Int → zz_S → Prop := fun r S => S0 = S ∧ (0 ≤ r ∧ r ≤ 1) ∧ (∀ e p : Int, zt_NK (S0 1071) e p (S0 1070 4) (S0 1070 5) (S0 1070 3) → (r = 1 ∧ (zt_kn (S0 1071) e p = 102 ∧ zt_k5 (zt_kc (S0 1071) e p))) ∨ (r = 0 ∧ ¬ (zt_kn (S0 1071) e p = 102 ∧ zt_k5 (zt_kc (S0 1071) e p))))
theorem zc_beginsLineOrIsX_8_12 {g : mm_G} {l : Launch}  (S0 : zz_S) (n : Nat) (hn : zz_end ≤ n) (G_S0 : zz_G S0)  : mm_Met g l zy_beginsLineOrIsX_8_12 zr_beginsLineOrIsX_8_12 [.ref 1073] (zz_M S0 n) n (zz_QI n (zp_beginsLineOrIsX_8_12  S0)) := by
  refine zz_enter (by decide) (Nat.le_of_ble_eq_true rfl) (zz_less (ls1 := [some (.ref 1073)]) ⟨rfl, trivial⟩ ?_)
  refine zz_aload_n (x := 1073) rfl zd_8_12_0 ?_
  refine zz_getr (kd := 0) (z := 1070) zd_8_12_1 zf_NetworkReader_9 zT_1073 rfl (zz_ltn hn rfl) (zz_G.eq G_S0 1073 0 1070 rfl rfl) (by decide) 1070 rfl ?_
  refine zz_ldcs (t := 29) (by decide +kernel) (by decide) zd_8_12_4 ?_
  have g1 := zz_G.r G_S0 1070 3 0 1500 rfl rfl
  have g2 := zz_G.r G_S0 1070 4 (-2147483648) 2147483647 rfl rfl
  have g3 := zz_G.r G_S0 1070 5 0 1500 rfl rfl
  refine zz_callVI [.ref (100 + 29)] zd_8_12_6 zk_NetworkReader_87 zT_1070 (zz_ltn hn rfl) rfl rfl ⟨Nat.le_of_ble_eq_true rfl, Nat.le_of_ble_eq_true rfl⟩ ⟨rfl, rfl⟩ (Nat.zero_le _) (Nat.zero_le _) (zc_isWord_11_9 29 S0 n hn G_S0 (by omega)) (fun v5 S4 hP => ?_)
  obtain ⟨rfl, o6, o7⟩ := hP
  rcases (by omega : v5 = 0 ∨ v5 = 1) with rfl | rfl
  · skip
    refine zz_if_ne (by omega) zd_8_12_9 (fun c8 => ?_) (fun c8 => ?_)
    · exfalso; omega
    · refine zz_aload_n (x := 1073) rfl zd_8_12_12 ?_
      refine zz_getr (kd := 0) (z := 1070) zd_8_12_13 zf_NetworkReader_9 zT_1073 rfl (zz_ltn hn rfl) (zz_G.eq G_S0 1073 0 1070 rfl rfl) (by decide) 1070 rfl ?_
      refine zz_ldcs (t := 21) (by decide +kernel) (by decide) zd_8_12_16 ?_
      refine zz_callVI [.ref (100 + 21)] zd_8_12_18 zk_NetworkReader_87 zT_1070 (zz_ltn hn rfl) rfl rfl ⟨Nat.le_of_ble_eq_true rfl, Nat.le_of_ble_eq_true rfl⟩ ⟨rfl, rfl⟩ (Nat.zero_le _) (Nat.zero_le _) (zc_isWord_11_9 21 S0 n hn G_S0 (by omega)) (fun v10 S9 hP => ?_)
      obtain ⟨rfl, o11, o12⟩ := hP
      rcases (by omega : v10 = 0 ∨ v10 = 1) with rfl | rfl
      · skip
        refine zz_if_ne (by omega) zd_8_12_21 (fun c13 => ?_) (fun c13 => ?_)
        · exfalso; omega
        · refine zz_aload_n (x := 1073) rfl zd_8_12_24 ?_
          refine zz_getr (kd := 0) (z := 1070) zd_8_12_25 zf_NetworkReader_9 zT_1073 rfl (zz_ltn hn rfl) (zz_G.eq G_S0 1073 0 1070 rfl rfl) (by decide) 1070 rfl ?_
          refine zz_ldcs (t := 22) (by decide +kernel) (by decide) zd_8_12_28 ?_
          refine zz_callVI [.ref (100 + 22)] zd_8_12_30 zk_NetworkReader_87 zT_1070 (zz_ltn hn rfl) rfl rfl ⟨Nat.le_of_ble_eq_true rfl, Nat.le_of_ble_eq_true rfl⟩ ⟨rfl, rfl⟩ (Nat.zero_le _) (Nat.zero_le _) (zc_isWord_11_9 22 S0 n hn G_S0 (by omega)) (fun v15 S14 hP => ?_)
          obtain ⟨rfl, o16, o17⟩ := hP
          rcases (by omega : v15 = 0 ∨ v15 = 1) with rfl | rfl
          · skip
            refine zz_if_ne (by omega) zd_8_12_33 (fun c18 => ?_) (fun c18 => ?_)
            · exfalso; omega
            · refine zz_aload_n (x := 1073) rfl zd_8_12_36 ?_
              refine zz_getr (kd := 0) (z := 1070) zd_8_12_37 zf_NetworkReader_9 zT_1073 rfl (zz_ltn hn rfl) (zz_G.eq G_S0 1073 0 1070 rfl rfl) (by decide) 1070 rfl ?_
              refine zz_ldcs (t := 23) (by decide +kernel) (by decide) zd_8_12_40 ?_
              refine zz_callVI [.ref (100 + 23)] zd_8_12_42 zk_NetworkReader_87 zT_1070 (zz_ltn hn rfl) rfl rfl ⟨Nat.le_of_ble_eq_true rfl, Nat.le_of_ble_eq_true rfl⟩ ⟨rfl, rfl⟩ (Nat.zero_le _) (Nat.zero_le _) (zc_isWord_11_9 23 S0 n hn G_S0 (by omega)) (fun v20 S19 hP => ?_)
              obtain ⟨rfl, o21, o22⟩ := hP
              rcases (by omega : v20 = 0 ∨ v20 = 1) with rfl | rfl
              · skip
                refine zz_if_ne (by omega) zd_8_12_45 (fun c23 => ?_) (fun c23 => ?_)
                · exfalso; omega
                · refine zz_aload_n (x := 1073) rfl zd_8_12_48 ?_
                  refine zz_getr (kd := 0) (z := 1070) zd_8_12_49 zf_NetworkReader_9 zT_1073 rfl (zz_ltn hn rfl) (zz_G.eq G_S0 1073 0 1070 rfl rfl) (by decide) 1070 rfl ?_
                  refine zz_ldcs (t := 12) (by decide +kernel) (by decide) zd_8_12_52 ?_
                  refine zz_callVI [.ref (100 + 12)] zd_8_12_54 zk_NetworkReader_87 zT_1070 (zz_ltn hn rfl) rfl rfl ⟨Nat.le_of_ble_eq_true rfl, Nat.le_of_ble_eq_true rfl⟩ ⟨rfl, rfl⟩ (Nat.zero_le _) (Nat.zero_le _) (zc_isWord_11_9 12 S0 n hn G_S0 (by omega)) (fun v25 S24 hP => ?_)
                  obtain ⟨rfl, o26, o27⟩ := hP
                  rcases (by omega : v25 = 0 ∨ v25 = 1) with rfl | rfl
                  · skip
                    refine zz_if_eq (by omega) zd_8_12_57 (fun c28 => ?_) (fun c28 => ?_)
                    · refine zz_iconst zd_8_12_64 ?_
                      exact zz_zret zd_8_12_65 rfl (by omega) (Nat.zero_le _) (Nat.zero_le _) ⟨_, _, rfl, rfl, by omega, (fun e p hK => by have h0 := ((zt_NKw hK (t := 29) (by decide) (by decide) o7).resolve_left (fun h => absurd h.1 (by decide))).2; have h1 := ((zt_NKw hK (t := 21) (by decide) (by decide) o12).resolve_left (fun h => absurd h.1 (by decide))).2; have h2 := ((zt_NKw hK (t := 22) (by decide) (by decide) o17).resolve_left (fun h => absurd h.1 (by decide))).2; have h3 := ((zt_NKw hK (t := 23) (by decide) (by decide) o22).resolve_left (fun h => absurd h.1 (by decide))).2; have h4 := ((zt_NKw hK (t := 12) (by decide) (by decide) o27).resolve_left (fun h => absurd h.1 (by decide))).2; exact Or.inr ⟨rfl, fun h9 => h9.2.elim (fun x => h0 ⟨h9.1, x⟩) (fun y => y.elim (fun x => h1 ⟨h9.1, x⟩) (fun y => y.elim (fun x => h2 ⟨h9.1, x⟩) (fun y => y.elim (fun x => h3 ⟨h9.1, x⟩) (fun x => h4 ⟨h9.1, x⟩))))⟩)⟩
                    · exfalso; omega
                  · skip
                    refine zz_if_eq (by omega) zd_8_12_57 (fun c29 => ?_) (fun c29 => ?_)
                    · exfalso; omega
                    · refine zz_iconst zd_8_12_60 ?_
                      refine zz_goto zd_8_12_61 ?_
                      exact zz_zret zd_8_12_65 rfl (by omega) (Nat.zero_le _) (Nat.zero_le _) ⟨_, _, rfl, rfl, by omega, (fun e p hK => by have h9 := (zt_NKw hK (t := 12) (by decide) (by decide) o27).resolve_right (fun h => absurd h.1 (by decide)); exact Or.inl ⟨rfl, h9.2.1, (Or.inr (Or.inr (Or.inr (Or.inr h9.2.2))))⟩)⟩
              · skip
                refine zz_if_ne (by omega) zd_8_12_45 (fun c30 => ?_) (fun c30 => ?_)
                · refine zz_iconst zd_8_12_60 ?_
                  refine zz_goto zd_8_12_61 ?_
                  exact zz_zret zd_8_12_65 rfl (by omega) (Nat.zero_le _) (Nat.zero_le _) ⟨_, _, rfl, rfl, by omega, (fun e p hK => by have h9 := (zt_NKw hK (t := 23) (by decide) (by decide) o22).resolve_right (fun h => absurd h.1 (by decide)); exact Or.inl ⟨rfl, h9.2.1, (Or.inr (Or.inr (Or.inr (Or.inl h9.2.2))))⟩)⟩
                · exfalso; omega
          · skip
            refine zz_if_ne (by omega) zd_8_12_33 (fun c31 => ?_) (fun c31 => ?_)
            · refine zz_iconst zd_8_12_60 ?_
              refine zz_goto zd_8_12_61 ?_
              exact zz_zret zd_8_12_65 rfl (by omega) (Nat.zero_le _) (Nat.zero_le _) ⟨_, _, rfl, rfl, by omega, (fun e p hK => by have h9 := (zt_NKw hK (t := 22) (by decide) (by decide) o17).resolve_right (fun h => absurd h.1 (by decide)); exact Or.inl ⟨rfl, h9.2.1, (Or.inr (Or.inr (Or.inl h9.2.2)))⟩)⟩
            · exfalso; omega
      · skip
        refine zz_if_ne (by omega) zd_8_12_21 (fun c32 => ?_) (fun c32 => ?_)
        · refine zz_iconst zd_8_12_60 ?_
          refine zz_goto zd_8_12_61 ?_
          exact zz_zret zd_8_12_65 rfl (by omega) (Nat.zero_le _) (Nat.zero_le _) ⟨_, _, rfl, rfl, by omega, (fun e p hK => by have h9 := (zt_NKw hK (t := 21) (by decide) (by decide) o12).resolve_right (fun h => absurd h.1 (by decide)); exact Or.inl ⟨rfl, h9.2.1, (Or.inr (Or.inl h9.2.2))⟩)⟩
        · exfalso; omega
  · skip
    refine zz_if_ne (by omega) zd_8_12_9 (fun c33 => ?_) (fun c33 => ?_)
    · refine zz_iconst zd_8_12_60 ?_
      refine zz_goto zd_8_12_61 ?_
      exact zz_zret zd_8_12_65 rfl (by omega) (Nat.zero_le _) (Nat.zero_le _) ⟨_, _, rfl, rfl, by omega, (fun e p hK => by have h9 := (zt_NKw hK (t := 29) (by decide) (by decide) o7).resolve_right (fun h => absurd h.1 (by decide)); exact Or.inl ⟨rfl, h9.2.1, (Or.inl h9.2.2)⟩)⟩
    · exfalso; omega
theorem zk_NetworkReader_187 : mm_Vl "TensorForge$NetworkReader" 187 8 0 zy_beginsLineOrIsX_8_12 := ⟨zyw_beginsLineOrIsX_8_12, (R_NetworkReader, F_NetworkReader, 9), rfl, mm_tb_1 973 (by decide +kernel) rfl, mm_tb_1 975 (by decide +kernel) rfl, mm_tb_s 48 (by decide +kernel) rfl⟩
theorem zf_NetworkReader_190 : mm_Fl "TensorForge$NetworkReader" 190 6 5 .int false := ⟨R_Text, F_Text, 7, t_Text, rfl, i_Text, by decide, mm_tb_1 294 (by decide +kernel) rfl, rfl, t_Text_ok, n_Text, rfl, by decide +kernel⟩
theorem zg_8_11_49 : zq_at zy_readName_8_11.2.1 49 153 ∧ zq_at zy_readName_8_11.2.1 50 0 ∧ zq_at zy_readName_8_11.2.1 51 5 ∧ zq_at zy_readName_8_11.2.1 54 42 ∧ zq_at zy_readName_8_11.2.1 55 42 ∧ zq_at zy_readName_8_11.2.1 56 180 ∧ zq_at zy_readName_8_11.2.1 57 0 ∧ zq_at zy_readName_8_11.2.1 58 9 ∧ zq_at zy_readName_8_11.2.1 59 180 ∧ zq_at zy_readName_8_11.2.1 60 0 ∧ zq_at zy_readName_8_11.2.1 61 190 ∧ zq_at zy_readName_8_11.2.1 62 181 ∧ zq_at zy_readName_8_11.2.1 63 0 ∧ zq_at zy_readName_8_11.2.1 64 28 ∧ zq_at zy_readName_8_11.2.1 65 42 ∧ zq_at zy_readName_8_11.2.1 66 42 ∧ zq_at zy_readName_8_11.2.1 67 180 ∧ zq_at zy_readName_8_11.2.1 68 0 ∧ zq_at zy_readName_8_11.2.1 69 9 ∧ zq_at zy_readName_8_11.2.1 70 182 ∧ zq_at zy_readName_8_11.2.1 71 0 ∧ zq_at zy_readName_8_11.2.1 72 184 := by decide +kernel
theorem zd_8_11_49 : zz_B zy_readName_8_11 49 (Instr.ifCond .eq) 54 52 := ⟨5, zq_153 zg_8_11_49.1 zg_8_11_49.2.1 zg_8_11_49.2.2.1 (by decide), rfl, rfl⟩
theorem zd_8_11_54 : zz_D zy_readName_8_11 54 (.aload_n 0) 1 55 := ⟨zq_42 zg_8_11_49.2.2.2.1, rfl⟩
theorem zd_8_11_55 : zz_D zy_readName_8_11 55 (.aload_n 0) 1 56 := ⟨zq_42 zg_8_11_49.2.2.2.2.1, rfl⟩
theorem zd_8_11_56 : zz_D zy_readName_8_11 56 (.getfield 9) 3 59 := ⟨zq_180 zg_8_11_49.2.2.2.2.2.1 zg_8_11_49.2.2.2.2.2.2.1 zg_8_11_49.2.2.2.2.2.2.2.1 rfl, rfl⟩
theorem zd_8_11_59 : zz_D zy_readName_8_11 59 (.getfield 190) 3 62 := ⟨zq_180 zg_8_11_49.2.2.2.2.2.2.2.2.1 zg_8_11_49.2.2.2.2.2.2.2.2.2.1 zg_8_11_49.2.2.2.2.2.2.2.2.2.2.1 rfl, rfl⟩
theorem zd_8_11_62 : zz_D zy_readName_8_11 62 (.putfield 28) 3 65 := ⟨zq_181 zg_8_11_49.2.2.2.2.2.2.2.2.2.2.2.1 zg_8_11_49.2.2.2.2.2.2.2.2.2.2.2.2.1 zg_8_11_49.2.2.2.2.2.2.2.2.2.2.2.2.2.1 rfl, rfl⟩
theorem zd_8_11_65 : zz_D zy_readName_8_11 65 (.aload_n 0) 1 66 := ⟨zq_42 zg_8_11_49.2.2.2.2.2.2.2.2.2.2.2.2.2.2.1, rfl⟩
theorem zd_8_11_66 : zz_D zy_readName_8_11 66 (.aload_n 0) 1 67 := ⟨zq_42 zg_8_11_49.2.2.2.2.2.2.2.2.2.2.2.2.2.2.2.1, rfl⟩
theorem zd_8_11_67 : zz_D zy_readName_8_11 67 (.getfield 9) 3 70 := ⟨zq_180 zg_8_11_49.2.2.2.2.2.2.2.2.2.2.2.2.2.2.2.2.1 zg_8_11_49.2.2.2.2.2.2.2.2.2.2.2.2.2.2.2.2.2.1 zg_8_11_49.2.2.2.2.2.2.2.2.2.2.2.2.2.2.2.2.2.2.1 rfl, rfl⟩
theorem zd_8_11_70 : zz_D zy_readName_8_11 70 (.invokevirtual 184) 3 73 := ⟨zq_182 zg_8_11_49.2.2.2.2.2.2.2.2.2.2.2.2.2.2.2.2.2.2.2.1 zg_8_11_49.2.2.2.2.2.2.2.2.2.2.2.2.2.2.2.2.2.2.2.2.1 zg_8_11_49.2.2.2.2.2.2.2.2.2.2.2.2.2.2.2.2.2.2.2.2.2 rfl, rfl⟩
theorem zg_8_11_73 : zq_at zy_readName_8_11.2.1 73 181 ∧ zq_at zy_readName_8_11.2.1 74 0 ∧ zq_at zy_readName_8_11.2.1 75 32 ∧ zq_at zy_readName_8_11.2.1 76 4 ∧ zq_at zy_readName_8_11.2.1 77 172 := by decide +kernel
theorem zd_8_11_73 : zz_D zy_readName_8_11 73 (.putfield 32) 3 76 := ⟨zq_181 zg_8_11_73.1 zg_8_11_73.2.1 zg_8_11_73.2.2.1 rfl, rfl⟩
theorem zd_8_11_76 : zz_D zy_readName_8_11 76 (.iconst 1) 1 77 := ⟨zq_4 zg_8_11_73.2.2.2.1, rfl⟩
theorem zd_8_11_77 : zz_D zy_readName_8_11 77 (.ireturn) 1 78 := ⟨zq_172 zg_8_11_73.2.2.2.2, rfl⟩
-- TensorForge$NetworkReader readName ()Z
abbrev zr_readName_8_11 : Room := { frames := 6, cells := 0, slots := 0, locals := 80 }
def zp_readName_8_11  (S0 : zz_S) : Int → zz_S → Prop := fun r S => zz_G S ∧ zz_fr [(1070, 3), (1070, 4), (1070, 5), (1070, 6), (1073, 4), (1073, 5)] [] (fun _ _ => False) S0 S ∧ (0 ≤ r ∧ r ≤ 1) ∧ (∀ N : Nat → Int, zt_NM (S0 1071) (S0 1074) (S0 1075) (S0 1070 1) N → S0 1070 2 ≤ S0 1070 1 → S0 1070 3 ≤ S0 1070 2 → (r = 1 ∧ zt_nm (S0 1071) (S0 1070 2) (S0 1070 3) N 11 ∧ zt_N1 (S0 1071) (S0 1070 1) (S 1073 4) (S 1073 5) (zt_kc (S0 1071) (S0 1070 2) (S0 1070 3))) ∨ (r = 0 ∧ ¬ zt_nm (S0 1071) (S0 1070 2) (S0 1070 3) N 11)) ∧ (S 1070 3 = zt_te (S0 1071) (S0 1070 2) (S0 1070 3)) ∧ (S0 1070 3 ≤ S 1070 3) ∧ (S0 1070 3 ≤ S0 1070 2 → S 1070 3 ≤ S0 1070 2)
theorem zc_readName_8_11 {g : mm_G} {l : Launch}  (S0 : zz_S) (n : Nat) (hn : zz_end ≤ n) (G_S0 : zz_G S0)  : mm_Met g l zy_readName_8_11 zr_readName_8_11 [.ref 1073] (zz_M S0 n) n (zz_QI n (zp_readName_8_11  S0)) := by
  refine zz_enter (by decide) (Nat.le_of_ble_eq_true rfl) (zz_less (ls1 := [some (.ref 1073)]) ⟨rfl, trivial⟩ ?_)
  have F_S0 : zz_fr [(1070, 3), (1070, 4), (1070, 5), (1070, 6), (1073, 4), (1073, 5)] [] (fun _ _ => False) S0 S0 := zz_fr.refl
  refine zz_aload_n (x := 1073) rfl zd_8_11_0 ?_
  refine zz_getr (kd := 0) (z := 1070) zd_8_11_1 zf_NetworkReader_9 zT_1073 rfl (zz_ltn hn rfl) (zz_G.eq G_S0 1073 0 1070 rfl rfl) (by decide) 1070 rfl ?_
  have g1 := zz_G.r G_S0 1070 2 (-1) 1500 rfl rfl
  have g2 := zz_G.r G_S0 1070 3 0 1500 rfl rfl
  refine zz_callVV [] zd_8_11_4 zk_NetworkReader_59 zT_1070 (zz_ltn hn rfl) rfl rfl ⟨Nat.le_of_ble_eq_true rfl, Nat.le_of_ble_eq_true rfl⟩ ⟨rfl, rfl⟩ (Nat.zero_le _) (Nat.zero_le _) (zc_nextToken_11_7  S0 n hn G_S0 ) (fun S3 hP => ?_)
  obtain ⟨G_S3, fS3, o5, o6, o7, o8, o9, o10, o11, o12, o13⟩ := hP
  have F_S3 := zz_fr.trans F_S0 fS3 rfl zz_nv
  refine zz_aload_n (x := 1073) rfl zd_8_11_7 ?_
  refine zz_getr (kd := 0) (z := 1070) zd_8_11_8 zf_NetworkReader_9 zT_1073 rfl (zz_ltn hn rfl) (zz_G.eq G_S3 1073 0 1070 rfl rfl) (by decide) 1070 rfl ?_
  have g14 := zz_G.r G_S3 1070 4 (-2147483648) 2147483647 rfl rfl
  refine zz_geti (z := S3 1070 4) zd_8_11_11 zf_NetworkReader_62 zT_1070 rfl (zz_ltn hn rfl) rfl ?_
  refine zz_iconst zd_8_11_14 ?_
  refine zz_icmp_ne (by omega) (by omega) zd_8_11_15 (fun c15 => ?_) (fun c15 => ?_)
  · refine zz_iconst zd_8_11_52 ?_
    have g16 := zz_G.r G_S0 1073 4 0 1500 rfl rfl
    have e17 : S3 1073 4 = S0 1073 4 := (zz_rc fS3 rfl rfl (fun h => h) rfl)
    have g18 := zz_G.r G_S0 1073 5 (-1500) 1500 rfl rfl
    have e19 : S3 1073 5 = S0 1073 5 := (zz_rc fS3 rfl rfl (fun h => h) rfl)
    have g20 := zz_G.r G_S3 1070 3 0 1500 rfl rfl
    exact zz_zret zd_8_11_53 rfl (by omega) (Nat.zero_le _) (Nat.zero_le _) ⟨_, _, rfl, G_S3, F_S3, by omega, (fun N hN hl1 hl2 => by have k9 := zt_NKs o13; exact Or.inr ⟨rfl, fun h9 => by have h8 := h9.1; omega⟩), by omega, by omega, by omega⟩
  · refine zz_aload_n (x := 1073) rfl zd_8_11_18 ?_
    refine zz_getr (kd := 0) (z := 1070) zd_8_11_19 zf_NetworkReader_9 zT_1073 rfl (zz_ltn hn rfl) (zz_G.eq G_S3 1073 0 1070 rfl rfl) (by decide) 1070 rfl ?_
    have g21 := zz_G.r G_S3 1070 3 0 1500 rfl rfl
    have g22 := zz_G.r G_S3 1070 5 0 1500 rfl rfl
    refine zz_callVI [] zd_8_11_22 zk_NetworkReader_184 zT_1070 (zz_ltn hn rfl) rfl rfl ⟨Nat.le_of_ble_eq_true rfl, Nat.le_of_ble_eq_true rfl⟩ ⟨rfl, rfl⟩ (Nat.zero_le _) (Nat.zero_le _) (zc_tokenSize_11_8  S3 n hn G_S3 ) (fun v24 S23 hP => ?_)
    obtain ⟨rfl, o25, o26⟩ := hP
    refine zz_bipush (by decide) zd_8_11_25 ?_
    refine zz_icmp_gt (by omega) (by omega) zd_8_11_27 (fun c27 => ?_) (fun c27 => ?_)
    · refine zz_iconst zd_8_11_52 ?_
      have g28 := zz_G.r G_S0 1073 4 0 1500 rfl rfl
      have e29 : S3 1073 4 = S0 1073 4 := (zz_rc fS3 rfl rfl (fun h => h) rfl)
      have g30 := zz_G.r G_S0 1073 5 (-1500) 1500 rfl rfl
      have e31 : S3 1073 5 = S0 1073 5 := (zz_rc fS3 rfl rfl (fun h => h) rfl)
      exact zz_zret zd_8_11_53 rfl (by omega) (Nat.zero_le _) (Nat.zero_le _) ⟨_, _, rfl, G_S3, F_S3, by omega, (fun N hN hl1 hl2 => by have k9 := zt_NKs o13; exact Or.inr ⟨rfl, fun h9 => by have h8 := h9.1; omega⟩), by omega, by omega, by omega⟩
    · refine zz_aload_n (x := 1073) rfl zd_8_11_30 ?_
      have g32 := zz_G.r G_S0 1070 1 0 1500 rfl rfl
      have e33 : S3 1070 1 = S0 1070 1 := (zz_rc fS3 rfl rfl (fun h => h) rfl)
      refine zz_callVI [] zd_8_11_31 zk_NetworkReader_128 zT_1073 (zz_ltn hn rfl) rfl rfl ⟨Nat.le_of_ble_eq_true rfl, Nat.le_of_ble_eq_true rfl⟩ ⟨rfl, rfl⟩ (Nat.zero_le _) (Nat.zero_le _) (zc_tensorNamed_8_6  S3 n hn G_S3 ) (fun v35 S34 hP => ?_)
      obtain ⟨rfl, o36, o37⟩ := hP
      rw [show S3 1071 = S0 1071 from funext (fun u => (zz_rc fS3 (zz_nc1 rfl) rfl (fun h => h) rfl)), show S3 1074 = S0 1074 from funext (fun u => (zz_rc fS3 (zz_nc1 rfl) rfl (fun h => h) rfl)), show S3 1075 = S0 1075 from funext (fun u => (zz_rc fS3 (zz_nc1 rfl) rfl (fun h => h) rfl)), show S3 1070 1 = S0 1070 1 from (zz_rc fS3 rfl rfl (fun h => h) rfl)] at o37
      refine zz_iconst zd_8_11_34 ?_
      refine zz_icmp_ne (by omega) (by omega) zd_8_11_35 (fun c38 => ?_) (fun c38 => ?_)
      · refine zz_iconst zd_8_11_52 ?_
        have g39 := zz_G.r G_S0 1073 4 0 1500 rfl rfl
        have e40 : S3 1073 4 = S0 1073 4 := (zz_rc fS3 rfl rfl (fun h => h) rfl)
        have g41 := zz_G.r G_S0 1073 5 (-1500) 1500 rfl rfl
        have e42 : S3 1073 5 = S0 1073 5 := (zz_rc fS3 rfl rfl (fun h => h) rfl)
        exact zz_zret zd_8_11_53 rfl (by omega) (Nat.zero_le _) (Nat.zero_le _) ⟨_, _, rfl, G_S3, F_S3, by omega, (fun N hN hl1 hl2 => by have k9 := zt_NKs o13; have h2 := k9.2.2.mpr ⟨by omega, by omega⟩; have n9 := o37 N _ _ hN o13 (by omega); exact Or.inr ⟨rfl, fun h9 => by have h8 := h9.2.2; omega⟩), by omega, by omega, by omega⟩
      · refine zz_aload_n (x := 1073) rfl zd_8_11_38 ?_
        refine zz_callVI [] zd_8_11_39 zk_NetworkReader_135 zT_1073 (zz_ltn hn rfl) rfl rfl ⟨Nat.le_of_ble_eq_true rfl, Nat.le_of_ble_eq_true rfl⟩ ⟨rfl, rfl⟩ (Nat.zero_le _) (Nat.zero_le _) (zc_optionTold_8_8  S3 n hn G_S3 ) (fun v44 S43 hP => ?_)
        obtain ⟨rfl, o45, o46⟩ := hP
        rw [show S3 1071 = S0 1071 from funext (fun u => (zz_rc fS3 (zz_nc1 rfl) rfl (fun h => h) rfl))] at o46
        refine zz_if_ne (by omega) zd_8_11_42 (fun c47 => ?_) (fun c47 => ?_)
        · refine zz_iconst zd_8_11_52 ?_
          have g48 := zz_G.r G_S0 1073 4 0 1500 rfl rfl
          have e49 : S3 1073 4 = S0 1073 4 := (zz_rc fS3 rfl rfl (fun h => h) rfl)
          have g50 := zz_G.r G_S0 1073 5 (-1500) 1500 rfl rfl
          have e51 : S3 1073 5 = S0 1073 5 := (zz_rc fS3 rfl rfl (fun h => h) rfl)
          exact zz_zret zd_8_11_53 rfl (by omega) (Nat.zero_le _) (Nat.zero_le _) ⟨_, _, rfl, G_S3, F_S3, by omega, (fun N hN hl1 hl2 => by have k9 := zt_NKs o13; have h2 := k9.2.2.mpr ⟨by omega, by omega⟩; have n9 := o37 N _ _ hN o13 (by omega); have p9 := o46 _ _ o13; have b9 := zt_b80 (zt_obb (zt_kn (S0 1071) (S0 1070 2) (S0 1070 3)) (zt_kc (S0 1071) (S0 1070 2) (S0 1070 3))); exact Or.inr ⟨rfl, fun h9 => by have h8 := ((zt_nmx h2).mp h9).2.1; omega⟩), by omega, by omega, by omega⟩
        · refine zz_aload_n (x := 1073) rfl zd_8_11_45 ?_
          refine zz_callVI [] zd_8_11_46 zk_NetworkReader_187 zT_1073 (zz_ltn hn rfl) rfl rfl ⟨Nat.le_of_ble_eq_true rfl, Nat.le_of_ble_eq_true rfl⟩ ⟨rfl, rfl⟩ (Nat.zero_le _) (Nat.zero_le _) (zc_beginsLineOrIsX_8_12  S3 n hn G_S3 ) (fun v53 S52 hP => ?_)
          obtain ⟨rfl, o54, o55⟩ := hP
          rw [show S3 1071 = S0 1071 from funext (fun u => (zz_rc fS3 (zz_nc1 rfl) rfl (fun h => h) rfl))] at o55
          rcases (by omega : v53 = 0 ∨ v53 = 1) with rfl | rfl
          · refine zz_if_eq (by omega) zd_8_11_49 (fun c56 => ?_) (fun c56 => ?_)
            · refine zz_aload_n (x := 1073) rfl zd_8_11_54 ?_
              refine zz_aload_n (x := 1073) rfl zd_8_11_55 ?_
              refine zz_getr (kd := 0) (z := 1070) zd_8_11_56 zf_NetworkReader_9 zT_1073 rfl (zz_ltn hn rfl) (zz_G.eq G_S3 1073 0 1070 rfl rfl) (by decide) 1070 rfl ?_
              refine zz_geti (z := S3 1070 5) zd_8_11_59 zf_NetworkReader_190 zT_1070 rfl (zz_ltn hn rfl) rfl ?_
              refine zz_puti zd_8_11_62 zf_NetworkReader_28 zT_1073 rfl (zz_ltn hn rfl) (fun S57 qS57 => ?_)
              have G_S57 := zz_G.put G_S3 qS57 0 1500 rfl (by omega)
              have F_S57 := zz_fr.puts F_S3 qS57 rfl
              refine zz_aload_n (x := 1073) rfl zd_8_11_65 ?_
              refine zz_aload_n (x := 1073) rfl zd_8_11_66 ?_
              refine zz_getr (kd := 0) (z := 1070) zd_8_11_67 zf_NetworkReader_9 zT_1073 rfl (zz_ltn hn rfl) (zz_G.eq G_S57 1073 0 1070 rfl rfl) (by decide) 1070 rfl ?_
              have e58 : S57 1070 3 = S3 1070 3 := (zz_ro qS57 (fun h => absurd h.1 (by decide)) rfl)
              have e59 : S57 1070 5 = S3 1070 5 := (zz_ro qS57 (fun h => absurd h.1 (by decide)) rfl)
              refine zz_callVI [] zd_8_11_70 zk_NetworkReader_184 zT_1070 (zz_ltn hn rfl) rfl rfl ⟨Nat.le_of_ble_eq_true rfl, Nat.le_of_ble_eq_true rfl⟩ ⟨rfl, rfl⟩ (Nat.zero_le _) (Nat.zero_le _) (zc_tokenSize_11_8  S57 n hn G_S57 ) (fun v61 S60 hP => ?_)
              obtain ⟨rfl, o62, o63⟩ := hP
              refine zz_puti zd_8_11_73 zf_NetworkReader_32 zT_1073 rfl (zz_ltn hn rfl) (fun S64 qS64 => ?_)
              have G_S64 := zz_G.put G_S57 qS64 (-1500) 1500 rfl (by omega)
              have F_S64 := zz_fr.puts F_S57 qS64 rfl
              refine zz_iconst zd_8_11_76 ?_
              have e65 : S64 1073 4 = S3 1070 5 := (zz_ro qS64 (fun h => absurd h.2 (by decide)) (zz_rs qS57))
              have e66 : S64 1073 5 = v61 := (zz_rs qS64)
              have e67 : S64 1070 3 = S3 1070 3 := (zz_ro qS64 (fun h => absurd h.1 (by decide)) (zz_ro qS57 (fun h => absurd h.1 (by decide)) rfl))
              exact zz_zret zd_8_11_77 rfl (by omega) (Nat.zero_le _) (Nat.zero_le _) ⟨_, _, rfl, G_S64, F_S64, by omega, (fun N hN hl1 hl2 => by have k9 := zt_NKs o13; have h2 := k9.2.2.mpr ⟨by omega, by omega⟩; have n9 := o37 N _ _ hN o13 (by omega); have p9 := o46 _ _ o13; have b9 := zt_b80 (zt_obb (zt_kn (S0 1071) (S0 1070 2) (S0 1070 3)) (zt_kc (S0 1071) (S0 1070 2) (S0 1070 3))); have q9 := o55 _ _ o13; refine Or.inl ⟨rfl, (zt_nmx h2).mpr ⟨by omega, by omega, (q9.resolve_left (fun h => absurd h.1 (by decide))).2⟩, ?_⟩; rw [show S64 1073 4 = S3 1070 5 by omega, show S64 1073 5 = S3 1070 3 - S3 1070 5 by omega]; exact zt_N1t o13 (by omega) (by omega) (by omega) (by omega)), by omega, by omega, by omega⟩
            · exfalso; omega
          · refine zz_if_eq (by omega) zd_8_11_49 (fun c68 => ?_) (fun c68 => ?_)
            · exfalso; omega
            · refine zz_iconst zd_8_11_52 ?_
              have g69 := zz_G.r G_S0 1073 4 0 1500 rfl rfl
              have e70 : S3 1073 4 = S0 1073 4 := (zz_rc fS3 rfl rfl (fun h => h) rfl)
              have g71 := zz_G.r G_S0 1073 5 (-1500) 1500 rfl rfl
              have e72 : S3 1073 5 = S0 1073 5 := (zz_rc fS3 rfl rfl (fun h => h) rfl)
              exact zz_zret zd_8_11_53 rfl (by omega) (Nat.zero_le _) (Nat.zero_le _) ⟨_, _, rfl, G_S3, F_S3, by omega, (fun N hN hl1 hl2 => by have k9 := zt_NKs o13; have h2 := k9.2.2.mpr ⟨by omega, by omega⟩; have n9 := o37 N _ _ hN o13 (by omega); have p9 := o46 _ _ o13; have b9 := zt_b80 (zt_obb (zt_kn (S0 1071) (S0 1070 2) (S0 1070 3)) (zt_kc (S0 1071) (S0 1070 2) (S0 1070 3))); have q9 := o55 _ _ o13; exact Or.inr ⟨rfl, fun h9 => ((zt_nmx h2).mp h9).2.2 (q9.resolve_right (fun h => absurd h.1 (by decide))).2⟩), by omega, by omega, by omega⟩
theorem zk_NetworkReader_158 : mm_Vl "TensorForge$NetworkReader" 158 8 0 zy_readName_8_11 := ⟨zyw_readName_8_11, (R_NetworkReader, F_NetworkReader, 9), rfl, mm_tb_1 965 (by decide +kernel) rfl, mm_tb_1 967 (by decide +kernel) rfl, mm_tb_s 47 (by decide +kernel) rfl⟩
theorem zg_8_9_11 : zq_at zy_readOption_8_9.2.1 11 172 := by decide +kernel
theorem zd_8_9_11 : zz_D zy_readOption_8_9 11 (.ireturn) 1 12 := ⟨zq_172 zg_8_9_11, rfl⟩
-- TensorForge$NetworkReader readOption (I)Z
abbrev zr_readOption_8_9 : Room := { frames := 7, cells := 0, slots := 0, locals := 95 }
def zp_readOption_8_9 (p0 : Int) (S0 : zz_S) : Int → zz_S → Prop := fun r S => zz_G S ∧ zz_fr [(1070, 3), (1070, 4), (1070, 5), (1070, 6), (1073, 4), (1073, 5)] [] (fun a i => (a = zz_rf 6 (12 * (S0 1073 1) + S0 (zz_rf 3 (S0 1073 1)) 1) ∧ i = 12) ∨ (a = zz_rf 6 (12 * (S0 1073 1) + S0 (zz_rf 3 (S0 1073 1)) 1) ∧ i = 3) ∨ (a = zz_rf 6 (12 * (S0 1073 1) + S0 (zz_rf 3 (S0 1073 1)) 1) ∧ i = 4) ∨ (a = zz_rf 6 (12 * (S0 1073 1) + S0 (zz_rf 3 (S0 1073 1)) 1) ∧ i = 5) ∨ (a = zz_rf 6 (12 * (S0 1073 1) + S0 (zz_rf 3 (S0 1073 1)) 1) ∧ i = 6) ∨ (a = zz_rf 6 (12 * (S0 1073 1) + S0 (zz_rf 3 (S0 1073 1)) 1) ∧ i = 7) ∨ (a = zz_rf 6 (12 * (S0 1073 1) + S0 (zz_rf 3 (S0 1073 1)) 1) ∧ i = 8) ∨ (a = zz_rf 6 (12 * (S0 1073 1) + S0 (zz_rf 3 (S0 1073 1)) 1) ∧ i = 9)) S0 S ∧ (0 ≤ r ∧ r ≤ 1) ∧ (∀ (N : Nat → Int) (i k : Int) (o : Nat → Int), zt_NM (S0 1071) (S0 1074) (S0 1075) (S0 1070 1) N → S0 1070 2 ≤ S0 1070 1 → S0 1070 3 ≤ S0 1070 2 → 1 ≤ i ∧ i ≤ 8 → p0 = zt_b8 i → zn_DS k S0 (12 * (S0 1073 1) + S0 (zz_rf 3 (S0 1073 1)) 1) (S0 1071) (S0 1070 1) o → (r = 1 ∧ zt_og (zt_kn (S0 1071) (S0 1070 2)) (zt_te (S0 1071) (S0 1070 2)) (zt_kc (S0 1071) (S0 1070 2)) N 11 i (S0 1070 3) ∧ S 1070 3 = zt_oe (zt_te (S0 1071) (S0 1070 2)) i (S0 1070 3) ∧ zn_DS k S (12 * (S0 1073 1) + S0 (zz_rf 3 (S0 1073 1)) 1) (S0 1071) (S0 1070 1) (zt_ou (zt_te (S0 1071) (S0 1070 2)) (zt_tv (S0 1071) (S0 1070 2)) (zt_kc (S0 1071) (S0 1070 2)) i (S0 1070 3) o)) ∨ (r = 0 ∧ ¬ zt_og (zt_kn (S0 1071) (S0 1070 2)) (zt_te (S0 1071) (S0 1070 2)) (zt_kc (S0 1071) (S0 1070 2)) N 11 i (S0 1070 3))) ∧ (S0 1070 3 ≤ S 1070 3) ∧ (S0 1070 3 ≤ S0 1070 2 → S 1070 3 ≤ S0 1070 2)
set_option maxHeartbeats 4000000 in
theorem zc_readOption_8_9 {g : mm_G} {l : Launch} (p0 : Int) (S0 : zz_S) (n : Nat) (hn : zz_end ≤ n) (G_S0 : zz_G S0) (hp0 : (-2147483648) ≤ p0 ∧ p0 ≤ 2147483647) : mm_Met g l zy_readOption_8_9 zr_readOption_8_9 [.ref 1073, zi p0] (zz_M S0 n) n (zz_QI n (zp_readOption_8_9 p0 S0)) := by
  refine zz_enter (by decide) (Nat.le_of_ble_eq_true rfl) (zz_less (ls1 := [some (.ref 1073), some (zi p0)]) ⟨rfl, ⟨rfl, trivial⟩⟩ ?_)
  have F_S0 : zz_fr [(1070, 3), (1070, 4), (1070, 5), (1070, 6), (1073, 4), (1073, 5)] [] (fun a i => (a = zz_rf 6 (12 * (S0 1073 1) + S0 (zz_rf 3 (S0 1073 1)) 1) ∧ i = 12) ∨ (a = zz_rf 6 (12 * (S0 1073 1) + S0 (zz_rf 3 (S0 1073 1)) 1) ∧ i = 3) ∨ (a = zz_rf 6 (12 * (S0 1073 1) + S0 (zz_rf 3 (S0 1073 1)) 1) ∧ i = 4) ∨ (a = zz_rf 6 (12 * (S0 1073 1) + S0 (zz_rf 3 (S0 1073 1)) 1) ∧ i = 5) ∨ (a = zz_rf 6 (12 * (S0 1073 1) + S0 (zz_rf 3 (S0 1073 1)) 1) ∧ i = 6) ∨ (a = zz_rf 6 (12 * (S0 1073 1) + S0 (zz_rf 3 (S0 1073 1)) 1) ∧ i = 7) ∨ (a = zz_rf 6 (12 * (S0 1073 1) + S0 (zz_rf 3 (S0 1073 1)) 1) ∧ i = 8) ∨ (a = zz_rf 6 (12 * (S0 1073 1) + S0 (zz_rf 3 (S0 1073 1)) 1) ∧ i = 9)) S0 S0 := zz_fr.refl
  have gz9 := zz_G.r G_S0 1073 1 0 1 rfl rfl
  have gt9 := zz_G.r G_S0 (zz_rf 3 (S0 1073 1)) 1 1 11 (zR_k3_1 (by omega)) (zB_k3 (by omega))
  refine zz_iload_n (x := p0) rfl zd_8_9_0 ?_
  refine zz_sipush (by decide) zd_8_9_1 ?_
  refine zz_icmp_ne (by omega) (by omega) zd_8_9_4 (fun c1 => ?_) (fun c1 => ?_)
  · refine zz_aload_n (x := 1073) rfl zd_8_9_12 ?_
    have g2 := zz_G.r G_S0 1073 1 0 1 rfl rfl
    refine zz_getr (kd := 1) (z := S0 1073 1) zd_8_9_13 zf_NetworkReader_15 zT_1073 rfl (zz_ltn hn rfl) rfl (by omega) (zz_rf 3 (S0 1073 1)) rfl ?_
    refine zz_callVA [] zd_8_9_16 zk_NetworkReader_121 (zT_k3 (by omega)) (zN_k3 hn (by omega)) rfl rfl ⟨Nat.le_of_ble_eq_true rfl, Nat.le_of_ble_eq_true rfl⟩ ⟨rfl, rfl⟩ (Nat.zero_le _) (Nat.zero_le _) (zc_draft_7_6 (S0 1073 1) S0 n hn G_S0 (by omega)) (fun v4 S3 hP => ?_)
    obtain ⟨rfl, o5, o6⟩ := hP
    subst o5
    refine zz_astore_n [some (.ref 1073), some (zi p0), some (.ref (zz_rf 6 (12 * (S0 1073 1) + S0 (zz_rf 3 (S0 1073 1)) 1)))] zd_8_9_19 (by decide) rfl ?_
    refine zz_iload_n (x := p0) rfl zd_8_9_20 ?_
    refine zz_bipush (by decide) zd_8_9_21 ?_
    refine zz_icmp_ne (by omega) (by omega) zd_8_9_23 (fun c7 => ?_) (fun c7 => ?_)
    · refine zz_aload_n (x := 1073) rfl zd_8_9_33 ?_
      refine zz_getr (kd := 0) (z := 1070) zd_8_9_34 zf_NetworkReader_9 zT_1073 rfl (zz_ltn hn rfl) (zz_G.eq G_S0 1073 0 1070 rfl rfl) (by decide) 1070 rfl ?_
      have g8 := zz_G.r G_S0 1070 2 (-1) 1500 rfl rfl
      have g9 := zz_G.r G_S0 1070 3 0 1500 rfl rfl
      refine zz_callVI [] zd_8_9_37 zk_NetworkReader_91 zT_1070 (zz_ltn hn rfl) rfl rfl ⟨Nat.le_of_ble_eq_true rfl, Nat.le_of_ble_eq_true rfl⟩ ⟨rfl, rfl⟩ (Nat.zero_le _) (Nat.zero_le _) (zc_nextIsNumber_11_11  S0 n hn G_S0 ) (fun v11 S10 hP => ?_)
      obtain ⟨G_S10, fS10, o12, o13, o14, o15, o16, o17, o18, o19, o20, o21, o22⟩ := hP
      have F_S10 := zz_fr.trans F_S0 fS10 rfl zz_nv
      rcases (by omega : v11 = 0 ∨ v11 = 1) with rfl | rfl
      · have ks0_ : S10 1070 4 ≠ 2 := (by omega); have kl0_ := fun (_ : Unit) => o20; clear o21; clear o13 o15 o18 o19 o20
        refine zz_if_ne (by omega) zd_8_9_40 (fun c23 => ?_) (fun c23 => ?_)
        · exfalso; omega
        · refine zz_iconst zd_8_9_43 ?_
          have g24 := zz_G.r G_S10 1070 3 0 1500 rfl rfl
          have g25 := zz_G.r G_S0 1073 4 0 1500 rfl rfl
          have e26 : S10 1073 4 = S0 1073 4 := (zz_rc fS10 rfl rfl (fun h => h) rfl)
          have g27 := zz_G.r G_S0 1073 5 (-1500) 1500 rfl rfl
          have e28 : S10 1073 5 = S0 1073 5 := (zz_rc fS10 rfl rfl (fun h => h) rfl)
          have e29 : S10 (zz_rf 6 (12 * (S0 1073 1) + S0 (zz_rf 3 (S0 1073 1)) 1)) 12 = S0 (zz_rf 6 (12 * (S0 1073 1) + S0 (zz_rf 3 (S0 1073 1)) 1)) 12 := (zz_rc fS10 (zP_k6 (by omega) rfl) (zQ_k6 (by omega) rfl) (fun h => h) rfl)
          have e30 : S10 (zz_rf 6 (12 * (S0 1073 1) + S0 (zz_rf 3 (S0 1073 1)) 1)) 3 = S0 (zz_rf 6 (12 * (S0 1073 1) + S0 (zz_rf 3 (S0 1073 1)) 1)) 3 := (zz_rc fS10 (zP_k6 (by omega) rfl) (zQ_k6 (by omega) rfl) (fun h => h) rfl)
          have e31 : S10 (zz_rf 6 (12 * (S0 1073 1) + S0 (zz_rf 3 (S0 1073 1)) 1)) 4 = S0 (zz_rf 6 (12 * (S0 1073 1) + S0 (zz_rf 3 (S0 1073 1)) 1)) 4 := (zz_rc fS10 (zP_k6 (by omega) rfl) (zQ_k6 (by omega) rfl) (fun h => h) rfl)
          have e32 : S10 (zz_rf 6 (12 * (S0 1073 1) + S0 (zz_rf 3 (S0 1073 1)) 1)) 5 = S0 (zz_rf 6 (12 * (S0 1073 1) + S0 (zz_rf 3 (S0 1073 1)) 1)) 5 := (zz_rc fS10 (zP_k6 (by omega) rfl) (zQ_k6 (by omega) rfl) (fun h => h) rfl)
          have e33 : S10 (zz_rf 6 (12 * (S0 1073 1) + S0 (zz_rf 3 (S0 1073 1)) 1)) 6 = S0 (zz_rf 6 (12 * (S0 1073 1) + S0 (zz_rf 3 (S0 1073 1)) 1)) 6 := (zz_rc fS10 (zP_k6 (by omega) rfl) (zQ_k6 (by omega) rfl) (fun h => h) rfl)
          have e34 : S10 (zz_rf 6 (12 * (S0 1073 1) + S0 (zz_rf 3 (S0 1073 1)) 1)) 7 = S0 (zz_rf 6 (12 * (S0 1073 1) + S0 (zz_rf 3 (S0 1073 1)) 1)) 7 := (zz_rc fS10 (zP_k6 (by omega) rfl) (zQ_k6 (by omega) rfl) (fun h => h) rfl)
          have e35 : S10 (zz_rf 6 (12 * (S0 1073 1) + S0 (zz_rf 3 (S0 1073 1)) 1)) 8 = S0 (zz_rf 6 (12 * (S0 1073 1) + S0 (zz_rf 3 (S0 1073 1)) 1)) 8 := (zz_rc fS10 (zP_k6 (by omega) rfl) (zQ_k6 (by omega) rfl) (fun h => h) rfl)
          have e36 : S10 (zz_rf 6 (12 * (S0 1073 1) + S0 (zz_rf 3 (S0 1073 1)) 1)) 9 = S0 (zz_rf 6 (12 * (S0 1073 1) + S0 (zz_rf 3 (S0 1073 1)) 1)) 9 := (zz_rc fS10 (zP_k6 (by omega) rfl) (zQ_k6 (by omega) rfl) (fun h => h) rfl)
          exact zz_zret zd_8_9_44 rfl (by omega) (Nat.zero_le _) (Nat.zero_le _) ⟨_, _, rfl, G_S10, F_S10, by omega, (fun N i k o hN hl1 hl2 hi hb hD => by obtain ⟨hd, d9⟩ := hD; have n7 : i ≠ 7 := (fun q => absurd ((zt_b8j hi).2.2.2.2.2.2.1.mpr q) (by omega)); have n8 : i ≠ 8 := (fun q => absurd ((zt_b8j hi).2.2.2.2.2.2.2.mpr q) (by omega)); exact Or.inr ⟨rfl, fun h => by rcases (by omega : i = 1 ∨ (2 ≤ i ∧ i ≤ 6)) with q | q; exact absurd ((zt_NKs o22).2.1.mp ((zt_og1 q).mp h).1) ks0_; exact absurd ((zt_NKs o22).2.1.mp ((zt_ogk q).mp h)) ks0_⟩), by omega, (fun h9 => by have z9 := kl0_ () h9; omega)⟩
      · have ks0_ : S10 1070 4 = 2 := (by omega); have kv0_ := o15 ks0_; have kr0_ := o19 ks0_; have kl0_ := fun (_ : Unit) => o20; clear o21; clear o13 o15 o18 o19 o20
        refine zz_if_ne (by omega) zd_8_9_40 (fun c37 => ?_) (fun c37 => ?_)
        · refine zz_iload_n (x := p0) rfl zd_8_9_45 ?_
          by_cases c38 : p0 = 2
          · refine zz_lsw (off := 50) (by omega) zd_8_9_46 (by decide) (by rw [c38]; rfl) rfl ?_
            refine zz_aload_n (x := zz_rf 6 (12 * (S0 1073 1) + S0 (zz_rf 3 (S0 1073 1)) 1)) rfl zd_8_9_96 ?_
            refine zz_aload_n (x := 1073) rfl zd_8_9_97 ?_
            refine zz_getr (kd := 0) (z := 1070) zd_8_9_98 zf_NetworkReader_9 zT_1073 rfl (zz_ltn hn rfl) (zz_G.eq G_S10 1073 0 1070 rfl rfl) (by decide) 1070 rfl ?_
            have g39 := zz_G.r G_S10 1070 6 (-2147483648) 2147483647 rfl rfl
            refine zz_geti (z := S10 1070 6) zd_8_9_101 zf_NetworkReader_94 zT_1070 rfl (zz_ltn hn rfl) rfl ?_
            refine zz_puti zd_8_9_104 zf_NetworkReader_164 (zT_k6 (by omega)) rfl (zN_k6 hn (by omega)) (fun S40 qS40 => ?_)
            have G_S40 := zz_G.put G_S10 qS40 (-2147483648) 2147483647 (zR_k6_12 (by omega)) (by omega)
            have F_S40 := zz_fr.putv F_S10 qS40 (Or.inl ⟨rfl, rfl⟩)
            refine zz_iconst zd_8_9_107 ?_
            have g41 := zz_G.r G_S10 1070 3 0 1500 rfl rfl
            have e42 : S40 1070 3 = S10 1070 3 := (zz_ro qS40 (fun h => absurd h.2 (by decide)) rfl)
            have g43 := zz_G.r G_S0 1073 4 0 1500 rfl rfl
            have e44 : S40 1073 4 = S0 1073 4 := (zz_ro qS40 (fun h => absurd h.2 (by decide)) (zz_rc fS10 rfl rfl (fun h => h) rfl))
            have g45 := zz_G.r G_S0 1073 5 (-1500) 1500 rfl rfl
            have e46 : S40 1073 5 = S0 1073 5 := (zz_ro qS40 (fun h => absurd h.2 (by decide)) (zz_rc fS10 rfl rfl (fun h => h) rfl))
            have e47 : S40 (zz_rf 6 (12 * (S0 1073 1) + S0 (zz_rf 3 (S0 1073 1)) 1)) 12 = S10 1070 6 := (zz_rs qS40)
            have e48 : S40 (zz_rf 6 (12 * (S0 1073 1) + S0 (zz_rf 3 (S0 1073 1)) 1)) 3 = S0 (zz_rf 6 (12 * (S0 1073 1) + S0 (zz_rf 3 (S0 1073 1)) 1)) 3 := (zz_ro qS40 (fun h => absurd h.2 (by decide)) (zz_rc fS10 (zP_k6 (by omega) rfl) (zQ_k6 (by omega) rfl) (fun h => h) rfl))
            have e49 : S40 (zz_rf 6 (12 * (S0 1073 1) + S0 (zz_rf 3 (S0 1073 1)) 1)) 4 = S0 (zz_rf 6 (12 * (S0 1073 1) + S0 (zz_rf 3 (S0 1073 1)) 1)) 4 := (zz_ro qS40 (fun h => absurd h.2 (by decide)) (zz_rc fS10 (zP_k6 (by omega) rfl) (zQ_k6 (by omega) rfl) (fun h => h) rfl))
            have e50 : S40 (zz_rf 6 (12 * (S0 1073 1) + S0 (zz_rf 3 (S0 1073 1)) 1)) 5 = S0 (zz_rf 6 (12 * (S0 1073 1) + S0 (zz_rf 3 (S0 1073 1)) 1)) 5 := (zz_ro qS40 (fun h => absurd h.2 (by decide)) (zz_rc fS10 (zP_k6 (by omega) rfl) (zQ_k6 (by omega) rfl) (fun h => h) rfl))
            have e51 : S40 (zz_rf 6 (12 * (S0 1073 1) + S0 (zz_rf 3 (S0 1073 1)) 1)) 6 = S0 (zz_rf 6 (12 * (S0 1073 1) + S0 (zz_rf 3 (S0 1073 1)) 1)) 6 := (zz_ro qS40 (fun h => absurd h.2 (by decide)) (zz_rc fS10 (zP_k6 (by omega) rfl) (zQ_k6 (by omega) rfl) (fun h => h) rfl))
            have e52 : S40 (zz_rf 6 (12 * (S0 1073 1) + S0 (zz_rf 3 (S0 1073 1)) 1)) 7 = S0 (zz_rf 6 (12 * (S0 1073 1) + S0 (zz_rf 3 (S0 1073 1)) 1)) 7 := (zz_ro qS40 (fun h => absurd h.2 (by decide)) (zz_rc fS10 (zP_k6 (by omega) rfl) (zQ_k6 (by omega) rfl) (fun h => h) rfl))
            have e53 : S40 (zz_rf 6 (12 * (S0 1073 1) + S0 (zz_rf 3 (S0 1073 1)) 1)) 8 = S0 (zz_rf 6 (12 * (S0 1073 1) + S0 (zz_rf 3 (S0 1073 1)) 1)) 8 := (zz_ro qS40 (fun h => absurd h.2 (by decide)) (zz_rc fS10 (zP_k6 (by omega) rfl) (zQ_k6 (by omega) rfl) (fun h => h) rfl))
            have e54 : S40 (zz_rf 6 (12 * (S0 1073 1) + S0 (zz_rf 3 (S0 1073 1)) 1)) 9 = S0 (zz_rf 6 (12 * (S0 1073 1) + S0 (zz_rf 3 (S0 1073 1)) 1)) 9 := (zz_ro qS40 (fun h => absurd h.2 (by decide)) (zz_rc fS10 (zP_k6 (by omega) rfl) (zQ_k6 (by omega) rfl) (fun h => h) rfl))
            exact zz_zret zd_8_9_108 rfl (by omega) (Nat.zero_le _) (Nat.zero_le _) ⟨_, _, rfl, G_S40, F_S40, by omega, (fun N i k o hN hl1 hl2 hi hb hD => by obtain ⟨hd, d9⟩ := hD; obtain rfl : i = 2 := (zt_b8j hi).2.1.mp (hb.symm.trans (by omega)); clear hb; exact Or.inl ⟨rfl, (zt_ogk (by decide)).mpr ((zt_NKs o22).2.1.mpr ks0_), by show S40 1070 3 = zt_te (S0 1071) (S0 1070 2) (S0 1070 3); omega, ⟨fun hk => by obtain ⟨d1, d2, d3, d4, d5, d6, d7, d8⟩ := hd hk; exact ⟨(show S40 (zz_rf 6 (12 * (S0 1073 1) + S0 (zz_rf 3 (S0 1073 1)) 1)) 3 = o 1 by omega), (show S40 (zz_rf 6 (12 * (S0 1073 1) + S0 (zz_rf 3 (S0 1073 1)) 1)) 4 = o 2 by omega), (show S40 (zz_rf 6 (12 * (S0 1073 1) + S0 (zz_rf 3 (S0 1073 1)) 1)) 12 = zt_tv (S0 1071) (S0 1070 2) (S0 1070 3) by omega), (show S40 (zz_rf 6 (12 * (S0 1073 1) + S0 (zz_rf 3 (S0 1073 1)) 1)) 9 = o 4 by omega), (show S40 (zz_rf 6 (12 * (S0 1073 1) + S0 (zz_rf 3 (S0 1073 1)) 1)) 5 = o 5 by omega), (show S40 (zz_rf 6 (12 * (S0 1073 1) + S0 (zz_rf 3 (S0 1073 1)) 1)) 6 = o 6 by omega), (show S40 (zz_rf 6 (12 * (S0 1073 1) + S0 (zz_rf 3 (S0 1073 1)) 1)) 7 = o 7 by omega), (show S40 (zz_rf 6 (12 * (S0 1073 1) + S0 (zz_rf 3 (S0 1073 1)) 1)) 8 = o 8 by omega)⟩, (show zt_N1 (S0 1071) (S0 1070 1) (S40 1073 4) (S40 1073 5) (o 9) by rw [show S40 1073 4 = S0 1073 4 by omega, show S40 1073 5 = S0 1073 5 by omega]; exact d9)⟩⟩), by omega, (fun h9 => by have z9 := kl0_ () h9; omega)⟩
          by_cases c55 : p0 = 4
          · refine zz_lsw (off := 63) (by omega) zd_8_9_46 (by decide) (by rw [c55]; rfl) rfl ?_
            refine zz_aload_n (x := zz_rf 6 (12 * (S0 1073 1) + S0 (zz_rf 3 (S0 1073 1)) 1)) rfl zd_8_9_109 ?_
            refine zz_aload_n (x := 1073) rfl zd_8_9_110 ?_
            refine zz_getr (kd := 0) (z := 1070) zd_8_9_111 zf_NetworkReader_9 zT_1073 rfl (zz_ltn hn rfl) (zz_G.eq G_S10 1073 0 1070 rfl rfl) (by decide) 1070 rfl ?_
            have g56 := zz_G.r G_S10 1070 6 (-2147483648) 2147483647 rfl rfl
            refine zz_geti (z := S10 1070 6) zd_8_9_114 zf_NetworkReader_94 zT_1070 rfl (zz_ltn hn rfl) rfl ?_
            refine zz_puti zd_8_9_117 zf_NetworkReader_167 (zT_k6 (by omega)) rfl (zN_k6 hn (by omega)) (fun S57 qS57 => ?_)
            have G_S57 := zz_G.put G_S10 qS57 (-2147483648) 2147483647 (zR_k6_9 (by omega)) (by omega)
            have F_S57 := zz_fr.putv F_S10 qS57 (Or.inr (Or.inr (Or.inr (Or.inr (Or.inr (Or.inr (Or.inr (⟨rfl, rfl⟩))))))))
            refine zz_iconst zd_8_9_120 ?_
            have g58 := zz_G.r G_S10 1070 3 0 1500 rfl rfl
            have e59 : S57 1070 3 = S10 1070 3 := (zz_ro qS57 (fun h => absurd h.2 (by decide)) rfl)
            have g60 := zz_G.r G_S0 1073 4 0 1500 rfl rfl
            have e61 : S57 1073 4 = S0 1073 4 := (zz_ro qS57 (fun h => absurd h.2 (by decide)) (zz_rc fS10 rfl rfl (fun h => h) rfl))
            have g62 := zz_G.r G_S0 1073 5 (-1500) 1500 rfl rfl
            have e63 : S57 1073 5 = S0 1073 5 := (zz_ro qS57 (fun h => absurd h.2 (by decide)) (zz_rc fS10 rfl rfl (fun h => h) rfl))
            have e64 : S57 (zz_rf 6 (12 * (S0 1073 1) + S0 (zz_rf 3 (S0 1073 1)) 1)) 12 = S0 (zz_rf 6 (12 * (S0 1073 1) + S0 (zz_rf 3 (S0 1073 1)) 1)) 12 := (zz_ro qS57 (fun h => absurd h.2 (by decide)) (zz_rc fS10 (zP_k6 (by omega) rfl) (zQ_k6 (by omega) rfl) (fun h => h) rfl))
            have e65 : S57 (zz_rf 6 (12 * (S0 1073 1) + S0 (zz_rf 3 (S0 1073 1)) 1)) 3 = S0 (zz_rf 6 (12 * (S0 1073 1) + S0 (zz_rf 3 (S0 1073 1)) 1)) 3 := (zz_ro qS57 (fun h => absurd h.2 (by decide)) (zz_rc fS10 (zP_k6 (by omega) rfl) (zQ_k6 (by omega) rfl) (fun h => h) rfl))
            have e66 : S57 (zz_rf 6 (12 * (S0 1073 1) + S0 (zz_rf 3 (S0 1073 1)) 1)) 4 = S0 (zz_rf 6 (12 * (S0 1073 1) + S0 (zz_rf 3 (S0 1073 1)) 1)) 4 := (zz_ro qS57 (fun h => absurd h.2 (by decide)) (zz_rc fS10 (zP_k6 (by omega) rfl) (zQ_k6 (by omega) rfl) (fun h => h) rfl))
            have e67 : S57 (zz_rf 6 (12 * (S0 1073 1) + S0 (zz_rf 3 (S0 1073 1)) 1)) 5 = S0 (zz_rf 6 (12 * (S0 1073 1) + S0 (zz_rf 3 (S0 1073 1)) 1)) 5 := (zz_ro qS57 (fun h => absurd h.2 (by decide)) (zz_rc fS10 (zP_k6 (by omega) rfl) (zQ_k6 (by omega) rfl) (fun h => h) rfl))
            have e68 : S57 (zz_rf 6 (12 * (S0 1073 1) + S0 (zz_rf 3 (S0 1073 1)) 1)) 6 = S0 (zz_rf 6 (12 * (S0 1073 1) + S0 (zz_rf 3 (S0 1073 1)) 1)) 6 := (zz_ro qS57 (fun h => absurd h.2 (by decide)) (zz_rc fS10 (zP_k6 (by omega) rfl) (zQ_k6 (by omega) rfl) (fun h => h) rfl))
            have e69 : S57 (zz_rf 6 (12 * (S0 1073 1) + S0 (zz_rf 3 (S0 1073 1)) 1)) 7 = S0 (zz_rf 6 (12 * (S0 1073 1) + S0 (zz_rf 3 (S0 1073 1)) 1)) 7 := (zz_ro qS57 (fun h => absurd h.2 (by decide)) (zz_rc fS10 (zP_k6 (by omega) rfl) (zQ_k6 (by omega) rfl) (fun h => h) rfl))
            have e70 : S57 (zz_rf 6 (12 * (S0 1073 1) + S0 (zz_rf 3 (S0 1073 1)) 1)) 8 = S0 (zz_rf 6 (12 * (S0 1073 1) + S0 (zz_rf 3 (S0 1073 1)) 1)) 8 := (zz_ro qS57 (fun h => absurd h.2 (by decide)) (zz_rc fS10 (zP_k6 (by omega) rfl) (zQ_k6 (by omega) rfl) (fun h => h) rfl))
            have e71 : S57 (zz_rf 6 (12 * (S0 1073 1) + S0 (zz_rf 3 (S0 1073 1)) 1)) 9 = S10 1070 6 := (zz_rs qS57)
            exact zz_zret zd_8_9_121 rfl (by omega) (Nat.zero_le _) (Nat.zero_le _) ⟨_, _, rfl, G_S57, F_S57, by omega, (fun N i k o hN hl1 hl2 hi hb hD => by obtain ⟨hd, d9⟩ := hD; obtain rfl : i = 3 := (zt_b8j hi).2.2.1.mp (hb.symm.trans (by omega)); clear hb; exact Or.inl ⟨rfl, (zt_ogk (by decide)).mpr ((zt_NKs o22).2.1.mpr ks0_), by show S57 1070 3 = zt_te (S0 1071) (S0 1070 2) (S0 1070 3); omega, ⟨fun hk => by obtain ⟨d1, d2, d3, d4, d5, d6, d7, d8⟩ := hd hk; exact ⟨(show S57 (zz_rf 6 (12 * (S0 1073 1) + S0 (zz_rf 3 (S0 1073 1)) 1)) 3 = o 1 by omega), (show S57 (zz_rf 6 (12 * (S0 1073 1) + S0 (zz_rf 3 (S0 1073 1)) 1)) 4 = o 2 by omega), (show S57 (zz_rf 6 (12 * (S0 1073 1) + S0 (zz_rf 3 (S0 1073 1)) 1)) 12 = o 3 by omega), (show S57 (zz_rf 6 (12 * (S0 1073 1) + S0 (zz_rf 3 (S0 1073 1)) 1)) 9 = zt_tv (S0 1071) (S0 1070 2) (S0 1070 3) by omega), (show S57 (zz_rf 6 (12 * (S0 1073 1) + S0 (zz_rf 3 (S0 1073 1)) 1)) 5 = o 5 by omega), (show S57 (zz_rf 6 (12 * (S0 1073 1) + S0 (zz_rf 3 (S0 1073 1)) 1)) 6 = o 6 by omega), (show S57 (zz_rf 6 (12 * (S0 1073 1) + S0 (zz_rf 3 (S0 1073 1)) 1)) 7 = o 7 by omega), (show S57 (zz_rf 6 (12 * (S0 1073 1) + S0 (zz_rf 3 (S0 1073 1)) 1)) 8 = o 8 by omega)⟩, (show zt_N1 (S0 1071) (S0 1070 1) (S57 1073 4) (S57 1073 5) (o 9) by rw [show S57 1073 4 = S0 1073 4 by omega, show S57 1073 5 = S0 1073 5 by omega]; exact d9)⟩⟩), by omega, (fun h9 => by have z9 := kl0_ () h9; omega)⟩
          by_cases c72 : p0 = 8
          · refine zz_lsw (off := 76) (by omega) zd_8_9_46 (by decide) (by rw [c72]; rfl) rfl ?_
            refine zz_aload_n (x := zz_rf 6 (12 * (S0 1073 1) + S0 (zz_rf 3 (S0 1073 1)) 1)) rfl zd_8_9_122 ?_
            refine zz_aload_n (x := 1073) rfl zd_8_9_123 ?_
            refine zz_getr (kd := 0) (z := 1070) zd_8_9_124 zf_NetworkReader_9 zT_1073 rfl (zz_ltn hn rfl) (zz_G.eq G_S10 1073 0 1070 rfl rfl) (by decide) 1070 rfl ?_
            have g73 := zz_G.r G_S10 1070 6 (-2147483648) 2147483647 rfl rfl
            refine zz_geti (z := S10 1070 6) zd_8_9_127 zf_NetworkReader_94 zT_1070 rfl (zz_ltn hn rfl) rfl ?_
            refine zz_puti zd_8_9_130 zf_NetworkReader_170 (zT_k6 (by omega)) rfl (zN_k6 hn (by omega)) (fun S74 qS74 => ?_)
            have G_S74 := zz_G.put G_S10 qS74 (-2147483648) 2147483647 (zR_k6_5 (by omega)) (by omega)
            have F_S74 := zz_fr.putv F_S10 qS74 (Or.inr (Or.inr (Or.inr (Or.inl ⟨rfl, rfl⟩))))
            refine zz_iconst zd_8_9_133 ?_
            have g75 := zz_G.r G_S10 1070 3 0 1500 rfl rfl
            have e76 : S74 1070 3 = S10 1070 3 := (zz_ro qS74 (fun h => absurd h.2 (by decide)) rfl)
            have g77 := zz_G.r G_S0 1073 4 0 1500 rfl rfl
            have e78 : S74 1073 4 = S0 1073 4 := (zz_ro qS74 (fun h => absurd h.2 (by decide)) (zz_rc fS10 rfl rfl (fun h => h) rfl))
            have g79 := zz_G.r G_S0 1073 5 (-1500) 1500 rfl rfl
            have e80 : S74 1073 5 = S0 1073 5 := (zz_ro qS74 (fun h => absurd h.1 (by have := zz_rf6 (z := 12 * (S0 1073 1) + S0 (zz_rf 3 (S0 1073 1)) 1) (by omega); omega)) (zz_rc fS10 rfl rfl (fun h => h) rfl))
            have e81 : S74 (zz_rf 6 (12 * (S0 1073 1) + S0 (zz_rf 3 (S0 1073 1)) 1)) 12 = S0 (zz_rf 6 (12 * (S0 1073 1) + S0 (zz_rf 3 (S0 1073 1)) 1)) 12 := (zz_ro qS74 (fun h => absurd h.2 (by decide)) (zz_rc fS10 (zP_k6 (by omega) rfl) (zQ_k6 (by omega) rfl) (fun h => h) rfl))
            have e82 : S74 (zz_rf 6 (12 * (S0 1073 1) + S0 (zz_rf 3 (S0 1073 1)) 1)) 3 = S0 (zz_rf 6 (12 * (S0 1073 1) + S0 (zz_rf 3 (S0 1073 1)) 1)) 3 := (zz_ro qS74 (fun h => absurd h.2 (by decide)) (zz_rc fS10 (zP_k6 (by omega) rfl) (zQ_k6 (by omega) rfl) (fun h => h) rfl))
            have e83 : S74 (zz_rf 6 (12 * (S0 1073 1) + S0 (zz_rf 3 (S0 1073 1)) 1)) 4 = S0 (zz_rf 6 (12 * (S0 1073 1) + S0 (zz_rf 3 (S0 1073 1)) 1)) 4 := (zz_ro qS74 (fun h => absurd h.2 (by decide)) (zz_rc fS10 (zP_k6 (by omega) rfl) (zQ_k6 (by omega) rfl) (fun h => h) rfl))
            have e84 : S74 (zz_rf 6 (12 * (S0 1073 1) + S0 (zz_rf 3 (S0 1073 1)) 1)) 5 = S10 1070 6 := (zz_rs qS74)
            have e85 : S74 (zz_rf 6 (12 * (S0 1073 1) + S0 (zz_rf 3 (S0 1073 1)) 1)) 6 = S0 (zz_rf 6 (12 * (S0 1073 1) + S0 (zz_rf 3 (S0 1073 1)) 1)) 6 := (zz_ro qS74 (fun h => absurd h.2 (by decide)) (zz_rc fS10 (zP_k6 (by omega) rfl) (zQ_k6 (by omega) rfl) (fun h => h) rfl))
            have e86 : S74 (zz_rf 6 (12 * (S0 1073 1) + S0 (zz_rf 3 (S0 1073 1)) 1)) 7 = S0 (zz_rf 6 (12 * (S0 1073 1) + S0 (zz_rf 3 (S0 1073 1)) 1)) 7 := (zz_ro qS74 (fun h => absurd h.2 (by decide)) (zz_rc fS10 (zP_k6 (by omega) rfl) (zQ_k6 (by omega) rfl) (fun h => h) rfl))
            have e87 : S74 (zz_rf 6 (12 * (S0 1073 1) + S0 (zz_rf 3 (S0 1073 1)) 1)) 8 = S0 (zz_rf 6 (12 * (S0 1073 1) + S0 (zz_rf 3 (S0 1073 1)) 1)) 8 := (zz_ro qS74 (fun h => absurd h.2 (by decide)) (zz_rc fS10 (zP_k6 (by omega) rfl) (zQ_k6 (by omega) rfl) (fun h => h) rfl))
            have e88 : S74 (zz_rf 6 (12 * (S0 1073 1) + S0 (zz_rf 3 (S0 1073 1)) 1)) 9 = S0 (zz_rf 6 (12 * (S0 1073 1) + S0 (zz_rf 3 (S0 1073 1)) 1)) 9 := (zz_ro qS74 (fun h => absurd h.2 (by decide)) (zz_rc fS10 (zP_k6 (by omega) rfl) (zQ_k6 (by omega) rfl) (fun h => h) rfl))
            exact zz_zret zd_8_9_134 rfl (by omega) (Nat.zero_le _) (Nat.zero_le _) ⟨_, _, rfl, G_S74, F_S74, by omega, (fun N i k o hN hl1 hl2 hi hb hD => by obtain ⟨hd, d9⟩ := hD; obtain rfl : i = 4 := (zt_b8j hi).2.2.2.1.mp (hb.symm.trans (by omega)); clear hb; exact Or.inl ⟨rfl, (zt_ogk (by decide)).mpr ((zt_NKs o22).2.1.mpr ks0_), by show S74 1070 3 = zt_te (S0 1071) (S0 1070 2) (S0 1070 3); omega, ⟨fun hk => by obtain ⟨d1, d2, d3, d4, d5, d6, d7, d8⟩ := hd hk; exact ⟨(show S74 (zz_rf 6 (12 * (S0 1073 1) + S0 (zz_rf 3 (S0 1073 1)) 1)) 3 = o 1 by omega), (show S74 (zz_rf 6 (12 * (S0 1073 1) + S0 (zz_rf 3 (S0 1073 1)) 1)) 4 = o 2 by omega), (show S74 (zz_rf 6 (12 * (S0 1073 1) + S0 (zz_rf 3 (S0 1073 1)) 1)) 12 = o 3 by omega), (show S74 (zz_rf 6 (12 * (S0 1073 1) + S0 (zz_rf 3 (S0 1073 1)) 1)) 9 = o 4 by omega), (show S74 (zz_rf 6 (12 * (S0 1073 1) + S0 (zz_rf 3 (S0 1073 1)) 1)) 5 = zt_tv (S0 1071) (S0 1070 2) (S0 1070 3) by omega), (show S74 (zz_rf 6 (12 * (S0 1073 1) + S0 (zz_rf 3 (S0 1073 1)) 1)) 6 = o 6 by omega), (show S74 (zz_rf 6 (12 * (S0 1073 1) + S0 (zz_rf 3 (S0 1073 1)) 1)) 7 = o 7 by omega), (show S74 (zz_rf 6 (12 * (S0 1073 1) + S0 (zz_rf 3 (S0 1073 1)) 1)) 8 = o 8 by omega)⟩, (show zt_N1 (S0 1071) (S0 1070 1) (S74 1073 4) (S74 1073 5) (o 9) by rw [show S74 1073 4 = S0 1073 4 by omega, show S74 1073 5 = S0 1073 5 by omega]; exact d9)⟩⟩), by omega, (fun h9 => by have z9 := kl0_ () h9; omega)⟩
          by_cases c89 : p0 = 16
          · refine zz_lsw (off := 89) (by omega) zd_8_9_46 (by decide) (by rw [c89]; rfl) rfl ?_
            refine zz_aload_n (x := zz_rf 6 (12 * (S0 1073 1) + S0 (zz_rf 3 (S0 1073 1)) 1)) rfl zd_8_9_135 ?_
            refine zz_aload_n (x := 1073) rfl zd_8_9_136 ?_
            refine zz_getr (kd := 0) (z := 1070) zd_8_9_137 zf_NetworkReader_9 zT_1073 rfl (zz_ltn hn rfl) (zz_G.eq G_S10 1073 0 1070 rfl rfl) (by decide) 1070 rfl ?_
            have g90 := zz_G.r G_S10 1070 6 (-2147483648) 2147483647 rfl rfl
            refine zz_geti (z := S10 1070 6) zd_8_9_140 zf_NetworkReader_94 zT_1070 rfl (zz_ltn hn rfl) rfl ?_
            refine zz_puti zd_8_9_143 zf_NetworkReader_172 (zT_k6 (by omega)) rfl (zN_k6 hn (by omega)) (fun S91 qS91 => ?_)
            have G_S91 := zz_G.put G_S10 qS91 (-2147483648) 2147483647 (zR_k6_6 (by omega)) (by omega)
            have F_S91 := zz_fr.putv F_S10 qS91 (Or.inr (Or.inr (Or.inr (Or.inr (Or.inl ⟨rfl, rfl⟩)))))
            refine zz_iconst zd_8_9_146 ?_
            have g92 := zz_G.r G_S10 1070 3 0 1500 rfl rfl
            have e93 : S91 1070 3 = S10 1070 3 := (zz_ro qS91 (fun h => absurd h.2 (by decide)) rfl)
            have g94 := zz_G.r G_S0 1073 4 0 1500 rfl rfl
            have e95 : S91 1073 4 = S0 1073 4 := (zz_ro qS91 (fun h => absurd h.2 (by decide)) (zz_rc fS10 rfl rfl (fun h => h) rfl))
            have g96 := zz_G.r G_S0 1073 5 (-1500) 1500 rfl rfl
            have e97 : S91 1073 5 = S0 1073 5 := (zz_ro qS91 (fun h => absurd h.2 (by decide)) (zz_rc fS10 rfl rfl (fun h => h) rfl))
            have e98 : S91 (zz_rf 6 (12 * (S0 1073 1) + S0 (zz_rf 3 (S0 1073 1)) 1)) 12 = S0 (zz_rf 6 (12 * (S0 1073 1) + S0 (zz_rf 3 (S0 1073 1)) 1)) 12 := (zz_ro qS91 (fun h => absurd h.2 (by decide)) (zz_rc fS10 (zP_k6 (by omega) rfl) (zQ_k6 (by omega) rfl) (fun h => h) rfl))
            have e99 : S91 (zz_rf 6 (12 * (S0 1073 1) + S0 (zz_rf 3 (S0 1073 1)) 1)) 3 = S0 (zz_rf 6 (12 * (S0 1073 1) + S0 (zz_rf 3 (S0 1073 1)) 1)) 3 := (zz_ro qS91 (fun h => absurd h.2 (by decide)) (zz_rc fS10 (zP_k6 (by omega) rfl) (zQ_k6 (by omega) rfl) (fun h => h) rfl))
            have e100 : S91 (zz_rf 6 (12 * (S0 1073 1) + S0 (zz_rf 3 (S0 1073 1)) 1)) 4 = S0 (zz_rf 6 (12 * (S0 1073 1) + S0 (zz_rf 3 (S0 1073 1)) 1)) 4 := (zz_ro qS91 (fun h => absurd h.2 (by decide)) (zz_rc fS10 (zP_k6 (by omega) rfl) (zQ_k6 (by omega) rfl) (fun h => h) rfl))
            have e101 : S91 (zz_rf 6 (12 * (S0 1073 1) + S0 (zz_rf 3 (S0 1073 1)) 1)) 5 = S0 (zz_rf 6 (12 * (S0 1073 1) + S0 (zz_rf 3 (S0 1073 1)) 1)) 5 := (zz_ro qS91 (fun h => absurd h.2 (by decide)) (zz_rc fS10 (zP_k6 (by omega) rfl) (zQ_k6 (by omega) rfl) (fun h => h) rfl))
            have e102 : S91 (zz_rf 6 (12 * (S0 1073 1) + S0 (zz_rf 3 (S0 1073 1)) 1)) 6 = S10 1070 6 := (zz_rs qS91)
            have e103 : S91 (zz_rf 6 (12 * (S0 1073 1) + S0 (zz_rf 3 (S0 1073 1)) 1)) 7 = S0 (zz_rf 6 (12 * (S0 1073 1) + S0 (zz_rf 3 (S0 1073 1)) 1)) 7 := (zz_ro qS91 (fun h => absurd h.2 (by decide)) (zz_rc fS10 (zP_k6 (by omega) rfl) (zQ_k6 (by omega) rfl) (fun h => h) rfl))
            have e104 : S91 (zz_rf 6 (12 * (S0 1073 1) + S0 (zz_rf 3 (S0 1073 1)) 1)) 8 = S0 (zz_rf 6 (12 * (S0 1073 1) + S0 (zz_rf 3 (S0 1073 1)) 1)) 8 := (zz_ro qS91 (fun h => absurd h.2 (by decide)) (zz_rc fS10 (zP_k6 (by omega) rfl) (zQ_k6 (by omega) rfl) (fun h => h) rfl))
            have e105 : S91 (zz_rf 6 (12 * (S0 1073 1) + S0 (zz_rf 3 (S0 1073 1)) 1)) 9 = S0 (zz_rf 6 (12 * (S0 1073 1) + S0 (zz_rf 3 (S0 1073 1)) 1)) 9 := (zz_ro qS91 (fun h => absurd h.2 (by decide)) (zz_rc fS10 (zP_k6 (by omega) rfl) (zQ_k6 (by omega) rfl) (fun h => h) rfl))
            exact zz_zret zd_8_9_147 rfl (by omega) (Nat.zero_le _) (Nat.zero_le _) ⟨_, _, rfl, G_S91, F_S91, by omega, (fun N i k o hN hl1 hl2 hi hb hD => by obtain ⟨hd, d9⟩ := hD; obtain rfl : i = 5 := (zt_b8j hi).2.2.2.2.1.mp (hb.symm.trans (by omega)); clear hb; exact Or.inl ⟨rfl, (zt_ogk (by decide)).mpr ((zt_NKs o22).2.1.mpr ks0_), by show S91 1070 3 = zt_te (S0 1071) (S0 1070 2) (S0 1070 3); omega, ⟨fun hk => by obtain ⟨d1, d2, d3, d4, d5, d6, d7, d8⟩ := hd hk; exact ⟨(show S91 (zz_rf 6 (12 * (S0 1073 1) + S0 (zz_rf 3 (S0 1073 1)) 1)) 3 = o 1 by omega), (show S91 (zz_rf 6 (12 * (S0 1073 1) + S0 (zz_rf 3 (S0 1073 1)) 1)) 4 = o 2 by omega), (show S91 (zz_rf 6 (12 * (S0 1073 1) + S0 (zz_rf 3 (S0 1073 1)) 1)) 12 = o 3 by omega), (show S91 (zz_rf 6 (12 * (S0 1073 1) + S0 (zz_rf 3 (S0 1073 1)) 1)) 9 = o 4 by omega), (show S91 (zz_rf 6 (12 * (S0 1073 1) + S0 (zz_rf 3 (S0 1073 1)) 1)) 5 = o 5 by omega), (show S91 (zz_rf 6 (12 * (S0 1073 1) + S0 (zz_rf 3 (S0 1073 1)) 1)) 6 = zt_tv (S0 1071) (S0 1070 2) (S0 1070 3) by omega), (show S91 (zz_rf 6 (12 * (S0 1073 1) + S0 (zz_rf 3 (S0 1073 1)) 1)) 7 = o 7 by omega), (show S91 (zz_rf 6 (12 * (S0 1073 1) + S0 (zz_rf 3 (S0 1073 1)) 1)) 8 = o 8 by omega)⟩, (show zt_N1 (S0 1071) (S0 1070 1) (S91 1073 4) (S91 1073 5) (o 9) by rw [show S91 1073 4 = S0 1073 4 by omega, show S91 1073 5 = S0 1073 5 by omega]; exact d9)⟩⟩), by omega, (fun h9 => by have z9 := kl0_ () h9; omega)⟩
          by_cases c106 : p0 = 32
          · refine zz_lsw (off := 102) (by omega) zd_8_9_46 (by decide) (by rw [c106]; rfl) rfl ?_
            refine zz_aload_n (x := zz_rf 6 (12 * (S0 1073 1) + S0 (zz_rf 3 (S0 1073 1)) 1)) rfl zd_8_9_148 ?_
            refine zz_aload_n (x := 1073) rfl zd_8_9_149 ?_
            refine zz_getr (kd := 0) (z := 1070) zd_8_9_150 zf_NetworkReader_9 zT_1073 rfl (zz_ltn hn rfl) (zz_G.eq G_S10 1073 0 1070 rfl rfl) (by decide) 1070 rfl ?_
            have g107 := zz_G.r G_S10 1070 6 (-2147483648) 2147483647 rfl rfl
            refine zz_geti (z := S10 1070 6) zd_8_9_153 zf_NetworkReader_94 zT_1070 rfl (zz_ltn hn rfl) rfl ?_
            refine zz_puti zd_8_9_156 zf_NetworkReader_174 (zT_k6 (by omega)) rfl (zN_k6 hn (by omega)) (fun S108 qS108 => ?_)
            have G_S108 := zz_G.put G_S10 qS108 (-2147483648) 2147483647 (zR_k6_7 (by omega)) (by omega)
            have F_S108 := zz_fr.putv F_S10 qS108 (Or.inr (Or.inr (Or.inr (Or.inr (Or.inr (Or.inl ⟨rfl, rfl⟩))))))
            refine zz_iconst zd_8_9_159 ?_
            have g109 := zz_G.r G_S10 1070 3 0 1500 rfl rfl
            have e110 : S108 1070 3 = S10 1070 3 := (zz_ro qS108 (fun h => absurd h.2 (by decide)) rfl)
            have g111 := zz_G.r G_S0 1073 4 0 1500 rfl rfl
            have e112 : S108 1073 4 = S0 1073 4 := (zz_ro qS108 (fun h => absurd h.2 (by decide)) (zz_rc fS10 rfl rfl (fun h => h) rfl))
            have g113 := zz_G.r G_S0 1073 5 (-1500) 1500 rfl rfl
            have e114 : S108 1073 5 = S0 1073 5 := (zz_ro qS108 (fun h => absurd h.2 (by decide)) (zz_rc fS10 rfl rfl (fun h => h) rfl))
            have e115 : S108 (zz_rf 6 (12 * (S0 1073 1) + S0 (zz_rf 3 (S0 1073 1)) 1)) 12 = S0 (zz_rf 6 (12 * (S0 1073 1) + S0 (zz_rf 3 (S0 1073 1)) 1)) 12 := (zz_ro qS108 (fun h => absurd h.2 (by decide)) (zz_rc fS10 (zP_k6 (by omega) rfl) (zQ_k6 (by omega) rfl) (fun h => h) rfl))
            have e116 : S108 (zz_rf 6 (12 * (S0 1073 1) + S0 (zz_rf 3 (S0 1073 1)) 1)) 3 = S0 (zz_rf 6 (12 * (S0 1073 1) + S0 (zz_rf 3 (S0 1073 1)) 1)) 3 := (zz_ro qS108 (fun h => absurd h.2 (by decide)) (zz_rc fS10 (zP_k6 (by omega) rfl) (zQ_k6 (by omega) rfl) (fun h => h) rfl))
            have e117 : S108 (zz_rf 6 (12 * (S0 1073 1) + S0 (zz_rf 3 (S0 1073 1)) 1)) 4 = S0 (zz_rf 6 (12 * (S0 1073 1) + S0 (zz_rf 3 (S0 1073 1)) 1)) 4 := (zz_ro qS108 (fun h => absurd h.2 (by decide)) (zz_rc fS10 (zP_k6 (by omega) rfl) (zQ_k6 (by omega) rfl) (fun h => h) rfl))
            have e118 : S108 (zz_rf 6 (12 * (S0 1073 1) + S0 (zz_rf 3 (S0 1073 1)) 1)) 5 = S0 (zz_rf 6 (12 * (S0 1073 1) + S0 (zz_rf 3 (S0 1073 1)) 1)) 5 := (zz_ro qS108 (fun h => absurd h.2 (by decide)) (zz_rc fS10 (zP_k6 (by omega) rfl) (zQ_k6 (by omega) rfl) (fun h => h) rfl))
            have e119 : S108 (zz_rf 6 (12 * (S0 1073 1) + S0 (zz_rf 3 (S0 1073 1)) 1)) 6 = S0 (zz_rf 6 (12 * (S0 1073 1) + S0 (zz_rf 3 (S0 1073 1)) 1)) 6 := (zz_ro qS108 (fun h => absurd h.2 (by decide)) (zz_rc fS10 (zP_k6 (by omega) rfl) (zQ_k6 (by omega) rfl) (fun h => h) rfl))
            have e120 : S108 (zz_rf 6 (12 * (S0 1073 1) + S0 (zz_rf 3 (S0 1073 1)) 1)) 7 = S10 1070 6 := (zz_rs qS108)
            have e121 : S108 (zz_rf 6 (12 * (S0 1073 1) + S0 (zz_rf 3 (S0 1073 1)) 1)) 8 = S0 (zz_rf 6 (12 * (S0 1073 1) + S0 (zz_rf 3 (S0 1073 1)) 1)) 8 := (zz_ro qS108 (fun h => absurd h.2 (by decide)) (zz_rc fS10 (zP_k6 (by omega) rfl) (zQ_k6 (by omega) rfl) (fun h => h) rfl))
            have e122 : S108 (zz_rf 6 (12 * (S0 1073 1) + S0 (zz_rf 3 (S0 1073 1)) 1)) 9 = S0 (zz_rf 6 (12 * (S0 1073 1) + S0 (zz_rf 3 (S0 1073 1)) 1)) 9 := (zz_ro qS108 (fun h => absurd h.2 (by decide)) (zz_rc fS10 (zP_k6 (by omega) rfl) (zQ_k6 (by omega) rfl) (fun h => h) rfl))
            exact zz_zret zd_8_9_160 rfl (by omega) (Nat.zero_le _) (Nat.zero_le _) ⟨_, _, rfl, G_S108, F_S108, by omega, (fun N i k o hN hl1 hl2 hi hb hD => by obtain ⟨hd, d9⟩ := hD; obtain rfl : i = 6 := (zt_b8j hi).2.2.2.2.2.1.mp (hb.symm.trans (by omega)); clear hb; exact Or.inl ⟨rfl, (zt_ogk (by decide)).mpr ((zt_NKs o22).2.1.mpr ks0_), by show S108 1070 3 = zt_te (S0 1071) (S0 1070 2) (S0 1070 3); omega, ⟨fun hk => by obtain ⟨d1, d2, d3, d4, d5, d6, d7, d8⟩ := hd hk; exact ⟨(show S108 (zz_rf 6 (12 * (S0 1073 1) + S0 (zz_rf 3 (S0 1073 1)) 1)) 3 = o 1 by omega), (show S108 (zz_rf 6 (12 * (S0 1073 1) + S0 (zz_rf 3 (S0 1073 1)) 1)) 4 = o 2 by omega), (show S108 (zz_rf 6 (12 * (S0 1073 1) + S0 (zz_rf 3 (S0 1073 1)) 1)) 12 = o 3 by omega), (show S108 (zz_rf 6 (12 * (S0 1073 1) + S0 (zz_rf 3 (S0 1073 1)) 1)) 9 = o 4 by omega), (show S108 (zz_rf 6 (12 * (S0 1073 1) + S0 (zz_rf 3 (S0 1073 1)) 1)) 5 = o 5 by omega), (show S108 (zz_rf 6 (12 * (S0 1073 1) + S0 (zz_rf 3 (S0 1073 1)) 1)) 6 = o 6 by omega), (show S108 (zz_rf 6 (12 * (S0 1073 1) + S0 (zz_rf 3 (S0 1073 1)) 1)) 7 = zt_tv (S0 1071) (S0 1070 2) (S0 1070 3) by omega), (show S108 (zz_rf 6 (12 * (S0 1073 1) + S0 (zz_rf 3 (S0 1073 1)) 1)) 8 = o 8 by omega)⟩, (show zt_N1 (S0 1071) (S0 1070 1) (S108 1073 4) (S108 1073 5) (o 9) by rw [show S108 1073 4 = S0 1073 4 by omega, show S108 1073 5 = S0 1073 5 by omega]; exact d9)⟩⟩), by omega, (fun h9 => by have z9 := kl0_ () h9; omega)⟩
          refine zz_lsw (off := 115) (by omega) zd_8_9_46 (by decide) (by simp [Op.lookupswitch.offset]; omega) rfl ?_
          refine zz_aload_n (x := 1073) rfl zd_8_9_161 ?_
          refine zz_aload_n (x := 1073) rfl zd_8_9_162 ?_
          refine zz_getr (kd := 0) (z := 1070) zd_8_9_163 zf_NetworkReader_9 zT_1073 rfl (zz_ltn hn rfl) (zz_G.eq G_S10 1073 0 1070 rfl rfl) (by decide) 1070 rfl ?_
          have g123 := zz_G.r G_S10 1070 6 (-2147483648) 2147483647 rfl rfl
          refine zz_geti (z := S10 1070 6) zd_8_9_166 zf_NetworkReader_94 zT_1070 rfl (zz_ltn hn rfl) rfl ?_
          refine zz_aload_n (x := zz_rf 6 (12 * (S0 1073 1) + S0 (zz_rf 3 (S0 1073 1)) 1)) rfl zd_8_9_169 ?_
          have e124 : S10 1070 2 = S0 1070 2 := (zz_rc fS10 rfl rfl (fun h => h) rfl)
          have g125 := zz_G.r G_S10 1070 3 0 1500 rfl rfl
          refine zz_callVI [zi (S10 1070 6), .ref (zz_rf 6 (12 * (S0 1073 1) + S0 (zz_rf 3 (S0 1073 1)) 1))] zd_8_9_170 zk_NetworkReader_176 zT_1073 (zz_ltn hn rfl) rfl rfl ⟨Nat.le_of_ble_eq_true rfl, Nat.le_of_ble_eq_true rfl⟩ ⟨rfl, rfl⟩ (Nat.zero_le _) (Nat.zero_le _) (zc_readKernelFrom_8_10 (S10 1070 6) (12 * (S0 1073 1) + S0 (zz_rf 3 (S0 1073 1)) 1) S10 n hn G_S10 (by omega) (by omega)) (fun v127 S126 hP => ?_)
          obtain ⟨G_S126, fS126, o128, o129, o130, o131⟩ := hP
          rw [show S10 1071 = S0 1071 from funext (fun u => (zz_rc fS10 (zz_nc1 rfl) rfl (fun h => h) rfl)), show S10 1070 2 = S0 1070 2 from (zz_rc fS10 rfl rfl (fun h => h) rfl)] at o129
          rw [show S10 1070 2 = S0 1070 2 from (zz_rc fS10 rfl rfl (fun h => h) rfl)] at o131
          have g132 := zz_G.r G_S0 1073 1 0 1 rfl rfl
          have b133 := zz_G.r G_S0 (zz_rf 3 (S0 1073 1)) 1 1 11 (zR_k3_1 (by omega)) (zB_k3 (by omega))
          have F_S126 := zz_fr.trans F_S10 fS126 rfl (fun a i h => by rcases h with h | h; exact Or.inr (Or.inr (Or.inr (Or.inl h))); exact Or.inr (Or.inr (Or.inr (Or.inr (Or.inl h)))))
          have b134 := zz_G.r G_S0 (zz_rf 3 (S0 1073 1)) 1 1 11 (zR_k3_1 (by omega)) (zB_k3 (by omega))
          have b135 := zz_rf6 (z := (12 * (S0 1073 1) + S0 (zz_rf 3 (S0 1073 1)) 1)) (by omega)
          rcases (by omega : v127 = 0 ∨ v127 = 1) with rfl | rfl
          · have g136 := zz_G.r G_S126 1070 3 0 1500 rfl rfl
            have g137 := zz_G.r G_S0 1073 4 0 1500 rfl rfl
            have e138 : S126 1073 4 = S0 1073 4 := (zz_rc fS126 rfl rfl (by first | decide | omega) (zz_rc fS10 rfl rfl (fun h => h) rfl))
            have g139 := zz_G.r G_S0 1073 5 (-1500) 1500 rfl rfl
            have e140 : S126 1073 5 = S0 1073 5 := (zz_rc fS126 rfl rfl (by first | decide | omega) (zz_rc fS10 rfl rfl (fun h => h) rfl))
            have e141 : S126 (zz_rf 6 (12 * (S0 1073 1) + S0 (zz_rf 3 (S0 1073 1)) 1)) 12 = S0 (zz_rf 6 (12 * (S0 1073 1) + S0 (zz_rf 3 (S0 1073 1)) 1)) 12 := (zz_rc fS126 (zP_k6 (by omega) rfl) (zQ_k6 (by omega) rfl) (by have hz_ := zz_rf6 (z := 12 * (S0 1073 1) + S0 (zz_rf 3 (S0 1073 1)) 1) (by omega); omega) (zz_rc fS10 (zP_k6 (by omega) rfl) (zQ_k6 (by omega) rfl) (fun h => h) rfl))
            have e142 : S126 (zz_rf 6 (12 * (S0 1073 1) + S0 (zz_rf 3 (S0 1073 1)) 1)) 5 = S0 (zz_rf 6 (12 * (S0 1073 1) + S0 (zz_rf 3 (S0 1073 1)) 1)) 5 := (zz_rc fS126 (zP_k6 (by omega) rfl) (zQ_k6 (by omega) rfl) (by have hz_ := zz_rf6 (z := 12 * (S0 1073 1) + S0 (zz_rf 3 (S0 1073 1)) 1) (by omega); omega) (zz_rc fS10 (zP_k6 (by omega) rfl) (zQ_k6 (by omega) rfl) (fun h => h) rfl))
            have e143 : S126 (zz_rf 6 (12 * (S0 1073 1) + S0 (zz_rf 3 (S0 1073 1)) 1)) 6 = S0 (zz_rf 6 (12 * (S0 1073 1) + S0 (zz_rf 3 (S0 1073 1)) 1)) 6 := (zz_rc fS126 (zP_k6 (by omega) rfl) (zQ_k6 (by omega) rfl) (by have hz_ := zz_rf6 (z := 12 * (S0 1073 1) + S0 (zz_rf 3 (S0 1073 1)) 1) (by omega); omega) (zz_rc fS10 (zP_k6 (by omega) rfl) (zQ_k6 (by omega) rfl) (fun h => h) rfl))
            have e144 : S126 (zz_rf 6 (12 * (S0 1073 1) + S0 (zz_rf 3 (S0 1073 1)) 1)) 7 = S0 (zz_rf 6 (12 * (S0 1073 1) + S0 (zz_rf 3 (S0 1073 1)) 1)) 7 := (zz_rc fS126 (zP_k6 (by omega) rfl) (zQ_k6 (by omega) rfl) (by have hz_ := zz_rf6 (z := 12 * (S0 1073 1) + S0 (zz_rf 3 (S0 1073 1)) 1) (by omega); omega) (zz_rc fS10 (zP_k6 (by omega) rfl) (zQ_k6 (by omega) rfl) (fun h => h) rfl))
            have e145 : S126 (zz_rf 6 (12 * (S0 1073 1) + S0 (zz_rf 3 (S0 1073 1)) 1)) 8 = S0 (zz_rf 6 (12 * (S0 1073 1) + S0 (zz_rf 3 (S0 1073 1)) 1)) 8 := (zz_rc fS126 (zP_k6 (by omega) rfl) (zQ_k6 (by omega) rfl) (by have hz_ := zz_rf6 (z := 12 * (S0 1073 1) + S0 (zz_rf 3 (S0 1073 1)) 1) (by omega); omega) (zz_rc fS10 (zP_k6 (by omega) rfl) (zQ_k6 (by omega) rfl) (fun h => h) rfl))
            have e146 : S126 (zz_rf 6 (12 * (S0 1073 1) + S0 (zz_rf 3 (S0 1073 1)) 1)) 9 = S0 (zz_rf 6 (12 * (S0 1073 1) + S0 (zz_rf 3 (S0 1073 1)) 1)) 9 := (zz_rc fS126 (zP_k6 (by omega) rfl) (zQ_k6 (by omega) rfl) (by have hz_ := zz_rf6 (z := 12 * (S0 1073 1) + S0 (zz_rf 3 (S0 1073 1)) 1) (by omega); omega) (zz_rc fS10 (zP_k6 (by omega) rfl) (zQ_k6 (by omega) rfl) (fun h => h) rfl))
            exact zz_zret zd_8_9_173 rfl (by omega) (Nat.zero_le _) (Nat.zero_le _) ⟨_, _, rfl, G_S126, F_S126, by omega, (fun N i k o hN hl1 hl2 hi hb hD => by obtain ⟨hd, d9⟩ := hD; have n2 : i ≠ 2 := (fun q => absurd ((zt_b8j hi).2.1.mpr q) (by omega)); have n3 : i ≠ 3 := (fun q => absurd ((zt_b8j hi).2.2.1.mpr q) (by omega)); have n4 : i ≠ 4 := (fun q => absurd ((zt_b8j hi).2.2.2.1.mpr q) (by omega)); have n5 : i ≠ 5 := (fun q => absurd ((zt_b8j hi).2.2.2.2.1.mpr q) (by omega)); have n6 : i ≠ 6 := (fun q => absurd ((zt_b8j hi).2.2.2.2.2.1.mpr q) (by omega)); have n7 : i ≠ 7 := (fun q => absurd ((zt_b8j hi).2.2.2.2.2.2.1.mpr q) (by omega)); have n8 : i ≠ 8 := (fun q => absurd ((zt_b8j hi).2.2.2.2.2.2.2.mpr q) (by omega)); obtain rfl : i = 1 := (by omega); clear hb n2 n3 n4 n5 n6 n7 n8; have q9 := o129; clear o129 o130 o131; rw [show S10 1070 3 = zt_te (S0 1071) (S0 1070 2) (S0 1070 3) by omega] at q9; rcases q9 with x9 | x9; exact Or.inl ⟨x9.1, (zt_og1 rfl).mpr ⟨(zt_NKs o22).2.1.mpr ks0_, x9.2.1⟩, x9.2.2.2.2, ⟨fun hk => by obtain ⟨d1, d2, d3, d4, d5, d6, d7, d8⟩ := hd hk; exact ⟨(show S126 (zz_rf 6 (12 * (S0 1073 1) + S0 (zz_rf 3 (S0 1073 1)) 1)) 3 = zt_tv (S0 1071) (S0 1070 2) (S0 1070 3) by omega), (show S126 (zz_rf 6 (12 * (S0 1073 1) + S0 (zz_rf 3 (S0 1073 1)) 1)) 4 = zt_tv (S0 1071) (S0 1070 2) (zt_te (S0 1071) (S0 1070 2) (zt_te (S0 1071) (S0 1070 2) (S0 1070 3))) by omega), (show S126 (zz_rf 6 (12 * (S0 1073 1) + S0 (zz_rf 3 (S0 1073 1)) 1)) 12 = o 3 by omega), (show S126 (zz_rf 6 (12 * (S0 1073 1) + S0 (zz_rf 3 (S0 1073 1)) 1)) 9 = o 4 by omega), (show S126 (zz_rf 6 (12 * (S0 1073 1) + S0 (zz_rf 3 (S0 1073 1)) 1)) 5 = o 5 by omega), (show S126 (zz_rf 6 (12 * (S0 1073 1) + S0 (zz_rf 3 (S0 1073 1)) 1)) 6 = o 6 by omega), (show S126 (zz_rf 6 (12 * (S0 1073 1) + S0 (zz_rf 3 (S0 1073 1)) 1)) 7 = o 7 by omega), (show S126 (zz_rf 6 (12 * (S0 1073 1) + S0 (zz_rf 3 (S0 1073 1)) 1)) 8 = o 8 by omega)⟩, (show zt_N1 (S0 1071) (S0 1070 1) (S126 1073 4) (S126 1073 5) (o 9) by rw [show S126 1073 4 = S0 1073 4 by omega, show S126 1073 5 = S0 1073 5 by omega]; exact d9)⟩⟩; exact Or.inr ⟨x9.1, fun h => x9.2 ((zt_og1 rfl).mp h).2⟩), by omega, (fun h9 => by have z9 := o131 (kl0_ () h9); omega)⟩
          · have g147 := zz_G.r G_S126 1070 3 0 1500 rfl rfl
            have g148 := zz_G.r G_S0 1073 4 0 1500 rfl rfl
            have e149 : S126 1073 4 = S0 1073 4 := (zz_rc fS126 rfl rfl (by first | decide | omega) (zz_rc fS10 rfl rfl (fun h => h) rfl))
            have g150 := zz_G.r G_S0 1073 5 (-1500) 1500 rfl rfl
            have e151 : S126 1073 5 = S0 1073 5 := (zz_rc fS126 rfl rfl (by first | decide | omega) (zz_rc fS10 rfl rfl (fun h => h) rfl))
            have e152 : S126 (zz_rf 6 (12 * (S0 1073 1) + S0 (zz_rf 3 (S0 1073 1)) 1)) 12 = S0 (zz_rf 6 (12 * (S0 1073 1) + S0 (zz_rf 3 (S0 1073 1)) 1)) 12 := (zz_rc fS126 (zP_k6 (by omega) rfl) (zQ_k6 (by omega) rfl) (by have hz_ := zz_rf6 (z := 12 * (S0 1073 1) + S0 (zz_rf 3 (S0 1073 1)) 1) (by omega); omega) (zz_rc fS10 (zP_k6 (by omega) rfl) (zQ_k6 (by omega) rfl) (fun h => h) rfl))
            have e153 : S126 (zz_rf 6 (12 * (S0 1073 1) + S0 (zz_rf 3 (S0 1073 1)) 1)) 5 = S0 (zz_rf 6 (12 * (S0 1073 1) + S0 (zz_rf 3 (S0 1073 1)) 1)) 5 := (zz_rc fS126 (zP_k6 (by omega) rfl) (zQ_k6 (by omega) rfl) (by have hz_ := zz_rf6 (z := 12 * (S0 1073 1) + S0 (zz_rf 3 (S0 1073 1)) 1) (by omega); omega) (zz_rc fS10 (zP_k6 (by omega) rfl) (zQ_k6 (by omega) rfl) (fun h => h) rfl))
            have e154 : S126 (zz_rf 6 (12 * (S0 1073 1) + S0 (zz_rf 3 (S0 1073 1)) 1)) 6 = S0 (zz_rf 6 (12 * (S0 1073 1) + S0 (zz_rf 3 (S0 1073 1)) 1)) 6 := (zz_rc fS126 (zP_k6 (by omega) rfl) (zQ_k6 (by omega) rfl) (by have hz_ := zz_rf6 (z := 12 * (S0 1073 1) + S0 (zz_rf 3 (S0 1073 1)) 1) (by omega); omega) (zz_rc fS10 (zP_k6 (by omega) rfl) (zQ_k6 (by omega) rfl) (fun h => h) rfl))
            have e155 : S126 (zz_rf 6 (12 * (S0 1073 1) + S0 (zz_rf 3 (S0 1073 1)) 1)) 7 = S0 (zz_rf 6 (12 * (S0 1073 1) + S0 (zz_rf 3 (S0 1073 1)) 1)) 7 := (zz_rc fS126 (zP_k6 (by omega) rfl) (zQ_k6 (by omega) rfl) (by have hz_ := zz_rf6 (z := 12 * (S0 1073 1) + S0 (zz_rf 3 (S0 1073 1)) 1) (by omega); omega) (zz_rc fS10 (zP_k6 (by omega) rfl) (zQ_k6 (by omega) rfl) (fun h => h) rfl))
            have e156 : S126 (zz_rf 6 (12 * (S0 1073 1) + S0 (zz_rf 3 (S0 1073 1)) 1)) 8 = S0 (zz_rf 6 (12 * (S0 1073 1) + S0 (zz_rf 3 (S0 1073 1)) 1)) 8 := (zz_rc fS126 (zP_k6 (by omega) rfl) (zQ_k6 (by omega) rfl) (by have hz_ := zz_rf6 (z := 12 * (S0 1073 1) + S0 (zz_rf 3 (S0 1073 1)) 1) (by omega); omega) (zz_rc fS10 (zP_k6 (by omega) rfl) (zQ_k6 (by omega) rfl) (fun h => h) rfl))
            have e157 : S126 (zz_rf 6 (12 * (S0 1073 1) + S0 (zz_rf 3 (S0 1073 1)) 1)) 9 = S0 (zz_rf 6 (12 * (S0 1073 1) + S0 (zz_rf 3 (S0 1073 1)) 1)) 9 := (zz_rc fS126 (zP_k6 (by omega) rfl) (zQ_k6 (by omega) rfl) (by have hz_ := zz_rf6 (z := 12 * (S0 1073 1) + S0 (zz_rf 3 (S0 1073 1)) 1) (by omega); omega) (zz_rc fS10 (zP_k6 (by omega) rfl) (zQ_k6 (by omega) rfl) (fun h => h) rfl))
            exact zz_zret zd_8_9_173 rfl (by omega) (Nat.zero_le _) (Nat.zero_le _) ⟨_, _, rfl, G_S126, F_S126, by omega, (fun N i k o hN hl1 hl2 hi hb hD => by obtain ⟨hd, d9⟩ := hD; have n2 : i ≠ 2 := (fun q => absurd ((zt_b8j hi).2.1.mpr q) (by omega)); have n3 : i ≠ 3 := (fun q => absurd ((zt_b8j hi).2.2.1.mpr q) (by omega)); have n4 : i ≠ 4 := (fun q => absurd ((zt_b8j hi).2.2.2.1.mpr q) (by omega)); have n5 : i ≠ 5 := (fun q => absurd ((zt_b8j hi).2.2.2.2.1.mpr q) (by omega)); have n6 : i ≠ 6 := (fun q => absurd ((zt_b8j hi).2.2.2.2.2.1.mpr q) (by omega)); have n7 : i ≠ 7 := (fun q => absurd ((zt_b8j hi).2.2.2.2.2.2.1.mpr q) (by omega)); have n8 : i ≠ 8 := (fun q => absurd ((zt_b8j hi).2.2.2.2.2.2.2.mpr q) (by omega)); obtain rfl : i = 1 := (by omega); clear hb n2 n3 n4 n5 n6 n7 n8; have q9 := o129; clear o129 o130 o131; rw [show S10 1070 3 = zt_te (S0 1071) (S0 1070 2) (S0 1070 3) by omega] at q9; rcases q9 with x9 | x9; exact Or.inl ⟨x9.1, (zt_og1 rfl).mpr ⟨(zt_NKs o22).2.1.mpr ks0_, x9.2.1⟩, x9.2.2.2.2, ⟨fun hk => by obtain ⟨d1, d2, d3, d4, d5, d6, d7, d8⟩ := hd hk; exact ⟨(show S126 (zz_rf 6 (12 * (S0 1073 1) + S0 (zz_rf 3 (S0 1073 1)) 1)) 3 = zt_tv (S0 1071) (S0 1070 2) (S0 1070 3) by omega), (show S126 (zz_rf 6 (12 * (S0 1073 1) + S0 (zz_rf 3 (S0 1073 1)) 1)) 4 = zt_tv (S0 1071) (S0 1070 2) (zt_te (S0 1071) (S0 1070 2) (zt_te (S0 1071) (S0 1070 2) (S0 1070 3))) by omega), (show S126 (zz_rf 6 (12 * (S0 1073 1) + S0 (zz_rf 3 (S0 1073 1)) 1)) 12 = o 3 by omega), (show S126 (zz_rf 6 (12 * (S0 1073 1) + S0 (zz_rf 3 (S0 1073 1)) 1)) 9 = o 4 by omega), (show S126 (zz_rf 6 (12 * (S0 1073 1) + S0 (zz_rf 3 (S0 1073 1)) 1)) 5 = o 5 by omega), (show S126 (zz_rf 6 (12 * (S0 1073 1) + S0 (zz_rf 3 (S0 1073 1)) 1)) 6 = o 6 by omega), (show S126 (zz_rf 6 (12 * (S0 1073 1) + S0 (zz_rf 3 (S0 1073 1)) 1)) 7 = o 7 by omega), (show S126 (zz_rf 6 (12 * (S0 1073 1) + S0 (zz_rf 3 (S0 1073 1)) 1)) 8 = o 8 by omega)⟩, (show zt_N1 (S0 1071) (S0 1070 1) (S126 1073 4) (S126 1073 5) (o 9) by rw [show S126 1073 4 = S0 1073 4 by omega, show S126 1073 5 = S0 1073 5 by omega]; exact d9)⟩⟩; exact Or.inr ⟨x9.1, fun h => x9.2 ((zt_og1 rfl).mp h).2⟩), by omega, (fun h9 => by have z9 := o131 (kl0_ () h9); omega)⟩
        · exfalso; omega
    · refine zz_aload_n (x := zz_rf 6 (12 * (S0 1073 1) + S0 (zz_rf 3 (S0 1073 1)) 1)) rfl zd_8_9_26 ?_
      refine zz_iconst zd_8_9_27 ?_
      refine zz_putz zd_8_9_28 zf_NetworkReader_161 (zT_k6 (by omega)) rfl (zN_k6 hn (by omega)) (by omega) (fun S158 qS158 => ?_)
      have G_S158 := zz_G.put G_S0 qS158 0 1 (zR_k6_8 (by omega)) (by omega)
      have F_S158 := zz_fr.putv F_S0 qS158 (Or.inr (Or.inr (Or.inr (Or.inr (Or.inr (Or.inr (Or.inl ⟨rfl, rfl⟩)))))))
      refine zz_iconst zd_8_9_31 ?_
      have g159 := zz_G.r G_S0 1070 3 0 1500 rfl rfl
      have e160 : S158 1070 3 = S0 1070 3 := (zz_ro qS158 (fun h => absurd h.2 (by decide)) rfl)
      have g161 := zz_G.r G_S0 1073 4 0 1500 rfl rfl
      have e162 : S158 1073 4 = S0 1073 4 := (zz_ro qS158 (fun h => absurd h.2 (by decide)) rfl)
      have g163 := zz_G.r G_S0 1073 5 (-1500) 1500 rfl rfl
      have e164 : S158 1073 5 = S0 1073 5 := (zz_ro qS158 (fun h => absurd h.2 (by decide)) rfl)
      have e165 : S158 (zz_rf 6 (12 * (S0 1073 1) + S0 (zz_rf 3 (S0 1073 1)) 1)) 12 = S0 (zz_rf 6 (12 * (S0 1073 1) + S0 (zz_rf 3 (S0 1073 1)) 1)) 12 := (zz_ro qS158 (fun h => absurd h.2 (by decide)) rfl)
      have e166 : S158 (zz_rf 6 (12 * (S0 1073 1) + S0 (zz_rf 3 (S0 1073 1)) 1)) 3 = S0 (zz_rf 6 (12 * (S0 1073 1) + S0 (zz_rf 3 (S0 1073 1)) 1)) 3 := (zz_ro qS158 (fun h => absurd h.2 (by decide)) rfl)
      have e167 : S158 (zz_rf 6 (12 * (S0 1073 1) + S0 (zz_rf 3 (S0 1073 1)) 1)) 4 = S0 (zz_rf 6 (12 * (S0 1073 1) + S0 (zz_rf 3 (S0 1073 1)) 1)) 4 := (zz_ro qS158 (fun h => absurd h.2 (by decide)) rfl)
      have e168 : S158 (zz_rf 6 (12 * (S0 1073 1) + S0 (zz_rf 3 (S0 1073 1)) 1)) 5 = S0 (zz_rf 6 (12 * (S0 1073 1) + S0 (zz_rf 3 (S0 1073 1)) 1)) 5 := (zz_ro qS158 (fun h => absurd h.2 (by decide)) rfl)
      have e169 : S158 (zz_rf 6 (12 * (S0 1073 1) + S0 (zz_rf 3 (S0 1073 1)) 1)) 6 = S0 (zz_rf 6 (12 * (S0 1073 1) + S0 (zz_rf 3 (S0 1073 1)) 1)) 6 := (zz_ro qS158 (fun h => absurd h.2 (by decide)) rfl)
      have e170 : S158 (zz_rf 6 (12 * (S0 1073 1) + S0 (zz_rf 3 (S0 1073 1)) 1)) 7 = S0 (zz_rf 6 (12 * (S0 1073 1) + S0 (zz_rf 3 (S0 1073 1)) 1)) 7 := (zz_ro qS158 (fun h => absurd h.2 (by decide)) rfl)
      have e171 : S158 (zz_rf 6 (12 * (S0 1073 1) + S0 (zz_rf 3 (S0 1073 1)) 1)) 8 = 1 := (zz_rs qS158)
      have e172 : S158 (zz_rf 6 (12 * (S0 1073 1) + S0 (zz_rf 3 (S0 1073 1)) 1)) 9 = S0 (zz_rf 6 (12 * (S0 1073 1) + S0 (zz_rf 3 (S0 1073 1)) 1)) 9 := (zz_ro qS158 (fun h => absurd h.2 (by decide)) rfl)
      exact zz_zret zd_8_9_32 rfl (by omega) (Nat.zero_le _) (Nat.zero_le _) ⟨_, _, rfl, G_S158, F_S158, by omega, (fun N i k o hN hl1 hl2 hi hb hD => by obtain ⟨hd, d9⟩ := hD; obtain rfl : i = 7 := (zt_b8j hi).2.2.2.2.2.2.1.mp (hb.symm.trans (by omega)); clear hb; exact Or.inl ⟨rfl, zt_og7 rfl, by show S158 1070 3 = S0 1070 3; omega, ⟨fun hk => by obtain ⟨d1, d2, d3, d4, d5, d6, d7, d8⟩ := hd hk; exact ⟨(show S158 (zz_rf 6 (12 * (S0 1073 1) + S0 (zz_rf 3 (S0 1073 1)) 1)) 3 = o 1 by omega), (show S158 (zz_rf 6 (12 * (S0 1073 1) + S0 (zz_rf 3 (S0 1073 1)) 1)) 4 = o 2 by omega), (show S158 (zz_rf 6 (12 * (S0 1073 1) + S0 (zz_rf 3 (S0 1073 1)) 1)) 12 = o 3 by omega), (show S158 (zz_rf 6 (12 * (S0 1073 1) + S0 (zz_rf 3 (S0 1073 1)) 1)) 9 = o 4 by omega), (show S158 (zz_rf 6 (12 * (S0 1073 1) + S0 (zz_rf 3 (S0 1073 1)) 1)) 5 = o 5 by omega), (show S158 (zz_rf 6 (12 * (S0 1073 1) + S0 (zz_rf 3 (S0 1073 1)) 1)) 6 = o 6 by omega), (show S158 (zz_rf 6 (12 * (S0 1073 1) + S0 (zz_rf 3 (S0 1073 1)) 1)) 7 = o 7 by omega), (show S158 (zz_rf 6 (12 * (S0 1073 1) + S0 (zz_rf 3 (S0 1073 1)) 1)) 8 = 1 by omega)⟩, (show zt_N1 (S0 1071) (S0 1070 1) (S158 1073 4) (S158 1073 5) (o 9) by rw [show S158 1073 4 = S0 1073 4 by omega, show S158 1073 5 = S0 1073 5 by omega]; exact d9)⟩⟩), by omega, (fun h9 => by omega)⟩
  · refine zz_aload_n (x := 1073) rfl zd_8_9_7 ?_
    have g173 := zz_G.r G_S0 1070 1 0 1500 rfl rfl
    have g174 := zz_G.r G_S0 1070 2 (-1) 1500 rfl rfl
    have g175 := zz_G.r G_S0 1070 3 0 1500 rfl rfl
    refine zz_callVI [] zd_8_9_8 zk_NetworkReader_158 zT_1073 (zz_ltn hn rfl) rfl rfl ⟨Nat.le_of_ble_eq_true rfl, Nat.le_of_ble_eq_true rfl⟩ ⟨rfl, rfl⟩ (Nat.zero_le _) (Nat.zero_le _) (zc_readName_8_11  S0 n hn G_S0 ) (fun v177 S176 hP => ?_)
    obtain ⟨G_S176, fS176, o178, o179, o180, o181, o182⟩ := hP
    have F_S176 := zz_fr.trans F_S0 fS176 rfl zz_nv
    rcases (by omega : v177 = 0 ∨ v177 = 1) with rfl | rfl
    · have g183 := zz_G.r G_S176 1070 3 0 1500 rfl rfl
      have g184 := zz_G.r G_S176 1073 4 0 1500 rfl rfl
      have g185 := zz_G.r G_S176 1073 5 (-1500) 1500 rfl rfl
      have e186 : S176 (zz_rf 6 (12 * (S0 1073 1) + S0 (zz_rf 3 (S0 1073 1)) 1)) 12 = S0 (zz_rf 6 (12 * (S0 1073 1) + S0 (zz_rf 3 (S0 1073 1)) 1)) 12 := (zz_rc fS176 (zP_k6 (by omega) rfl) (zQ_k6 (by omega) rfl) (fun h => h) rfl)
      have e187 : S176 (zz_rf 6 (12 * (S0 1073 1) + S0 (zz_rf 3 (S0 1073 1)) 1)) 3 = S0 (zz_rf 6 (12 * (S0 1073 1) + S0 (zz_rf 3 (S0 1073 1)) 1)) 3 := (zz_rc fS176 (zP_k6 (by omega) rfl) (zQ_k6 (by omega) rfl) (fun h => h) rfl)
      have e188 : S176 (zz_rf 6 (12 * (S0 1073 1) + S0 (zz_rf 3 (S0 1073 1)) 1)) 4 = S0 (zz_rf 6 (12 * (S0 1073 1) + S0 (zz_rf 3 (S0 1073 1)) 1)) 4 := (zz_rc fS176 (zP_k6 (by omega) rfl) (zQ_k6 (by omega) rfl) (fun h => h) rfl)
      have e189 : S176 (zz_rf 6 (12 * (S0 1073 1) + S0 (zz_rf 3 (S0 1073 1)) 1)) 5 = S0 (zz_rf 6 (12 * (S0 1073 1) + S0 (zz_rf 3 (S0 1073 1)) 1)) 5 := (zz_rc fS176 (zP_k6 (by omega) rfl) (zQ_k6 (by omega) rfl) (fun h => h) rfl)
      have e190 : S176 (zz_rf 6 (12 * (S0 1073 1) + S0 (zz_rf 3 (S0 1073 1)) 1)) 6 = S0 (zz_rf 6 (12 * (S0 1073 1) + S0 (zz_rf 3 (S0 1073 1)) 1)) 6 := (zz_rc fS176 (zP_k6 (by omega) rfl) (zQ_k6 (by omega) rfl) (fun h => h) rfl)
      have e191 : S176 (zz_rf 6 (12 * (S0 1073 1) + S0 (zz_rf 3 (S0 1073 1)) 1)) 7 = S0 (zz_rf 6 (12 * (S0 1073 1) + S0 (zz_rf 3 (S0 1073 1)) 1)) 7 := (zz_rc fS176 (zP_k6 (by omega) rfl) (zQ_k6 (by omega) rfl) (fun h => h) rfl)
      have e192 : S176 (zz_rf 6 (12 * (S0 1073 1) + S0 (zz_rf 3 (S0 1073 1)) 1)) 8 = S0 (zz_rf 6 (12 * (S0 1073 1) + S0 (zz_rf 3 (S0 1073 1)) 1)) 8 := (zz_rc fS176 (zP_k6 (by omega) rfl) (zQ_k6 (by omega) rfl) (fun h => h) rfl)
      have e193 : S176 (zz_rf 6 (12 * (S0 1073 1) + S0 (zz_rf 3 (S0 1073 1)) 1)) 9 = S0 (zz_rf 6 (12 * (S0 1073 1) + S0 (zz_rf 3 (S0 1073 1)) 1)) 9 := (zz_rc fS176 (zP_k6 (by omega) rfl) (zQ_k6 (by omega) rfl) (fun h => h) rfl)
      exact zz_zret zd_8_9_11 rfl (by omega) (Nat.zero_le _) (Nat.zero_le _) ⟨_, _, rfl, G_S176, F_S176, by omega, (fun N i k o hN hl1 hl2 hi hb hD => by obtain ⟨hd, d9⟩ := hD; obtain rfl : i = 8 := (zt_b8j hi).2.2.2.2.2.2.2.mp (hb.symm.trans (by omega)); clear hb; have q9 := o179 N hN hl1 hl2; rcases q9 with x9 | x9; exact Or.inl ⟨x9.1, (zt_og8 rfl).mpr x9.2.1, by show S176 1070 3 = zt_te (S0 1071) (S0 1070 2) (S0 1070 3); omega, ⟨fun hk => by obtain ⟨d1, d2, d3, d4, d5, d6, d7, d8⟩ := hd hk; exact ⟨(show S176 (zz_rf 6 (12 * (S0 1073 1) + S0 (zz_rf 3 (S0 1073 1)) 1)) 3 = o 1 by omega), (show S176 (zz_rf 6 (12 * (S0 1073 1) + S0 (zz_rf 3 (S0 1073 1)) 1)) 4 = o 2 by omega), (show S176 (zz_rf 6 (12 * (S0 1073 1) + S0 (zz_rf 3 (S0 1073 1)) 1)) 12 = o 3 by omega), (show S176 (zz_rf 6 (12 * (S0 1073 1) + S0 (zz_rf 3 (S0 1073 1)) 1)) 9 = o 4 by omega), (show S176 (zz_rf 6 (12 * (S0 1073 1) + S0 (zz_rf 3 (S0 1073 1)) 1)) 5 = o 5 by omega), (show S176 (zz_rf 6 (12 * (S0 1073 1) + S0 (zz_rf 3 (S0 1073 1)) 1)) 6 = o 6 by omega), (show S176 (zz_rf 6 (12 * (S0 1073 1) + S0 (zz_rf 3 (S0 1073 1)) 1)) 7 = o 7 by omega), (show S176 (zz_rf 6 (12 * (S0 1073 1) + S0 (zz_rf 3 (S0 1073 1)) 1)) 8 = o 8 by omega)⟩, x9.2.2⟩⟩; exact Or.inr ⟨x9.1, fun h => x9.2 ((zt_og8 rfl).mp h)⟩), by omega, (fun h9 => by have z9 := o182 h9; omega)⟩
    · have g194 := zz_G.r G_S176 1070 3 0 1500 rfl rfl
      have g195 := zz_G.r G_S176 1073 4 0 1500 rfl rfl
      have g196 := zz_G.r G_S176 1073 5 (-1500) 1500 rfl rfl
      have e197 : S176 (zz_rf 6 (12 * (S0 1073 1) + S0 (zz_rf 3 (S0 1073 1)) 1)) 12 = S0 (zz_rf 6 (12 * (S0 1073 1) + S0 (zz_rf 3 (S0 1073 1)) 1)) 12 := (zz_rc fS176 (zP_k6 (by omega) rfl) (zQ_k6 (by omega) rfl) (fun h => h) rfl)
      have e198 : S176 (zz_rf 6 (12 * (S0 1073 1) + S0 (zz_rf 3 (S0 1073 1)) 1)) 3 = S0 (zz_rf 6 (12 * (S0 1073 1) + S0 (zz_rf 3 (S0 1073 1)) 1)) 3 := (zz_rc fS176 (zP_k6 (by omega) rfl) (zQ_k6 (by omega) rfl) (fun h => h) rfl)
      have e199 : S176 (zz_rf 6 (12 * (S0 1073 1) + S0 (zz_rf 3 (S0 1073 1)) 1)) 4 = S0 (zz_rf 6 (12 * (S0 1073 1) + S0 (zz_rf 3 (S0 1073 1)) 1)) 4 := (zz_rc fS176 (zP_k6 (by omega) rfl) (zQ_k6 (by omega) rfl) (fun h => h) rfl)
      have e200 : S176 (zz_rf 6 (12 * (S0 1073 1) + S0 (zz_rf 3 (S0 1073 1)) 1)) 5 = S0 (zz_rf 6 (12 * (S0 1073 1) + S0 (zz_rf 3 (S0 1073 1)) 1)) 5 := (zz_rc fS176 (zP_k6 (by omega) rfl) (zQ_k6 (by omega) rfl) (fun h => h) rfl)
      have e201 : S176 (zz_rf 6 (12 * (S0 1073 1) + S0 (zz_rf 3 (S0 1073 1)) 1)) 6 = S0 (zz_rf 6 (12 * (S0 1073 1) + S0 (zz_rf 3 (S0 1073 1)) 1)) 6 := (zz_rc fS176 (zP_k6 (by omega) rfl) (zQ_k6 (by omega) rfl) (fun h => h) rfl)
      have e202 : S176 (zz_rf 6 (12 * (S0 1073 1) + S0 (zz_rf 3 (S0 1073 1)) 1)) 7 = S0 (zz_rf 6 (12 * (S0 1073 1) + S0 (zz_rf 3 (S0 1073 1)) 1)) 7 := (zz_rc fS176 (zP_k6 (by omega) rfl) (zQ_k6 (by omega) rfl) (fun h => h) rfl)
      have e203 : S176 (zz_rf 6 (12 * (S0 1073 1) + S0 (zz_rf 3 (S0 1073 1)) 1)) 8 = S0 (zz_rf 6 (12 * (S0 1073 1) + S0 (zz_rf 3 (S0 1073 1)) 1)) 8 := (zz_rc fS176 (zP_k6 (by omega) rfl) (zQ_k6 (by omega) rfl) (fun h => h) rfl)
      have e204 : S176 (zz_rf 6 (12 * (S0 1073 1) + S0 (zz_rf 3 (S0 1073 1)) 1)) 9 = S0 (zz_rf 6 (12 * (S0 1073 1) + S0 (zz_rf 3 (S0 1073 1)) 1)) 9 := (zz_rc fS176 (zP_k6 (by omega) rfl) (zQ_k6 (by omega) rfl) (fun h => h) rfl)
      exact zz_zret zd_8_9_11 rfl (by omega) (Nat.zero_le _) (Nat.zero_le _) ⟨_, _, rfl, G_S176, F_S176, by omega, (fun N i k o hN hl1 hl2 hi hb hD => by obtain ⟨hd, d9⟩ := hD; obtain rfl : i = 8 := (zt_b8j hi).2.2.2.2.2.2.2.mp (hb.symm.trans (by omega)); clear hb; have q9 := o179 N hN hl1 hl2; rcases q9 with x9 | x9; exact Or.inl ⟨x9.1, (zt_og8 rfl).mpr x9.2.1, by show S176 1070 3 = zt_te (S0 1071) (S0 1070 2) (S0 1070 3); omega, ⟨fun hk => by obtain ⟨d1, d2, d3, d4, d5, d6, d7, d8⟩ := hd hk; exact ⟨(show S176 (zz_rf 6 (12 * (S0 1073 1) + S0 (zz_rf 3 (S0 1073 1)) 1)) 3 = o 1 by omega), (show S176 (zz_rf 6 (12 * (S0 1073 1) + S0 (zz_rf 3 (S0 1073 1)) 1)) 4 = o 2 by omega), (show S176 (zz_rf 6 (12 * (S0 1073 1) + S0 (zz_rf 3 (S0 1073 1)) 1)) 12 = o 3 by omega), (show S176 (zz_rf 6 (12 * (S0 1073 1) + S0 (zz_rf 3 (S0 1073 1)) 1)) 9 = o 4 by omega), (show S176 (zz_rf 6 (12 * (S0 1073 1) + S0 (zz_rf 3 (S0 1073 1)) 1)) 5 = o 5 by omega), (show S176 (zz_rf 6 (12 * (S0 1073 1) + S0 (zz_rf 3 (S0 1073 1)) 1)) 6 = o 6 by omega), (show S176 (zz_rf 6 (12 * (S0 1073 1) + S0 (zz_rf 3 (S0 1073 1)) 1)) 7 = o 7 by omega), (show S176 (zz_rf 6 (12 * (S0 1073 1) + S0 (zz_rf 3 (S0 1073 1)) 1)) 8 = o 8 by omega)⟩, x9.2.2⟩⟩; exact Or.inr ⟨x9.1, fun h => x9.2 ((zt_og8 rfl).mp h)⟩), by omega, (fun h9 => by have z9 := o182 h9; omega)⟩
theorem zk_NetworkReader_138 : mm_Vl "TensorForge$NetworkReader" 138 8 1 zy_readOption_8_9 := ⟨zyw_readOption_8_9, (R_NetworkReader, F_NetworkReader, 9), rfl, mm_tb_1 961 (by decide +kernel) rfl, mm_tb_1 963 (by decide +kernel) rfl, mm_tb_s 46 (by decide +kernel) rfl⟩
theorem zg_8_7_86 : zq_at zy_readOptions_8_7.2.1 86 154 ∧ zq_at zy_readOptions_8_7.2.1 87 0 ∧ zq_at zy_readOptions_8_7.2.1 88 5 ∧ zq_at zy_readOptions_8_7.2.1 91 42 ∧ zq_at zy_readOptions_8_7.2.1 92 89 ∧ zq_at zy_readOptions_8_7.2.1 93 180 ∧ zq_at zy_readOptions_8_7.2.1 94 0 ∧ zq_at zy_readOptions_8_7.2.1 95 41 ∧ zq_at zy_readOptions_8_7.2.1 96 28 ∧ zq_at zy_readOptions_8_7.2.1 97 128 ∧ zq_at zy_readOptions_8_7.2.1 98 181 ∧ zq_at zy_readOptions_8_7.2.1 99 0 ∧ zq_at zy_readOptions_8_7.2.1 100 41 ∧ zq_at zy_readOptions_8_7.2.1 101 132 ∧ zq_at zy_readOptions_8_7.2.1 102 1 ∧ zq_at zy_readOptions_8_7.2.1 103 1 ∧ zq_at zy_readOptions_8_7.2.1 104 167 ∧ zq_at zy_readOptions_8_7.2.1 105 255 ∧ zq_at zy_readOptions_8_7.2.1 106 164 ∧ zq_at zy_readOptions_8_7.2.1 36 42 ∧ zq_at zy_readOptions_8_7.2.1 37 180 ∧ zq_at zy_readOptions_8_7.2.1 38 0 ∧ zq_at zy_readOptions_8_7.2.1 39 41 ∧ zq_at zy_readOptions_8_7.2.1 40 42 := by decide +kernel
theorem zd_8_7_86 : zz_B zy_readOptions_8_7 86 (Instr.ifCond .ne) 91 89 := ⟨5, zq_154 zg_8_7_86.1 zg_8_7_86.2.1 zg_8_7_86.2.2.1 (by decide), rfl, rfl⟩
theorem zd_8_7_91 : zz_D zy_readOptions_8_7 91 (.aload_n 0) 1 92 := ⟨zq_42 zg_8_7_86.2.2.2.1, rfl⟩
theorem zd_8_7_92 : zz_D zy_readOptions_8_7 92 (.dup) 1 93 := ⟨zq_89 zg_8_7_86.2.2.2.2.1, rfl⟩
theorem zd_8_7_93 : zz_D zy_readOptions_8_7 93 (.getfield 41) 3 96 := ⟨zq_180 zg_8_7_86.2.2.2.2.2.1 zg_8_7_86.2.2.2.2.2.2.1 zg_8_7_86.2.2.2.2.2.2.2.1 rfl, rfl⟩
theorem zd_8_7_96 : zz_D zy_readOptions_8_7 96 (.iload_n 2) 1 97 := ⟨zq_28 zg_8_7_86.2.2.2.2.2.2.2.2.1, rfl⟩
theorem zd_8_7_97 : zz_D zy_readOptions_8_7 97 (.ior) 1 98 := ⟨zq_128 zg_8_7_86.2.2.2.2.2.2.2.2.2.1, rfl⟩
theorem zd_8_7_98 : zz_D zy_readOptions_8_7 98 (.putfield 41) 3 101 := ⟨zq_181 zg_8_7_86.2.2.2.2.2.2.2.2.2.2.1 zg_8_7_86.2.2.2.2.2.2.2.2.2.2.2.1 zg_8_7_86.2.2.2.2.2.2.2.2.2.2.2.2.1 rfl, rfl⟩
theorem zd_8_7_101 : zz_D zy_readOptions_8_7 101 (.iinc 1 1) 3 104 := ⟨zq_132 zg_8_7_86.2.2.2.2.2.2.2.2.2.2.2.2.2.1 zg_8_7_86.2.2.2.2.2.2.2.2.2.2.2.2.2.2.1 zg_8_7_86.2.2.2.2.2.2.2.2.2.2.2.2.2.2.2.1 (by decide), rfl⟩
theorem zd_8_7_104 : zz_B zy_readOptions_8_7 104 Instr.goto 12 107 := ⟨(-92), zq_167 zg_8_7_86.2.2.2.2.2.2.2.2.2.2.2.2.2.2.2.2.1 zg_8_7_86.2.2.2.2.2.2.2.2.2.2.2.2.2.2.2.2.2.1 zg_8_7_86.2.2.2.2.2.2.2.2.2.2.2.2.2.2.2.2.2.2.1 (by decide), rfl, rfl⟩
theorem zd_8_7_36 : zz_D zy_readOptions_8_7 36 (.aload_n 0) 1 37 := ⟨zq_42 zg_8_7_86.2.2.2.2.2.2.2.2.2.2.2.2.2.2.2.2.2.2.2.1, rfl⟩
theorem zd_8_7_37 : zz_D zy_readOptions_8_7 37 (.getfield 41) 3 40 := ⟨zq_180 zg_8_7_86.2.2.2.2.2.2.2.2.2.2.2.2.2.2.2.2.2.2.2.2.1 zg_8_7_86.2.2.2.2.2.2.2.2.2.2.2.2.2.2.2.2.2.2.2.2.2.1 zg_8_7_86.2.2.2.2.2.2.2.2.2.2.2.2.2.2.2.2.2.2.2.2.2.2.1 rfl, rfl⟩
theorem zd_8_7_40 : zz_D zy_readOptions_8_7 40 (.aload_n 0) 1 41 := ⟨zq_42 zg_8_7_86.2.2.2.2.2.2.2.2.2.2.2.2.2.2.2.2.2.2.2.2.2.2.2, rfl⟩
theorem zg_8_7_41 : zq_at zy_readOptions_8_7.2.1 41 180 ∧ zq_at zy_readOptions_8_7.2.1 42 0 ∧ zq_at zy_readOptions_8_7.2.1 43 38 ∧ zq_at zy_readOptions_8_7.2.1 44 126 ∧ zq_at zy_readOptions_8_7.2.1 45 42 ∧ zq_at zy_readOptions_8_7.2.1 46 180 ∧ zq_at zy_readOptions_8_7.2.1 47 0 ∧ zq_at zy_readOptions_8_7.2.1 48 38 ∧ zq_at zy_readOptions_8_7.2.1 49 160 ∧ zq_at zy_readOptions_8_7.2.1 50 0 ∧ zq_at zy_readOptions_8_7.2.1 51 7 ∧ zq_at zy_readOptions_8_7.2.1 56 3 ∧ zq_at zy_readOptions_8_7.2.1 57 172 ∧ zq_at zy_readOptions_8_7.2.1 52 4 ∧ zq_at zy_readOptions_8_7.2.1 53 167 ∧ zq_at zy_readOptions_8_7.2.1 54 0 ∧ zq_at zy_readOptions_8_7.2.1 55 4 := by decide +kernel
theorem zd_8_7_41 : zz_D zy_readOptions_8_7 41 (.getfield 38) 3 44 := ⟨zq_180 zg_8_7_41.1 zg_8_7_41.2.1 zg_8_7_41.2.2.1 rfl, rfl⟩
theorem zd_8_7_44 : zz_D zy_readOptions_8_7 44 (.iand) 1 45 := ⟨zq_126 zg_8_7_41.2.2.2.1, rfl⟩
theorem zd_8_7_45 : zz_D zy_readOptions_8_7 45 (.aload_n 0) 1 46 := ⟨zq_42 zg_8_7_41.2.2.2.2.1, rfl⟩
theorem zd_8_7_46 : zz_D zy_readOptions_8_7 46 (.getfield 38) 3 49 := ⟨zq_180 zg_8_7_41.2.2.2.2.2.1 zg_8_7_41.2.2.2.2.2.2.1 zg_8_7_41.2.2.2.2.2.2.2.1 rfl, rfl⟩
theorem zd_8_7_49 : zz_B zy_readOptions_8_7 49 (Instr.if_icmp .ne) 56 52 := ⟨7, zq_160 zg_8_7_41.2.2.2.2.2.2.2.2.1 zg_8_7_41.2.2.2.2.2.2.2.2.2.1 zg_8_7_41.2.2.2.2.2.2.2.2.2.2.1 (by decide), rfl, rfl⟩
theorem zd_8_7_56 : zz_D zy_readOptions_8_7 56 (.iconst 0) 1 57 := ⟨zq_3 zg_8_7_41.2.2.2.2.2.2.2.2.2.2.2.1, rfl⟩
theorem zd_8_7_57 : zz_D zy_readOptions_8_7 57 (.ireturn) 1 58 := ⟨zq_172 zg_8_7_41.2.2.2.2.2.2.2.2.2.2.2.2.1, rfl⟩
theorem zd_8_7_52 : zz_D zy_readOptions_8_7 52 (.iconst 1) 1 53 := ⟨zq_4 zg_8_7_41.2.2.2.2.2.2.2.2.2.2.2.2.2.1, rfl⟩
theorem zd_8_7_53 : zz_B zy_readOptions_8_7 53 Instr.goto 57 56 := ⟨4, zq_167 zg_8_7_41.2.2.2.2.2.2.2.2.2.2.2.2.2.2.1 zg_8_7_41.2.2.2.2.2.2.2.2.2.2.2.2.2.2.2.1 zg_8_7_41.2.2.2.2.2.2.2.2.2.2.2.2.2.2.2.2 (by decide), rfl, rfl⟩
