-- TensorForge reckon ()V
abbrev zr_reckon_1_24 : Room := { frames := 6, cells := 0, slots := 0, locals := 111 }
def zp_reckon_1_24  (S0 : zz_S) : zz_S → Prop := fun S => zz_G S ∧ zz_fr [] [1032] (fun _ _ => False) S0 S
theorem zc_reckon_1_24 {g : mm_G} {l : Launch}  (S0 : zz_S) (n : Nat) (hn : zz_end ≤ n) (G_S0 : zz_G S0)  : mm_Met g l zy_reckon_1_24 zr_reckon_1_24 [.ref 1000] (zz_M S0 n) n (zz_QV n (zp_reckon_1_24  S0)) := by
  refine zz_enter (by decide) (Nat.le_of_ble_eq_true rfl) (zz_less (ls1 := [some (.ref 1000)]) ⟨rfl, trivial⟩ ?_)
  have F_S0 : zz_fr [] [1032] (fun _ _ => False) S0 S0 := zz_fr.refl
  refine zz_aload_n (x := 1000) rfl zd_1_24_0 ?_
  have g1 := zz_G.r G_S0 1000 7 0 1 rfl rfl
  refine zz_getr (kd := 1) (z := S0 1000 7) zd_1_24_1 zf_TF_10 zT_1000 rfl (zz_ltn hn rfl) rfl (by omega) (zz_rf 3 (S0 1000 7)) rfl ?_
  refine zz_aload_n (x := 1000) rfl zd_1_24_4 ?_
  refine zz_getr (kd := 0) (z := 1031) zd_1_24_5 zf_TF_33 zT_1000 rfl (zz_ltn hn rfl) (zz_G.eq G_S0 1000 0 1031 rfl rfl) (by decide) 1031 rfl ?_
  refine zz_getr (kd := 0) (z := 1032) zd_1_24_8 zf_TF_288 zT_1031 rfl (zz_ltn hn rfl) (zz_G.eq G_S0 1031 0 1032 rfl rfl) (by decide) 1032 rfl ?_
  refine zz_callVV [.ref 1032] zd_1_24_11 zk_TF_292 (zT_k3 (by omega)) (zN_k3 hn (by omega)) rfl rfl ⟨Nat.le_of_ble_eq_true rfl, Nat.le_of_ble_eq_true rfl⟩ ⟨rfl, rfl⟩ (Nat.zero_le _) (Nat.zero_le _) (zc_settle_7_9 (S0 1000 7) S0 n hn G_S0 (by omega)) (fun S2 hP => ?_)
  obtain ⟨G_S2, fS2⟩ := hP
  have F_S2 := zz_fr.trans F_S0 fS2 rfl zz_nv
  exact zz_vret zd_1_24_14 rfl (Nat.zero_le _) (Nat.zero_le _) ⟨_, rfl, G_S2, F_S2⟩
abbrev zy_network_1_25 : mm_Y := (⟨"TensorForge", "network", "()I"⟩, prog_1_method_25_code, 3, (some .int))
theorem zyw_network_1_25 : mm_Yw zy_network_1_25 0 := ⟨mm_tb_1 911 (by decide +kernel) rfl, mm_tb_1 1 (by decide +kernel) rfl, ⟨by decide, by decide⟩, by decide +kernel⟩
abbrev zy_readInto_8_2 : mm_Y := (⟨"TensorForge$NetworkReader", "readInto", "(LTensorForge$Network;)I"⟩, prog_8_method_2_code, 5, (some .int))
theorem zyw_readInto_8_2 : mm_Yw zy_readInto_8_2 1 := ⟨mm_tb_1 915 (by decide +kernel) rfl, mm_tb_1 9 (by decide +kernel) rfl, ⟨by decide, by decide⟩, by decide +kernel⟩
theorem zg_1_25_0 : zq_at zy_network_1_25.2.1 0 42 ∧ zq_at zy_network_1_25.2.1 1 180 ∧ zq_at zy_network_1_25.2.1 2 0 ∧ zq_at zy_network_1_25.2.1 3 67 ∧ zq_at zy_network_1_25.2.1 4 42 ∧ zq_at zy_network_1_25.2.1 5 180 ∧ zq_at zy_network_1_25.2.1 6 0 ∧ zq_at zy_network_1_25.2.1 7 16 ∧ zq_at zy_network_1_25.2.1 8 182 ∧ zq_at zy_network_1_25.2.1 9 1 ∧ zq_at zy_network_1_25.2.1 10 40 := by decide +kernel
theorem zd_1_25_0 : zz_D zy_network_1_25 0 (.aload_n 0) 1 1 := ⟨zq_42 zg_1_25_0.1, rfl⟩
theorem zd_1_25_1 : zz_D zy_network_1_25 1 (.getfield 67) 3 4 := ⟨zq_180 zg_1_25_0.2.1 zg_1_25_0.2.2.1 zg_1_25_0.2.2.2.1 rfl, rfl⟩
theorem zd_1_25_4 : zz_D zy_network_1_25 4 (.aload_n 0) 1 5 := ⟨zq_42 zg_1_25_0.2.2.2.2.1, rfl⟩
theorem zd_1_25_5 : zz_D zy_network_1_25 5 (.getfield 16) 3 8 := ⟨zq_180 zg_1_25_0.2.2.2.2.2.1 zg_1_25_0.2.2.2.2.2.2.1 zg_1_25_0.2.2.2.2.2.2.2.1 rfl, rfl⟩
theorem zd_1_25_8 : zz_D zy_network_1_25 8 (.invokevirtual 296) 3 11 := ⟨zq_182 zg_1_25_0.2.2.2.2.2.2.2.2.1 zg_1_25_0.2.2.2.2.2.2.2.2.2.1 zg_1_25_0.2.2.2.2.2.2.2.2.2.2 rfl, rfl⟩
theorem zg_8_2_0 : zq_at zy_readInto_8_2.2.1 0 42 ∧ zq_at zy_readInto_8_2.2.1 1 43 ∧ zq_at zy_readInto_8_2.2.1 2 181 ∧ zq_at zy_readInto_8_2.2.1 3 0 ∧ zq_at zy_readInto_8_2.2.1 4 15 ∧ zq_at zy_readInto_8_2.2.1 5 3 ∧ zq_at zy_readInto_8_2.2.1 6 61 ∧ zq_at zy_readInto_8_2.2.1 7 3 ∧ zq_at zy_readInto_8_2.2.1 8 62 ∧ zq_at zy_readInto_8_2.2.1 9 42 ∧ zq_at zy_readInto_8_2.2.1 10 180 ∧ zq_at zy_readInto_8_2.2.1 11 0 ∧ zq_at zy_readInto_8_2.2.1 12 25 ∧ zq_at zy_readInto_8_2.2.1 13 3 ∧ zq_at zy_readInto_8_2.2.1 14 184 ∧ zq_at zy_readInto_8_2.2.1 15 0 ∧ zq_at zy_readInto_8_2.2.1 16 44 := by decide +kernel
theorem zd_8_2_0 : zz_D zy_readInto_8_2 0 (.aload_n 0) 1 1 := ⟨zq_42 zg_8_2_0.1, rfl⟩
theorem zd_8_2_1 : zz_D zy_readInto_8_2 1 (.aload_n 1) 1 2 := ⟨zq_43 zg_8_2_0.2.1, rfl⟩
theorem zd_8_2_2 : zz_D zy_readInto_8_2 2 (.putfield 15) 3 5 := ⟨zq_181 zg_8_2_0.2.2.1 zg_8_2_0.2.2.2.1 zg_8_2_0.2.2.2.2.1 rfl, rfl⟩
theorem zd_8_2_5 : zz_D zy_readInto_8_2 5 (.iconst 0) 1 6 := ⟨zq_3 zg_8_2_0.2.2.2.2.2.1, rfl⟩
theorem zd_8_2_6 : zz_D zy_readInto_8_2 6 (.istore_n 2) 1 7 := ⟨zq_61 zg_8_2_0.2.2.2.2.2.2.1, rfl⟩
theorem zd_8_2_7 : zz_D zy_readInto_8_2 7 (.iconst 0) 1 8 := ⟨zq_3 zg_8_2_0.2.2.2.2.2.2.2.1, rfl⟩
theorem zd_8_2_8 : zz_D zy_readInto_8_2 8 (.istore_n 3) 1 9 := ⟨zq_62 zg_8_2_0.2.2.2.2.2.2.2.2.1, rfl⟩
theorem zd_8_2_9 : zz_D zy_readInto_8_2 9 (.aload_n 0) 1 10 := ⟨zq_42 zg_8_2_0.2.2.2.2.2.2.2.2.2.1, rfl⟩
theorem zd_8_2_10 : zz_D zy_readInto_8_2 10 (.getfield 25) 3 13 := ⟨zq_180 zg_8_2_0.2.2.2.2.2.2.2.2.2.2.1 zg_8_2_0.2.2.2.2.2.2.2.2.2.2.2.1 zg_8_2_0.2.2.2.2.2.2.2.2.2.2.2.2.1 rfl, rfl⟩
theorem zd_8_2_13 : zz_D zy_readInto_8_2 13 (.iconst 0) 1 14 := ⟨zq_3 zg_8_2_0.2.2.2.2.2.2.2.2.2.2.2.2.2.1, rfl⟩
theorem zd_8_2_14 : zz_D zy_readInto_8_2 14 (.invokestatic 44) 3 17 := ⟨zq_184 zg_8_2_0.2.2.2.2.2.2.2.2.2.2.2.2.2.2.1 zg_8_2_0.2.2.2.2.2.2.2.2.2.2.2.2.2.2.2.1 zg_8_2_0.2.2.2.2.2.2.2.2.2.2.2.2.2.2.2.2 rfl, rfl⟩
-- java/util/Arrays fill ([II)V
abbrev zr_fill_27_103_1075 : Room := { frames := 0, cells := 0, slots := 0, locals := 0 }
def zp_fill_27_103_1075 (p1 : Int) (S0 : zz_S) : zz_S → Prop := fun S => zz_G S ∧ zz_fr [(1075, 0), (1075, 1), (1075, 2), (1075, 3), (1075, 4), (1075, 5), (1075, 6), (1075, 7), (1075, 8), (1075, 9), (1075, 10)] [] (fun _ _ => False) S0 S ∧ (S 1075 0 = p1) ∧ (S 1075 1 = p1) ∧ (S 1075 2 = p1) ∧ (S 1075 3 = p1) ∧ (S 1075 4 = p1) ∧ (S 1075 5 = p1) ∧ (S 1075 6 = p1) ∧ (S 1075 7 = p1) ∧ (S 1075 8 = p1) ∧ (S 1075 9 = p1) ∧ (S 1075 10 = p1)
theorem zc_fill_27_103_1075 {g : mm_G} {l : Launch} (p1 : Int) (S0 : zz_S) (n : Nat) (hn : zz_end ≤ n) (G_S0 : zz_G S0) (hp1 : (-1500) ≤ p1 ∧ p1 ≤ 1500) : mm_Met g l zy_fill_27_103 zr_fill_27_103_1075 [.ref 1075, zi p1] (zz_M S0 n) n (zz_QV n (zp_fill_27_103_1075 p1 S0)) := by
  refine zz_enter (by decide) (Nat.le_of_ble_eq_true rfl) (zz_less (ls1 := [some (.ref 1075), some (zi p1)]) ⟨rfl, ⟨rfl, trivial⟩⟩ ?_)
  have F_S0 : zz_fr [(1075, 0), (1075, 1), (1075, 2), (1075, 3), (1075, 4), (1075, 5), (1075, 6), (1075, 7), (1075, 8), (1075, 9), (1075, 10)] [] (fun _ _ => False) S0 S0 := zz_fr.refl
  refine zz_iconst zd_27_103_0 ?_
  refine zz_istore_n [some (.ref 1075), some (zi p1), some (zi 0)] zd_27_103_1 (by decide) rfl ?_
  refine zz_aload_n (x := 1075) rfl zd_27_103_2 ?_
  refine zz_alen zd_27_103_3 zT_1075 rfl (zz_ltn hn rfl) ?_
  refine zz_istore_n [some (.ref 1075), some (zi p1), some (zi 0), some (zi 11)] zd_27_103_4 (by decide) rfl ?_
  refine zz_iload_n (x := 0) rfl zd_27_103_5 ?_
  refine zz_iload_n (x := 11) rfl zd_27_103_6 ?_
  refine zz_icmp_ge (by omega) (by omega) zd_27_103_7 (fun c1 => ?_) (fun c1 => ?_)
  · exfalso; omega
  · refine zz_aload_n (x := 1075) rfl zd_27_103_10 ?_
    refine zz_iload_n (x := 0) rfl zd_27_103_11 ?_
    refine zz_iload_n (x := p1) rfl zd_27_103_12 ?_
    refine zz_iast zd_27_103_13 zT_1075 rfl (zz_ltn hn rfl) (by decide) (by decide) (fun S2 qS2 => ?_)
    have G_S2 := zz_G.put G_S0 qS2 (-1500) 1500 rfl (by omega)
    have F_S2 := zz_fr.puts F_S0 qS2 rfl
    refine zz_iinc [some (.ref 1075), some (zi p1), some (zi 1), some (zi 11)] zd_27_103_14 rfl rfl ?_
    refine zz_goto zd_27_103_17 ?_
    refine zz_iload_n (x := 1) rfl zd_27_103_5 ?_
    refine zz_iload_n (x := 11) rfl zd_27_103_6 ?_
    refine zz_icmp_ge (by omega) (by omega) zd_27_103_7 (fun c3 => ?_) (fun c3 => ?_)
    · exfalso; omega
    · refine zz_aload_n (x := 1075) rfl zd_27_103_10 ?_
      refine zz_iload_n (x := 1) rfl zd_27_103_11 ?_
      refine zz_iload_n (x := p1) rfl zd_27_103_12 ?_
      refine zz_iast zd_27_103_13 zT_1075 rfl (zz_ltn hn rfl) (by decide) (by decide) (fun S4 qS4 => ?_)
      have G_S4 := zz_G.put G_S2 qS4 (-1500) 1500 rfl (by omega)
      have F_S4 := zz_fr.puts F_S2 qS4 rfl
      refine zz_iinc [some (.ref 1075), some (zi p1), some (zi 2), some (zi 11)] zd_27_103_14 rfl rfl ?_
      refine zz_goto zd_27_103_17 ?_
      refine zz_iload_n (x := 2) rfl zd_27_103_5 ?_
      refine zz_iload_n (x := 11) rfl zd_27_103_6 ?_
      refine zz_icmp_ge (by omega) (by omega) zd_27_103_7 (fun c5 => ?_) (fun c5 => ?_)
      · exfalso; omega
      · refine zz_aload_n (x := 1075) rfl zd_27_103_10 ?_
        refine zz_iload_n (x := 2) rfl zd_27_103_11 ?_
        refine zz_iload_n (x := p1) rfl zd_27_103_12 ?_
        refine zz_iast zd_27_103_13 zT_1075 rfl (zz_ltn hn rfl) (by decide) (by decide) (fun S6 qS6 => ?_)
        have G_S6 := zz_G.put G_S4 qS6 (-1500) 1500 rfl (by omega)
        have F_S6 := zz_fr.puts F_S4 qS6 rfl
        refine zz_iinc [some (.ref 1075), some (zi p1), some (zi 3), some (zi 11)] zd_27_103_14 rfl rfl ?_
        refine zz_goto zd_27_103_17 ?_
        refine zz_iload_n (x := 3) rfl zd_27_103_5 ?_
        refine zz_iload_n (x := 11) rfl zd_27_103_6 ?_
        refine zz_icmp_ge (by omega) (by omega) zd_27_103_7 (fun c7 => ?_) (fun c7 => ?_)
        · exfalso; omega
        · refine zz_aload_n (x := 1075) rfl zd_27_103_10 ?_
          refine zz_iload_n (x := 3) rfl zd_27_103_11 ?_
          refine zz_iload_n (x := p1) rfl zd_27_103_12 ?_
          refine zz_iast zd_27_103_13 zT_1075 rfl (zz_ltn hn rfl) (by decide) (by decide) (fun S8 qS8 => ?_)
          have G_S8 := zz_G.put G_S6 qS8 (-1500) 1500 rfl (by omega)
          have F_S8 := zz_fr.puts F_S6 qS8 rfl
          refine zz_iinc [some (.ref 1075), some (zi p1), some (zi 4), some (zi 11)] zd_27_103_14 rfl rfl ?_
          refine zz_goto zd_27_103_17 ?_
          refine zz_iload_n (x := 4) rfl zd_27_103_5 ?_
          refine zz_iload_n (x := 11) rfl zd_27_103_6 ?_
          refine zz_icmp_ge (by omega) (by omega) zd_27_103_7 (fun c9 => ?_) (fun c9 => ?_)
          · exfalso; omega
          · refine zz_aload_n (x := 1075) rfl zd_27_103_10 ?_
            refine zz_iload_n (x := 4) rfl zd_27_103_11 ?_
            refine zz_iload_n (x := p1) rfl zd_27_103_12 ?_
            refine zz_iast zd_27_103_13 zT_1075 rfl (zz_ltn hn rfl) (by decide) (by decide) (fun S10 qS10 => ?_)
            have G_S10 := zz_G.put G_S8 qS10 (-1500) 1500 rfl (by omega)
            have F_S10 := zz_fr.puts F_S8 qS10 rfl
            refine zz_iinc [some (.ref 1075), some (zi p1), some (zi 5), some (zi 11)] zd_27_103_14 rfl rfl ?_
            refine zz_goto zd_27_103_17 ?_
            refine zz_iload_n (x := 5) rfl zd_27_103_5 ?_
            refine zz_iload_n (x := 11) rfl zd_27_103_6 ?_
            refine zz_icmp_ge (by omega) (by omega) zd_27_103_7 (fun c11 => ?_) (fun c11 => ?_)
            · exfalso; omega
            · refine zz_aload_n (x := 1075) rfl zd_27_103_10 ?_
              refine zz_iload_n (x := 5) rfl zd_27_103_11 ?_
              refine zz_iload_n (x := p1) rfl zd_27_103_12 ?_
              refine zz_iast zd_27_103_13 zT_1075 rfl (zz_ltn hn rfl) (by decide) (by decide) (fun S12 qS12 => ?_)
              have G_S12 := zz_G.put G_S10 qS12 (-1500) 1500 rfl (by omega)
              have F_S12 := zz_fr.puts F_S10 qS12 rfl
              refine zz_iinc [some (.ref 1075), some (zi p1), some (zi 6), some (zi 11)] zd_27_103_14 rfl rfl ?_
              refine zz_goto zd_27_103_17 ?_
              refine zz_iload_n (x := 6) rfl zd_27_103_5 ?_
              refine zz_iload_n (x := 11) rfl zd_27_103_6 ?_
              refine zz_icmp_ge (by omega) (by omega) zd_27_103_7 (fun c13 => ?_) (fun c13 => ?_)
              · exfalso; omega
              · refine zz_aload_n (x := 1075) rfl zd_27_103_10 ?_
                refine zz_iload_n (x := 6) rfl zd_27_103_11 ?_
                refine zz_iload_n (x := p1) rfl zd_27_103_12 ?_
                refine zz_iast zd_27_103_13 zT_1075 rfl (zz_ltn hn rfl) (by decide) (by decide) (fun S14 qS14 => ?_)
                have G_S14 := zz_G.put G_S12 qS14 (-1500) 1500 rfl (by omega)
                have F_S14 := zz_fr.puts F_S12 qS14 rfl
                refine zz_iinc [some (.ref 1075), some (zi p1), some (zi 7), some (zi 11)] zd_27_103_14 rfl rfl ?_
                refine zz_goto zd_27_103_17 ?_
                refine zz_iload_n (x := 7) rfl zd_27_103_5 ?_
                refine zz_iload_n (x := 11) rfl zd_27_103_6 ?_
                refine zz_icmp_ge (by omega) (by omega) zd_27_103_7 (fun c15 => ?_) (fun c15 => ?_)
                · exfalso; omega
                · refine zz_aload_n (x := 1075) rfl zd_27_103_10 ?_
                  refine zz_iload_n (x := 7) rfl zd_27_103_11 ?_
                  refine zz_iload_n (x := p1) rfl zd_27_103_12 ?_
                  refine zz_iast zd_27_103_13 zT_1075 rfl (zz_ltn hn rfl) (by decide) (by decide) (fun S16 qS16 => ?_)
                  have G_S16 := zz_G.put G_S14 qS16 (-1500) 1500 rfl (by omega)
                  have F_S16 := zz_fr.puts F_S14 qS16 rfl
                  refine zz_iinc [some (.ref 1075), some (zi p1), some (zi 8), some (zi 11)] zd_27_103_14 rfl rfl ?_
                  refine zz_goto zd_27_103_17 ?_
                  refine zz_iload_n (x := 8) rfl zd_27_103_5 ?_
                  refine zz_iload_n (x := 11) rfl zd_27_103_6 ?_
                  refine zz_icmp_ge (by omega) (by omega) zd_27_103_7 (fun c17 => ?_) (fun c17 => ?_)
                  · exfalso; omega
                  · refine zz_aload_n (x := 1075) rfl zd_27_103_10 ?_
                    refine zz_iload_n (x := 8) rfl zd_27_103_11 ?_
                    refine zz_iload_n (x := p1) rfl zd_27_103_12 ?_
                    refine zz_iast zd_27_103_13 zT_1075 rfl (zz_ltn hn rfl) (by decide) (by decide) (fun S18 qS18 => ?_)
                    have G_S18 := zz_G.put G_S16 qS18 (-1500) 1500 rfl (by omega)
                    have F_S18 := zz_fr.puts F_S16 qS18 rfl
                    refine zz_iinc [some (.ref 1075), some (zi p1), some (zi 9), some (zi 11)] zd_27_103_14 rfl rfl ?_
                    refine zz_goto zd_27_103_17 ?_
                    refine zz_iload_n (x := 9) rfl zd_27_103_5 ?_
                    refine zz_iload_n (x := 11) rfl zd_27_103_6 ?_
                    refine zz_icmp_ge (by omega) (by omega) zd_27_103_7 (fun c19 => ?_) (fun c19 => ?_)
                    · exfalso; omega
                    · refine zz_aload_n (x := 1075) rfl zd_27_103_10 ?_
                      refine zz_iload_n (x := 9) rfl zd_27_103_11 ?_
                      refine zz_iload_n (x := p1) rfl zd_27_103_12 ?_
                      refine zz_iast zd_27_103_13 zT_1075 rfl (zz_ltn hn rfl) (by decide) (by decide) (fun S20 qS20 => ?_)
                      have G_S20 := zz_G.put G_S18 qS20 (-1500) 1500 rfl (by omega)
                      have F_S20 := zz_fr.puts F_S18 qS20 rfl
                      refine zz_iinc [some (.ref 1075), some (zi p1), some (zi 10), some (zi 11)] zd_27_103_14 rfl rfl ?_
                      refine zz_goto zd_27_103_17 ?_
                      refine zz_iload_n (x := 10) rfl zd_27_103_5 ?_
                      refine zz_iload_n (x := 11) rfl zd_27_103_6 ?_
                      refine zz_icmp_ge (by omega) (by omega) zd_27_103_7 (fun c21 => ?_) (fun c21 => ?_)
                      · exfalso; omega
                      · refine zz_aload_n (x := 1075) rfl zd_27_103_10 ?_
                        refine zz_iload_n (x := 10) rfl zd_27_103_11 ?_
                        refine zz_iload_n (x := p1) rfl zd_27_103_12 ?_
                        refine zz_iast zd_27_103_13 zT_1075 rfl (zz_ltn hn rfl) (by decide) (by decide) (fun S22 qS22 => ?_)
                        have G_S22 := zz_G.put G_S20 qS22 (-1500) 1500 rfl (by omega)
                        have F_S22 := zz_fr.puts F_S20 qS22 rfl
                        refine zz_iinc [some (.ref 1075), some (zi p1), some (zi 11), some (zi 11)] zd_27_103_14 rfl rfl ?_
                        refine zz_goto zd_27_103_17 ?_
                        refine zz_iload_n (x := 11) rfl zd_27_103_5 ?_
                        refine zz_iload_n (x := 11) rfl zd_27_103_6 ?_
                        refine zz_icmp_ge (by omega) (by omega) zd_27_103_7 (fun c23 => ?_) (fun c23 => ?_)
                        · have e24 : S22 1075 0 = p1 := (zz_ro qS22 (fun h => absurd h.2 (by decide)) (zz_ro qS20 (fun h => absurd h.2 (by decide)) (zz_ro qS18 (fun h => absurd h.2 (by decide)) (zz_ro qS16 (fun h => absurd h.2 (by decide)) (zz_ro qS14 (fun h => absurd h.2 (by decide)) (zz_ro qS12 (fun h => absurd h.2 (by decide)) (zz_ro qS10 (fun h => absurd h.2 (by decide)) (zz_ro qS8 (fun h => absurd h.2 (by decide)) (zz_ro qS6 (fun h => absurd h.2 (by decide)) (zz_ro qS4 (fun h => absurd h.2 (by decide)) (zz_rs qS2)))))))))))
                          have e25 : S22 1075 1 = p1 := (zz_ro qS22 (fun h => absurd h.2 (by decide)) (zz_ro qS20 (fun h => absurd h.2 (by decide)) (zz_ro qS18 (fun h => absurd h.2 (by decide)) (zz_ro qS16 (fun h => absurd h.2 (by decide)) (zz_ro qS14 (fun h => absurd h.2 (by decide)) (zz_ro qS12 (fun h => absurd h.2 (by decide)) (zz_ro qS10 (fun h => absurd h.2 (by decide)) (zz_ro qS8 (fun h => absurd h.2 (by decide)) (zz_ro qS6 (fun h => absurd h.2 (by decide)) (zz_rs qS4))))))))))
                          have e26 : S22 1075 2 = p1 := (zz_ro qS22 (fun h => absurd h.2 (by decide)) (zz_ro qS20 (fun h => absurd h.2 (by decide)) (zz_ro qS18 (fun h => absurd h.2 (by decide)) (zz_ro qS16 (fun h => absurd h.2 (by decide)) (zz_ro qS14 (fun h => absurd h.2 (by decide)) (zz_ro qS12 (fun h => absurd h.2 (by decide)) (zz_ro qS10 (fun h => absurd h.2 (by decide)) (zz_ro qS8 (fun h => absurd h.2 (by decide)) (zz_rs qS6)))))))))
                          have e27 : S22 1075 3 = p1 := (zz_ro qS22 (fun h => absurd h.2 (by decide)) (zz_ro qS20 (fun h => absurd h.2 (by decide)) (zz_ro qS18 (fun h => absurd h.2 (by decide)) (zz_ro qS16 (fun h => absurd h.2 (by decide)) (zz_ro qS14 (fun h => absurd h.2 (by decide)) (zz_ro qS12 (fun h => absurd h.2 (by decide)) (zz_ro qS10 (fun h => absurd h.2 (by decide)) (zz_rs qS8))))))))
                          have e28 : S22 1075 4 = p1 := (zz_ro qS22 (fun h => absurd h.2 (by decide)) (zz_ro qS20 (fun h => absurd h.2 (by decide)) (zz_ro qS18 (fun h => absurd h.2 (by decide)) (zz_ro qS16 (fun h => absurd h.2 (by decide)) (zz_ro qS14 (fun h => absurd h.2 (by decide)) (zz_ro qS12 (fun h => absurd h.2 (by decide)) (zz_rs qS10)))))))
                          have e29 : S22 1075 5 = p1 := (zz_ro qS22 (fun h => absurd h.2 (by decide)) (zz_ro qS20 (fun h => absurd h.2 (by decide)) (zz_ro qS18 (fun h => absurd h.2 (by decide)) (zz_ro qS16 (fun h => absurd h.2 (by decide)) (zz_ro qS14 (fun h => absurd h.2 (by decide)) (zz_rs qS12))))))
                          have e30 : S22 1075 6 = p1 := (zz_ro qS22 (fun h => absurd h.2 (by decide)) (zz_ro qS20 (fun h => absurd h.2 (by decide)) (zz_ro qS18 (fun h => absurd h.2 (by decide)) (zz_ro qS16 (fun h => absurd h.2 (by decide)) (zz_rs qS14)))))
                          have e31 : S22 1075 7 = p1 := (zz_ro qS22 (fun h => absurd h.2 (by decide)) (zz_ro qS20 (fun h => absurd h.2 (by decide)) (zz_ro qS18 (fun h => absurd h.2 (by decide)) (zz_rs qS16))))
                          have e32 : S22 1075 8 = p1 := (zz_ro qS22 (fun h => absurd h.2 (by decide)) (zz_ro qS20 (fun h => absurd h.2 (by decide)) (zz_rs qS18)))
                          have e33 : S22 1075 9 = p1 := (zz_ro qS22 (fun h => absurd h.2 (by decide)) (zz_rs qS20))
                          have e34 : S22 1075 10 = p1 := (zz_rs qS22)
                          exact zz_vret zd_27_103_20 rfl (Nat.zero_le _) (Nat.zero_le _) ⟨_, rfl, G_S22, F_S22, by omega, by omega, by omega, by omega, by omega, by omega, by omega, by omega, by omega, by omega, by omega⟩
                        · exfalso; omega
theorem zk_NetworkReader_44 : mm_Sl "TensorForge$NetworkReader" 44 2 zy_fill_27_103 := ⟨zyw_fill_27_103, mm_tb_1 916 (by decide +kernel) rfl, mm_tb_1 532 (by decide +kernel) rfl⟩
theorem zk_NetworkReader_50 : mm_Vl "TensorForge$NetworkReader" 50 6 0 zy_rewind_11_5 := ⟨zyw_rewind_11_5, (R_Text, F_Text, 7), rfl, mm_tb_1 917 (by decide +kernel) rfl, mm_tb_1 282 (by decide +kernel) rfl, mm_tb_1 283 (by decide +kernel) rfl⟩
theorem zk_NetworkReader_55 : mm_Vl "TensorForge$NetworkReader" 55 6 0 zy_nextLine_11_6 := ⟨zyw_nextLine_11_6, (R_Text, F_Text, 7), rfl, mm_tb_1 918 (by decide +kernel) rfl, mm_tb_1 566 (by decide +kernel) rfl, mm_tb_1 567 (by decide +kernel) rfl⟩
theorem zk_NetworkReader_59 : mm_Vl "TensorForge$NetworkReader" 59 6 0 zy_nextToken_11_7 := ⟨zyw_nextToken_11_7, (R_Text, F_Text, 7), rfl, mm_tb_1 919 (by decide +kernel) rfl, mm_tb_1 570 (by decide +kernel) rfl, mm_tb_1 571 (by decide +kernel) rfl⟩
theorem zf_NetworkReader_62 : mm_Fl "TensorForge$NetworkReader" 62 6 4 .int false := ⟨R_Text, F_Text, 7, t_Text, rfl, i_Text, by decide, mm_tb_1 291 (by decide +kernel) rfl, rfl, t_Text_ok, n_Text, rfl, by decide +kernel⟩
abbrev zy_readInput_8_3 : mm_Y := (⟨"TensorForge$NetworkReader", "readInput", "()Z"⟩, prog_8_method_3_code, 4, (some .boolean))
theorem zyw_readInput_8_3 : mm_Yw zy_readInput_8_3 0 := ⟨mm_tb_1 1021 (by decide +kernel) rfl, mm_tb_1 9 (by decide +kernel) rfl, ⟨by decide, by decide⟩, by decide +kernel⟩
theorem zk_NetworkReader_87 : mm_Vl "TensorForge$NetworkReader" 87 6 1 zy_isWord_11_9 := ⟨zyw_isWord_11_9, (R_Text, F_Text, 7), rfl, mm_tb_1 925 (by decide +kernel) rfl, mm_tb_1 595 (by decide +kernel) rfl, mm_tb_1 596 (by decide +kernel) rfl⟩
theorem zk_NetworkReader_91 : mm_Vl "TensorForge$NetworkReader" 91 6 0 zy_nextIsNumber_11_11 := ⟨zyw_nextIsNumber_11_11, (R_Text, F_Text, 7), rfl, mm_tb_1 979 (by decide +kernel) rfl, mm_tb_1 659 (by decide +kernel) rfl, mm_tb_1 660 (by decide +kernel) rfl⟩
theorem zf_NetworkReader_94 : mm_Fl "TensorForge$NetworkReader" 94 6 6 .int false := ⟨R_Text, F_Text, 7, t_Text, rfl, i_Text, by decide, mm_tb_1 295 (by decide +kernel) rfl, rfl, t_Text_ok, n_Text, rfl, by decide +kernel⟩
theorem zk_NetworkReader_99 : mm_Vl "TensorForge$NetworkReader" 99 6 1 zy_nextIsWord_11_10 := ⟨zyw_nextIsWord_11_10, (R_Text, F_Text, 7), rfl, mm_tb_1 984 (by decide +kernel) rfl, mm_tb_1 673 (by decide +kernel) rfl, mm_tb_1 674 (by decide +kernel) rfl⟩
theorem zk_NetworkReader_102 : mm_Sl "TensorForge$NetworkReader" 102 3 zy_inputFits_7_2 := ⟨zyw_inputFits_7_2, mm_tb_1 1022 (by decide +kernel) rfl, mm_tb_1 1023 (by decide +kernel) rfl⟩
theorem zk_NetworkReader_106 : mm_Vl "TensorForge$NetworkReader" 106 1 3 zy_beginWith_7_3 := ⟨zyw_beginWith_7_3, (R_Network, F_Network, 2), rfl, mm_tb_1 1026 (by decide +kernel) rfl, mm_tb_1 1027 (by decide +kernel) rfl, mm_tb_1 1028 (by decide +kernel) rfl⟩
theorem zg_8_2_17 : zq_at zy_readInto_8_2.2.1 17 42 ∧ zq_at zy_readInto_8_2.2.1 18 180 ∧ zq_at zy_readInto_8_2.2.1 19 0 ∧ zq_at zy_readInto_8_2.2.1 20 9 ∧ zq_at zy_readInto_8_2.2.1 21 182 ∧ zq_at zy_readInto_8_2.2.1 22 0 ∧ zq_at zy_readInto_8_2.2.1 23 50 ∧ zq_at zy_readInto_8_2.2.1 24 29 ∧ zq_at zy_readInto_8_2.2.1 25 17 ∧ zq_at zy_readInto_8_2.2.1 26 5 ∧ zq_at zy_readInto_8_2.2.1 27 220 ∧ zq_at zy_readInto_8_2.2.1 28 163 ∧ zq_at zy_readInto_8_2.2.1 29 0 ∧ zq_at zy_readInto_8_2.2.1 30 115 ∧ zq_at zy_readInto_8_2.2.1 143 28 ∧ zq_at zy_readInto_8_2.2.1 144 153 ∧ zq_at zy_readInto_8_2.2.1 145 0 ∧ zq_at zy_readInto_8_2.2.1 146 7 ∧ zq_at zy_readInto_8_2.2.1 151 29 ∧ zq_at zy_readInto_8_2.2.1 152 172 ∧ zq_at zy_readInto_8_2.2.1 147 2 ∧ zq_at zy_readInto_8_2.2.1 148 167 ∧ zq_at zy_readInto_8_2.2.1 149 0 ∧ zq_at zy_readInto_8_2.2.1 150 4 := by decide +kernel
theorem zd_8_2_17 : zz_D zy_readInto_8_2 17 (.aload_n 0) 1 18 := ⟨zq_42 zg_8_2_17.1, rfl⟩
theorem zd_8_2_18 : zz_D zy_readInto_8_2 18 (.getfield 9) 3 21 := ⟨zq_180 zg_8_2_17.2.1 zg_8_2_17.2.2.1 zg_8_2_17.2.2.2.1 rfl, rfl⟩
theorem zd_8_2_21 : zz_D zy_readInto_8_2 21 (.invokevirtual 50) 3 24 := ⟨zq_182 zg_8_2_17.2.2.2.2.1 zg_8_2_17.2.2.2.2.2.1 zg_8_2_17.2.2.2.2.2.2.1 rfl, rfl⟩
theorem zd_8_2_24 : zz_D zy_readInto_8_2 24 (.iload_n 3) 1 25 := ⟨zq_29 zg_8_2_17.2.2.2.2.2.2.2.1, rfl⟩
theorem zd_8_2_25 : zz_D zy_readInto_8_2 25 (.sipush 1500) 3 28 := ⟨zq_17 zg_8_2_17.2.2.2.2.2.2.2.2.1 zg_8_2_17.2.2.2.2.2.2.2.2.2.1 zg_8_2_17.2.2.2.2.2.2.2.2.2.2.1 (by decide), rfl⟩
theorem zd_8_2_28 : zz_B zy_readInto_8_2 28 (Instr.if_icmp .gt) 143 31 := ⟨115, zq_163 zg_8_2_17.2.2.2.2.2.2.2.2.2.2.2.1 zg_8_2_17.2.2.2.2.2.2.2.2.2.2.2.2.1 zg_8_2_17.2.2.2.2.2.2.2.2.2.2.2.2.2.1 (by decide), rfl, rfl⟩
theorem zd_8_2_143 : zz_D zy_readInto_8_2 143 (.iload_n 2) 1 144 := ⟨zq_28 zg_8_2_17.2.2.2.2.2.2.2.2.2.2.2.2.2.2.1, rfl⟩
theorem zd_8_2_144 : zz_B zy_readInto_8_2 144 (Instr.ifCond .eq) 151 147 := ⟨7, zq_153 zg_8_2_17.2.2.2.2.2.2.2.2.2.2.2.2.2.2.2.1 zg_8_2_17.2.2.2.2.2.2.2.2.2.2.2.2.2.2.2.2.1 zg_8_2_17.2.2.2.2.2.2.2.2.2.2.2.2.2.2.2.2.2.1 (by decide), rfl, rfl⟩
theorem zd_8_2_151 : zz_D zy_readInto_8_2 151 (.iload_n 3) 1 152 := ⟨zq_29 zg_8_2_17.2.2.2.2.2.2.2.2.2.2.2.2.2.2.2.2.2.2.1, rfl⟩
theorem zd_8_2_152 : zz_D zy_readInto_8_2 152 (.ireturn) 1 153 := ⟨zq_172 zg_8_2_17.2.2.2.2.2.2.2.2.2.2.2.2.2.2.2.2.2.2.2.1, rfl⟩
theorem zd_8_2_147 : zz_D zy_readInto_8_2 147 (.iconst (-1)) 1 148 := ⟨zq_2 zg_8_2_17.2.2.2.2.2.2.2.2.2.2.2.2.2.2.2.2.2.2.2.2.1, rfl⟩
theorem zd_8_2_148 : zz_B zy_readInto_8_2 148 Instr.goto 152 151 := ⟨4, zq_167 zg_8_2_17.2.2.2.2.2.2.2.2.2.2.2.2.2.2.2.2.2.2.2.2.2.1 zg_8_2_17.2.2.2.2.2.2.2.2.2.2.2.2.2.2.2.2.2.2.2.2.2.2.1 zg_8_2_17.2.2.2.2.2.2.2.2.2.2.2.2.2.2.2.2.2.2.2.2.2.2.2 (by decide), rfl, rfl⟩
theorem zg_8_2_31 : zq_at zy_readInto_8_2.2.1 31 42 ∧ zq_at zy_readInto_8_2.2.1 32 180 ∧ zq_at zy_readInto_8_2.2.1 33 0 ∧ zq_at zy_readInto_8_2.2.1 34 9 ∧ zq_at zy_readInto_8_2.2.1 35 182 ∧ zq_at zy_readInto_8_2.2.1 36 0 ∧ zq_at zy_readInto_8_2.2.1 37 55 ∧ zq_at zy_readInto_8_2.2.1 38 153 ∧ zq_at zy_readInto_8_2.2.1 39 0 ∧ zq_at zy_readInto_8_2.2.1 40 105 ∧ zq_at zy_readInto_8_2.2.1 41 42 ∧ zq_at zy_readInto_8_2.2.1 42 180 ∧ zq_at zy_readInto_8_2.2.1 43 0 ∧ zq_at zy_readInto_8_2.2.1 44 9 ∧ zq_at zy_readInto_8_2.2.1 45 182 ∧ zq_at zy_readInto_8_2.2.1 46 0 ∧ zq_at zy_readInto_8_2.2.1 47 59 ∧ zq_at zy_readInto_8_2.2.1 48 42 ∧ zq_at zy_readInto_8_2.2.1 49 180 ∧ zq_at zy_readInto_8_2.2.1 50 0 ∧ zq_at zy_readInto_8_2.2.1 51 9 ∧ zq_at zy_readInto_8_2.2.1 52 180 ∧ zq_at zy_readInto_8_2.2.1 53 0 ∧ zq_at zy_readInto_8_2.2.1 54 62 := by decide +kernel
theorem zd_8_2_31 : zz_D zy_readInto_8_2 31 (.aload_n 0) 1 32 := ⟨zq_42 zg_8_2_31.1, rfl⟩
theorem zd_8_2_32 : zz_D zy_readInto_8_2 32 (.getfield 9) 3 35 := ⟨zq_180 zg_8_2_31.2.1 zg_8_2_31.2.2.1 zg_8_2_31.2.2.2.1 rfl, rfl⟩
theorem zd_8_2_35 : zz_D zy_readInto_8_2 35 (.invokevirtual 55) 3 38 := ⟨zq_182 zg_8_2_31.2.2.2.2.1 zg_8_2_31.2.2.2.2.2.1 zg_8_2_31.2.2.2.2.2.2.1 rfl, rfl⟩
theorem zd_8_2_38 : zz_B zy_readInto_8_2 38 (Instr.ifCond .eq) 143 41 := ⟨105, zq_153 zg_8_2_31.2.2.2.2.2.2.2.1 zg_8_2_31.2.2.2.2.2.2.2.2.1 zg_8_2_31.2.2.2.2.2.2.2.2.2.1 (by decide), rfl, rfl⟩
theorem zd_8_2_41 : zz_D zy_readInto_8_2 41 (.aload_n 0) 1 42 := ⟨zq_42 zg_8_2_31.2.2.2.2.2.2.2.2.2.2.1, rfl⟩
theorem zd_8_2_42 : zz_D zy_readInto_8_2 42 (.getfield 9) 3 45 := ⟨zq_180 zg_8_2_31.2.2.2.2.2.2.2.2.2.2.2.1 zg_8_2_31.2.2.2.2.2.2.2.2.2.2.2.2.1 zg_8_2_31.2.2.2.2.2.2.2.2.2.2.2.2.2.1 rfl, rfl⟩
theorem zd_8_2_45 : zz_D zy_readInto_8_2 45 (.invokevirtual 59) 3 48 := ⟨zq_182 zg_8_2_31.2.2.2.2.2.2.2.2.2.2.2.2.2.2.1 zg_8_2_31.2.2.2.2.2.2.2.2.2.2.2.2.2.2.2.1 zg_8_2_31.2.2.2.2.2.2.2.2.2.2.2.2.2.2.2.2.1 rfl, rfl⟩
theorem zd_8_2_48 : zz_D zy_readInto_8_2 48 (.aload_n 0) 1 49 := ⟨zq_42 zg_8_2_31.2.2.2.2.2.2.2.2.2.2.2.2.2.2.2.2.2.1, rfl⟩
theorem zd_8_2_49 : zz_D zy_readInto_8_2 49 (.getfield 9) 3 52 := ⟨zq_180 zg_8_2_31.2.2.2.2.2.2.2.2.2.2.2.2.2.2.2.2.2.2.1 zg_8_2_31.2.2.2.2.2.2.2.2.2.2.2.2.2.2.2.2.2.2.2.1 zg_8_2_31.2.2.2.2.2.2.2.2.2.2.2.2.2.2.2.2.2.2.2.2.1 rfl, rfl⟩
theorem zd_8_2_52 : zz_D zy_readInto_8_2 52 (.getfield 62) 3 55 := ⟨zq_180 zg_8_2_31.2.2.2.2.2.2.2.2.2.2.2.2.2.2.2.2.2.2.2.2.2.1 zg_8_2_31.2.2.2.2.2.2.2.2.2.2.2.2.2.2.2.2.2.2.2.2.2.2.1 zg_8_2_31.2.2.2.2.2.2.2.2.2.2.2.2.2.2.2.2.2.2.2.2.2.2.2 rfl, rfl⟩
theorem zg_8_2_55 : zq_at zy_readInto_8_2.2.1 55 153 ∧ zq_at zy_readInto_8_2.2.1 56 0 ∧ zq_at zy_readInto_8_2.2.1 57 82 ∧ zq_at zy_readInto_8_2.2.1 137 132 ∧ zq_at zy_readInto_8_2.2.1 138 3 ∧ zq_at zy_readInto_8_2.2.1 139 1 ∧ zq_at zy_readInto_8_2.2.1 140 167 ∧ zq_at zy_readInto_8_2.2.1 141 255 ∧ zq_at zy_readInto_8_2.2.1 142 140 ∧ zq_at zy_readInto_8_2.2.1 58 28 ∧ zq_at zy_readInto_8_2.2.1 59 153 ∧ zq_at zy_readInto_8_2.2.1 60 0 ∧ zq_at zy_readInto_8_2.2.1 61 35 ∧ zq_at zy_readInto_8_2.2.1 94 42 ∧ zq_at zy_readInto_8_2.2.1 95 182 ∧ zq_at zy_readInto_8_2.2.1 96 0 ∧ zq_at zy_readInto_8_2.2.1 97 75 := by decide +kernel
theorem zd_8_2_55 : zz_B zy_readInto_8_2 55 (Instr.ifCond .eq) 137 58 := ⟨82, zq_153 zg_8_2_55.1 zg_8_2_55.2.1 zg_8_2_55.2.2.1 (by decide), rfl, rfl⟩
theorem zd_8_2_137 : zz_D zy_readInto_8_2 137 (.iinc 3 1) 3 140 := ⟨zq_132 zg_8_2_55.2.2.2.1 zg_8_2_55.2.2.2.2.1 zg_8_2_55.2.2.2.2.2.1 (by decide), rfl⟩
theorem zd_8_2_140 : zz_B zy_readInto_8_2 140 Instr.goto 24 143 := ⟨(-116), zq_167 zg_8_2_55.2.2.2.2.2.2.1 zg_8_2_55.2.2.2.2.2.2.2.1 zg_8_2_55.2.2.2.2.2.2.2.2.1 (by decide), rfl, rfl⟩
theorem zd_8_2_58 : zz_D zy_readInto_8_2 58 (.iload_n 2) 1 59 := ⟨zq_28 zg_8_2_55.2.2.2.2.2.2.2.2.2.1, rfl⟩
theorem zd_8_2_59 : zz_B zy_readInto_8_2 59 (Instr.ifCond .eq) 94 62 := ⟨35, zq_153 zg_8_2_55.2.2.2.2.2.2.2.2.2.2.1 zg_8_2_55.2.2.2.2.2.2.2.2.2.2.2.1 zg_8_2_55.2.2.2.2.2.2.2.2.2.2.2.2.1 (by decide), rfl, rfl⟩
theorem zd_8_2_94 : zz_D zy_readInto_8_2 94 (.aload_n 0) 1 95 := ⟨zq_42 zg_8_2_55.2.2.2.2.2.2.2.2.2.2.2.2.2.1, rfl⟩
theorem zd_8_2_95 : zz_D zy_readInto_8_2 95 (.invokevirtual 75) 3 98 := ⟨zq_182 zg_8_2_55.2.2.2.2.2.2.2.2.2.2.2.2.2.2.1 zg_8_2_55.2.2.2.2.2.2.2.2.2.2.2.2.2.2.2.1 zg_8_2_55.2.2.2.2.2.2.2.2.2.2.2.2.2.2.2.2 rfl, rfl⟩
theorem zg_8_3_0 : zq_at zy_readInput_8_3.2.1 0 42 ∧ zq_at zy_readInput_8_3.2.1 1 180 ∧ zq_at zy_readInput_8_3.2.1 2 0 ∧ zq_at zy_readInput_8_3.2.1 3 9 ∧ zq_at zy_readInput_8_3.2.1 4 18 ∧ zq_at zy_readInput_8_3.2.1 5 85 ∧ zq_at zy_readInput_8_3.2.1 6 182 ∧ zq_at zy_readInput_8_3.2.1 7 0 ∧ zq_at zy_readInput_8_3.2.1 8 87 ∧ zq_at zy_readInput_8_3.2.1 9 153 ∧ zq_at zy_readInput_8_3.2.1 10 0 ∧ zq_at zy_readInput_8_3.2.1 11 13 ∧ zq_at zy_readInput_8_3.2.1 22 3 ∧ zq_at zy_readInput_8_3.2.1 23 172 ∧ zq_at zy_readInput_8_3.2.1 12 42 ∧ zq_at zy_readInput_8_3.2.1 13 180 ∧ zq_at zy_readInput_8_3.2.1 14 0 ∧ zq_at zy_readInput_8_3.2.1 15 9 ∧ zq_at zy_readInput_8_3.2.1 16 182 ∧ zq_at zy_readInput_8_3.2.1 17 0 ∧ zq_at zy_readInput_8_3.2.1 18 91 ∧ zq_at zy_readInput_8_3.2.1 19 154 ∧ zq_at zy_readInput_8_3.2.1 20 0 ∧ zq_at zy_readInput_8_3.2.1 21 5 := by decide +kernel
theorem zd_8_3_0 : zz_D zy_readInput_8_3 0 (.aload_n 0) 1 1 := ⟨zq_42 zg_8_3_0.1, rfl⟩
theorem zd_8_3_1 : zz_D zy_readInput_8_3 1 (.getfield 9) 3 4 := ⟨zq_180 zg_8_3_0.2.1 zg_8_3_0.2.2.1 zg_8_3_0.2.2.2.1 rfl, rfl⟩
theorem zd_8_3_4 : zz_D zy_readInput_8_3 4 (.ldc 85) 2 6 := ⟨zq_18 zg_8_3_0.2.2.2.2.1 zg_8_3_0.2.2.2.2.2.1, rfl⟩
theorem zd_8_3_6 : zz_D zy_readInput_8_3 6 (.invokevirtual 87) 3 9 := ⟨zq_182 zg_8_3_0.2.2.2.2.2.2.1 zg_8_3_0.2.2.2.2.2.2.2.1 zg_8_3_0.2.2.2.2.2.2.2.2.1 rfl, rfl⟩
theorem zd_8_3_9 : zz_B zy_readInput_8_3 9 (Instr.ifCond .eq) 22 12 := ⟨13, zq_153 zg_8_3_0.2.2.2.2.2.2.2.2.2.1 zg_8_3_0.2.2.2.2.2.2.2.2.2.2.1 zg_8_3_0.2.2.2.2.2.2.2.2.2.2.2.1 (by decide), rfl, rfl⟩
theorem zd_8_3_22 : zz_D zy_readInput_8_3 22 (.iconst 0) 1 23 := ⟨zq_3 zg_8_3_0.2.2.2.2.2.2.2.2.2.2.2.2.1, rfl⟩
theorem zd_8_3_23 : zz_D zy_readInput_8_3 23 (.ireturn) 1 24 := ⟨zq_172 zg_8_3_0.2.2.2.2.2.2.2.2.2.2.2.2.2.1, rfl⟩
theorem zd_8_3_12 : zz_D zy_readInput_8_3 12 (.aload_n 0) 1 13 := ⟨zq_42 zg_8_3_0.2.2.2.2.2.2.2.2.2.2.2.2.2.2.1, rfl⟩
theorem zd_8_3_13 : zz_D zy_readInput_8_3 13 (.getfield 9) 3 16 := ⟨zq_180 zg_8_3_0.2.2.2.2.2.2.2.2.2.2.2.2.2.2.2.1 zg_8_3_0.2.2.2.2.2.2.2.2.2.2.2.2.2.2.2.2.1 zg_8_3_0.2.2.2.2.2.2.2.2.2.2.2.2.2.2.2.2.2.1 rfl, rfl⟩
theorem zd_8_3_16 : zz_D zy_readInput_8_3 16 (.invokevirtual 91) 3 19 := ⟨zq_182 zg_8_3_0.2.2.2.2.2.2.2.2.2.2.2.2.2.2.2.2.2.2.1 zg_8_3_0.2.2.2.2.2.2.2.2.2.2.2.2.2.2.2.2.2.2.2.1 zg_8_3_0.2.2.2.2.2.2.2.2.2.2.2.2.2.2.2.2.2.2.2.2.1 rfl, rfl⟩
theorem zd_8_3_19 : zz_B zy_readInput_8_3 19 (Instr.ifCond .ne) 24 22 := ⟨5, zq_154 zg_8_3_0.2.2.2.2.2.2.2.2.2.2.2.2.2.2.2.2.2.2.2.2.2.1 zg_8_3_0.2.2.2.2.2.2.2.2.2.2.2.2.2.2.2.2.2.2.2.2.2.2.1 zg_8_3_0.2.2.2.2.2.2.2.2.2.2.2.2.2.2.2.2.2.2.2.2.2.2.2 (by decide), rfl, rfl⟩
theorem zg_8_3_24 : zq_at zy_readInput_8_3.2.1 24 42 ∧ zq_at zy_readInput_8_3.2.1 25 180 ∧ zq_at zy_readInput_8_3.2.1 26 0 ∧ zq_at zy_readInput_8_3.2.1 27 9 ∧ zq_at zy_readInput_8_3.2.1 28 180 ∧ zq_at zy_readInput_8_3.2.1 29 0 ∧ zq_at zy_readInput_8_3.2.1 30 94 ∧ zq_at zy_readInput_8_3.2.1 31 60 ∧ zq_at zy_readInput_8_3.2.1 32 42 ∧ zq_at zy_readInput_8_3.2.1 33 180 ∧ zq_at zy_readInput_8_3.2.1 34 0 ∧ zq_at zy_readInput_8_3.2.1 35 9 ∧ zq_at zy_readInput_8_3.2.1 36 18 ∧ zq_at zy_readInput_8_3.2.1 37 97 ∧ zq_at zy_readInput_8_3.2.1 38 182 ∧ zq_at zy_readInput_8_3.2.1 39 0 ∧ zq_at zy_readInput_8_3.2.1 40 99 ∧ zq_at zy_readInput_8_3.2.1 41 153 ∧ zq_at zy_readInput_8_3.2.1 42 0 ∧ zq_at zy_readInput_8_3.2.1 43 13 ∧ zq_at zy_readInput_8_3.2.1 54 3 ∧ zq_at zy_readInput_8_3.2.1 55 172 ∧ zq_at zy_readInput_8_3.2.1 44 42 := by decide +kernel
theorem zd_8_3_24 : zz_D zy_readInput_8_3 24 (.aload_n 0) 1 25 := ⟨zq_42 zg_8_3_24.1, rfl⟩
theorem zd_8_3_25 : zz_D zy_readInput_8_3 25 (.getfield 9) 3 28 := ⟨zq_180 zg_8_3_24.2.1 zg_8_3_24.2.2.1 zg_8_3_24.2.2.2.1 rfl, rfl⟩
theorem zd_8_3_28 : zz_D zy_readInput_8_3 28 (.getfield 94) 3 31 := ⟨zq_180 zg_8_3_24.2.2.2.2.1 zg_8_3_24.2.2.2.2.2.1 zg_8_3_24.2.2.2.2.2.2.1 rfl, rfl⟩
theorem zd_8_3_31 : zz_D zy_readInput_8_3 31 (.istore_n 1) 1 32 := ⟨zq_60 zg_8_3_24.2.2.2.2.2.2.2.1, rfl⟩
theorem zd_8_3_32 : zz_D zy_readInput_8_3 32 (.aload_n 0) 1 33 := ⟨zq_42 zg_8_3_24.2.2.2.2.2.2.2.2.1, rfl⟩
theorem zd_8_3_33 : zz_D zy_readInput_8_3 33 (.getfield 9) 3 36 := ⟨zq_180 zg_8_3_24.2.2.2.2.2.2.2.2.2.1 zg_8_3_24.2.2.2.2.2.2.2.2.2.2.1 zg_8_3_24.2.2.2.2.2.2.2.2.2.2.2.1 rfl, rfl⟩
theorem zd_8_3_36 : zz_D zy_readInput_8_3 36 (.ldc 97) 2 38 := ⟨zq_18 zg_8_3_24.2.2.2.2.2.2.2.2.2.2.2.2.1 zg_8_3_24.2.2.2.2.2.2.2.2.2.2.2.2.2.1, rfl⟩
theorem zd_8_3_38 : zz_D zy_readInput_8_3 38 (.invokevirtual 99) 3 41 := ⟨zq_182 zg_8_3_24.2.2.2.2.2.2.2.2.2.2.2.2.2.2.1 zg_8_3_24.2.2.2.2.2.2.2.2.2.2.2.2.2.2.2.1 zg_8_3_24.2.2.2.2.2.2.2.2.2.2.2.2.2.2.2.2.1 rfl, rfl⟩
theorem zd_8_3_41 : zz_B zy_readInput_8_3 41 (Instr.ifCond .eq) 54 44 := ⟨13, zq_153 zg_8_3_24.2.2.2.2.2.2.2.2.2.2.2.2.2.2.2.2.2.1 zg_8_3_24.2.2.2.2.2.2.2.2.2.2.2.2.2.2.2.2.2.2.1 zg_8_3_24.2.2.2.2.2.2.2.2.2.2.2.2.2.2.2.2.2.2.2.1 (by decide), rfl, rfl⟩
theorem zd_8_3_54 : zz_D zy_readInput_8_3 54 (.iconst 0) 1 55 := ⟨zq_3 zg_8_3_24.2.2.2.2.2.2.2.2.2.2.2.2.2.2.2.2.2.2.2.2.1, rfl⟩
theorem zd_8_3_55 : zz_D zy_readInput_8_3 55 (.ireturn) 1 56 := ⟨zq_172 zg_8_3_24.2.2.2.2.2.2.2.2.2.2.2.2.2.2.2.2.2.2.2.2.2.1, rfl⟩
theorem zd_8_3_44 : zz_D zy_readInput_8_3 44 (.aload_n 0) 1 45 := ⟨zq_42 zg_8_3_24.2.2.2.2.2.2.2.2.2.2.2.2.2.2.2.2.2.2.2.2.2.2, rfl⟩
theorem zg_8_3_45 : zq_at zy_readInput_8_3.2.1 45 180 ∧ zq_at zy_readInput_8_3.2.1 46 0 ∧ zq_at zy_readInput_8_3.2.1 47 9 ∧ zq_at zy_readInput_8_3.2.1 48 182 ∧ zq_at zy_readInput_8_3.2.1 49 0 ∧ zq_at zy_readInput_8_3.2.1 50 91 ∧ zq_at zy_readInput_8_3.2.1 51 154 ∧ zq_at zy_readInput_8_3.2.1 52 0 ∧ zq_at zy_readInput_8_3.2.1 53 5 ∧ zq_at zy_readInput_8_3.2.1 56 42 ∧ zq_at zy_readInput_8_3.2.1 57 180 ∧ zq_at zy_readInput_8_3.2.1 58 0 ∧ zq_at zy_readInput_8_3.2.1 59 9 ∧ zq_at zy_readInput_8_3.2.1 60 180 ∧ zq_at zy_readInput_8_3.2.1 61 0 ∧ zq_at zy_readInput_8_3.2.1 62 94 ∧ zq_at zy_readInput_8_3.2.1 63 61 ∧ zq_at zy_readInput_8_3.2.1 64 42 ∧ zq_at zy_readInput_8_3.2.1 65 180 ∧ zq_at zy_readInput_8_3.2.1 66 0 ∧ zq_at zy_readInput_8_3.2.1 67 9 ∧ zq_at zy_readInput_8_3.2.1 68 18 ∧ zq_at zy_readInput_8_3.2.1 69 97 := by decide +kernel
theorem zd_8_3_45 : zz_D zy_readInput_8_3 45 (.getfield 9) 3 48 := ⟨zq_180 zg_8_3_45.1 zg_8_3_45.2.1 zg_8_3_45.2.2.1 rfl, rfl⟩
theorem zd_8_3_48 : zz_D zy_readInput_8_3 48 (.invokevirtual 91) 3 51 := ⟨zq_182 zg_8_3_45.2.2.2.1 zg_8_3_45.2.2.2.2.1 zg_8_3_45.2.2.2.2.2.1 rfl, rfl⟩
theorem zd_8_3_51 : zz_B zy_readInput_8_3 51 (Instr.ifCond .ne) 56 54 := ⟨5, zq_154 zg_8_3_45.2.2.2.2.2.2.1 zg_8_3_45.2.2.2.2.2.2.2.1 zg_8_3_45.2.2.2.2.2.2.2.2.1 (by decide), rfl, rfl⟩
theorem zd_8_3_56 : zz_D zy_readInput_8_3 56 (.aload_n 0) 1 57 := ⟨zq_42 zg_8_3_45.2.2.2.2.2.2.2.2.2.1, rfl⟩
theorem zd_8_3_57 : zz_D zy_readInput_8_3 57 (.getfield 9) 3 60 := ⟨zq_180 zg_8_3_45.2.2.2.2.2.2.2.2.2.2.1 zg_8_3_45.2.2.2.2.2.2.2.2.2.2.2.1 zg_8_3_45.2.2.2.2.2.2.2.2.2.2.2.2.1 rfl, rfl⟩
theorem zd_8_3_60 : zz_D zy_readInput_8_3 60 (.getfield 94) 3 63 := ⟨zq_180 zg_8_3_45.2.2.2.2.2.2.2.2.2.2.2.2.2.1 zg_8_3_45.2.2.2.2.2.2.2.2.2.2.2.2.2.2.1 zg_8_3_45.2.2.2.2.2.2.2.2.2.2.2.2.2.2.2.1 rfl, rfl⟩
theorem zd_8_3_63 : zz_D zy_readInput_8_3 63 (.istore_n 2) 1 64 := ⟨zq_61 zg_8_3_45.2.2.2.2.2.2.2.2.2.2.2.2.2.2.2.2.1, rfl⟩
theorem zd_8_3_64 : zz_D zy_readInput_8_3 64 (.aload_n 0) 1 65 := ⟨zq_42 zg_8_3_45.2.2.2.2.2.2.2.2.2.2.2.2.2.2.2.2.2.1, rfl⟩
theorem zd_8_3_65 : zz_D zy_readInput_8_3 65 (.getfield 9) 3 68 := ⟨zq_180 zg_8_3_45.2.2.2.2.2.2.2.2.2.2.2.2.2.2.2.2.2.2.1 zg_8_3_45.2.2.2.2.2.2.2.2.2.2.2.2.2.2.2.2.2.2.2.1 zg_8_3_45.2.2.2.2.2.2.2.2.2.2.2.2.2.2.2.2.2.2.2.2.1 rfl, rfl⟩
theorem zd_8_3_68 : zz_D zy_readInput_8_3 68 (.ldc 97) 2 70 := ⟨zq_18 zg_8_3_45.2.2.2.2.2.2.2.2.2.2.2.2.2.2.2.2.2.2.2.2.2.1 zg_8_3_45.2.2.2.2.2.2.2.2.2.2.2.2.2.2.2.2.2.2.2.2.2.2, rfl⟩
theorem zg_8_3_70 : zq_at zy_readInput_8_3.2.1 70 182 ∧ zq_at zy_readInput_8_3.2.1 71 0 ∧ zq_at zy_readInput_8_3.2.1 72 99 ∧ zq_at zy_readInput_8_3.2.1 73 153 ∧ zq_at zy_readInput_8_3.2.1 74 0 ∧ zq_at zy_readInput_8_3.2.1 75 13 ∧ zq_at zy_readInput_8_3.2.1 86 3 ∧ zq_at zy_readInput_8_3.2.1 87 172 ∧ zq_at zy_readInput_8_3.2.1 76 42 ∧ zq_at zy_readInput_8_3.2.1 77 180 ∧ zq_at zy_readInput_8_3.2.1 78 0 ∧ zq_at zy_readInput_8_3.2.1 79 9 ∧ zq_at zy_readInput_8_3.2.1 80 182 ∧ zq_at zy_readInput_8_3.2.1 81 0 ∧ zq_at zy_readInput_8_3.2.1 82 91 ∧ zq_at zy_readInput_8_3.2.1 83 154 ∧ zq_at zy_readInput_8_3.2.1 84 0 ∧ zq_at zy_readInput_8_3.2.1 85 5 ∧ zq_at zy_readInput_8_3.2.1 88 42 ∧ zq_at zy_readInput_8_3.2.1 89 180 ∧ zq_at zy_readInput_8_3.2.1 90 0 ∧ zq_at zy_readInput_8_3.2.1 91 9 := by decide +kernel
theorem zd_8_3_70 : zz_D zy_readInput_8_3 70 (.invokevirtual 99) 3 73 := ⟨zq_182 zg_8_3_70.1 zg_8_3_70.2.1 zg_8_3_70.2.2.1 rfl, rfl⟩
theorem zd_8_3_73 : zz_B zy_readInput_8_3 73 (Instr.ifCond .eq) 86 76 := ⟨13, zq_153 zg_8_3_70.2.2.2.1 zg_8_3_70.2.2.2.2.1 zg_8_3_70.2.2.2.2.2.1 (by decide), rfl, rfl⟩
theorem zd_8_3_86 : zz_D zy_readInput_8_3 86 (.iconst 0) 1 87 := ⟨zq_3 zg_8_3_70.2.2.2.2.2.2.1, rfl⟩
theorem zd_8_3_87 : zz_D zy_readInput_8_3 87 (.ireturn) 1 88 := ⟨zq_172 zg_8_3_70.2.2.2.2.2.2.2.1, rfl⟩
theorem zd_8_3_76 : zz_D zy_readInput_8_3 76 (.aload_n 0) 1 77 := ⟨zq_42 zg_8_3_70.2.2.2.2.2.2.2.2.1, rfl⟩
theorem zd_8_3_77 : zz_D zy_readInput_8_3 77 (.getfield 9) 3 80 := ⟨zq_180 zg_8_3_70.2.2.2.2.2.2.2.2.2.1 zg_8_3_70.2.2.2.2.2.2.2.2.2.2.1 zg_8_3_70.2.2.2.2.2.2.2.2.2.2.2.1 rfl, rfl⟩
theorem zd_8_3_80 : zz_D zy_readInput_8_3 80 (.invokevirtual 91) 3 83 := ⟨zq_182 zg_8_3_70.2.2.2.2.2.2.2.2.2.2.2.2.1 zg_8_3_70.2.2.2.2.2.2.2.2.2.2.2.2.2.1 zg_8_3_70.2.2.2.2.2.2.2.2.2.2.2.2.2.2.1 rfl, rfl⟩
theorem zd_8_3_83 : zz_B zy_readInput_8_3 83 (Instr.ifCond .ne) 88 86 := ⟨5, zq_154 zg_8_3_70.2.2.2.2.2.2.2.2.2.2.2.2.2.2.2.1 zg_8_3_70.2.2.2.2.2.2.2.2.2.2.2.2.2.2.2.2.1 zg_8_3_70.2.2.2.2.2.2.2.2.2.2.2.2.2.2.2.2.2.1 (by decide), rfl, rfl⟩
theorem zd_8_3_88 : zz_D zy_readInput_8_3 88 (.aload_n 0) 1 89 := ⟨zq_42 zg_8_3_70.2.2.2.2.2.2.2.2.2.2.2.2.2.2.2.2.2.2.1, rfl⟩
theorem zd_8_3_89 : zz_D zy_readInput_8_3 89 (.getfield 9) 3 92 := ⟨zq_180 zg_8_3_70.2.2.2.2.2.2.2.2.2.2.2.2.2.2.2.2.2.2.2.1 zg_8_3_70.2.2.2.2.2.2.2.2.2.2.2.2.2.2.2.2.2.2.2.2.1 zg_8_3_70.2.2.2.2.2.2.2.2.2.2.2.2.2.2.2.2.2.2.2.2.2 rfl, rfl⟩
theorem zg_8_3_92 : zq_at zy_readInput_8_3.2.1 92 180 ∧ zq_at zy_readInput_8_3.2.1 93 0 ∧ zq_at zy_readInput_8_3.2.1 94 94 ∧ zq_at zy_readInput_8_3.2.1 95 62 ∧ zq_at zy_readInput_8_3.2.1 96 27 ∧ zq_at zy_readInput_8_3.2.1 97 28 ∧ zq_at zy_readInput_8_3.2.1 98 29 ∧ zq_at zy_readInput_8_3.2.1 99 184 ∧ zq_at zy_readInput_8_3.2.1 100 0 ∧ zq_at zy_readInput_8_3.2.1 101 102 ∧ zq_at zy_readInput_8_3.2.1 102 154 ∧ zq_at zy_readInput_8_3.2.1 103 0 ∧ zq_at zy_readInput_8_3.2.1 104 5 ∧ zq_at zy_readInput_8_3.2.1 105 3 ∧ zq_at zy_readInput_8_3.2.1 106 172 ∧ zq_at zy_readInput_8_3.2.1 107 42 ∧ zq_at zy_readInput_8_3.2.1 108 180 ∧ zq_at zy_readInput_8_3.2.1 109 0 ∧ zq_at zy_readInput_8_3.2.1 110 15 ∧ zq_at zy_readInput_8_3.2.1 111 27 ∧ zq_at zy_readInput_8_3.2.1 112 28 ∧ zq_at zy_readInput_8_3.2.1 113 29 := by decide +kernel
theorem zd_8_3_92 : zz_D zy_readInput_8_3 92 (.getfield 94) 3 95 := ⟨zq_180 zg_8_3_92.1 zg_8_3_92.2.1 zg_8_3_92.2.2.1 rfl, rfl⟩
theorem zd_8_3_95 : zz_D zy_readInput_8_3 95 (.istore_n 3) 1 96 := ⟨zq_62 zg_8_3_92.2.2.2.1, rfl⟩
theorem zd_8_3_96 : zz_D zy_readInput_8_3 96 (.iload_n 1) 1 97 := ⟨zq_27 zg_8_3_92.2.2.2.2.1, rfl⟩
theorem zd_8_3_97 : zz_D zy_readInput_8_3 97 (.iload_n 2) 1 98 := ⟨zq_28 zg_8_3_92.2.2.2.2.2.1, rfl⟩
theorem zd_8_3_98 : zz_D zy_readInput_8_3 98 (.iload_n 3) 1 99 := ⟨zq_29 zg_8_3_92.2.2.2.2.2.2.1, rfl⟩
theorem zd_8_3_99 : zz_D zy_readInput_8_3 99 (.invokestatic 102) 3 102 := ⟨zq_184 zg_8_3_92.2.2.2.2.2.2.2.1 zg_8_3_92.2.2.2.2.2.2.2.2.1 zg_8_3_92.2.2.2.2.2.2.2.2.2.1 rfl, rfl⟩
theorem zd_8_3_102 : zz_B zy_readInput_8_3 102 (Instr.ifCond .ne) 107 105 := ⟨5, zq_154 zg_8_3_92.2.2.2.2.2.2.2.2.2.2.1 zg_8_3_92.2.2.2.2.2.2.2.2.2.2.2.1 zg_8_3_92.2.2.2.2.2.2.2.2.2.2.2.2.1 (by decide), rfl, rfl⟩
theorem zd_8_3_105 : zz_D zy_readInput_8_3 105 (.iconst 0) 1 106 := ⟨zq_3 zg_8_3_92.2.2.2.2.2.2.2.2.2.2.2.2.2.1, rfl⟩
theorem zd_8_3_106 : zz_D zy_readInput_8_3 106 (.ireturn) 1 107 := ⟨zq_172 zg_8_3_92.2.2.2.2.2.2.2.2.2.2.2.2.2.2.1, rfl⟩
theorem zd_8_3_107 : zz_D zy_readInput_8_3 107 (.aload_n 0) 1 108 := ⟨zq_42 zg_8_3_92.2.2.2.2.2.2.2.2.2.2.2.2.2.2.2.1, rfl⟩
theorem zd_8_3_108 : zz_D zy_readInput_8_3 108 (.getfield 15) 3 111 := ⟨zq_180 zg_8_3_92.2.2.2.2.2.2.2.2.2.2.2.2.2.2.2.2.1 zg_8_3_92.2.2.2.2.2.2.2.2.2.2.2.2.2.2.2.2.2.1 zg_8_3_92.2.2.2.2.2.2.2.2.2.2.2.2.2.2.2.2.2.2.1 rfl, rfl⟩
theorem zd_8_3_111 : zz_D zy_readInput_8_3 111 (.iload_n 1) 1 112 := ⟨zq_27 zg_8_3_92.2.2.2.2.2.2.2.2.2.2.2.2.2.2.2.2.2.2.2.1, rfl⟩
theorem zd_8_3_112 : zz_D zy_readInput_8_3 112 (.iload_n 2) 1 113 := ⟨zq_28 zg_8_3_92.2.2.2.2.2.2.2.2.2.2.2.2.2.2.2.2.2.2.2.2.1, rfl⟩
theorem zd_8_3_113 : zz_D zy_readInput_8_3 113 (.iload_n 3) 1 114 := ⟨zq_29 zg_8_3_92.2.2.2.2.2.2.2.2.2.2.2.2.2.2.2.2.2.2.2.2.2, rfl⟩
theorem zg_8_3_114 : zq_at zy_readInput_8_3.2.1 114 182 ∧ zq_at zy_readInput_8_3.2.1 115 0 ∧ zq_at zy_readInput_8_3.2.1 116 106 ∧ zq_at zy_readInput_8_3.2.1 117 42 ∧ zq_at zy_readInput_8_3.2.1 118 17 ∧ zq_at zy_readInput_8_3.2.1 119 0 ∧ zq_at zy_readInput_8_3.2.1 120 128 ∧ zq_at zy_readInput_8_3.2.1 121 181 ∧ zq_at zy_readInput_8_3.2.1 122 0 ∧ zq_at zy_readInput_8_3.2.1 123 35 ∧ zq_at zy_readInput_8_3.2.1 124 42 ∧ zq_at zy_readInput_8_3.2.1 125 3 ∧ zq_at zy_readInput_8_3.2.1 126 181 ∧ zq_at zy_readInput_8_3.2.1 127 0 ∧ zq_at zy_readInput_8_3.2.1 128 38 ∧ zq_at zy_readInput_8_3.2.1 129 4 ∧ zq_at zy_readInput_8_3.2.1 130 172 := by decide +kernel
theorem zd_8_3_114 : zz_D zy_readInput_8_3 114 (.invokevirtual 106) 3 117 := ⟨zq_182 zg_8_3_114.1 zg_8_3_114.2.1 zg_8_3_114.2.2.1 rfl, rfl⟩
theorem zd_8_3_117 : zz_D zy_readInput_8_3 117 (.aload_n 0) 1 118 := ⟨zq_42 zg_8_3_114.2.2.2.1, rfl⟩
theorem zd_8_3_118 : zz_D zy_readInput_8_3 118 (.sipush 128) 3 121 := ⟨zq_17 zg_8_3_114.2.2.2.2.1 zg_8_3_114.2.2.2.2.2.1 zg_8_3_114.2.2.2.2.2.2.1 (by decide), rfl⟩
theorem zd_8_3_121 : zz_D zy_readInput_8_3 121 (.putfield 35) 3 124 := ⟨zq_181 zg_8_3_114.2.2.2.2.2.2.2.1 zg_8_3_114.2.2.2.2.2.2.2.2.1 zg_8_3_114.2.2.2.2.2.2.2.2.2.1 rfl, rfl⟩
theorem zd_8_3_124 : zz_D zy_readInput_8_3 124 (.aload_n 0) 1 125 := ⟨zq_42 zg_8_3_114.2.2.2.2.2.2.2.2.2.2.1, rfl⟩
theorem zd_8_3_125 : zz_D zy_readInput_8_3 125 (.iconst 0) 1 126 := ⟨zq_3 zg_8_3_114.2.2.2.2.2.2.2.2.2.2.2.1, rfl⟩
theorem zd_8_3_126 : zz_D zy_readInput_8_3 126 (.putfield 38) 3 129 := ⟨zq_181 zg_8_3_114.2.2.2.2.2.2.2.2.2.2.2.2.1 zg_8_3_114.2.2.2.2.2.2.2.2.2.2.2.2.2.1 zg_8_3_114.2.2.2.2.2.2.2.2.2.2.2.2.2.2.1 rfl, rfl⟩
theorem zd_8_3_129 : zz_D zy_readInput_8_3 129 (.iconst 1) 1 130 := ⟨zq_4 zg_8_3_114.2.2.2.2.2.2.2.2.2.2.2.2.2.2.2.1, rfl⟩
theorem zd_8_3_130 : zz_D zy_readInput_8_3 130 (.ireturn) 1 131 := ⟨zq_172 zg_8_3_114.2.2.2.2.2.2.2.2.2.2.2.2.2.2.2.2, rfl⟩
-- TensorForge$NetworkReader readInput ()Z
abbrev zr_readInput_8_3 : Room := { frames := 6, cells := 0, slots := 0, locals := 81 }
def zp_readInput_8_3  (S0 : zz_S) : Int → zz_S → Prop := fun r S => zz_G S ∧ zz_fr [(1070, 3), (1070, 4), (1070, 5), (1070, 6), (1073, 6), (1073, 7)] [] (fun a i => (a = zz_rf 3 (S0 1073 1) ∧ i = 1) ∨ (a = zz_rf 6 (12 * (S0 1073 1) + 0) ∧ i = 0) ∨ (a = zz_rf 6 (12 * (S0 1073 1) + 0) ∧ i = 1) ∨ (a = zz_rf 6 (12 * (S0 1073 1) + 0) ∧ i = 10) ∨ (a = zz_rf 6 (12 * (S0 1073 1) + 0) ∧ i = 11) ∨ (a = zz_rf 6 (12 * (S0 1073 1) + 0) ∧ i = 12) ∨ (a = zz_rf 6 (12 * (S0 1073 1) + 0) ∧ i = 13) ∨ (a = zz_rf 6 (12 * (S0 1073 1) + 0) ∧ i = 14) ∨ (a = zz_rf 6 (12 * (S0 1073 1) + 0) ∧ i = 2) ∨ (a = zz_rf 6 (12 * (S0 1073 1) + 0) ∧ i = 3) ∨ (a = zz_rf 6 (12 * (S0 1073 1) + 0) ∧ i = 4) ∨ (a = zz_rf 6 (12 * (S0 1073 1) + 0) ∧ i = 5) ∨ (a = zz_rf 6 (12 * (S0 1073 1) + 0) ∧ i = 6) ∨ (a = zz_rf 6 (12 * (S0 1073 1) + 0) ∧ i = 7) ∨ (a = zz_rf 6 (12 * (S0 1073 1) + 0) ∧ i = 8) ∨ (a = zz_rf 6 (12 * (S0 1073 1) + 0) ∧ i = 9)) S0 S ∧ (0 ≤ r ∧ r ≤ 1) ∧ (∀ a : Int, zt_NK (S0 1071) (S0 1070 2) a (S0 1070 4) (S0 1070 5) (S0 1070 3) → (r = 1 ∧ zn_ih (zt_kn (S0 1071) (S0 1070 2)) (zt_te (S0 1071) (S0 1070 2)) (zt_tv (S0 1071) (S0 1070 2)) (zt_kc (S0 1071) (S0 1070 2)) a ∧ S 1073 6 = 128 ∧ S 1073 7 = 0 ∧ S 1070 3 = (zt_te (S0 1071) (S0 1070 2) (zt_te (S0 1071) (S0 1070 2) (zt_te (S0 1071) (S0 1070 2) (zt_te (S0 1071) (S0 1070 2) (zt_te (S0 1071) (S0 1070 2) (zt_te (S0 1071) (S0 1070 2) a)))))) ∧ ∀ nm : Int, zn_C S (S0 1073 1) (zn_ip ((zt_tv (S0 1071) (S0 1070 2)) (zt_te (S0 1071) (S0 1070 2) a)) ((zt_tv (S0 1071) (S0 1070 2)) (zt_te (S0 1071) (S0 1070 2) (zt_te (S0 1071) (S0 1070 2) (zt_te (S0 1071) (S0 1070 2) a)))) ((zt_tv (S0 1071) (S0 1070 2)) (zt_te (S0 1071) (S0 1070 2) (zt_te (S0 1071) (S0 1070 2) (zt_te (S0 1071) (S0 1070 2) (zt_te (S0 1071) (S0 1070 2) (zt_te (S0 1071) (S0 1070 2) a)))))) nm)) ∨ (r = 0 ∧ ¬ zn_ih (zt_kn (S0 1071) (S0 1070 2)) (zt_te (S0 1071) (S0 1070 2)) (zt_tv (S0 1071) (S0 1070 2)) (zt_kc (S0 1071) (S0 1070 2)) a)) ∧ (S0 1070 3 ≤ S 1070 3) ∧ (S0 1070 3 ≤ S0 1070 2 → S 1070 3 ≤ S0 1070 2) ∧ (zz_Hc S)
set_option maxHeartbeats 4000000 in
theorem zc_readInput_8_3 {g : mm_G} {l : Launch}  (S0 : zz_S) (n : Nat) (hn : zz_end ≤ n) (G_S0 : zz_G S0) (H_S0 : zz_Hc S0) : mm_Met g l zy_readInput_8_3 zr_readInput_8_3 [.ref 1073] (zz_M S0 n) n (zz_QI n (zp_readInput_8_3  S0)) := by
  refine zz_enter (by decide) (Nat.le_of_ble_eq_true rfl) (zz_less (ls1 := [some (.ref 1073)]) ⟨rfl, trivial⟩ ?_)
  have F_S0 : zz_fr [(1070, 3), (1070, 4), (1070, 5), (1070, 6), (1073, 6), (1073, 7)] [] (fun a i => (a = zz_rf 3 (S0 1073 1) ∧ i = 1) ∨ (a = zz_rf 6 (12 * (S0 1073 1) + 0) ∧ i = 0) ∨ (a = zz_rf 6 (12 * (S0 1073 1) + 0) ∧ i = 1) ∨ (a = zz_rf 6 (12 * (S0 1073 1) + 0) ∧ i = 10) ∨ (a = zz_rf 6 (12 * (S0 1073 1) + 0) ∧ i = 11) ∨ (a = zz_rf 6 (12 * (S0 1073 1) + 0) ∧ i = 12) ∨ (a = zz_rf 6 (12 * (S0 1073 1) + 0) ∧ i = 13) ∨ (a = zz_rf 6 (12 * (S0 1073 1) + 0) ∧ i = 14) ∨ (a = zz_rf 6 (12 * (S0 1073 1) + 0) ∧ i = 2) ∨ (a = zz_rf 6 (12 * (S0 1073 1) + 0) ∧ i = 3) ∨ (a = zz_rf 6 (12 * (S0 1073 1) + 0) ∧ i = 4) ∨ (a = zz_rf 6 (12 * (S0 1073 1) + 0) ∧ i = 5) ∨ (a = zz_rf 6 (12 * (S0 1073 1) + 0) ∧ i = 6) ∨ (a = zz_rf 6 (12 * (S0 1073 1) + 0) ∧ i = 7) ∨ (a = zz_rf 6 (12 * (S0 1073 1) + 0) ∧ i = 8) ∨ (a = zz_rf 6 (12 * (S0 1073 1) + 0) ∧ i = 9)) S0 S0 := zz_fr.refl
  have gz9 := zz_G.r G_S0 1073 1 0 1 rfl rfl
  refine zz_aload_n (x := 1073) rfl zd_8_3_0 ?_
  refine zz_getr (kd := 0) (z := 1070) zd_8_3_1 zf_NetworkReader_9 zT_1073 rfl (zz_ltn hn rfl) (zz_G.eq G_S0 1073 0 1070 rfl rfl) (by decide) 1070 rfl ?_
  refine zz_ldcs (t := 29) (by decide +kernel) (by decide) zd_8_3_4 ?_
  have g1 := zz_G.r G_S0 1070 3 0 1500 rfl rfl
  have g2 := zz_G.r G_S0 1070 4 (-2147483648) 2147483647 rfl rfl
  have g3 := zz_G.r G_S0 1070 5 0 1500 rfl rfl
  refine zz_callVI [.ref (100 + 29)] zd_8_3_6 zk_NetworkReader_87 zT_1070 (zz_ltn hn rfl) rfl rfl ⟨Nat.le_of_ble_eq_true rfl, Nat.le_of_ble_eq_true rfl⟩ ⟨rfl, rfl⟩ (Nat.zero_le _) (Nat.zero_le _) (zc_isWord_11_9 29 S0 n hn G_S0 (by omega)) (fun v5 S4 hP => ?_)
  obtain ⟨rfl, o6, o7⟩ := hP
  rcases (by omega : v5 = 0 ∨ v5 = 1) with rfl | rfl
  · skip
    refine zz_if_eq (by omega) zd_8_3_9 (fun c8 => ?_) (fun c8 => ?_)
    · refine zz_iconst zd_8_3_22 ?_
      have g9 := zz_G.r G_S0 1073 6 (-2147483648) 2147483647 rfl rfl
      have g10 := zz_G.r G_S0 1073 7 (-2147483648) 2147483647 rfl rfl
      have g11 := zz_G.r G_S0 1073 1 0 1 rfl rfl
      exact zz_zret zd_8_3_23 rfl (by omega) (Nat.zero_le _) (Nat.zero_le _) ⟨_, _, rfl, G_S0, F_S0, by omega, (fun a hK => by have e0 := hK.2.2.1; have h0 := ((zt_NKw hK (t := 29) (by decide) (by decide) o7).resolve_left (fun h => absurd h.1 (by decide))).2; exact Or.inr ⟨rfl, fun x => h0 x.1⟩), by omega, (fun h9 => by have z9 := h9; omega), H_S0⟩
    · exfalso; omega
  · skip
    refine zz_if_eq (by omega) zd_8_3_9 (fun c12 => ?_) (fun c12 => ?_)
    · exfalso; omega
    · refine zz_aload_n (x := 1073) rfl zd_8_3_12 ?_
      refine zz_getr (kd := 0) (z := 1070) zd_8_3_13 zf_NetworkReader_9 zT_1073 rfl (zz_ltn hn rfl) (zz_G.eq G_S0 1073 0 1070 rfl rfl) (by decide) 1070 rfl ?_
      have g13 := zz_G.r G_S0 1070 2 (-1) 1500 rfl rfl
      refine zz_callVI [] zd_8_3_16 zk_NetworkReader_91 zT_1070 (zz_ltn hn rfl) rfl rfl ⟨Nat.le_of_ble_eq_true rfl, Nat.le_of_ble_eq_true rfl⟩ ⟨rfl, rfl⟩ (Nat.zero_le _) (Nat.zero_le _) (zc_nextIsNumber_11_11  S0 n hn G_S0 ) (fun v15 S14 hP => ?_)
      obtain ⟨G_S14, fS14, o16, o17, o18, o19, o20, o21, o22, o23, o24, o25, o26⟩ := hP
      have F_S14 := zz_fr.trans F_S0 fS14 rfl zz_nv
      have H_S14 : zz_Hc S14 := zz_Hc.fr (q := 0) fS14 rfl rfl G_S0 (by decide) rfl (fun b j h => h.elim) H_S0
      rcases (by omega : v15 = 0 ∨ v15 = 1) with rfl | rfl
      · have ks0_ : S14 1070 4 ≠ 2 := (by omega); have kl0_ := fun (_ : Unit) => o24; clear o25; clear o17 o19 o22 o23 o24
        refine zz_if_ne (by omega) zd_8_3_19 (fun c27 => ?_) (fun c27 => ?_)
        · exfalso; omega
        · refine zz_iconst zd_8_3_22 ?_
          have g28 := zz_G.r G_S14 1070 3 0 1500 rfl rfl
          have g29 := zz_G.r G_S0 1073 6 (-2147483648) 2147483647 rfl rfl
          have e30 : S14 1073 6 = S0 1073 6 := (zz_rc fS14 rfl rfl (fun h => h) rfl)
          have g31 := zz_G.r G_S0 1073 7 (-2147483648) 2147483647 rfl rfl
          have e32 : S14 1073 7 = S0 1073 7 := (zz_rc fS14 rfl rfl (fun h => h) rfl)
          have e33 : S14 (zz_rf 3 (S0 1073 1)) 1 = S0 (zz_rf 3 (S0 1073 1)) 1 := (zz_rc fS14 (zP_k3 (by omega) rfl) (zQ_k3 (by omega) rfl) (fun h => h) rfl)
          exact zz_zret zd_8_3_23 rfl (by omega) (Nat.zero_le _) (Nat.zero_le _) ⟨_, _, rfl, G_S14, F_S14, by omega, (fun a hK => by have e0 := hK.2.2.1; have h0 := (zt_NKw hK (t := 29) (by decide) (by decide) o7).resolve_right (fun h => absurd h.1 (by decide)); have q0 := o26; rw [e0] at q0; have e1 := q0.2.2.1; exact Or.inr ⟨rfl, fun x => absurd ((zt_NKs q0).2.1.mp x.2.1) ks0_⟩), by omega, (fun h9 => by have z9 := (kl0_ () h9); omega), H_S14⟩
      · have ks0_ : S14 1070 4 = 2 := (by omega); have kv0_ := o19 ks0_; have kr0_ := o23 ks0_; have kl0_ := fun (_ : Unit) => o24; clear o25; clear o17 o19 o22 o23 o24
        refine zz_if_ne (by omega) zd_8_3_19 (fun c34 => ?_) (fun c34 => ?_)
        · refine zz_aload_n (x := 1073) rfl zd_8_3_24 ?_
          refine zz_getr (kd := 0) (z := 1070) zd_8_3_25 zf_NetworkReader_9 zT_1073 rfl (zz_ltn hn rfl) (zz_G.eq G_S14 1073 0 1070 rfl rfl) (by decide) 1070 rfl ?_
          have g35 := zz_G.r G_S14 1070 6 (-2147483648) 2147483647 rfl rfl
          refine zz_geti (z := S14 1070 6) zd_8_3_28 zf_NetworkReader_94 zT_1070 rfl (zz_ltn hn rfl) rfl ?_
          refine zz_istore_n [some (.ref 1073), some (zi (S14 1070 6))] zd_8_3_31 (by decide) rfl ?_
          refine zz_aload_n (x := 1073) rfl zd_8_3_32 ?_
          refine zz_getr (kd := 0) (z := 1070) zd_8_3_33 zf_NetworkReader_9 zT_1073 rfl (zz_ltn hn rfl) (zz_G.eq G_S14 1073 0 1070 rfl rfl) (by decide) 1070 rfl ?_
          refine zz_ldcs (t := 12) (by decide +kernel) (by decide) zd_8_3_36 ?_
          have e36 : S14 1070 2 = S0 1070 2 := (zz_rc fS14 rfl rfl (fun h => h) rfl)
          have g37 := zz_G.r G_S14 1070 3 0 1500 rfl rfl
          refine zz_callVI [.ref (100 + 12)] zd_8_3_38 zk_NetworkReader_99 zT_1070 (zz_ltn hn rfl) rfl rfl ⟨Nat.le_of_ble_eq_true rfl, Nat.le_of_ble_eq_true rfl⟩ ⟨rfl, rfl⟩ (Nat.zero_le _) (Nat.zero_le _) (zc_nextIsWord_11_10 12 S14 n hn G_S14 (by omega)) (fun v39 S38 hP => ?_)
          obtain ⟨G_S38, fS38, o40, o41, o42, o43, o44, o45, o46, o47, o48, o49, o50⟩ := hP
          rw [show S14 1071 = S0 1071 from funext (fun u => (zz_rc fS14 (zz_nc1 rfl) rfl (fun h => h) rfl)), show S14 1070 2 = S0 1070 2 from (zz_rc fS14 rfl rfl (fun h => h) rfl)] at o41
          rw [show S14 1071 = S0 1071 from funext (fun u => (zz_rc fS14 (zz_nc1 rfl) rfl (fun h => h) rfl)), show S14 1070 2 = S0 1070 2 from (zz_rc fS14 rfl rfl (fun h => h) rfl)] at o42
          rw [show S14 1071 = S0 1071 from funext (fun u => (zz_rc fS14 (zz_nc1 rfl) rfl (fun h => h) rfl)), show S14 1070 2 = S0 1070 2 from (zz_rc fS14 rfl rfl (fun h => h) rfl)] at o43
          rw [show S14 1070 2 = S0 1070 2 from (zz_rc fS14 rfl rfl (fun h => h) rfl)] at o48
          rw [show S14 1071 = S0 1071 from funext (fun u => (zz_rc fS14 (zz_nc1 rfl) rfl (fun h => h) rfl))] at o49
          rw [show S14 1071 = S0 1071 from funext (fun u => (zz_rc fS14 (zz_nc1 rfl) rfl (fun h => h) rfl)), show S14 1070 2 = S0 1070 2 from (zz_rc fS14 rfl rfl (fun h => h) rfl)] at o50
          have F_S38 := zz_fr.trans F_S14 fS38 rfl zz_nv
          have H_S38 : zz_Hc S38 := zz_Hc.fr (q := 0) fS38 rfl rfl G_S14 (by decide) rfl (fun b j h => h.elim) H_S14
          rcases (by omega : v39 = 0 ∨ v39 = 1) with rfl | rfl
          · have kl1_ := fun (_ : Unit) => o48; clear o41 o43 o46 o47 o48
            refine zz_if_eq (by omega) zd_8_3_41 (fun c51 => ?_) (fun c51 => ?_)
            · refine zz_iconst zd_8_3_54 ?_
              have g52 := zz_G.r G_S38 1070 3 0 1500 rfl rfl
              have g53 := zz_G.r G_S0 1073 6 (-2147483648) 2147483647 rfl rfl
              have e54 : S38 1073 6 = S0 1073 6 := (zz_rc fS38 rfl rfl (fun h => h) (zz_rc fS14 rfl rfl (fun h => h) rfl))
              have g55 := zz_G.r G_S0 1073 7 (-2147483648) 2147483647 rfl rfl
              have e56 : S38 1073 7 = S0 1073 7 := (zz_rc fS38 rfl rfl (fun h => h) (zz_rc fS14 rfl rfl (fun h => h) rfl))
              have e57 : S38 (zz_rf 3 (S0 1073 1)) 1 = S0 (zz_rf 3 (S0 1073 1)) 1 := (zz_rc fS38 (zP_k3 (by omega) rfl) (zQ_k3 (by omega) rfl) (fun h => h) (zz_rc fS14 (zP_k3 (by omega) rfl) (zQ_k3 (by omega) rfl) (fun h => h) rfl))
              exact zz_zret zd_8_3_55 rfl (by omega) (Nat.zero_le _) (Nat.zero_le _) ⟨_, _, rfl, G_S38, F_S38, by omega, (fun a hK => by have e0 := hK.2.2.1; have h0 := (zt_NKw hK (t := 29) (by decide) (by decide) o7).resolve_right (fun h => absurd h.1 (by decide)); have q0 := o26; rw [e0] at q0; have e1 := q0.2.2.1; have g0 := (zt_NKs q0).2.1.mpr ks0_; have q1 := o50; rw [e1] at q1; have e2 := q1.2.2.1; have w1 := zt_NKw q1 (t := 12) (by decide) (by decide) o49; exact Or.inr ⟨rfl, fun x => (w1.resolve_left (fun h => absurd h.1 (by decide))).2 x.2.2.1⟩), by omega, (fun h9 => by have z9 := (kl1_ () (kl0_ () h9)); omega), H_S38⟩
            · exfalso; omega
          · have kl1_ := fun (_ : Unit) => o48; clear o41 o43 o46 o47 o48
            refine zz_if_eq (by omega) zd_8_3_41 (fun c58 => ?_) (fun c58 => ?_)
            · exfalso; omega
            · refine zz_aload_n (x := 1073) rfl zd_8_3_44 ?_
              refine zz_getr (kd := 0) (z := 1070) zd_8_3_45 zf_NetworkReader_9 zT_1073 rfl (zz_ltn hn rfl) (zz_G.eq G_S38 1073 0 1070 rfl rfl) (by decide) 1070 rfl ?_
              have e59 : S38 1070 2 = S0 1070 2 := (zz_rc fS38 rfl rfl (fun h => h) (zz_rc fS14 rfl rfl (fun h => h) rfl))
              have g60 := zz_G.r G_S38 1070 3 0 1500 rfl rfl
              refine zz_callVI [] zd_8_3_48 zk_NetworkReader_91 zT_1070 (zz_ltn hn rfl) rfl rfl ⟨Nat.le_of_ble_eq_true rfl, Nat.le_of_ble_eq_true rfl⟩ ⟨rfl, rfl⟩ (Nat.zero_le _) (Nat.zero_le _) (zc_nextIsNumber_11_11  S38 n hn G_S38 ) (fun v62 S61 hP => ?_)
              obtain ⟨G_S61, fS61, o63, o64, o65, o66, o67, o68, o69, o70, o71, o72, o73⟩ := hP
              rw [show S38 1071 = S0 1071 from funext (fun u => (zz_rc fS38 (zz_nc1 rfl) rfl (fun h => h) (zz_rc fS14 (zz_nc1 rfl) rfl (fun h => h) rfl))), show S38 1070 2 = S0 1070 2 from (zz_rc fS38 rfl rfl (fun h => h) (zz_rc fS14 rfl rfl (fun h => h) rfl))] at o64
              rw [show S38 1071 = S0 1071 from funext (fun u => (zz_rc fS38 (zz_nc1 rfl) rfl (fun h => h) (zz_rc fS14 (zz_nc1 rfl) rfl (fun h => h) rfl))), show S38 1070 2 = S0 1070 2 from (zz_rc fS38 rfl rfl (fun h => h) (zz_rc fS14 rfl rfl (fun h => h) rfl))] at o65
              rw [show S38 1071 = S0 1071 from funext (fun u => (zz_rc fS38 (zz_nc1 rfl) rfl (fun h => h) (zz_rc fS14 (zz_nc1 rfl) rfl (fun h => h) rfl))), show S38 1070 2 = S0 1070 2 from (zz_rc fS38 rfl rfl (fun h => h) (zz_rc fS14 rfl rfl (fun h => h) rfl))] at o66
              rw [show S38 1070 2 = S0 1070 2 from (zz_rc fS38 rfl rfl (fun h => h) (zz_rc fS14 rfl rfl (fun h => h) rfl))] at o71
              rw [show S38 1071 = S0 1071 from funext (fun u => (zz_rc fS38 (zz_nc1 rfl) rfl (fun h => h) (zz_rc fS14 (zz_nc1 rfl) rfl (fun h => h) rfl))), show S38 1070 2 = S0 1070 2 from (zz_rc fS38 rfl rfl (fun h => h) (zz_rc fS14 rfl rfl (fun h => h) rfl))] at o72
              rw [show S38 1071 = S0 1071 from funext (fun u => (zz_rc fS38 (zz_nc1 rfl) rfl (fun h => h) (zz_rc fS14 (zz_nc1 rfl) rfl (fun h => h) rfl))), show S38 1070 2 = S0 1070 2 from (zz_rc fS38 rfl rfl (fun h => h) (zz_rc fS14 rfl rfl (fun h => h) rfl))] at o73
              have F_S61 := zz_fr.trans F_S38 fS61 rfl zz_nv
              have H_S61 : zz_Hc S61 := zz_Hc.fr (q := 0) fS61 rfl rfl G_S38 (by decide) rfl (fun b j h => h.elim) H_S38
              rcases (by omega : v62 = 0 ∨ v62 = 1) with rfl | rfl
              · have ks2_ : S61 1070 4 ≠ 2 := (by omega); have kl2_ := fun (_ : Unit) => o71; clear o72; clear o64 o66 o69 o70 o71
                refine zz_if_ne (by omega) zd_8_3_51 (fun c74 => ?_) (fun c74 => ?_)
                · exfalso; omega
                · refine zz_iconst zd_8_3_54 ?_
                  have g75 := zz_G.r G_S61 1070 3 0 1500 rfl rfl
                  have g76 := zz_G.r G_S0 1073 6 (-2147483648) 2147483647 rfl rfl
                  have e77 : S61 1073 6 = S0 1073 6 := (zz_rc fS61 rfl rfl (fun h => h) (zz_rc fS38 rfl rfl (fun h => h) (zz_rc fS14 rfl rfl (fun h => h) rfl)))
                  have g78 := zz_G.r G_S0 1073 7 (-2147483648) 2147483647 rfl rfl
                  have e79 : S61 1073 7 = S0 1073 7 := (zz_rc fS61 rfl rfl (fun h => h) (zz_rc fS38 rfl rfl (fun h => h) (zz_rc fS14 rfl rfl (fun h => h) rfl)))
                  have e80 : S61 (zz_rf 3 (S0 1073 1)) 1 = S0 (zz_rf 3 (S0 1073 1)) 1 := (zz_rc fS61 (zP_k3 (by omega) rfl) (zQ_k3 (by omega) rfl) (fun h => h) (zz_rc fS38 (zP_k3 (by omega) rfl) (zQ_k3 (by omega) rfl) (fun h => h) (zz_rc fS14 (zP_k3 (by omega) rfl) (zQ_k3 (by omega) rfl) (fun h => h) rfl)))
                  exact zz_zret zd_8_3_55 rfl (by omega) (Nat.zero_le _) (Nat.zero_le _) ⟨_, _, rfl, G_S61, F_S61, by omega, (fun a hK => by have e0 := hK.2.2.1; have h0 := (zt_NKw hK (t := 29) (by decide) (by decide) o7).resolve_right (fun h => absurd h.1 (by decide)); have q0 := o26; rw [e0] at q0; have e1 := q0.2.2.1; have g0 := (zt_NKs q0).2.1.mpr ks0_; have q1 := o50; rw [e1] at q1; have e2 := q1.2.2.1; have w1 := zt_NKw q1 (t := 12) (by decide) (by decide) o49; have g1 := (w1.resolve_right (fun h => absurd h.1 (by decide))).2; have q2 := o73; rw [e2] at q2; have e3 := q2.2.2.1; exact Or.inr ⟨rfl, fun x => absurd ((zt_NKs q2).2.1.mp x.2.2.2.1) ks2_⟩), by omega, (fun h9 => by have z9 := (kl2_ () (kl1_ () (kl0_ () h9))); omega), H_S61⟩
              · have ks2_ : S61 1070 4 = 2 := (by omega); have kv2_ := o66 ks2_; have kr2_ := o70 ks2_; have kl2_ := fun (_ : Unit) => o71; clear o72; clear o64 o66 o69 o70 o71
                refine zz_if_ne (by omega) zd_8_3_51 (fun c81 => ?_) (fun c81 => ?_)
                · refine zz_aload_n (x := 1073) rfl zd_8_3_56 ?_
                  refine zz_getr (kd := 0) (z := 1070) zd_8_3_57 zf_NetworkReader_9 zT_1073 rfl (zz_ltn hn rfl) (zz_G.eq G_S61 1073 0 1070 rfl rfl) (by decide) 1070 rfl ?_
                  have g82 := zz_G.r G_S61 1070 6 (-2147483648) 2147483647 rfl rfl
                  refine zz_geti (z := S61 1070 6) zd_8_3_60 zf_NetworkReader_94 zT_1070 rfl (zz_ltn hn rfl) rfl ?_
                  refine zz_istore_n [some (.ref 1073), some (zi (S14 1070 6)), some (zi (S61 1070 6))] zd_8_3_63 (by decide) rfl ?_
                  refine zz_aload_n (x := 1073) rfl zd_8_3_64 ?_
                  refine zz_getr (kd := 0) (z := 1070) zd_8_3_65 zf_NetworkReader_9 zT_1073 rfl (zz_ltn hn rfl) (zz_G.eq G_S61 1073 0 1070 rfl rfl) (by decide) 1070 rfl ?_
                  refine zz_ldcs (t := 12) (by decide +kernel) (by decide) zd_8_3_68 ?_
                  have e83 : S61 1070 2 = S0 1070 2 := (zz_rc fS61 rfl rfl (fun h => h) (zz_rc fS38 rfl rfl (fun h => h) (zz_rc fS14 rfl rfl (fun h => h) rfl)))
                  have g84 := zz_G.r G_S61 1070 3 0 1500 rfl rfl
                  refine zz_callVI [.ref (100 + 12)] zd_8_3_70 zk_NetworkReader_99 zT_1070 (zz_ltn hn rfl) rfl rfl ⟨Nat.le_of_ble_eq_true rfl, Nat.le_of_ble_eq_true rfl⟩ ⟨rfl, rfl⟩ (Nat.zero_le _) (Nat.zero_le _) (zc_nextIsWord_11_10 12 S61 n hn G_S61 (by omega)) (fun v86 S85 hP => ?_)
                  obtain ⟨G_S85, fS85, o87, o88, o89, o90, o91, o92, o93, o94, o95, o96, o97⟩ := hP
                  rw [show S61 1071 = S0 1071 from funext (fun u => (zz_rc fS61 (zz_nc1 rfl) rfl (fun h => h) (zz_rc fS38 (zz_nc1 rfl) rfl (fun h => h) (zz_rc fS14 (zz_nc1 rfl) rfl (fun h => h) rfl)))), show S61 1070 2 = S0 1070 2 from (zz_rc fS61 rfl rfl (fun h => h) (zz_rc fS38 rfl rfl (fun h => h) (zz_rc fS14 rfl rfl (fun h => h) rfl)))] at o88
                  rw [show S61 1071 = S0 1071 from funext (fun u => (zz_rc fS61 (zz_nc1 rfl) rfl (fun h => h) (zz_rc fS38 (zz_nc1 rfl) rfl (fun h => h) (zz_rc fS14 (zz_nc1 rfl) rfl (fun h => h) rfl)))), show S61 1070 2 = S0 1070 2 from (zz_rc fS61 rfl rfl (fun h => h) (zz_rc fS38 rfl rfl (fun h => h) (zz_rc fS14 rfl rfl (fun h => h) rfl)))] at o89
                  rw [show S61 1071 = S0 1071 from funext (fun u => (zz_rc fS61 (zz_nc1 rfl) rfl (fun h => h) (zz_rc fS38 (zz_nc1 rfl) rfl (fun h => h) (zz_rc fS14 (zz_nc1 rfl) rfl (fun h => h) rfl)))), show S61 1070 2 = S0 1070 2 from (zz_rc fS61 rfl rfl (fun h => h) (zz_rc fS38 rfl rfl (fun h => h) (zz_rc fS14 rfl rfl (fun h => h) rfl)))] at o90
                  rw [show S61 1070 2 = S0 1070 2 from (zz_rc fS61 rfl rfl (fun h => h) (zz_rc fS38 rfl rfl (fun h => h) (zz_rc fS14 rfl rfl (fun h => h) rfl)))] at o95
                  rw [show S61 1071 = S0 1071 from funext (fun u => (zz_rc fS61 (zz_nc1 rfl) rfl (fun h => h) (zz_rc fS38 (zz_nc1 rfl) rfl (fun h => h) (zz_rc fS14 (zz_nc1 rfl) rfl (fun h => h) rfl))))] at o96
                  rw [show S61 1071 = S0 1071 from funext (fun u => (zz_rc fS61 (zz_nc1 rfl) rfl (fun h => h) (zz_rc fS38 (zz_nc1 rfl) rfl (fun h => h) (zz_rc fS14 (zz_nc1 rfl) rfl (fun h => h) rfl)))), show S61 1070 2 = S0 1070 2 from (zz_rc fS61 rfl rfl (fun h => h) (zz_rc fS38 rfl rfl (fun h => h) (zz_rc fS14 rfl rfl (fun h => h) rfl)))] at o97
                  have F_S85 := zz_fr.trans F_S61 fS85 rfl zz_nv
                  have H_S85 : zz_Hc S85 := zz_Hc.fr (q := 0) fS85 rfl rfl G_S61 (by decide) rfl (fun b j h => h.elim) H_S61
                  rcases (by omega : v86 = 0 ∨ v86 = 1) with rfl | rfl
                  · have kl3_ := fun (_ : Unit) => o95; clear o88 o90 o93 o94 o95
                    refine zz_if_eq (by omega) zd_8_3_73 (fun c98 => ?_) (fun c98 => ?_)
                    · refine zz_iconst zd_8_3_86 ?_
                      have g99 := zz_G.r G_S85 1070 3 0 1500 rfl rfl
                      have g100 := zz_G.r G_S0 1073 6 (-2147483648) 2147483647 rfl rfl
                      have e101 : S85 1073 6 = S0 1073 6 := (zz_rc fS85 rfl rfl (fun h => h) (zz_rc fS61 rfl rfl (fun h => h) (zz_rc fS38 rfl rfl (fun h => h) (zz_rc fS14 rfl rfl (fun h => h) rfl))))
                      have g102 := zz_G.r G_S0 1073 7 (-2147483648) 2147483647 rfl rfl
                      have e103 : S85 1073 7 = S0 1073 7 := (zz_rc fS85 rfl rfl (fun h => h) (zz_rc fS61 rfl rfl (fun h => h) (zz_rc fS38 rfl rfl (fun h => h) (zz_rc fS14 rfl rfl (fun h => h) rfl))))
                      have e104 : S85 (zz_rf 3 (S0 1073 1)) 1 = S0 (zz_rf 3 (S0 1073 1)) 1 := (zz_rc fS85 (zP_k3 (by omega) rfl) (zQ_k3 (by omega) rfl) (fun h => h) (zz_rc fS61 (zP_k3 (by omega) rfl) (zQ_k3 (by omega) rfl) (fun h => h) (zz_rc fS38 (zP_k3 (by omega) rfl) (zQ_k3 (by omega) rfl) (fun h => h) (zz_rc fS14 (zP_k3 (by omega) rfl) (zQ_k3 (by omega) rfl) (fun h => h) rfl))))
                      exact zz_zret zd_8_3_87 rfl (by omega) (Nat.zero_le _) (Nat.zero_le _) ⟨_, _, rfl, G_S85, F_S85, by omega, (fun a hK => by have e0 := hK.2.2.1; have h0 := (zt_NKw hK (t := 29) (by decide) (by decide) o7).resolve_right (fun h => absurd h.1 (by decide)); have q0 := o26; rw [e0] at q0; have e1 := q0.2.2.1; have g0 := (zt_NKs q0).2.1.mpr ks0_; have q1 := o50; rw [e1] at q1; have e2 := q1.2.2.1; have w1 := zt_NKw q1 (t := 12) (by decide) (by decide) o49; have g1 := (w1.resolve_right (fun h => absurd h.1 (by decide))).2; have q2 := o73; rw [e2] at q2; have e3 := q2.2.2.1; have g2 := (zt_NKs q2).2.1.mpr ks2_; have q3 := o97; rw [e3] at q3; have e4 := q3.2.2.1; have w3 := zt_NKw q3 (t := 12) (by decide) (by decide) o96; exact Or.inr ⟨rfl, fun x => (w3.resolve_left (fun h => absurd h.1 (by decide))).2 x.2.2.2.2.1⟩), by omega, (fun h9 => by have z9 := (kl3_ () (kl2_ () (kl1_ () (kl0_ () h9)))); omega), H_S85⟩
                    · exfalso; omega
                  · have kl3_ := fun (_ : Unit) => o95; clear o88 o90 o93 o94 o95
                    refine zz_if_eq (by omega) zd_8_3_73 (fun c105 => ?_) (fun c105 => ?_)
                    · exfalso; omega
                    · refine zz_aload_n (x := 1073) rfl zd_8_3_76 ?_
                      refine zz_getr (kd := 0) (z := 1070) zd_8_3_77 zf_NetworkReader_9 zT_1073 rfl (zz_ltn hn rfl) (zz_G.eq G_S85 1073 0 1070 rfl rfl) (by decide) 1070 rfl ?_
                      have e106 : S85 1070 2 = S0 1070 2 := (zz_rc fS85 rfl rfl (fun h => h) (zz_rc fS61 rfl rfl (fun h => h) (zz_rc fS38 rfl rfl (fun h => h) (zz_rc fS14 rfl rfl (fun h => h) rfl))))
                      have g107 := zz_G.r G_S85 1070 3 0 1500 rfl rfl
                      refine zz_callVI [] zd_8_3_80 zk_NetworkReader_91 zT_1070 (zz_ltn hn rfl) rfl rfl ⟨Nat.le_of_ble_eq_true rfl, Nat.le_of_ble_eq_true rfl⟩ ⟨rfl, rfl⟩ (Nat.zero_le _) (Nat.zero_le _) (zc_nextIsNumber_11_11  S85 n hn G_S85 ) (fun v109 S108 hP => ?_)
                      obtain ⟨G_S108, fS108, o110, o111, o112, o113, o114, o115, o116, o117, o118, o119, o120⟩ := hP
                      rw [show S85 1071 = S0 1071 from funext (fun u => (zz_rc fS85 (zz_nc1 rfl) rfl (fun h => h) (zz_rc fS61 (zz_nc1 rfl) rfl (fun h => h) (zz_rc fS38 (zz_nc1 rfl) rfl (fun h => h) (zz_rc fS14 (zz_nc1 rfl) rfl (fun h => h) rfl))))), show S85 1070 2 = S0 1070 2 from (zz_rc fS85 rfl rfl (fun h => h) (zz_rc fS61 rfl rfl (fun h => h) (zz_rc fS38 rfl rfl (fun h => h) (zz_rc fS14 rfl rfl (fun h => h) rfl))))] at o111
                      rw [show S85 1071 = S0 1071 from funext (fun u => (zz_rc fS85 (zz_nc1 rfl) rfl (fun h => h) (zz_rc fS61 (zz_nc1 rfl) rfl (fun h => h) (zz_rc fS38 (zz_nc1 rfl) rfl (fun h => h) (zz_rc fS14 (zz_nc1 rfl) rfl (fun h => h) rfl))))), show S85 1070 2 = S0 1070 2 from (zz_rc fS85 rfl rfl (fun h => h) (zz_rc fS61 rfl rfl (fun h => h) (zz_rc fS38 rfl rfl (fun h => h) (zz_rc fS14 rfl rfl (fun h => h) rfl))))] at o112
                      rw [show S85 1071 = S0 1071 from funext (fun u => (zz_rc fS85 (zz_nc1 rfl) rfl (fun h => h) (zz_rc fS61 (zz_nc1 rfl) rfl (fun h => h) (zz_rc fS38 (zz_nc1 rfl) rfl (fun h => h) (zz_rc fS14 (zz_nc1 rfl) rfl (fun h => h) rfl))))), show S85 1070 2 = S0 1070 2 from (zz_rc fS85 rfl rfl (fun h => h) (zz_rc fS61 rfl rfl (fun h => h) (zz_rc fS38 rfl rfl (fun h => h) (zz_rc fS14 rfl rfl (fun h => h) rfl))))] at o113
                      rw [show S85 1070 2 = S0 1070 2 from (zz_rc fS85 rfl rfl (fun h => h) (zz_rc fS61 rfl rfl (fun h => h) (zz_rc fS38 rfl rfl (fun h => h) (zz_rc fS14 rfl rfl (fun h => h) rfl))))] at o118
                      rw [show S85 1071 = S0 1071 from funext (fun u => (zz_rc fS85 (zz_nc1 rfl) rfl (fun h => h) (zz_rc fS61 (zz_nc1 rfl) rfl (fun h => h) (zz_rc fS38 (zz_nc1 rfl) rfl (fun h => h) (zz_rc fS14 (zz_nc1 rfl) rfl (fun h => h) rfl))))), show S85 1070 2 = S0 1070 2 from (zz_rc fS85 rfl rfl (fun h => h) (zz_rc fS61 rfl rfl (fun h => h) (zz_rc fS38 rfl rfl (fun h => h) (zz_rc fS14 rfl rfl (fun h => h) rfl))))] at o119
                      rw [show S85 1071 = S0 1071 from funext (fun u => (zz_rc fS85 (zz_nc1 rfl) rfl (fun h => h) (zz_rc fS61 (zz_nc1 rfl) rfl (fun h => h) (zz_rc fS38 (zz_nc1 rfl) rfl (fun h => h) (zz_rc fS14 (zz_nc1 rfl) rfl (fun h => h) rfl))))), show S85 1070 2 = S0 1070 2 from (zz_rc fS85 rfl rfl (fun h => h) (zz_rc fS61 rfl rfl (fun h => h) (zz_rc fS38 rfl rfl (fun h => h) (zz_rc fS14 rfl rfl (fun h => h) rfl))))] at o120
                      have F_S108 := zz_fr.trans F_S85 fS108 rfl zz_nv
                      have H_S108 : zz_Hc S108 := zz_Hc.fr (q := 0) fS108 rfl rfl G_S85 (by decide) rfl (fun b j h => h.elim) H_S85
                      rcases (by omega : v109 = 0 ∨ v109 = 1) with rfl | rfl
                      · have ks4_ : S108 1070 4 ≠ 2 := (by omega); have kl4_ := fun (_ : Unit) => o118; clear o119; clear o111 o113 o116 o117 o118
                        refine zz_if_ne (by omega) zd_8_3_83 (fun c121 => ?_) (fun c121 => ?_)
                        · exfalso; omega
                        · refine zz_iconst zd_8_3_86 ?_
                          have g122 := zz_G.r G_S108 1070 3 0 1500 rfl rfl
                          have g123 := zz_G.r G_S0 1073 6 (-2147483648) 2147483647 rfl rfl
                          have e124 : S108 1073 6 = S0 1073 6 := (zz_rc fS108 rfl rfl (fun h => h) (zz_rc fS85 rfl rfl (fun h => h) (zz_rc fS61 rfl rfl (fun h => h) (zz_rc fS38 rfl rfl (fun h => h) (zz_rc fS14 rfl rfl (fun h => h) rfl)))))
                          have g125 := zz_G.r G_S0 1073 7 (-2147483648) 2147483647 rfl rfl
                          have e126 : S108 1073 7 = S0 1073 7 := (zz_rc fS108 rfl rfl (fun h => h) (zz_rc fS85 rfl rfl (fun h => h) (zz_rc fS61 rfl rfl (fun h => h) (zz_rc fS38 rfl rfl (fun h => h) (zz_rc fS14 rfl rfl (fun h => h) rfl)))))
                          have e127 : S108 (zz_rf 3 (S0 1073 1)) 1 = S0 (zz_rf 3 (S0 1073 1)) 1 := (zz_rc fS108 (zP_k3 (by omega) rfl) (zQ_k3 (by omega) rfl) (fun h => h) (zz_rc fS85 (zP_k3 (by omega) rfl) (zQ_k3 (by omega) rfl) (fun h => h) (zz_rc fS61 (zP_k3 (by omega) rfl) (zQ_k3 (by omega) rfl) (fun h => h) (zz_rc fS38 (zP_k3 (by omega) rfl) (zQ_k3 (by omega) rfl) (fun h => h) (zz_rc fS14 (zP_k3 (by omega) rfl) (zQ_k3 (by omega) rfl) (fun h => h) rfl)))))
                          exact zz_zret zd_8_3_87 rfl (by omega) (Nat.zero_le _) (Nat.zero_le _) ⟨_, _, rfl, G_S108, F_S108, by omega, (fun a hK => by have e0 := hK.2.2.1; have h0 := (zt_NKw hK (t := 29) (by decide) (by decide) o7).resolve_right (fun h => absurd h.1 (by decide)); have q0 := o26; rw [e0] at q0; have e1 := q0.2.2.1; have g0 := (zt_NKs q0).2.1.mpr ks0_; have q1 := o50; rw [e1] at q1; have e2 := q1.2.2.1; have w1 := zt_NKw q1 (t := 12) (by decide) (by decide) o49; have g1 := (w1.resolve_right (fun h => absurd h.1 (by decide))).2; have q2 := o73; rw [e2] at q2; have e3 := q2.2.2.1; have g2 := (zt_NKs q2).2.1.mpr ks2_; have q3 := o97; rw [e3] at q3; have e4 := q3.2.2.1; have w3 := zt_NKw q3 (t := 12) (by decide) (by decide) o96; have g3 := (w3.resolve_right (fun h => absurd h.1 (by decide))).2; have q4 := o120; rw [e4] at q4; have e5 := q4.2.2.1; exact Or.inr ⟨rfl, fun x => absurd ((zt_NKs q4).2.1.mp x.2.2.2.2.2.1) ks4_⟩), by omega, (fun h9 => by have z9 := (kl4_ () (kl3_ () (kl2_ () (kl1_ () (kl0_ () h9))))); omega), H_S108⟩
                      · have ks4_ : S108 1070 4 = 2 := (by omega); have kv4_ := o113 ks4_; have kr4_ := o117 ks4_; have kl4_ := fun (_ : Unit) => o118; clear o119; clear o111 o113 o116 o117 o118
                        refine zz_if_ne (by omega) zd_8_3_83 (fun c128 => ?_) (fun c128 => ?_)
                        · refine zz_aload_n (x := 1073) rfl zd_8_3_88 ?_
                          refine zz_getr (kd := 0) (z := 1070) zd_8_3_89 zf_NetworkReader_9 zT_1073 rfl (zz_ltn hn rfl) (zz_G.eq G_S108 1073 0 1070 rfl rfl) (by decide) 1070 rfl ?_
                          have g129 := zz_G.r G_S108 1070 6 (-2147483648) 2147483647 rfl rfl
                          refine zz_geti (z := S108 1070 6) zd_8_3_92 zf_NetworkReader_94 zT_1070 rfl (zz_ltn hn rfl) rfl ?_
                          refine zz_istore_n [some (.ref 1073), some (zi (S14 1070 6)), some (zi (S61 1070 6)), some (zi (S108 1070 6))] zd_8_3_95 (by decide) rfl ?_
                          refine zz_iload_n (x := S14 1070 6) rfl zd_8_3_96 ?_
                          refine zz_iload_n (x := S61 1070 6) rfl zd_8_3_97 ?_
                          refine zz_iload_n (x := S108 1070 6) rfl zd_8_3_98 ?_
                          skip
                          refine zz_callSI [zi (S14 1070 6), zi (S61 1070 6), zi (S108 1070 6)] zd_8_3_99 zk_NetworkReader_102 rfl rfl ⟨Nat.le_of_ble_eq_true rfl, Nat.le_of_ble_eq_true rfl⟩ ⟨rfl, rfl⟩ (Nat.zero_le _) (Nat.zero_le _) (zc_inputFits_7_2 (S14 1070 6) (S61 1070 6) (S108 1070 6) S108 n hn G_S108 (by omega) (by omega) (by omega)) (fun v131 S130 hP => ?_)
                          obtain ⟨rfl, o132, o133⟩ := hP
                          rcases (by omega : v131 = 0 ∨ v131 = 1) with rfl | rfl
                          · refine zz_if_ne (by omega) zd_8_3_102 (fun c134 => ?_) (fun c134 => ?_)
                            · exfalso; omega
                            · refine zz_iconst zd_8_3_105 ?_
                              have g135 := zz_G.r G_S108 1070 3 0 1500 rfl rfl
                              have g136 := zz_G.r G_S0 1073 6 (-2147483648) 2147483647 rfl rfl
                              have e137 : S108 1073 6 = S0 1073 6 := (zz_rc fS108 rfl rfl (fun h => h) (zz_rc fS85 rfl rfl (fun h => h) (zz_rc fS61 rfl rfl (fun h => h) (zz_rc fS38 rfl rfl (fun h => h) (zz_rc fS14 rfl rfl (fun h => h) rfl)))))
                              have g138 := zz_G.r G_S0 1073 7 (-2147483648) 2147483647 rfl rfl
                              have e139 : S108 1073 7 = S0 1073 7 := (zz_rc fS108 rfl rfl (fun h => h) (zz_rc fS85 rfl rfl (fun h => h) (zz_rc fS61 rfl rfl (fun h => h) (zz_rc fS38 rfl rfl (fun h => h) (zz_rc fS14 rfl rfl (fun h => h) rfl)))))
                              have e140 : S108 (zz_rf 3 (S0 1073 1)) 1 = S0 (zz_rf 3 (S0 1073 1)) 1 := (zz_rc fS108 (zP_k3 (by omega) rfl) (zQ_k3 (by omega) rfl) (fun h => h) (zz_rc fS85 (zP_k3 (by omega) rfl) (zQ_k3 (by omega) rfl) (fun h => h) (zz_rc fS61 (zP_k3 (by omega) rfl) (zQ_k3 (by omega) rfl) (fun h => h) (zz_rc fS38 (zP_k3 (by omega) rfl) (zQ_k3 (by omega) rfl) (fun h => h) (zz_rc fS14 (zP_k3 (by omega) rfl) (zQ_k3 (by omega) rfl) (fun h => h) rfl)))))
                              exact zz_zret zd_8_3_106 rfl (by omega) (Nat.zero_le _) (Nat.zero_le _) ⟨_, _, rfl, G_S108, F_S108, by omega, (fun a hK => by have e0 := hK.2.2.1; have h0 := (zt_NKw hK (t := 29) (by decide) (by decide) o7).resolve_right (fun h => absurd h.1 (by decide)); have q0 := o26; rw [e0] at q0; have e1 := q0.2.2.1; have g0 := (zt_NKs q0).2.1.mpr ks0_; have q1 := o50; rw [e1] at q1; have e2 := q1.2.2.1; have w1 := zt_NKw q1 (t := 12) (by decide) (by decide) o49; have g1 := (w1.resolve_right (fun h => absurd h.1 (by decide))).2; have q2 := o73; rw [e2] at q2; have e3 := q2.2.2.1; have g2 := (zt_NKs q2).2.1.mpr ks2_; have q3 := o97; rw [e3] at q3; have e4 := q3.2.2.1; have w3 := zt_NKw q3 (t := 12) (by decide) (by decide) o96; have g3 := (w3.resolve_right (fun h => absurd h.1 (by decide))).2; have q4 := o120; rw [e4] at q4; have e5 := q4.2.2.1; have g4 := (zt_NKs q4).2.1.mpr ks4_; have y1 := kv0_; rw [e0] at y1; have y3 := kv2_; rw [e2] at y3; have y5 := kv4_; rw [e4] at y5; exact Or.inr ⟨rfl, fun x => by have y := x.2.2.2.2.2.2; unfold zn_fp at y; rw [← y1, ← y3, ← y5] at y; omega⟩), by omega, (fun h9 => by have z9 := (kl4_ () (kl3_ () (kl2_ () (kl1_ () (kl0_ () h9))))); omega), H_S108⟩
                          · refine zz_if_ne (by omega) zd_8_3_102 (fun c141 => ?_) (fun c141 => ?_)
                            · refine zz_aload_n (x := 1073) rfl zd_8_3_107 ?_
                              have g142 := zz_G.r G_S0 1073 1 0 1 rfl rfl
                              refine zz_getr (kd := 1) (z := S0 1073 1) zd_8_3_108 zf_NetworkReader_15 zT_1073 rfl (zz_ltn hn rfl) (zz_rc fS108 rfl rfl (fun h => h) (zz_rc fS85 rfl rfl (fun h => h) (zz_rc fS61 rfl rfl (fun h => h) (zz_rc fS38 rfl rfl (fun h => h) (zz_rc fS14 rfl rfl (fun h => h) rfl))))) (by omega) (zz_rf 3 (S0 1073 1)) rfl ?_
                              refine zz_iload_n (x := S14 1070 6) rfl zd_8_3_111 ?_
                              refine zz_iload_n (x := S61 1070 6) rfl zd_8_3_112 ?_
                              refine zz_iload_n (x := S108 1070 6) rfl zd_8_3_113 ?_
                              refine zz_callVV [zi (S14 1070 6), zi (S61 1070 6), zi (S108 1070 6)] zd_8_3_114 zk_NetworkReader_106 (zT_k3 (by omega)) (zN_k3 hn (by omega)) rfl rfl ⟨Nat.le_of_ble_eq_true rfl, Nat.le_of_ble_eq_true rfl⟩ ⟨rfl, rfl⟩ (Nat.zero_le _) (Nat.zero_le _) (zc_beginWith_7_3 (S0 1073 1) (S14 1070 6) (S61 1070 6) (S108 1070 6) S108 n hn G_S108 (by omega) (by omega) (by omega) (by omega) H_S108) (fun S143 hP => ?_)
                              obtain ⟨G_S143, fS143, o145, o146, o147, o148⟩ := hP
                              have g149 := zz_G.r G_S0 1073 1 0 1 rfl rfl
                              have F_S143 := zz_fr.trans F_S108 fS143 rfl (fun a i h => by rcases h with h | h | h | h | h | h | h | h | h | h | h | h | h | h | h | h; exact Or.inr (Or.inr (Or.inl h)); exact Or.inr (Or.inr (Or.inr (Or.inl h))); exact Or.inr (Or.inr (Or.inr (Or.inr (Or.inl h)))); exact Or.inr (Or.inr (Or.inr (Or.inr (Or.inr (Or.inl h))))); exact Or.inr (Or.inr (Or.inr (Or.inr (Or.inr (Or.inr (Or.inl h)))))); exact Or.inr (Or.inr (Or.inr (Or.inr (Or.inr (Or.inr (Or.inr (Or.inl h))))))); exact Or.inr (Or.inr (Or.inr (Or.inr (Or.inr (Or.inr (Or.inr (Or.inr (Or.inl h)))))))); exact Or.inr (Or.inr (Or.inr (Or.inr (Or.inr (Or.inr (Or.inr (Or.inr (Or.inr (Or.inl h))))))))); exact Or.inr (Or.inr (Or.inr (Or.inr (Or.inr (Or.inr (Or.inr (Or.inr (Or.inr (Or.inr (Or.inl h)))))))))); exact Or.inr (Or.inr (Or.inr (Or.inr (Or.inr (Or.inr (Or.inr (Or.inr (Or.inr (Or.inr (Or.inr (Or.inl h))))))))))); exact Or.inr (Or.inr (Or.inr (Or.inr (Or.inr (Or.inr (Or.inr (Or.inr (Or.inr (Or.inr (Or.inr (Or.inr (Or.inl h)))))))))))); exact Or.inr (Or.inr (Or.inr (Or.inr (Or.inr (Or.inr (Or.inr (Or.inr (Or.inr (Or.inr (Or.inr (Or.inr (Or.inr (Or.inl h))))))))))))); exact Or.inr (Or.inr (Or.inr (Or.inr (Or.inr (Or.inr (Or.inr (Or.inr (Or.inr (Or.inr (Or.inr (Or.inr (Or.inr (Or.inr (Or.inl h)))))))))))))); exact Or.inr (Or.inr (Or.inr (Or.inr (Or.inr (Or.inr (Or.inr (Or.inr (Or.inr (Or.inr (Or.inr (Or.inr (Or.inr (Or.inr (Or.inr (Or.inl h))))))))))))))); exact Or.inr (Or.inr (Or.inr (Or.inr (Or.inr (Or.inr (Or.inr (Or.inr (Or.inr (Or.inr (Or.inr (Or.inr (Or.inr (Or.inr (Or.inr (Or.inr (Or.inl h)))))))))))))))); exact Or.inr (Or.inr (Or.inr (Or.inr (Or.inr (Or.inr (Or.inr (Or.inr (Or.inr (Or.inr (Or.inr (Or.inr (Or.inr (Or.inr (Or.inr (Or.inr (Or.inr (h))))))))))))))))))
                              have b150 := zz_rf3 (z := (S0 1073 1)) (by omega)
                              have b151 := zz_rf6 (z := (12 * (S0 1073 1) + 0)) (by omega)
                              have H_S143 : zz_Hc S143 := o148
                              skip
                              refine zz_aload_n (x := 1073) rfl zd_8_3_117 ?_
                              refine zz_sipush (by decide) zd_8_3_118 ?_
                              refine zz_puti zd_8_3_121 zf_NetworkReader_35 zT_1073 rfl (zz_ltn hn rfl) (fun S152 qS152 => ?_)
                              have G_S152 := zz_G.put G_S143 qS152 (-2147483648) 2147483647 rfl (by omega)
                              have F_S152 := zz_fr.puts F_S143 qS152 rfl
                              have H_S152 : zz_Hc S152 := zz_Hc.fr (q := 0) (zz_fr.put1 qS152) rfl rfl G_S143 (by decide) rfl (fun b j h => by omega) H_S143
                              refine zz_aload_n (x := 1073) rfl zd_8_3_124 ?_
                              refine zz_iconst zd_8_3_125 ?_
                              refine zz_puti zd_8_3_126 zf_NetworkReader_38 zT_1073 rfl (zz_ltn hn rfl) (fun S153 qS153 => ?_)
                              have G_S153 := zz_G.put G_S152 qS153 (-2147483648) 2147483647 rfl (by omega)
                              have F_S153 := zz_fr.puts F_S152 qS153 rfl
                              have H_S153 : zz_Hc S153 := zz_Hc.fr (q := 0) (zz_fr.put1 qS153) rfl rfl G_S152 (by decide) rfl (fun b j h => by omega) H_S152
                              refine zz_iconst zd_8_3_129 ?_
                              have g154 := zz_G.r G_S108 1070 3 0 1500 rfl rfl
                              have e155 : S153 1070 3 = S108 1070 3 := (zz_ro qS153 (fun h => absurd h.1 (by decide)) (zz_ro qS152 (fun h => absurd h.1 (by decide)) (zz_rc fS143 rfl rfl (by first | decide | omega) rfl)))
                              have e156 : S153 1073 6 = 128 := (zz_ro qS153 (fun h => absurd h.2 (by decide)) (zz_rs qS152))
                              have e157 : S153 1073 7 = 0 := (zz_rs qS153)
                              have e158 : S153 (zz_rf 3 (S0 1073 1)) 1 = S143 (zz_rf 3 (S0 1073 1)) 1 := (zz_ro qS153 (fun h => absurd h.2 (by decide)) (zz_ro qS152 (fun h => absurd h.2 (by decide)) rfl))
                              exact zz_zret zd_8_3_130 rfl (by omega) (Nat.zero_le _) (Nat.zero_le _) ⟨_, _, rfl, G_S153, F_S153, by omega, (fun a hK => by have e0 := hK.2.2.1; have h0 := (zt_NKw hK (t := 29) (by decide) (by decide) o7).resolve_right (fun h => absurd h.1 (by decide)); have q0 := o26; rw [e0] at q0; have e1 := q0.2.2.1; have g0 := (zt_NKs q0).2.1.mpr ks0_; have q1 := o50; rw [e1] at q1; have e2 := q1.2.2.1; have w1 := zt_NKw q1 (t := 12) (by decide) (by decide) o49; have g1 := (w1.resolve_right (fun h => absurd h.1 (by decide))).2; have q2 := o73; rw [e2] at q2; have e3 := q2.2.2.1; have g2 := (zt_NKs q2).2.1.mpr ks2_; have q3 := o97; rw [e3] at q3; have e4 := q3.2.2.1; have w3 := zt_NKw q3 (t := 12) (by decide) (by decide) o96; have g3 := (w3.resolve_right (fun h => absurd h.1 (by decide))).2; have q4 := o120; rw [e4] at q4; have e5 := q4.2.2.1; have g4 := (zt_NKs q4).2.1.mpr ks4_; have y1 := kv0_; rw [e0] at y1; have y3 := kv2_; rw [e2] at y3; have y5 := kv4_; rw [e4] at y5; refine Or.inl ⟨rfl, ⟨h0.2, g0, g1, g2, g3, g4, by unfold zn_fp; rw [← y1, ← y3, ← y5]; omega⟩, by omega, by omega, by omega, fun nm => ?_⟩; rw [← y1, ← y3, ← y5]; exact (o147 nm).same (by omega) (fun k k1 k2 s _ => by have k3 : k < 1 := k2; have hz_ := zz_rf6 (z := 12 * (S0 1073 1) + k) (by omega); exact zz_ro qS153 (fun h => by omega) (zz_ro qS152 (fun h => by omega) rfl))), by omega, (fun h9 => by have z9 := (kl4_ () (kl3_ () (kl2_ () (kl1_ () (kl0_ () h9))))); omega), H_S153⟩
                            · exfalso; omega
                        · exfalso; omega
                · exfalso; omega
        · exfalso; omega
theorem zk_NetworkReader_75 : mm_Vl "TensorForge$NetworkReader" 75 8 0 zy_readInput_8_3 := ⟨zyw_readInput_8_3, (R_NetworkReader, F_NetworkReader, 9), rfl, mm_tb_1 1018 (by decide +kernel) rfl, mm_tb_1 1020 (by decide +kernel) rfl, mm_tb_s 51 (by decide +kernel) rfl⟩
abbrev zy_readOptions_8_7 : mm_Y := (⟨"TensorForge$NetworkReader", "readOptions", "()Z"⟩, prog_8_method_7_code, 3, (some .boolean))
theorem zyw_readOptions_8_7 : mm_Yw zy_readOptions_8_7 0 := ⟨mm_tb_1 948 (by decide +kernel) rfl, mm_tb_1 9 (by decide +kernel) rfl, ⟨by decide, by decide⟩, by decide +kernel⟩
abbrev zy_optionTold_8_8 : mm_Y := (⟨"TensorForge$NetworkReader", "optionTold", "()I"⟩, prog_8_method_8_code, 1, (some .int))
theorem zyw_optionTold_8_8 : mm_Yw zy_optionTold_8_8 0 := ⟨mm_tb_1 952 (by decide +kernel) rfl, mm_tb_1 9 (by decide +kernel) rfl, ⟨by decide, by decide⟩, by decide +kernel⟩
theorem zg_8_2_98 : zq_at zy_readInto_8_2.2.1 98 153 ∧ zq_at zy_readInto_8_2.2.1 99 0 ∧ zq_at zy_readInto_8_2.2.1 100 14 ∧ zq_at zy_readInto_8_2.2.1 112 3 ∧ zq_at zy_readInto_8_2.2.1 113 54 ∧ zq_at zy_readInto_8_2.2.1 114 4 ∧ zq_at zy_readInto_8_2.2.1 115 21 ∧ zq_at zy_readInto_8_2.2.1 116 4 ∧ zq_at zy_readInto_8_2.2.1 117 154 ∧ zq_at zy_readInto_8_2.2.1 118 0 ∧ zq_at zy_readInto_8_2.2.1 119 5 ∧ zq_at zy_readInto_8_2.2.1 120 29 ∧ zq_at zy_readInto_8_2.2.1 121 172 ∧ zq_at zy_readInto_8_2.2.1 101 42 ∧ zq_at zy_readInto_8_2.2.1 102 182 ∧ zq_at zy_readInto_8_2.2.1 103 0 ∧ zq_at zy_readInto_8_2.2.1 104 68 := by decide +kernel
theorem zd_8_2_98 : zz_B zy_readInto_8_2 98 (Instr.ifCond .eq) 112 101 := ⟨14, zq_153 zg_8_2_98.1 zg_8_2_98.2.1 zg_8_2_98.2.2.1 (by decide), rfl, rfl⟩
theorem zd_8_2_112 : zz_D zy_readInto_8_2 112 (.iconst 0) 1 113 := ⟨zq_3 zg_8_2_98.2.2.2.1, rfl⟩
theorem zd_8_2_113 : zz_D zy_readInto_8_2 113 (.istore 4) 2 115 := ⟨zq_54 zg_8_2_98.2.2.2.2.1 zg_8_2_98.2.2.2.2.2.1, rfl⟩
theorem zd_8_2_115 : zz_D zy_readInto_8_2 115 (.iload 4) 2 117 := ⟨zq_21 zg_8_2_98.2.2.2.2.2.2.1 zg_8_2_98.2.2.2.2.2.2.2.1, rfl⟩
theorem zd_8_2_117 : zz_B zy_readInto_8_2 117 (Instr.ifCond .ne) 122 120 := ⟨5, zq_154 zg_8_2_98.2.2.2.2.2.2.2.2.1 zg_8_2_98.2.2.2.2.2.2.2.2.2.1 zg_8_2_98.2.2.2.2.2.2.2.2.2.2.1 (by decide), rfl, rfl⟩
theorem zd_8_2_120 : zz_D zy_readInto_8_2 120 (.iload_n 3) 1 121 := ⟨zq_29 zg_8_2_98.2.2.2.2.2.2.2.2.2.2.2.1, rfl⟩
theorem zd_8_2_121 : zz_D zy_readInto_8_2 121 (.ireturn) 1 122 := ⟨zq_172 zg_8_2_98.2.2.2.2.2.2.2.2.2.2.2.2.1, rfl⟩
theorem zd_8_2_101 : zz_D zy_readInto_8_2 101 (.aload_n 0) 1 102 := ⟨zq_42 zg_8_2_98.2.2.2.2.2.2.2.2.2.2.2.2.2.1, rfl⟩
theorem zd_8_2_102 : zz_D zy_readInto_8_2 102 (.invokevirtual 68) 3 105 := ⟨zq_182 zg_8_2_98.2.2.2.2.2.2.2.2.2.2.2.2.2.2.1 zg_8_2_98.2.2.2.2.2.2.2.2.2.2.2.2.2.2.2.1 zg_8_2_98.2.2.2.2.2.2.2.2.2.2.2.2.2.2.2.2 rfl, rfl⟩
theorem zg_8_7_0 : zq_at zy_readOptions_8_7.2.1 0 42 ∧ zq_at zy_readOptions_8_7.2.1 1 3 ∧ zq_at zy_readOptions_8_7.2.1 2 181 ∧ zq_at zy_readOptions_8_7.2.1 3 0 ∧ zq_at zy_readOptions_8_7.2.1 4 41 ∧ zq_at zy_readOptions_8_7.2.1 5 42 ∧ zq_at zy_readOptions_8_7.2.1 6 3 ∧ zq_at zy_readOptions_8_7.2.1 7 181 ∧ zq_at zy_readOptions_8_7.2.1 8 0 ∧ zq_at zy_readOptions_8_7.2.1 9 32 ∧ zq_at zy_readOptions_8_7.2.1 10 3 ∧ zq_at zy_readOptions_8_7.2.1 11 60 ∧ zq_at zy_readOptions_8_7.2.1 12 27 ∧ zq_at zy_readOptions_8_7.2.1 13 17 ∧ zq_at zy_readOptions_8_7.2.1 14 5 ∧ zq_at zy_readOptions_8_7.2.1 15 220 ∧ zq_at zy_readOptions_8_7.2.1 16 163 ∧ zq_at zy_readOptions_8_7.2.1 17 0 ∧ zq_at zy_readOptions_8_7.2.1 18 91 ∧ zq_at zy_readOptions_8_7.2.1 107 3 ∧ zq_at zy_readOptions_8_7.2.1 108 172 ∧ zq_at zy_readOptions_8_7.2.1 19 42 := by decide +kernel
theorem zd_8_7_0 : zz_D zy_readOptions_8_7 0 (.aload_n 0) 1 1 := ⟨zq_42 zg_8_7_0.1, rfl⟩
theorem zd_8_7_1 : zz_D zy_readOptions_8_7 1 (.iconst 0) 1 2 := ⟨zq_3 zg_8_7_0.2.1, rfl⟩
theorem zd_8_7_2 : zz_D zy_readOptions_8_7 2 (.putfield 41) 3 5 := ⟨zq_181 zg_8_7_0.2.2.1 zg_8_7_0.2.2.2.1 zg_8_7_0.2.2.2.2.1 rfl, rfl⟩
theorem zd_8_7_5 : zz_D zy_readOptions_8_7 5 (.aload_n 0) 1 6 := ⟨zq_42 zg_8_7_0.2.2.2.2.2.1, rfl⟩
theorem zd_8_7_6 : zz_D zy_readOptions_8_7 6 (.iconst 0) 1 7 := ⟨zq_3 zg_8_7_0.2.2.2.2.2.2.1, rfl⟩
theorem zd_8_7_7 : zz_D zy_readOptions_8_7 7 (.putfield 32) 3 10 := ⟨zq_181 zg_8_7_0.2.2.2.2.2.2.2.1 zg_8_7_0.2.2.2.2.2.2.2.2.1 zg_8_7_0.2.2.2.2.2.2.2.2.2.1 rfl, rfl⟩
theorem zd_8_7_10 : zz_D zy_readOptions_8_7 10 (.iconst 0) 1 11 := ⟨zq_3 zg_8_7_0.2.2.2.2.2.2.2.2.2.2.1, rfl⟩
theorem zd_8_7_11 : zz_D zy_readOptions_8_7 11 (.istore_n 1) 1 12 := ⟨zq_60 zg_8_7_0.2.2.2.2.2.2.2.2.2.2.2.1, rfl⟩
theorem zd_8_7_12 : zz_D zy_readOptions_8_7 12 (.iload_n 1) 1 13 := ⟨zq_27 zg_8_7_0.2.2.2.2.2.2.2.2.2.2.2.2.1, rfl⟩
theorem zd_8_7_13 : zz_D zy_readOptions_8_7 13 (.sipush 1500) 3 16 := ⟨zq_17 zg_8_7_0.2.2.2.2.2.2.2.2.2.2.2.2.2.1 zg_8_7_0.2.2.2.2.2.2.2.2.2.2.2.2.2.2.1 zg_8_7_0.2.2.2.2.2.2.2.2.2.2.2.2.2.2.2.1 (by decide), rfl⟩
theorem zd_8_7_16 : zz_B zy_readOptions_8_7 16 (Instr.if_icmp .gt) 107 19 := ⟨91, zq_163 zg_8_7_0.2.2.2.2.2.2.2.2.2.2.2.2.2.2.2.2.1 zg_8_7_0.2.2.2.2.2.2.2.2.2.2.2.2.2.2.2.2.2.1 zg_8_7_0.2.2.2.2.2.2.2.2.2.2.2.2.2.2.2.2.2.2.1 (by decide), rfl, rfl⟩
theorem zd_8_7_107 : zz_D zy_readOptions_8_7 107 (.iconst 0) 1 108 := ⟨zq_3 zg_8_7_0.2.2.2.2.2.2.2.2.2.2.2.2.2.2.2.2.2.2.2.1, rfl⟩
theorem zd_8_7_108 : zz_D zy_readOptions_8_7 108 (.ireturn) 1 109 := ⟨zq_172 zg_8_7_0.2.2.2.2.2.2.2.2.2.2.2.2.2.2.2.2.2.2.2.2.1, rfl⟩
theorem zd_8_7_19 : zz_D zy_readOptions_8_7 19 (.aload_n 0) 1 20 := ⟨zq_42 zg_8_7_0.2.2.2.2.2.2.2.2.2.2.2.2.2.2.2.2.2.2.2.2.2, rfl⟩
theorem zg_8_7_20 : zq_at zy_readOptions_8_7.2.1 20 180 ∧ zq_at zy_readOptions_8_7.2.1 21 0 ∧ zq_at zy_readOptions_8_7.2.1 22 9 ∧ zq_at zy_readOptions_8_7.2.1 23 182 ∧ zq_at zy_readOptions_8_7.2.1 24 0 ∧ zq_at zy_readOptions_8_7.2.1 25 59 ∧ zq_at zy_readOptions_8_7.2.1 26 42 ∧ zq_at zy_readOptions_8_7.2.1 27 180 ∧ zq_at zy_readOptions_8_7.2.1 28 0 ∧ zq_at zy_readOptions_8_7.2.1 29 9 ∧ zq_at zy_readOptions_8_7.2.1 30 180 ∧ zq_at zy_readOptions_8_7.2.1 31 0 ∧ zq_at zy_readOptions_8_7.2.1 32 62 ∧ zq_at zy_readOptions_8_7.2.1 33 154 ∧ zq_at zy_readOptions_8_7.2.1 34 0 ∧ zq_at zy_readOptions_8_7.2.1 35 25 ∧ zq_at zy_readOptions_8_7.2.1 58 42 ∧ zq_at zy_readOptions_8_7.2.1 59 182 ∧ zq_at zy_readOptions_8_7.2.1 60 0 ∧ zq_at zy_readOptions_8_7.2.1 61 135 := by decide +kernel
theorem zd_8_7_20 : zz_D zy_readOptions_8_7 20 (.getfield 9) 3 23 := ⟨zq_180 zg_8_7_20.1 zg_8_7_20.2.1 zg_8_7_20.2.2.1 rfl, rfl⟩
theorem zd_8_7_23 : zz_D zy_readOptions_8_7 23 (.invokevirtual 59) 3 26 := ⟨zq_182 zg_8_7_20.2.2.2.1 zg_8_7_20.2.2.2.2.1 zg_8_7_20.2.2.2.2.2.1 rfl, rfl⟩
theorem zd_8_7_26 : zz_D zy_readOptions_8_7 26 (.aload_n 0) 1 27 := ⟨zq_42 zg_8_7_20.2.2.2.2.2.2.1, rfl⟩
theorem zd_8_7_27 : zz_D zy_readOptions_8_7 27 (.getfield 9) 3 30 := ⟨zq_180 zg_8_7_20.2.2.2.2.2.2.2.1 zg_8_7_20.2.2.2.2.2.2.2.2.1 zg_8_7_20.2.2.2.2.2.2.2.2.2.1 rfl, rfl⟩
theorem zd_8_7_30 : zz_D zy_readOptions_8_7 30 (.getfield 62) 3 33 := ⟨zq_180 zg_8_7_20.2.2.2.2.2.2.2.2.2.2.1 zg_8_7_20.2.2.2.2.2.2.2.2.2.2.2.1 zg_8_7_20.2.2.2.2.2.2.2.2.2.2.2.2.1 rfl, rfl⟩
theorem zd_8_7_33 : zz_B zy_readOptions_8_7 33 (Instr.ifCond .ne) 58 36 := ⟨25, zq_154 zg_8_7_20.2.2.2.2.2.2.2.2.2.2.2.2.2.1 zg_8_7_20.2.2.2.2.2.2.2.2.2.2.2.2.2.2.1 zg_8_7_20.2.2.2.2.2.2.2.2.2.2.2.2.2.2.2.1 (by decide), rfl, rfl⟩
theorem zd_8_7_58 : zz_D zy_readOptions_8_7 58 (.aload_n 0) 1 59 := ⟨zq_42 zg_8_7_20.2.2.2.2.2.2.2.2.2.2.2.2.2.2.2.2.1, rfl⟩
theorem zd_8_7_59 : zz_D zy_readOptions_8_7 59 (.invokevirtual 135) 3 62 := ⟨zq_182 zg_8_7_20.2.2.2.2.2.2.2.2.2.2.2.2.2.2.2.2.2.1 zg_8_7_20.2.2.2.2.2.2.2.2.2.2.2.2.2.2.2.2.2.2.1 zg_8_7_20.2.2.2.2.2.2.2.2.2.2.2.2.2.2.2.2.2.2.2 rfl, rfl⟩
theorem zg_8_8_0 : zq_at zy_optionTold_8_8.2.1 0 42 ∧ zq_at zy_optionTold_8_8.2.1 1 180 ∧ zq_at zy_optionTold_8_8.2.1 2 0 ∧ zq_at zy_optionTold_8_8.2.1 3 9 ∧ zq_at zy_optionTold_8_8.2.1 4 18 ∧ zq_at zy_optionTold_8_8.2.1 5 142 ∧ zq_at zy_optionTold_8_8.2.1 6 182 ∧ zq_at zy_optionTold_8_8.2.1 7 0 ∧ zq_at zy_optionTold_8_8.2.1 8 87 ∧ zq_at zy_optionTold_8_8.2.1 9 153 ∧ zq_at zy_optionTold_8_8.2.1 10 0 ∧ zq_at zy_optionTold_8_8.2.1 11 5 ∧ zq_at zy_optionTold_8_8.2.1 14 42 ∧ zq_at zy_optionTold_8_8.2.1 15 180 ∧ zq_at zy_optionTold_8_8.2.1 16 0 ∧ zq_at zy_optionTold_8_8.2.1 17 9 ∧ zq_at zy_optionTold_8_8.2.1 18 18 ∧ zq_at zy_optionTold_8_8.2.1 19 144 ∧ zq_at zy_optionTold_8_8.2.1 20 182 ∧ zq_at zy_optionTold_8_8.2.1 21 0 ∧ zq_at zy_optionTold_8_8.2.1 22 87 ∧ zq_at zy_optionTold_8_8.2.1 23 153 ∧ zq_at zy_optionTold_8_8.2.1 24 0 ∧ zq_at zy_optionTold_8_8.2.1 25 5 := by decide +kernel
theorem zd_8_8_0 : zz_D zy_optionTold_8_8 0 (.aload_n 0) 1 1 := ⟨zq_42 zg_8_8_0.1, rfl⟩
theorem zd_8_8_1 : zz_D zy_optionTold_8_8 1 (.getfield 9) 3 4 := ⟨zq_180 zg_8_8_0.2.1 zg_8_8_0.2.2.1 zg_8_8_0.2.2.2.1 rfl, rfl⟩
theorem zd_8_8_4 : zz_D zy_optionTold_8_8 4 (.ldc 142) 2 6 := ⟨zq_18 zg_8_8_0.2.2.2.2.1 zg_8_8_0.2.2.2.2.2.1, rfl⟩
theorem zd_8_8_6 : zz_D zy_optionTold_8_8 6 (.invokevirtual 87) 3 9 := ⟨zq_182 zg_8_8_0.2.2.2.2.2.2.1 zg_8_8_0.2.2.2.2.2.2.2.1 zg_8_8_0.2.2.2.2.2.2.2.2.1 rfl, rfl⟩
theorem zd_8_8_9 : zz_B zy_optionTold_8_8 9 (Instr.ifCond .eq) 14 12 := ⟨5, zq_153 zg_8_8_0.2.2.2.2.2.2.2.2.2.1 zg_8_8_0.2.2.2.2.2.2.2.2.2.2.1 zg_8_8_0.2.2.2.2.2.2.2.2.2.2.2.1 (by decide), rfl, rfl⟩
theorem zd_8_8_14 : zz_D zy_optionTold_8_8 14 (.aload_n 0) 1 15 := ⟨zq_42 zg_8_8_0.2.2.2.2.2.2.2.2.2.2.2.2.1, rfl⟩
theorem zd_8_8_15 : zz_D zy_optionTold_8_8 15 (.getfield 9) 3 18 := ⟨zq_180 zg_8_8_0.2.2.2.2.2.2.2.2.2.2.2.2.2.1 zg_8_8_0.2.2.2.2.2.2.2.2.2.2.2.2.2.2.1 zg_8_8_0.2.2.2.2.2.2.2.2.2.2.2.2.2.2.2.1 rfl, rfl⟩
theorem zd_8_8_18 : zz_D zy_optionTold_8_8 18 (.ldc 144) 2 20 := ⟨zq_18 zg_8_8_0.2.2.2.2.2.2.2.2.2.2.2.2.2.2.2.2.1 zg_8_8_0.2.2.2.2.2.2.2.2.2.2.2.2.2.2.2.2.2.1, rfl⟩
theorem zd_8_8_20 : zz_D zy_optionTold_8_8 20 (.invokevirtual 87) 3 23 := ⟨zq_182 zg_8_8_0.2.2.2.2.2.2.2.2.2.2.2.2.2.2.2.2.2.2.1 zg_8_8_0.2.2.2.2.2.2.2.2.2.2.2.2.2.2.2.2.2.2.2.1 zg_8_8_0.2.2.2.2.2.2.2.2.2.2.2.2.2.2.2.2.2.2.2.2.1 rfl, rfl⟩
theorem zd_8_8_23 : zz_B zy_optionTold_8_8 23 (Instr.ifCond .eq) 28 26 := ⟨5, zq_153 zg_8_8_0.2.2.2.2.2.2.2.2.2.2.2.2.2.2.2.2.2.2.2.2.2.1 zg_8_8_0.2.2.2.2.2.2.2.2.2.2.2.2.2.2.2.2.2.2.2.2.2.2.1 zg_8_8_0.2.2.2.2.2.2.2.2.2.2.2.2.2.2.2.2.2.2.2.2.2.2.2 (by decide), rfl, rfl⟩
theorem zg_8_8_28 : zq_at zy_optionTold_8_8.2.1 28 42 ∧ zq_at zy_optionTold_8_8.2.1 29 180 ∧ zq_at zy_optionTold_8_8.2.1 30 0 ∧ zq_at zy_optionTold_8_8.2.1 31 9 ∧ zq_at zy_optionTold_8_8.2.1 32 18 ∧ zq_at zy_optionTold_8_8.2.1 33 146 ∧ zq_at zy_optionTold_8_8.2.1 34 182 ∧ zq_at zy_optionTold_8_8.2.1 35 0 ∧ zq_at zy_optionTold_8_8.2.1 36 87 ∧ zq_at zy_optionTold_8_8.2.1 37 153 ∧ zq_at zy_optionTold_8_8.2.1 38 0 ∧ zq_at zy_optionTold_8_8.2.1 39 5 ∧ zq_at zy_optionTold_8_8.2.1 42 42 ∧ zq_at zy_optionTold_8_8.2.1 43 180 ∧ zq_at zy_optionTold_8_8.2.1 44 0 ∧ zq_at zy_optionTold_8_8.2.1 45 9 ∧ zq_at zy_optionTold_8_8.2.1 46 18 ∧ zq_at zy_optionTold_8_8.2.1 47 148 ∧ zq_at zy_optionTold_8_8.2.1 48 182 ∧ zq_at zy_optionTold_8_8.2.1 49 0 ∧ zq_at zy_optionTold_8_8.2.1 50 87 ∧ zq_at zy_optionTold_8_8.2.1 51 153 ∧ zq_at zy_optionTold_8_8.2.1 52 0 ∧ zq_at zy_optionTold_8_8.2.1 53 6 := by decide +kernel
theorem zd_8_8_28 : zz_D zy_optionTold_8_8 28 (.aload_n 0) 1 29 := ⟨zq_42 zg_8_8_28.1, rfl⟩
theorem zd_8_8_29 : zz_D zy_optionTold_8_8 29 (.getfield 9) 3 32 := ⟨zq_180 zg_8_8_28.2.1 zg_8_8_28.2.2.1 zg_8_8_28.2.2.2.1 rfl, rfl⟩
theorem zd_8_8_32 : zz_D zy_optionTold_8_8 32 (.ldc 146) 2 34 := ⟨zq_18 zg_8_8_28.2.2.2.2.1 zg_8_8_28.2.2.2.2.2.1, rfl⟩
theorem zd_8_8_34 : zz_D zy_optionTold_8_8 34 (.invokevirtual 87) 3 37 := ⟨zq_182 zg_8_8_28.2.2.2.2.2.2.1 zg_8_8_28.2.2.2.2.2.2.2.1 zg_8_8_28.2.2.2.2.2.2.2.2.1 rfl, rfl⟩
theorem zd_8_8_37 : zz_B zy_optionTold_8_8 37 (Instr.ifCond .eq) 42 40 := ⟨5, zq_153 zg_8_8_28.2.2.2.2.2.2.2.2.2.1 zg_8_8_28.2.2.2.2.2.2.2.2.2.2.1 zg_8_8_28.2.2.2.2.2.2.2.2.2.2.2.1 (by decide), rfl, rfl⟩
theorem zd_8_8_42 : zz_D zy_optionTold_8_8 42 (.aload_n 0) 1 43 := ⟨zq_42 zg_8_8_28.2.2.2.2.2.2.2.2.2.2.2.2.1, rfl⟩
theorem zd_8_8_43 : zz_D zy_optionTold_8_8 43 (.getfield 9) 3 46 := ⟨zq_180 zg_8_8_28.2.2.2.2.2.2.2.2.2.2.2.2.2.1 zg_8_8_28.2.2.2.2.2.2.2.2.2.2.2.2.2.2.1 zg_8_8_28.2.2.2.2.2.2.2.2.2.2.2.2.2.2.2.1 rfl, rfl⟩
theorem zd_8_8_46 : zz_D zy_optionTold_8_8 46 (.ldc 148) 2 48 := ⟨zq_18 zg_8_8_28.2.2.2.2.2.2.2.2.2.2.2.2.2.2.2.2.1 zg_8_8_28.2.2.2.2.2.2.2.2.2.2.2.2.2.2.2.2.2.1, rfl⟩
theorem zd_8_8_48 : zz_D zy_optionTold_8_8 48 (.invokevirtual 87) 3 51 := ⟨zq_182 zg_8_8_28.2.2.2.2.2.2.2.2.2.2.2.2.2.2.2.2.2.2.1 zg_8_8_28.2.2.2.2.2.2.2.2.2.2.2.2.2.2.2.2.2.2.2.1 zg_8_8_28.2.2.2.2.2.2.2.2.2.2.2.2.2.2.2.2.2.2.2.2.1 rfl, rfl⟩
theorem zd_8_8_51 : zz_B zy_optionTold_8_8 51 (Instr.ifCond .eq) 57 54 := ⟨6, zq_153 zg_8_8_28.2.2.2.2.2.2.2.2.2.2.2.2.2.2.2.2.2.2.2.2.2.1 zg_8_8_28.2.2.2.2.2.2.2.2.2.2.2.2.2.2.2.2.2.2.2.2.2.2.1 zg_8_8_28.2.2.2.2.2.2.2.2.2.2.2.2.2.2.2.2.2.2.2.2.2.2.2 (by decide), rfl, rfl⟩
theorem zg_8_8_57 : zq_at zy_optionTold_8_8.2.1 57 42 ∧ zq_at zy_optionTold_8_8.2.1 58 180 ∧ zq_at zy_optionTold_8_8.2.1 59 0 ∧ zq_at zy_optionTold_8_8.2.1 60 9 ∧ zq_at zy_optionTold_8_8.2.1 61 18 ∧ zq_at zy_optionTold_8_8.2.1 62 150 ∧ zq_at zy_optionTold_8_8.2.1 63 182 ∧ zq_at zy_optionTold_8_8.2.1 64 0 ∧ zq_at zy_optionTold_8_8.2.1 65 87 ∧ zq_at zy_optionTold_8_8.2.1 66 153 ∧ zq_at zy_optionTold_8_8.2.1 67 0 ∧ zq_at zy_optionTold_8_8.2.1 68 6 ∧ zq_at zy_optionTold_8_8.2.1 72 42 ∧ zq_at zy_optionTold_8_8.2.1 73 180 ∧ zq_at zy_optionTold_8_8.2.1 74 0 ∧ zq_at zy_optionTold_8_8.2.1 75 9 ∧ zq_at zy_optionTold_8_8.2.1 76 18 ∧ zq_at zy_optionTold_8_8.2.1 77 152 ∧ zq_at zy_optionTold_8_8.2.1 78 182 ∧ zq_at zy_optionTold_8_8.2.1 79 0 ∧ zq_at zy_optionTold_8_8.2.1 80 87 ∧ zq_at zy_optionTold_8_8.2.1 81 153 ∧ zq_at zy_optionTold_8_8.2.1 82 0 ∧ zq_at zy_optionTold_8_8.2.1 83 6 := by decide +kernel
theorem zd_8_8_57 : zz_D zy_optionTold_8_8 57 (.aload_n 0) 1 58 := ⟨zq_42 zg_8_8_57.1, rfl⟩
theorem zd_8_8_58 : zz_D zy_optionTold_8_8 58 (.getfield 9) 3 61 := ⟨zq_180 zg_8_8_57.2.1 zg_8_8_57.2.2.1 zg_8_8_57.2.2.2.1 rfl, rfl⟩
theorem zd_8_8_61 : zz_D zy_optionTold_8_8 61 (.ldc 150) 2 63 := ⟨zq_18 zg_8_8_57.2.2.2.2.1 zg_8_8_57.2.2.2.2.2.1, rfl⟩
theorem zd_8_8_63 : zz_D zy_optionTold_8_8 63 (.invokevirtual 87) 3 66 := ⟨zq_182 zg_8_8_57.2.2.2.2.2.2.1 zg_8_8_57.2.2.2.2.2.2.2.1 zg_8_8_57.2.2.2.2.2.2.2.2.1 rfl, rfl⟩
theorem zd_8_8_66 : zz_B zy_optionTold_8_8 66 (Instr.ifCond .eq) 72 69 := ⟨6, zq_153 zg_8_8_57.2.2.2.2.2.2.2.2.2.1 zg_8_8_57.2.2.2.2.2.2.2.2.2.2.1 zg_8_8_57.2.2.2.2.2.2.2.2.2.2.2.1 (by decide), rfl, rfl⟩
theorem zd_8_8_72 : zz_D zy_optionTold_8_8 72 (.aload_n 0) 1 73 := ⟨zq_42 zg_8_8_57.2.2.2.2.2.2.2.2.2.2.2.2.1, rfl⟩
theorem zd_8_8_73 : zz_D zy_optionTold_8_8 73 (.getfield 9) 3 76 := ⟨zq_180 zg_8_8_57.2.2.2.2.2.2.2.2.2.2.2.2.2.1 zg_8_8_57.2.2.2.2.2.2.2.2.2.2.2.2.2.2.1 zg_8_8_57.2.2.2.2.2.2.2.2.2.2.2.2.2.2.2.1 rfl, rfl⟩
theorem zd_8_8_76 : zz_D zy_optionTold_8_8 76 (.ldc 152) 2 78 := ⟨zq_18 zg_8_8_57.2.2.2.2.2.2.2.2.2.2.2.2.2.2.2.2.1 zg_8_8_57.2.2.2.2.2.2.2.2.2.2.2.2.2.2.2.2.2.1, rfl⟩
theorem zd_8_8_78 : zz_D zy_optionTold_8_8 78 (.invokevirtual 87) 3 81 := ⟨zq_182 zg_8_8_57.2.2.2.2.2.2.2.2.2.2.2.2.2.2.2.2.2.2.1 zg_8_8_57.2.2.2.2.2.2.2.2.2.2.2.2.2.2.2.2.2.2.2.1 zg_8_8_57.2.2.2.2.2.2.2.2.2.2.2.2.2.2.2.2.2.2.2.2.1 rfl, rfl⟩
theorem zd_8_8_81 : zz_B zy_optionTold_8_8 81 (Instr.ifCond .eq) 87 84 := ⟨6, zq_153 zg_8_8_57.2.2.2.2.2.2.2.2.2.2.2.2.2.2.2.2.2.2.2.2.2.1 zg_8_8_57.2.2.2.2.2.2.2.2.2.2.2.2.2.2.2.2.2.2.2.2.2.2.1 zg_8_8_57.2.2.2.2.2.2.2.2.2.2.2.2.2.2.2.2.2.2.2.2.2.2.2 (by decide), rfl, rfl⟩
theorem zg_8_8_87 : zq_at zy_optionTold_8_8.2.1 87 42 ∧ zq_at zy_optionTold_8_8.2.1 88 180 ∧ zq_at zy_optionTold_8_8.2.1 89 0 ∧ zq_at zy_optionTold_8_8.2.1 90 9 ∧ zq_at zy_optionTold_8_8.2.1 91 18 ∧ zq_at zy_optionTold_8_8.2.1 92 154 ∧ zq_at zy_optionTold_8_8.2.1 93 182 ∧ zq_at zy_optionTold_8_8.2.1 94 0 ∧ zq_at zy_optionTold_8_8.2.1 95 87 ∧ zq_at zy_optionTold_8_8.2.1 96 153 ∧ zq_at zy_optionTold_8_8.2.1 97 0 ∧ zq_at zy_optionTold_8_8.2.1 98 6 ∧ zq_at zy_optionTold_8_8.2.1 102 42 ∧ zq_at zy_optionTold_8_8.2.1 103 180 ∧ zq_at zy_optionTold_8_8.2.1 104 0 ∧ zq_at zy_optionTold_8_8.2.1 105 9 ∧ zq_at zy_optionTold_8_8.2.1 106 18 ∧ zq_at zy_optionTold_8_8.2.1 107 156 ∧ zq_at zy_optionTold_8_8.2.1 108 182 ∧ zq_at zy_optionTold_8_8.2.1 109 0 ∧ zq_at zy_optionTold_8_8.2.1 110 87 ∧ zq_at zy_optionTold_8_8.2.1 111 153 ∧ zq_at zy_optionTold_8_8.2.1 112 0 ∧ zq_at zy_optionTold_8_8.2.1 113 9 := by decide +kernel
theorem zd_8_8_87 : zz_D zy_optionTold_8_8 87 (.aload_n 0) 1 88 := ⟨zq_42 zg_8_8_87.1, rfl⟩
theorem zd_8_8_88 : zz_D zy_optionTold_8_8 88 (.getfield 9) 3 91 := ⟨zq_180 zg_8_8_87.2.1 zg_8_8_87.2.2.1 zg_8_8_87.2.2.2.1 rfl, rfl⟩
theorem zd_8_8_91 : zz_D zy_optionTold_8_8 91 (.ldc 154) 2 93 := ⟨zq_18 zg_8_8_87.2.2.2.2.1 zg_8_8_87.2.2.2.2.2.1, rfl⟩
theorem zd_8_8_93 : zz_D zy_optionTold_8_8 93 (.invokevirtual 87) 3 96 := ⟨zq_182 zg_8_8_87.2.2.2.2.2.2.1 zg_8_8_87.2.2.2.2.2.2.2.1 zg_8_8_87.2.2.2.2.2.2.2.2.1 rfl, rfl⟩
theorem zd_8_8_96 : zz_B zy_optionTold_8_8 96 (Instr.ifCond .eq) 102 99 := ⟨6, zq_153 zg_8_8_87.2.2.2.2.2.2.2.2.2.1 zg_8_8_87.2.2.2.2.2.2.2.2.2.2.1 zg_8_8_87.2.2.2.2.2.2.2.2.2.2.2.1 (by decide), rfl, rfl⟩
theorem zd_8_8_102 : zz_D zy_optionTold_8_8 102 (.aload_n 0) 1 103 := ⟨zq_42 zg_8_8_87.2.2.2.2.2.2.2.2.2.2.2.2.1, rfl⟩
theorem zd_8_8_103 : zz_D zy_optionTold_8_8 103 (.getfield 9) 3 106 := ⟨zq_180 zg_8_8_87.2.2.2.2.2.2.2.2.2.2.2.2.2.1 zg_8_8_87.2.2.2.2.2.2.2.2.2.2.2.2.2.2.1 zg_8_8_87.2.2.2.2.2.2.2.2.2.2.2.2.2.2.2.1 rfl, rfl⟩
theorem zd_8_8_106 : zz_D zy_optionTold_8_8 106 (.ldc 156) 2 108 := ⟨zq_18 zg_8_8_87.2.2.2.2.2.2.2.2.2.2.2.2.2.2.2.2.1 zg_8_8_87.2.2.2.2.2.2.2.2.2.2.2.2.2.2.2.2.2.1, rfl⟩
theorem zd_8_8_108 : zz_D zy_optionTold_8_8 108 (.invokevirtual 87) 3 111 := ⟨zq_182 zg_8_8_87.2.2.2.2.2.2.2.2.2.2.2.2.2.2.2.2.2.2.1 zg_8_8_87.2.2.2.2.2.2.2.2.2.2.2.2.2.2.2.2.2.2.2.1 zg_8_8_87.2.2.2.2.2.2.2.2.2.2.2.2.2.2.2.2.2.2.2.2.1 rfl, rfl⟩
theorem zd_8_8_111 : zz_B zy_optionTold_8_8 111 (Instr.ifCond .eq) 120 114 := ⟨9, zq_153 zg_8_8_87.2.2.2.2.2.2.2.2.2.2.2.2.2.2.2.2.2.2.2.2.2.1 zg_8_8_87.2.2.2.2.2.2.2.2.2.2.2.2.2.2.2.2.2.2.2.2.2.2.1 zg_8_8_87.2.2.2.2.2.2.2.2.2.2.2.2.2.2.2.2.2.2.2.2.2.2.2 (by decide), rfl, rfl⟩
theorem zg_8_8_120 : zq_at zy_optionTold_8_8.2.1 120 3 ∧ zq_at zy_optionTold_8_8.2.1 121 172 ∧ zq_at zy_optionTold_8_8.2.1 114 17 ∧ zq_at zy_optionTold_8_8.2.1 115 0 ∧ zq_at zy_optionTold_8_8.2.1 116 128 ∧ zq_at zy_optionTold_8_8.2.1 117 167 ∧ zq_at zy_optionTold_8_8.2.1 118 0 ∧ zq_at zy_optionTold_8_8.2.1 119 4 ∧ zq_at zy_optionTold_8_8.2.1 99 16 ∧ zq_at zy_optionTold_8_8.2.1 100 64 ∧ zq_at zy_optionTold_8_8.2.1 101 172 ∧ zq_at zy_optionTold_8_8.2.1 84 16 ∧ zq_at zy_optionTold_8_8.2.1 85 32 ∧ zq_at zy_optionTold_8_8.2.1 86 172 ∧ zq_at zy_optionTold_8_8.2.1 69 16 ∧ zq_at zy_optionTold_8_8.2.1 70 16 ∧ zq_at zy_optionTold_8_8.2.1 71 172 ∧ zq_at zy_optionTold_8_8.2.1 54 16 ∧ zq_at zy_optionTold_8_8.2.1 55 8 ∧ zq_at zy_optionTold_8_8.2.1 56 172 ∧ zq_at zy_optionTold_8_8.2.1 40 7 ∧ zq_at zy_optionTold_8_8.2.1 41 172 ∧ zq_at zy_optionTold_8_8.2.1 26 5 ∧ zq_at zy_optionTold_8_8.2.1 27 172 := by decide +kernel
theorem zd_8_8_120 : zz_D zy_optionTold_8_8 120 (.iconst 0) 1 121 := ⟨zq_3 zg_8_8_120.1, rfl⟩
theorem zd_8_8_121 : zz_D zy_optionTold_8_8 121 (.ireturn) 1 122 := ⟨zq_172 zg_8_8_120.2.1, rfl⟩
theorem zd_8_8_114 : zz_D zy_optionTold_8_8 114 (.sipush 128) 3 117 := ⟨zq_17 zg_8_8_120.2.2.1 zg_8_8_120.2.2.2.1 zg_8_8_120.2.2.2.2.1 (by decide), rfl⟩
theorem zd_8_8_117 : zz_B zy_optionTold_8_8 117 Instr.goto 121 120 := ⟨4, zq_167 zg_8_8_120.2.2.2.2.2.1 zg_8_8_120.2.2.2.2.2.2.1 zg_8_8_120.2.2.2.2.2.2.2.1 (by decide), rfl, rfl⟩
theorem zd_8_8_99 : zz_D zy_optionTold_8_8 99 (.bipush 64) 2 101 := ⟨zq_16 zg_8_8_120.2.2.2.2.2.2.2.2.1 zg_8_8_120.2.2.2.2.2.2.2.2.2.1 (by decide), rfl⟩
theorem zd_8_8_101 : zz_D zy_optionTold_8_8 101 (.ireturn) 1 102 := ⟨zq_172 zg_8_8_120.2.2.2.2.2.2.2.2.2.2.1, rfl⟩
theorem zd_8_8_84 : zz_D zy_optionTold_8_8 84 (.bipush 32) 2 86 := ⟨zq_16 zg_8_8_120.2.2.2.2.2.2.2.2.2.2.2.1 zg_8_8_120.2.2.2.2.2.2.2.2.2.2.2.2.1 (by decide), rfl⟩
theorem zd_8_8_86 : zz_D zy_optionTold_8_8 86 (.ireturn) 1 87 := ⟨zq_172 zg_8_8_120.2.2.2.2.2.2.2.2.2.2.2.2.2.1, rfl⟩
theorem zd_8_8_69 : zz_D zy_optionTold_8_8 69 (.bipush 16) 2 71 := ⟨zq_16 zg_8_8_120.2.2.2.2.2.2.2.2.2.2.2.2.2.2.1 zg_8_8_120.2.2.2.2.2.2.2.2.2.2.2.2.2.2.2.1 (by decide), rfl⟩
theorem zd_8_8_71 : zz_D zy_optionTold_8_8 71 (.ireturn) 1 72 := ⟨zq_172 zg_8_8_120.2.2.2.2.2.2.2.2.2.2.2.2.2.2.2.2.1, rfl⟩
theorem zd_8_8_54 : zz_D zy_optionTold_8_8 54 (.bipush 8) 2 56 := ⟨zq_16 zg_8_8_120.2.2.2.2.2.2.2.2.2.2.2.2.2.2.2.2.2.1 zg_8_8_120.2.2.2.2.2.2.2.2.2.2.2.2.2.2.2.2.2.2.1 (by decide), rfl⟩
theorem zd_8_8_56 : zz_D zy_optionTold_8_8 56 (.ireturn) 1 57 := ⟨zq_172 zg_8_8_120.2.2.2.2.2.2.2.2.2.2.2.2.2.2.2.2.2.2.2.1, rfl⟩
theorem zd_8_8_40 : zz_D zy_optionTold_8_8 40 (.iconst 4) 1 41 := ⟨zq_7 zg_8_8_120.2.2.2.2.2.2.2.2.2.2.2.2.2.2.2.2.2.2.2.2.1, rfl⟩
theorem zd_8_8_41 : zz_D zy_optionTold_8_8 41 (.ireturn) 1 42 := ⟨zq_172 zg_8_8_120.2.2.2.2.2.2.2.2.2.2.2.2.2.2.2.2.2.2.2.2.2.1, rfl⟩
theorem zd_8_8_26 : zz_D zy_optionTold_8_8 26 (.iconst 2) 1 27 := ⟨zq_5 zg_8_8_120.2.2.2.2.2.2.2.2.2.2.2.2.2.2.2.2.2.2.2.2.2.2.1, rfl⟩
theorem zd_8_8_27 : zz_D zy_optionTold_8_8 27 (.ireturn) 1 28 := ⟨zq_172 zg_8_8_120.2.2.2.2.2.2.2.2.2.2.2.2.2.2.2.2.2.2.2.2.2.2.2, rfl⟩
theorem zg_8_8_12 : zq_at zy_optionTold_8_8.2.1 12 4 ∧ zq_at zy_optionTold_8_8.2.1 13 172 := by decide +kernel
theorem zd_8_8_12 : zz_D zy_optionTold_8_8 12 (.iconst 1) 1 13 := ⟨zq_4 zg_8_8_12.1, rfl⟩
theorem zd_8_8_13 : zz_D zy_optionTold_8_8 13 (.ireturn) 1 14 := ⟨zq_172 zg_8_8_12.2, rfl⟩
-- TensorForge$NetworkReader optionTold ()I
abbrev zr_optionTold_8_8 : Room := { frames := 5, cells := 0, slots := 0, locals := 68 }
def zp_optionTold_8_8  (S0 : zz_S) : Int → zz_S → Prop := fun r S => S0 = S ∧ ((-2147483648) ≤ r ∧ r ≤ 2147483647) ∧ (∀ e p : Int, zt_NK (S0 1071) e p (S0 1070 4) (S0 1070 5) (S0 1070 3) → r = zt_b8 (zt_ob (zt_kn (S0 1071) e p) (zt_kc (S0 1071) e p)))
theorem zc_optionTold_8_8 {g : mm_G} {l : Launch}  (S0 : zz_S) (n : Nat) (hn : zz_end ≤ n) (G_S0 : zz_G S0)  : mm_Met g l zy_optionTold_8_8 zr_optionTold_8_8 [.ref 1073] (zz_M S0 n) n (zz_QI n (zp_optionTold_8_8  S0)) := by
  refine zz_enter (by decide) (Nat.le_of_ble_eq_true rfl) (zz_less (ls1 := [some (.ref 1073)]) ⟨rfl, trivial⟩ ?_)
  refine zz_aload_n (x := 1073) rfl zd_8_8_0 ?_
  refine zz_getr (kd := 0) (z := 1070) zd_8_8_1 zf_NetworkReader_9 zT_1073 rfl (zz_ltn hn rfl) (zz_G.eq G_S0 1073 0 1070 rfl rfl) (by decide) 1070 rfl ?_
  refine zz_ldcs (t := 11) (by decide +kernel) (by decide) zd_8_8_4 ?_
  have g1 := zz_G.r G_S0 1070 3 0 1500 rfl rfl
  have g2 := zz_G.r G_S0 1070 4 (-2147483648) 2147483647 rfl rfl
  have g3 := zz_G.r G_S0 1070 5 0 1500 rfl rfl
  refine zz_callVI [.ref (100 + 11)] zd_8_8_6 zk_NetworkReader_87 zT_1070 (zz_ltn hn rfl) rfl rfl ⟨Nat.le_of_ble_eq_true rfl, Nat.le_of_ble_eq_true rfl⟩ ⟨rfl, rfl⟩ (Nat.zero_le _) (Nat.zero_le _) (zc_isWord_11_9 11 S0 n hn G_S0 (by omega)) (fun v5 S4 hP => ?_)
  obtain ⟨rfl, o6, o7⟩ := hP
  rcases (by omega : v5 = 0 ∨ v5 = 1) with rfl | rfl
  · skip
    refine zz_if_eq (by omega) zd_8_8_9 (fun c8 => ?_) (fun c8 => ?_)
    · refine zz_aload_n (x := 1073) rfl zd_8_8_14 ?_
      refine zz_getr (kd := 0) (z := 1070) zd_8_8_15 zf_NetworkReader_9 zT_1073 rfl (zz_ltn hn rfl) (zz_G.eq G_S0 1073 0 1070 rfl rfl) (by decide) 1070 rfl ?_
      refine zz_ldcs (t := 24) (by decide +kernel) (by decide) zd_8_8_18 ?_
      refine zz_callVI [.ref (100 + 24)] zd_8_8_20 zk_NetworkReader_87 zT_1070 (zz_ltn hn rfl) rfl rfl ⟨Nat.le_of_ble_eq_true rfl, Nat.le_of_ble_eq_true rfl⟩ ⟨rfl, rfl⟩ (Nat.zero_le _) (Nat.zero_le _) (zc_isWord_11_9 24 S0 n hn G_S0 (by omega)) (fun v10 S9 hP => ?_)
      obtain ⟨rfl, o11, o12⟩ := hP
      rcases (by omega : v10 = 0 ∨ v10 = 1) with rfl | rfl
      · skip
        refine zz_if_eq (by omega) zd_8_8_23 (fun c13 => ?_) (fun c13 => ?_)
        · refine zz_aload_n (x := 1073) rfl zd_8_8_28 ?_
          refine zz_getr (kd := 0) (z := 1070) zd_8_8_29 zf_NetworkReader_9 zT_1073 rfl (zz_ltn hn rfl) (zz_G.eq G_S0 1073 0 1070 rfl rfl) (by decide) 1070 rfl ?_
          refine zz_ldcs (t := 10) (by decide +kernel) (by decide) zd_8_8_32 ?_
          refine zz_callVI [.ref (100 + 10)] zd_8_8_34 zk_NetworkReader_87 zT_1070 (zz_ltn hn rfl) rfl rfl ⟨Nat.le_of_ble_eq_true rfl, Nat.le_of_ble_eq_true rfl⟩ ⟨rfl, rfl⟩ (Nat.zero_le _) (Nat.zero_le _) (zc_isWord_11_9 10 S0 n hn G_S0 (by omega)) (fun v15 S14 hP => ?_)
          obtain ⟨rfl, o16, o17⟩ := hP
          rcases (by omega : v15 = 0 ∨ v15 = 1) with rfl | rfl
          · skip
            refine zz_if_eq (by omega) zd_8_8_37 (fun c18 => ?_) (fun c18 => ?_)
            · refine zz_aload_n (x := 1073) rfl zd_8_8_42 ?_
              refine zz_getr (kd := 0) (z := 1070) zd_8_8_43 zf_NetworkReader_9 zT_1073 rfl (zz_ltn hn rfl) (zz_G.eq G_S0 1073 0 1070 rfl rfl) (by decide) 1070 rfl ?_
              refine zz_ldcs (t := 15) (by decide +kernel) (by decide) zd_8_8_46 ?_
              refine zz_callVI [.ref (100 + 15)] zd_8_8_48 zk_NetworkReader_87 zT_1070 (zz_ltn hn rfl) rfl rfl ⟨Nat.le_of_ble_eq_true rfl, Nat.le_of_ble_eq_true rfl⟩ ⟨rfl, rfl⟩ (Nat.zero_le _) (Nat.zero_le _) (zc_isWord_11_9 15 S0 n hn G_S0 (by omega)) (fun v20 S19 hP => ?_)
              obtain ⟨rfl, o21, o22⟩ := hP
              rcases (by omega : v20 = 0 ∨ v20 = 1) with rfl | rfl
              · skip
                refine zz_if_eq (by omega) zd_8_8_51 (fun c23 => ?_) (fun c23 => ?_)
                · refine zz_aload_n (x := 1073) rfl zd_8_8_57 ?_
                  refine zz_getr (kd := 0) (z := 1070) zd_8_8_58 zf_NetworkReader_9 zT_1073 rfl (zz_ltn hn rfl) (zz_G.eq G_S0 1073 0 1070 rfl rfl) (by decide) 1070 rfl ?_
                  refine zz_ldcs (t := 25) (by decide +kernel) (by decide) zd_8_8_61 ?_
                  refine zz_callVI [.ref (100 + 25)] zd_8_8_63 zk_NetworkReader_87 zT_1070 (zz_ltn hn rfl) rfl rfl ⟨Nat.le_of_ble_eq_true rfl, Nat.le_of_ble_eq_true rfl⟩ ⟨rfl, rfl⟩ (Nat.zero_le _) (Nat.zero_le _) (zc_isWord_11_9 25 S0 n hn G_S0 (by omega)) (fun v25 S24 hP => ?_)
                  obtain ⟨rfl, o26, o27⟩ := hP
                  rcases (by omega : v25 = 0 ∨ v25 = 1) with rfl | rfl
                  · skip
                    refine zz_if_eq (by omega) zd_8_8_66 (fun c28 => ?_) (fun c28 => ?_)
                    · refine zz_aload_n (x := 1073) rfl zd_8_8_72 ?_
                      refine zz_getr (kd := 0) (z := 1070) zd_8_8_73 zf_NetworkReader_9 zT_1073 rfl (zz_ltn hn rfl) (zz_G.eq G_S0 1073 0 1070 rfl rfl) (by decide) 1070 rfl ?_
                      refine zz_ldcs (t := 26) (by decide +kernel) (by decide) zd_8_8_76 ?_
                      refine zz_callVI [.ref (100 + 26)] zd_8_8_78 zk_NetworkReader_87 zT_1070 (zz_ltn hn rfl) rfl rfl ⟨Nat.le_of_ble_eq_true rfl, Nat.le_of_ble_eq_true rfl⟩ ⟨rfl, rfl⟩ (Nat.zero_le _) (Nat.zero_le _) (zc_isWord_11_9 26 S0 n hn G_S0 (by omega)) (fun v30 S29 hP => ?_)
                      obtain ⟨rfl, o31, o32⟩ := hP
                      rcases (by omega : v30 = 0 ∨ v30 = 1) with rfl | rfl
                      · skip
                        refine zz_if_eq (by omega) zd_8_8_81 (fun c33 => ?_) (fun c33 => ?_)
                        · refine zz_aload_n (x := 1073) rfl zd_8_8_87 ?_
                          refine zz_getr (kd := 0) (z := 1070) zd_8_8_88 zf_NetworkReader_9 zT_1073 rfl (zz_ltn hn rfl) (zz_G.eq G_S0 1073 0 1070 rfl rfl) (by decide) 1070 rfl ?_
                          refine zz_ldcs (t := 27) (by decide +kernel) (by decide) zd_8_8_91 ?_
                          refine zz_callVI [.ref (100 + 27)] zd_8_8_93 zk_NetworkReader_87 zT_1070 (zz_ltn hn rfl) rfl rfl ⟨Nat.le_of_ble_eq_true rfl, Nat.le_of_ble_eq_true rfl⟩ ⟨rfl, rfl⟩ (Nat.zero_le _) (Nat.zero_le _) (zc_isWord_11_9 27 S0 n hn G_S0 (by omega)) (fun v35 S34 hP => ?_)
                          obtain ⟨rfl, o36, o37⟩ := hP
                          rcases (by omega : v35 = 0 ∨ v35 = 1) with rfl | rfl
                          · skip
                            refine zz_if_eq (by omega) zd_8_8_96 (fun c38 => ?_) (fun c38 => ?_)
                            · refine zz_aload_n (x := 1073) rfl zd_8_8_102 ?_
                              refine zz_getr (kd := 0) (z := 1070) zd_8_8_103 zf_NetworkReader_9 zT_1073 rfl (zz_ltn hn rfl) (zz_G.eq G_S0 1073 0 1070 rfl rfl) (by decide) 1070 rfl ?_
                              refine zz_ldcs (t := 28) (by decide +kernel) (by decide) zd_8_8_106 ?_
                              refine zz_callVI [.ref (100 + 28)] zd_8_8_108 zk_NetworkReader_87 zT_1070 (zz_ltn hn rfl) rfl rfl ⟨Nat.le_of_ble_eq_true rfl, Nat.le_of_ble_eq_true rfl⟩ ⟨rfl, rfl⟩ (Nat.zero_le _) (Nat.zero_le _) (zc_isWord_11_9 28 S0 n hn G_S0 (by omega)) (fun v40 S39 hP => ?_)
                              obtain ⟨rfl, o41, o42⟩ := hP
                              rcases (by omega : v40 = 0 ∨ v40 = 1) with rfl | rfl
                              · skip
                                refine zz_if_eq (by omega) zd_8_8_111 (fun c43 => ?_) (fun c43 => ?_)
                                · refine zz_iconst zd_8_8_120 ?_
                                  exact zz_iret zd_8_8_121 rfl (Nat.zero_le _) (Nat.zero_le _) ⟨_, _, rfl, rfl, by omega, (fun e p hK => by have h0 := ((zt_NKw hK (t := 11) (by decide) (by decide) o7).resolve_left (fun h => absurd h.1 (by decide))).2; have h1 := ((zt_NKw hK (t := 24) (by decide) (by decide) o12).resolve_left (fun h => absurd h.1 (by decide))).2; have h2 := ((zt_NKw hK (t := 10) (by decide) (by decide) o17).resolve_left (fun h => absurd h.1 (by decide))).2; have h3 := ((zt_NKw hK (t := 15) (by decide) (by decide) o22).resolve_left (fun h => absurd h.1 (by decide))).2; have h4 := ((zt_NKw hK (t := 25) (by decide) (by decide) o27).resolve_left (fun h => absurd h.1 (by decide))).2; have h5 := ((zt_NKw hK (t := 26) (by decide) (by decide) o32).resolve_left (fun h => absurd h.1 (by decide))).2; have h6 := ((zt_NKw hK (t := 27) (by decide) (by decide) o37).resolve_left (fun h => absurd h.1 (by decide))).2; have h7 := ((zt_NKw hK (t := 28) (by decide) (by decide) o42).resolve_left (fun h => absurd h.1 (by decide))).2; rw [zt_obN h0 h1 h2 h3 h4 h5 h6 h7]; rfl)⟩
                                · exfalso; omega
                              · skip
                                refine zz_if_eq (by omega) zd_8_8_111 (fun c44 => ?_) (fun c44 => ?_)
                                · exfalso; omega
                                · refine zz_sipush (by decide) zd_8_8_114 ?_
                                  refine zz_goto zd_8_8_117 ?_
                                  exact zz_iret zd_8_8_121 rfl (Nat.zero_le _) (Nat.zero_le _) ⟨_, _, rfl, rfl, by omega, (fun e p hK => by have h9 := (zt_NKw hK (t := 28) (by decide) (by decide) o42).resolve_right (fun h => absurd h.1 (by decide)); rw [h9.2.1, h9.2.2]; rfl)⟩
                            · exfalso; omega
                          · skip
                            refine zz_if_eq (by omega) zd_8_8_96 (fun c45 => ?_) (fun c45 => ?_)
                            · exfalso; omega
                            · refine zz_bipush (by decide) zd_8_8_99 ?_
                              exact zz_iret zd_8_8_101 rfl (Nat.zero_le _) (Nat.zero_le _) ⟨_, _, rfl, rfl, by omega, (fun e p hK => by have h9 := (zt_NKw hK (t := 27) (by decide) (by decide) o37).resolve_right (fun h => absurd h.1 (by decide)); rw [h9.2.1, h9.2.2]; rfl)⟩
                        · exfalso; omega
                      · skip
                        refine zz_if_eq (by omega) zd_8_8_81 (fun c46 => ?_) (fun c46 => ?_)
                        · exfalso; omega
                        · refine zz_bipush (by decide) zd_8_8_84 ?_
                          exact zz_iret zd_8_8_86 rfl (Nat.zero_le _) (Nat.zero_le _) ⟨_, _, rfl, rfl, by omega, (fun e p hK => by have h9 := (zt_NKw hK (t := 26) (by decide) (by decide) o32).resolve_right (fun h => absurd h.1 (by decide)); rw [h9.2.1, h9.2.2]; rfl)⟩
                    · exfalso; omega
                  · skip
                    refine zz_if_eq (by omega) zd_8_8_66 (fun c47 => ?_) (fun c47 => ?_)
                    · exfalso; omega
                    · refine zz_bipush (by decide) zd_8_8_69 ?_
                      exact zz_iret zd_8_8_71 rfl (Nat.zero_le _) (Nat.zero_le _) ⟨_, _, rfl, rfl, by omega, (fun e p hK => by have h9 := (zt_NKw hK (t := 25) (by decide) (by decide) o27).resolve_right (fun h => absurd h.1 (by decide)); rw [h9.2.1, h9.2.2]; rfl)⟩
                · exfalso; omega
              · skip
                refine zz_if_eq (by omega) zd_8_8_51 (fun c48 => ?_) (fun c48 => ?_)
                · exfalso; omega
                · refine zz_bipush (by decide) zd_8_8_54 ?_
                  exact zz_iret zd_8_8_56 rfl (Nat.zero_le _) (Nat.zero_le _) ⟨_, _, rfl, rfl, by omega, (fun e p hK => by have h9 := (zt_NKw hK (t := 15) (by decide) (by decide) o22).resolve_right (fun h => absurd h.1 (by decide)); rw [h9.2.1, h9.2.2]; rfl)⟩
            · exfalso; omega
          · skip
            refine zz_if_eq (by omega) zd_8_8_37 (fun c49 => ?_) (fun c49 => ?_)
            · exfalso; omega
            · refine zz_iconst zd_8_8_40 ?_
              exact zz_iret zd_8_8_41 rfl (Nat.zero_le _) (Nat.zero_le _) ⟨_, _, rfl, rfl, by omega, (fun e p hK => by have h9 := (zt_NKw hK (t := 10) (by decide) (by decide) o17).resolve_right (fun h => absurd h.1 (by decide)); rw [h9.2.1, h9.2.2]; rfl)⟩
        · exfalso; omega
      · skip
        refine zz_if_eq (by omega) zd_8_8_23 (fun c50 => ?_) (fun c50 => ?_)
        · exfalso; omega
        · refine zz_iconst zd_8_8_26 ?_
          exact zz_iret zd_8_8_27 rfl (Nat.zero_le _) (Nat.zero_le _) ⟨_, _, rfl, rfl, by omega, (fun e p hK => by have h9 := (zt_NKw hK (t := 24) (by decide) (by decide) o12).resolve_right (fun h => absurd h.1 (by decide)); rw [h9.2.1, h9.2.2]; rfl)⟩
    · exfalso; omega
  · skip
    refine zz_if_eq (by omega) zd_8_8_9 (fun c51 => ?_) (fun c51 => ?_)
    · exfalso; omega
    · refine zz_iconst zd_8_8_12 ?_
      exact zz_iret zd_8_8_13 rfl (Nat.zero_le _) (Nat.zero_le _) ⟨_, _, rfl, rfl, by omega, (fun e p hK => by have h9 := (zt_NKw hK (t := 11) (by decide) (by decide) o7).resolve_right (fun h => absurd h.1 (by decide)); rw [h9.2.1, h9.2.2]; rfl)⟩
theorem zk_NetworkReader_135 : mm_Vl "TensorForge$NetworkReader" 135 8 0 zy_optionTold_8_8 := ⟨zyw_optionTold_8_8, (R_NetworkReader, F_NetworkReader, 9), rfl, mm_tb_1 949 (by decide +kernel) rfl, mm_tb_1 951 (by decide +kernel) rfl, mm_tb_s 45 (by decide +kernel) rfl⟩
abbrev zy_readOption_8_9 : mm_Y := (⟨"TensorForge$NetworkReader", "readOption", "(I)Z"⟩, prog_8_method_9_code, 3, (some .boolean))
theorem zyw_readOption_8_9 : mm_Yw zy_readOption_8_9 1 := ⟨mm_tb_1 964 (by decide +kernel) rfl, mm_tb_1 9 (by decide +kernel) rfl, ⟨by decide, by decide⟩, by decide +kernel⟩
theorem zk_NetworkReader_121 : mm_Vl "TensorForge$NetworkReader" 121 1 0 zy_draft_7_6 := ⟨zyw_draft_7_6, (R_Network, F_Network, 2), rfl, mm_tb_1 940 (by decide +kernel) rfl, mm_tb_1 941 (by decide +kernel) rfl, mm_tb_1 942 (by decide +kernel) rfl⟩
theorem zd_8_9_46 : ∃ len, decode zy_readOption_8_9.2.1 46 = .ok (.lookupswitch 115 #[(2, 50), (4, 63), (8, 76), (16, 89), (32, 102)], len) := ⟨50, by decide +kernel⟩
theorem zf_NetworkReader_164 : mm_Fl "TensorForge$NetworkReader" 164 2 12 .int false := ⟨R_Layer, F_Layer, 15, t_Layer, rfl, i_Layer, by decide, mm_tb_1 105 (by decide +kernel) rfl, rfl, t_Layer_ok, n_Layer, rfl, by decide +kernel⟩
theorem zf_NetworkReader_167 : mm_Fl "TensorForge$NetworkReader" 167 2 9 .int false := ⟨R_Layer, F_Layer, 15, t_Layer, rfl, i_Layer, by decide, mm_tb_1 92 (by decide +kernel) rfl, rfl, t_Layer_ok, n_Layer, rfl, by decide +kernel⟩
theorem zf_NetworkReader_170 : mm_Fl "TensorForge$NetworkReader" 170 2 5 .int false := ⟨R_Layer, F_Layer, 15, t_Layer, rfl, i_Layer, by decide, mm_tb_1 77 (by decide +kernel) rfl, rfl, t_Layer_ok, n_Layer, rfl, by decide +kernel⟩
theorem zf_NetworkReader_172 : mm_Fl "TensorForge$NetworkReader" 172 2 6 .int false := ⟨R_Layer, F_Layer, 15, t_Layer, rfl, i_Layer, by decide, mm_tb_1 82 (by decide +kernel) rfl, rfl, t_Layer_ok, n_Layer, rfl, by decide +kernel⟩
theorem zf_NetworkReader_174 : mm_Fl "TensorForge$NetworkReader" 174 2 7 .int false := ⟨R_Layer, F_Layer, 15, t_Layer, rfl, i_Layer, by decide, mm_tb_1 86 (by decide +kernel) rfl, rfl, t_Layer_ok, n_Layer, rfl, by decide +kernel⟩
abbrev zy_readKernelFrom_8_10 : mm_Y := (⟨"TensorForge$NetworkReader", "readKernelFrom", "(ILTensorForge$Layer;)Z"⟩, prog_8_method_10_code, 3, (some .boolean))
theorem zyw_readKernelFrom_8_10 : mm_Yw zy_readKernelFrom_8_10 2 := ⟨mm_tb_1 983 (by decide +kernel) rfl, mm_tb_1 9 (by decide +kernel) rfl, ⟨by decide, by decide⟩, by decide +kernel⟩
theorem zk_NetworkReader_180 : mm_Vl "TensorForge$NetworkReader" 180 2 2 zy_takeKernel_4_4 := ⟨zyw_takeKernel_4_4, (R_Layer, F_Layer, 15), rfl, mm_tb_1 985 (by decide +kernel) rfl, mm_tb_1 986 (by decide +kernel) rfl, mm_tb_1 987 (by decide +kernel) rfl⟩
theorem zg_8_7_62 : zq_at zy_readOptions_8_7.2.1 62 61 ∧ zq_at zy_readOptions_8_7.2.1 63 28 ∧ zq_at zy_readOptions_8_7.2.1 64 42 ∧ zq_at zy_readOptions_8_7.2.1 65 180 ∧ zq_at zy_readOptions_8_7.2.1 66 0 ∧ zq_at zy_readOptions_8_7.2.1 67 35 ∧ zq_at zy_readOptions_8_7.2.1 68 126 ∧ zq_at zy_readOptions_8_7.2.1 69 153 ∧ zq_at zy_readOptions_8_7.2.1 70 0 ∧ zq_at zy_readOptions_8_7.2.1 71 20 ∧ zq_at zy_readOptions_8_7.2.1 89 3 ∧ zq_at zy_readOptions_8_7.2.1 90 172 ∧ zq_at zy_readOptions_8_7.2.1 72 28 ∧ zq_at zy_readOptions_8_7.2.1 73 42 ∧ zq_at zy_readOptions_8_7.2.1 74 180 ∧ zq_at zy_readOptions_8_7.2.1 75 0 ∧ zq_at zy_readOptions_8_7.2.1 76 41 ∧ zq_at zy_readOptions_8_7.2.1 77 126 ∧ zq_at zy_readOptions_8_7.2.1 78 154 ∧ zq_at zy_readOptions_8_7.2.1 79 0 ∧ zq_at zy_readOptions_8_7.2.1 80 11 ∧ zq_at zy_readOptions_8_7.2.1 81 42 ∧ zq_at zy_readOptions_8_7.2.1 82 28 := by decide +kernel
theorem zd_8_7_62 : zz_D zy_readOptions_8_7 62 (.istore_n 2) 1 63 := ⟨zq_61 zg_8_7_62.1, rfl⟩
theorem zd_8_7_63 : zz_D zy_readOptions_8_7 63 (.iload_n 2) 1 64 := ⟨zq_28 zg_8_7_62.2.1, rfl⟩
theorem zd_8_7_64 : zz_D zy_readOptions_8_7 64 (.aload_n 0) 1 65 := ⟨zq_42 zg_8_7_62.2.2.1, rfl⟩
theorem zd_8_7_65 : zz_D zy_readOptions_8_7 65 (.getfield 35) 3 68 := ⟨zq_180 zg_8_7_62.2.2.2.1 zg_8_7_62.2.2.2.2.1 zg_8_7_62.2.2.2.2.2.1 rfl, rfl⟩
theorem zd_8_7_68 : zz_D zy_readOptions_8_7 68 (.iand) 1 69 := ⟨zq_126 zg_8_7_62.2.2.2.2.2.2.1, rfl⟩
theorem zd_8_7_69 : zz_B zy_readOptions_8_7 69 (Instr.ifCond .eq) 89 72 := ⟨20, zq_153 zg_8_7_62.2.2.2.2.2.2.2.1 zg_8_7_62.2.2.2.2.2.2.2.2.1 zg_8_7_62.2.2.2.2.2.2.2.2.2.1 (by decide), rfl, rfl⟩
theorem zd_8_7_89 : zz_D zy_readOptions_8_7 89 (.iconst 0) 1 90 := ⟨zq_3 zg_8_7_62.2.2.2.2.2.2.2.2.2.2.1, rfl⟩
theorem zd_8_7_90 : zz_D zy_readOptions_8_7 90 (.ireturn) 1 91 := ⟨zq_172 zg_8_7_62.2.2.2.2.2.2.2.2.2.2.2.1, rfl⟩
theorem zd_8_7_72 : zz_D zy_readOptions_8_7 72 (.iload_n 2) 1 73 := ⟨zq_28 zg_8_7_62.2.2.2.2.2.2.2.2.2.2.2.2.1, rfl⟩
theorem zd_8_7_73 : zz_D zy_readOptions_8_7 73 (.aload_n 0) 1 74 := ⟨zq_42 zg_8_7_62.2.2.2.2.2.2.2.2.2.2.2.2.2.1, rfl⟩
theorem zd_8_7_74 : zz_D zy_readOptions_8_7 74 (.getfield 41) 3 77 := ⟨zq_180 zg_8_7_62.2.2.2.2.2.2.2.2.2.2.2.2.2.2.1 zg_8_7_62.2.2.2.2.2.2.2.2.2.2.2.2.2.2.2.1 zg_8_7_62.2.2.2.2.2.2.2.2.2.2.2.2.2.2.2.2.1 rfl, rfl⟩
theorem zd_8_7_77 : zz_D zy_readOptions_8_7 77 (.iand) 1 78 := ⟨zq_126 zg_8_7_62.2.2.2.2.2.2.2.2.2.2.2.2.2.2.2.2.2.1, rfl⟩
theorem zd_8_7_78 : zz_B zy_readOptions_8_7 78 (Instr.ifCond .ne) 89 81 := ⟨11, zq_154 zg_8_7_62.2.2.2.2.2.2.2.2.2.2.2.2.2.2.2.2.2.2.1 zg_8_7_62.2.2.2.2.2.2.2.2.2.2.2.2.2.2.2.2.2.2.2.1 zg_8_7_62.2.2.2.2.2.2.2.2.2.2.2.2.2.2.2.2.2.2.2.2.1 (by decide), rfl, rfl⟩
theorem zd_8_7_81 : zz_D zy_readOptions_8_7 81 (.aload_n 0) 1 82 := ⟨zq_42 zg_8_7_62.2.2.2.2.2.2.2.2.2.2.2.2.2.2.2.2.2.2.2.2.2.1, rfl⟩
theorem zd_8_7_82 : zz_D zy_readOptions_8_7 82 (.iload_n 2) 1 83 := ⟨zq_28 zg_8_7_62.2.2.2.2.2.2.2.2.2.2.2.2.2.2.2.2.2.2.2.2.2.2, rfl⟩
theorem zg_8_7_83 : zq_at zy_readOptions_8_7.2.1 83 182 ∧ zq_at zy_readOptions_8_7.2.1 84 0 ∧ zq_at zy_readOptions_8_7.2.1 85 138 := by decide +kernel
theorem zd_8_7_83 : zz_D zy_readOptions_8_7 83 (.invokevirtual 138) 3 86 := ⟨zq_182 zg_8_7_83.1 zg_8_7_83.2.1 zg_8_7_83.2.2 rfl, rfl⟩
theorem zg_8_9_0 : zq_at zy_readOption_8_9.2.1 0 27 ∧ zq_at zy_readOption_8_9.2.1 1 17 ∧ zq_at zy_readOption_8_9.2.1 2 0 ∧ zq_at zy_readOption_8_9.2.1 3 128 ∧ zq_at zy_readOption_8_9.2.1 4 160 ∧ zq_at zy_readOption_8_9.2.1 5 0 ∧ zq_at zy_readOption_8_9.2.1 6 8 ∧ zq_at zy_readOption_8_9.2.1 12 42 ∧ zq_at zy_readOption_8_9.2.1 13 180 ∧ zq_at zy_readOption_8_9.2.1 14 0 ∧ zq_at zy_readOption_8_9.2.1 15 15 ∧ zq_at zy_readOption_8_9.2.1 16 182 ∧ zq_at zy_readOption_8_9.2.1 17 0 ∧ zq_at zy_readOption_8_9.2.1 18 121 ∧ zq_at zy_readOption_8_9.2.1 19 77 ∧ zq_at zy_readOption_8_9.2.1 20 27 ∧ zq_at zy_readOption_8_9.2.1 21 16 ∧ zq_at zy_readOption_8_9.2.1 22 64 ∧ zq_at zy_readOption_8_9.2.1 23 160 ∧ zq_at zy_readOption_8_9.2.1 24 0 ∧ zq_at zy_readOption_8_9.2.1 25 10 ∧ zq_at zy_readOption_8_9.2.1 33 42 := by decide +kernel
theorem zd_8_9_0 : zz_D zy_readOption_8_9 0 (.iload_n 1) 1 1 := ⟨zq_27 zg_8_9_0.1, rfl⟩
theorem zd_8_9_1 : zz_D zy_readOption_8_9 1 (.sipush 128) 3 4 := ⟨zq_17 zg_8_9_0.2.1 zg_8_9_0.2.2.1 zg_8_9_0.2.2.2.1 (by decide), rfl⟩
theorem zd_8_9_4 : zz_B zy_readOption_8_9 4 (Instr.if_icmp .ne) 12 7 := ⟨8, zq_160 zg_8_9_0.2.2.2.2.1 zg_8_9_0.2.2.2.2.2.1 zg_8_9_0.2.2.2.2.2.2.1 (by decide), rfl, rfl⟩
theorem zd_8_9_12 : zz_D zy_readOption_8_9 12 (.aload_n 0) 1 13 := ⟨zq_42 zg_8_9_0.2.2.2.2.2.2.2.1, rfl⟩
theorem zd_8_9_13 : zz_D zy_readOption_8_9 13 (.getfield 15) 3 16 := ⟨zq_180 zg_8_9_0.2.2.2.2.2.2.2.2.1 zg_8_9_0.2.2.2.2.2.2.2.2.2.1 zg_8_9_0.2.2.2.2.2.2.2.2.2.2.1 rfl, rfl⟩
theorem zd_8_9_16 : zz_D zy_readOption_8_9 16 (.invokevirtual 121) 3 19 := ⟨zq_182 zg_8_9_0.2.2.2.2.2.2.2.2.2.2.2.1 zg_8_9_0.2.2.2.2.2.2.2.2.2.2.2.2.1 zg_8_9_0.2.2.2.2.2.2.2.2.2.2.2.2.2.1 rfl, rfl⟩
theorem zd_8_9_19 : zz_D zy_readOption_8_9 19 (.astore_n 2) 1 20 := ⟨zq_77 zg_8_9_0.2.2.2.2.2.2.2.2.2.2.2.2.2.2.1, rfl⟩
theorem zd_8_9_20 : zz_D zy_readOption_8_9 20 (.iload_n 1) 1 21 := ⟨zq_27 zg_8_9_0.2.2.2.2.2.2.2.2.2.2.2.2.2.2.2.1, rfl⟩
theorem zd_8_9_21 : zz_D zy_readOption_8_9 21 (.bipush 64) 2 23 := ⟨zq_16 zg_8_9_0.2.2.2.2.2.2.2.2.2.2.2.2.2.2.2.2.1 zg_8_9_0.2.2.2.2.2.2.2.2.2.2.2.2.2.2.2.2.2.1 (by decide), rfl⟩
theorem zd_8_9_23 : zz_B zy_readOption_8_9 23 (Instr.if_icmp .ne) 33 26 := ⟨10, zq_160 zg_8_9_0.2.2.2.2.2.2.2.2.2.2.2.2.2.2.2.2.2.2.1 zg_8_9_0.2.2.2.2.2.2.2.2.2.2.2.2.2.2.2.2.2.2.2.1 zg_8_9_0.2.2.2.2.2.2.2.2.2.2.2.2.2.2.2.2.2.2.2.2.1 (by decide), rfl, rfl⟩
theorem zd_8_9_33 : zz_D zy_readOption_8_9 33 (.aload_n 0) 1 34 := ⟨zq_42 zg_8_9_0.2.2.2.2.2.2.2.2.2.2.2.2.2.2.2.2.2.2.2.2.2, rfl⟩
theorem zg_8_9_34 : zq_at zy_readOption_8_9.2.1 34 180 ∧ zq_at zy_readOption_8_9.2.1 35 0 ∧ zq_at zy_readOption_8_9.2.1 36 9 ∧ zq_at zy_readOption_8_9.2.1 37 182 ∧ zq_at zy_readOption_8_9.2.1 38 0 ∧ zq_at zy_readOption_8_9.2.1 39 91 ∧ zq_at zy_readOption_8_9.2.1 40 154 ∧ zq_at zy_readOption_8_9.2.1 41 0 ∧ zq_at zy_readOption_8_9.2.1 42 5 ∧ zq_at zy_readOption_8_9.2.1 43 3 ∧ zq_at zy_readOption_8_9.2.1 44 172 ∧ zq_at zy_readOption_8_9.2.1 45 27 ∧ zq_at zy_readOption_8_9.2.1 96 44 ∧ zq_at zy_readOption_8_9.2.1 97 42 ∧ zq_at zy_readOption_8_9.2.1 98 180 ∧ zq_at zy_readOption_8_9.2.1 99 0 ∧ zq_at zy_readOption_8_9.2.1 100 9 ∧ zq_at zy_readOption_8_9.2.1 101 180 ∧ zq_at zy_readOption_8_9.2.1 102 0 ∧ zq_at zy_readOption_8_9.2.1 103 94 ∧ zq_at zy_readOption_8_9.2.1 104 181 ∧ zq_at zy_readOption_8_9.2.1 105 0 ∧ zq_at zy_readOption_8_9.2.1 106 164 ∧ zq_at zy_readOption_8_9.2.1 107 4 := by decide +kernel
theorem zd_8_9_34 : zz_D zy_readOption_8_9 34 (.getfield 9) 3 37 := ⟨zq_180 zg_8_9_34.1 zg_8_9_34.2.1 zg_8_9_34.2.2.1 rfl, rfl⟩
theorem zd_8_9_37 : zz_D zy_readOption_8_9 37 (.invokevirtual 91) 3 40 := ⟨zq_182 zg_8_9_34.2.2.2.1 zg_8_9_34.2.2.2.2.1 zg_8_9_34.2.2.2.2.2.1 rfl, rfl⟩
theorem zd_8_9_40 : zz_B zy_readOption_8_9 40 (Instr.ifCond .ne) 45 43 := ⟨5, zq_154 zg_8_9_34.2.2.2.2.2.2.1 zg_8_9_34.2.2.2.2.2.2.2.1 zg_8_9_34.2.2.2.2.2.2.2.2.1 (by decide), rfl, rfl⟩
theorem zd_8_9_43 : zz_D zy_readOption_8_9 43 (.iconst 0) 1 44 := ⟨zq_3 zg_8_9_34.2.2.2.2.2.2.2.2.2.1, rfl⟩
theorem zd_8_9_44 : zz_D zy_readOption_8_9 44 (.ireturn) 1 45 := ⟨zq_172 zg_8_9_34.2.2.2.2.2.2.2.2.2.2.1, rfl⟩
theorem zd_8_9_45 : zz_D zy_readOption_8_9 45 (.iload_n 1) 1 46 := ⟨zq_27 zg_8_9_34.2.2.2.2.2.2.2.2.2.2.2.1, rfl⟩
theorem zd_8_9_96 : zz_D zy_readOption_8_9 96 (.aload_n 2) 1 97 := ⟨zq_44 zg_8_9_34.2.2.2.2.2.2.2.2.2.2.2.2.1, rfl⟩
theorem zd_8_9_97 : zz_D zy_readOption_8_9 97 (.aload_n 0) 1 98 := ⟨zq_42 zg_8_9_34.2.2.2.2.2.2.2.2.2.2.2.2.2.1, rfl⟩
theorem zd_8_9_98 : zz_D zy_readOption_8_9 98 (.getfield 9) 3 101 := ⟨zq_180 zg_8_9_34.2.2.2.2.2.2.2.2.2.2.2.2.2.2.1 zg_8_9_34.2.2.2.2.2.2.2.2.2.2.2.2.2.2.2.1 zg_8_9_34.2.2.2.2.2.2.2.2.2.2.2.2.2.2.2.2.1 rfl, rfl⟩
theorem zd_8_9_101 : zz_D zy_readOption_8_9 101 (.getfield 94) 3 104 := ⟨zq_180 zg_8_9_34.2.2.2.2.2.2.2.2.2.2.2.2.2.2.2.2.2.1 zg_8_9_34.2.2.2.2.2.2.2.2.2.2.2.2.2.2.2.2.2.2.1 zg_8_9_34.2.2.2.2.2.2.2.2.2.2.2.2.2.2.2.2.2.2.2.1 rfl, rfl⟩
theorem zd_8_9_104 : zz_D zy_readOption_8_9 104 (.putfield 164) 3 107 := ⟨zq_181 zg_8_9_34.2.2.2.2.2.2.2.2.2.2.2.2.2.2.2.2.2.2.2.2.1 zg_8_9_34.2.2.2.2.2.2.2.2.2.2.2.2.2.2.2.2.2.2.2.2.2.1 zg_8_9_34.2.2.2.2.2.2.2.2.2.2.2.2.2.2.2.2.2.2.2.2.2.2.1 rfl, rfl⟩
theorem zd_8_9_107 : zz_D zy_readOption_8_9 107 (.iconst 1) 1 108 := ⟨zq_4 zg_8_9_34.2.2.2.2.2.2.2.2.2.2.2.2.2.2.2.2.2.2.2.2.2.2.2, rfl⟩
theorem zg_8_9_108 : zq_at zy_readOption_8_9.2.1 108 172 ∧ zq_at zy_readOption_8_9.2.1 109 44 ∧ zq_at zy_readOption_8_9.2.1 110 42 ∧ zq_at zy_readOption_8_9.2.1 111 180 ∧ zq_at zy_readOption_8_9.2.1 112 0 ∧ zq_at zy_readOption_8_9.2.1 113 9 ∧ zq_at zy_readOption_8_9.2.1 114 180 ∧ zq_at zy_readOption_8_9.2.1 115 0 ∧ zq_at zy_readOption_8_9.2.1 116 94 ∧ zq_at zy_readOption_8_9.2.1 117 181 ∧ zq_at zy_readOption_8_9.2.1 118 0 ∧ zq_at zy_readOption_8_9.2.1 119 167 ∧ zq_at zy_readOption_8_9.2.1 120 4 ∧ zq_at zy_readOption_8_9.2.1 121 172 ∧ zq_at zy_readOption_8_9.2.1 122 44 ∧ zq_at zy_readOption_8_9.2.1 123 42 ∧ zq_at zy_readOption_8_9.2.1 124 180 ∧ zq_at zy_readOption_8_9.2.1 125 0 ∧ zq_at zy_readOption_8_9.2.1 126 9 ∧ zq_at zy_readOption_8_9.2.1 127 180 ∧ zq_at zy_readOption_8_9.2.1 128 0 ∧ zq_at zy_readOption_8_9.2.1 129 94 := by decide +kernel
theorem zd_8_9_108 : zz_D zy_readOption_8_9 108 (.ireturn) 1 109 := ⟨zq_172 zg_8_9_108.1, rfl⟩
theorem zd_8_9_109 : zz_D zy_readOption_8_9 109 (.aload_n 2) 1 110 := ⟨zq_44 zg_8_9_108.2.1, rfl⟩
theorem zd_8_9_110 : zz_D zy_readOption_8_9 110 (.aload_n 0) 1 111 := ⟨zq_42 zg_8_9_108.2.2.1, rfl⟩
theorem zd_8_9_111 : zz_D zy_readOption_8_9 111 (.getfield 9) 3 114 := ⟨zq_180 zg_8_9_108.2.2.2.1 zg_8_9_108.2.2.2.2.1 zg_8_9_108.2.2.2.2.2.1 rfl, rfl⟩
theorem zd_8_9_114 : zz_D zy_readOption_8_9 114 (.getfield 94) 3 117 := ⟨zq_180 zg_8_9_108.2.2.2.2.2.2.1 zg_8_9_108.2.2.2.2.2.2.2.1 zg_8_9_108.2.2.2.2.2.2.2.2.1 rfl, rfl⟩
theorem zd_8_9_117 : zz_D zy_readOption_8_9 117 (.putfield 167) 3 120 := ⟨zq_181 zg_8_9_108.2.2.2.2.2.2.2.2.2.1 zg_8_9_108.2.2.2.2.2.2.2.2.2.2.1 zg_8_9_108.2.2.2.2.2.2.2.2.2.2.2.1 rfl, rfl⟩
theorem zd_8_9_120 : zz_D zy_readOption_8_9 120 (.iconst 1) 1 121 := ⟨zq_4 zg_8_9_108.2.2.2.2.2.2.2.2.2.2.2.2.1, rfl⟩
theorem zd_8_9_121 : zz_D zy_readOption_8_9 121 (.ireturn) 1 122 := ⟨zq_172 zg_8_9_108.2.2.2.2.2.2.2.2.2.2.2.2.2.1, rfl⟩
theorem zd_8_9_122 : zz_D zy_readOption_8_9 122 (.aload_n 2) 1 123 := ⟨zq_44 zg_8_9_108.2.2.2.2.2.2.2.2.2.2.2.2.2.2.1, rfl⟩
theorem zd_8_9_123 : zz_D zy_readOption_8_9 123 (.aload_n 0) 1 124 := ⟨zq_42 zg_8_9_108.2.2.2.2.2.2.2.2.2.2.2.2.2.2.2.1, rfl⟩
theorem zd_8_9_124 : zz_D zy_readOption_8_9 124 (.getfield 9) 3 127 := ⟨zq_180 zg_8_9_108.2.2.2.2.2.2.2.2.2.2.2.2.2.2.2.2.1 zg_8_9_108.2.2.2.2.2.2.2.2.2.2.2.2.2.2.2.2.2.1 zg_8_9_108.2.2.2.2.2.2.2.2.2.2.2.2.2.2.2.2.2.2.1 rfl, rfl⟩
theorem zd_8_9_127 : zz_D zy_readOption_8_9 127 (.getfield 94) 3 130 := ⟨zq_180 zg_8_9_108.2.2.2.2.2.2.2.2.2.2.2.2.2.2.2.2.2.2.2.1 zg_8_9_108.2.2.2.2.2.2.2.2.2.2.2.2.2.2.2.2.2.2.2.2.1 zg_8_9_108.2.2.2.2.2.2.2.2.2.2.2.2.2.2.2.2.2.2.2.2.2 rfl, rfl⟩
theorem zg_8_9_130 : zq_at zy_readOption_8_9.2.1 130 181 ∧ zq_at zy_readOption_8_9.2.1 131 0 ∧ zq_at zy_readOption_8_9.2.1 132 170 ∧ zq_at zy_readOption_8_9.2.1 133 4 ∧ zq_at zy_readOption_8_9.2.1 134 172 ∧ zq_at zy_readOption_8_9.2.1 135 44 ∧ zq_at zy_readOption_8_9.2.1 136 42 ∧ zq_at zy_readOption_8_9.2.1 137 180 ∧ zq_at zy_readOption_8_9.2.1 138 0 ∧ zq_at zy_readOption_8_9.2.1 139 9 ∧ zq_at zy_readOption_8_9.2.1 140 180 ∧ zq_at zy_readOption_8_9.2.1 141 0 ∧ zq_at zy_readOption_8_9.2.1 142 94 ∧ zq_at zy_readOption_8_9.2.1 143 181 ∧ zq_at zy_readOption_8_9.2.1 144 0 ∧ zq_at zy_readOption_8_9.2.1 145 172 ∧ zq_at zy_readOption_8_9.2.1 146 4 ∧ zq_at zy_readOption_8_9.2.1 147 172 ∧ zq_at zy_readOption_8_9.2.1 148 44 ∧ zq_at zy_readOption_8_9.2.1 149 42 ∧ zq_at zy_readOption_8_9.2.1 150 180 ∧ zq_at zy_readOption_8_9.2.1 151 0 ∧ zq_at zy_readOption_8_9.2.1 152 9 := by decide +kernel
theorem zd_8_9_130 : zz_D zy_readOption_8_9 130 (.putfield 170) 3 133 := ⟨zq_181 zg_8_9_130.1 zg_8_9_130.2.1 zg_8_9_130.2.2.1 rfl, rfl⟩
theorem zd_8_9_133 : zz_D zy_readOption_8_9 133 (.iconst 1) 1 134 := ⟨zq_4 zg_8_9_130.2.2.2.1, rfl⟩
theorem zd_8_9_134 : zz_D zy_readOption_8_9 134 (.ireturn) 1 135 := ⟨zq_172 zg_8_9_130.2.2.2.2.1, rfl⟩
theorem zd_8_9_135 : zz_D zy_readOption_8_9 135 (.aload_n 2) 1 136 := ⟨zq_44 zg_8_9_130.2.2.2.2.2.1, rfl⟩
theorem zd_8_9_136 : zz_D zy_readOption_8_9 136 (.aload_n 0) 1 137 := ⟨zq_42 zg_8_9_130.2.2.2.2.2.2.1, rfl⟩
theorem zd_8_9_137 : zz_D zy_readOption_8_9 137 (.getfield 9) 3 140 := ⟨zq_180 zg_8_9_130.2.2.2.2.2.2.2.1 zg_8_9_130.2.2.2.2.2.2.2.2.1 zg_8_9_130.2.2.2.2.2.2.2.2.2.1 rfl, rfl⟩
theorem zd_8_9_140 : zz_D zy_readOption_8_9 140 (.getfield 94) 3 143 := ⟨zq_180 zg_8_9_130.2.2.2.2.2.2.2.2.2.2.1 zg_8_9_130.2.2.2.2.2.2.2.2.2.2.2.1 zg_8_9_130.2.2.2.2.2.2.2.2.2.2.2.2.1 rfl, rfl⟩
theorem zd_8_9_143 : zz_D zy_readOption_8_9 143 (.putfield 172) 3 146 := ⟨zq_181 zg_8_9_130.2.2.2.2.2.2.2.2.2.2.2.2.2.1 zg_8_9_130.2.2.2.2.2.2.2.2.2.2.2.2.2.2.1 zg_8_9_130.2.2.2.2.2.2.2.2.2.2.2.2.2.2.2.1 rfl, rfl⟩
theorem zd_8_9_146 : zz_D zy_readOption_8_9 146 (.iconst 1) 1 147 := ⟨zq_4 zg_8_9_130.2.2.2.2.2.2.2.2.2.2.2.2.2.2.2.2.1, rfl⟩
theorem zd_8_9_147 : zz_D zy_readOption_8_9 147 (.ireturn) 1 148 := ⟨zq_172 zg_8_9_130.2.2.2.2.2.2.2.2.2.2.2.2.2.2.2.2.2.1, rfl⟩
theorem zd_8_9_148 : zz_D zy_readOption_8_9 148 (.aload_n 2) 1 149 := ⟨zq_44 zg_8_9_130.2.2.2.2.2.2.2.2.2.2.2.2.2.2.2.2.2.2.1, rfl⟩
theorem zd_8_9_149 : zz_D zy_readOption_8_9 149 (.aload_n 0) 1 150 := ⟨zq_42 zg_8_9_130.2.2.2.2.2.2.2.2.2.2.2.2.2.2.2.2.2.2.2.1, rfl⟩
theorem zd_8_9_150 : zz_D zy_readOption_8_9 150 (.getfield 9) 3 153 := ⟨zq_180 zg_8_9_130.2.2.2.2.2.2.2.2.2.2.2.2.2.2.2.2.2.2.2.2.1 zg_8_9_130.2.2.2.2.2.2.2.2.2.2.2.2.2.2.2.2.2.2.2.2.2.1 zg_8_9_130.2.2.2.2.2.2.2.2.2.2.2.2.2.2.2.2.2.2.2.2.2.2 rfl, rfl⟩
theorem zg_8_9_153 : zq_at zy_readOption_8_9.2.1 153 180 ∧ zq_at zy_readOption_8_9.2.1 154 0 ∧ zq_at zy_readOption_8_9.2.1 155 94 ∧ zq_at zy_readOption_8_9.2.1 156 181 ∧ zq_at zy_readOption_8_9.2.1 157 0 ∧ zq_at zy_readOption_8_9.2.1 158 174 ∧ zq_at zy_readOption_8_9.2.1 159 4 ∧ zq_at zy_readOption_8_9.2.1 160 172 ∧ zq_at zy_readOption_8_9.2.1 161 42 ∧ zq_at zy_readOption_8_9.2.1 162 42 ∧ zq_at zy_readOption_8_9.2.1 163 180 ∧ zq_at zy_readOption_8_9.2.1 164 0 ∧ zq_at zy_readOption_8_9.2.1 165 9 ∧ zq_at zy_readOption_8_9.2.1 166 180 ∧ zq_at zy_readOption_8_9.2.1 167 0 ∧ zq_at zy_readOption_8_9.2.1 168 94 ∧ zq_at zy_readOption_8_9.2.1 169 44 ∧ zq_at zy_readOption_8_9.2.1 170 182 ∧ zq_at zy_readOption_8_9.2.1 171 0 ∧ zq_at zy_readOption_8_9.2.1 172 176 := by decide +kernel
theorem zd_8_9_153 : zz_D zy_readOption_8_9 153 (.getfield 94) 3 156 := ⟨zq_180 zg_8_9_153.1 zg_8_9_153.2.1 zg_8_9_153.2.2.1 rfl, rfl⟩
theorem zd_8_9_156 : zz_D zy_readOption_8_9 156 (.putfield 174) 3 159 := ⟨zq_181 zg_8_9_153.2.2.2.1 zg_8_9_153.2.2.2.2.1 zg_8_9_153.2.2.2.2.2.1 rfl, rfl⟩
theorem zd_8_9_159 : zz_D zy_readOption_8_9 159 (.iconst 1) 1 160 := ⟨zq_4 zg_8_9_153.2.2.2.2.2.2.1, rfl⟩
theorem zd_8_9_160 : zz_D zy_readOption_8_9 160 (.ireturn) 1 161 := ⟨zq_172 zg_8_9_153.2.2.2.2.2.2.2.1, rfl⟩
theorem zd_8_9_161 : zz_D zy_readOption_8_9 161 (.aload_n 0) 1 162 := ⟨zq_42 zg_8_9_153.2.2.2.2.2.2.2.2.1, rfl⟩
theorem zd_8_9_162 : zz_D zy_readOption_8_9 162 (.aload_n 0) 1 163 := ⟨zq_42 zg_8_9_153.2.2.2.2.2.2.2.2.2.1, rfl⟩
theorem zd_8_9_163 : zz_D zy_readOption_8_9 163 (.getfield 9) 3 166 := ⟨zq_180 zg_8_9_153.2.2.2.2.2.2.2.2.2.2.1 zg_8_9_153.2.2.2.2.2.2.2.2.2.2.2.1 zg_8_9_153.2.2.2.2.2.2.2.2.2.2.2.2.1 rfl, rfl⟩
theorem zd_8_9_166 : zz_D zy_readOption_8_9 166 (.getfield 94) 3 169 := ⟨zq_180 zg_8_9_153.2.2.2.2.2.2.2.2.2.2.2.2.2.1 zg_8_9_153.2.2.2.2.2.2.2.2.2.2.2.2.2.2.1 zg_8_9_153.2.2.2.2.2.2.2.2.2.2.2.2.2.2.2.1 rfl, rfl⟩
theorem zd_8_9_169 : zz_D zy_readOption_8_9 169 (.aload_n 2) 1 170 := ⟨zq_44 zg_8_9_153.2.2.2.2.2.2.2.2.2.2.2.2.2.2.2.2.1, rfl⟩
theorem zd_8_9_170 : zz_D zy_readOption_8_9 170 (.invokevirtual 176) 3 173 := ⟨zq_182 zg_8_9_153.2.2.2.2.2.2.2.2.2.2.2.2.2.2.2.2.2.1 zg_8_9_153.2.2.2.2.2.2.2.2.2.2.2.2.2.2.2.2.2.2.1 zg_8_9_153.2.2.2.2.2.2.2.2.2.2.2.2.2.2.2.2.2.2.2 rfl, rfl⟩
theorem zg_8_10_0 : zq_at zy_readKernelFrom_8_10.2.1 0 42 ∧ zq_at zy_readKernelFrom_8_10.2.1 1 180 ∧ zq_at zy_readKernelFrom_8_10.2.1 2 0 ∧ zq_at zy_readKernelFrom_8_10.2.1 3 9 ∧ zq_at zy_readKernelFrom_8_10.2.1 4 18 ∧ zq_at zy_readKernelFrom_8_10.2.1 5 97 ∧ zq_at zy_readKernelFrom_8_10.2.1 6 182 ∧ zq_at zy_readKernelFrom_8_10.2.1 7 0 ∧ zq_at zy_readKernelFrom_8_10.2.1 8 99 ∧ zq_at zy_readKernelFrom_8_10.2.1 9 153 ∧ zq_at zy_readKernelFrom_8_10.2.1 10 0 ∧ zq_at zy_readKernelFrom_8_10.2.1 11 13 ∧ zq_at zy_readKernelFrom_8_10.2.1 22 3 ∧ zq_at zy_readKernelFrom_8_10.2.1 23 172 ∧ zq_at zy_readKernelFrom_8_10.2.1 12 42 ∧ zq_at zy_readKernelFrom_8_10.2.1 13 180 ∧ zq_at zy_readKernelFrom_8_10.2.1 14 0 ∧ zq_at zy_readKernelFrom_8_10.2.1 15 9 ∧ zq_at zy_readKernelFrom_8_10.2.1 16 182 ∧ zq_at zy_readKernelFrom_8_10.2.1 17 0 ∧ zq_at zy_readKernelFrom_8_10.2.1 18 91 ∧ zq_at zy_readKernelFrom_8_10.2.1 19 154 ∧ zq_at zy_readKernelFrom_8_10.2.1 20 0 ∧ zq_at zy_readKernelFrom_8_10.2.1 21 5 := by decide +kernel
theorem zd_8_10_0 : zz_D zy_readKernelFrom_8_10 0 (.aload_n 0) 1 1 := ⟨zq_42 zg_8_10_0.1, rfl⟩
theorem zd_8_10_1 : zz_D zy_readKernelFrom_8_10 1 (.getfield 9) 3 4 := ⟨zq_180 zg_8_10_0.2.1 zg_8_10_0.2.2.1 zg_8_10_0.2.2.2.1 rfl, rfl⟩
theorem zd_8_10_4 : zz_D zy_readKernelFrom_8_10 4 (.ldc 97) 2 6 := ⟨zq_18 zg_8_10_0.2.2.2.2.1 zg_8_10_0.2.2.2.2.2.1, rfl⟩
theorem zd_8_10_6 : zz_D zy_readKernelFrom_8_10 6 (.invokevirtual 99) 3 9 := ⟨zq_182 zg_8_10_0.2.2.2.2.2.2.1 zg_8_10_0.2.2.2.2.2.2.2.1 zg_8_10_0.2.2.2.2.2.2.2.2.1 rfl, rfl⟩
theorem zd_8_10_9 : zz_B zy_readKernelFrom_8_10 9 (Instr.ifCond .eq) 22 12 := ⟨13, zq_153 zg_8_10_0.2.2.2.2.2.2.2.2.2.1 zg_8_10_0.2.2.2.2.2.2.2.2.2.2.1 zg_8_10_0.2.2.2.2.2.2.2.2.2.2.2.1 (by decide), rfl, rfl⟩
theorem zd_8_10_22 : zz_D zy_readKernelFrom_8_10 22 (.iconst 0) 1 23 := ⟨zq_3 zg_8_10_0.2.2.2.2.2.2.2.2.2.2.2.2.1, rfl⟩
theorem zd_8_10_23 : zz_D zy_readKernelFrom_8_10 23 (.ireturn) 1 24 := ⟨zq_172 zg_8_10_0.2.2.2.2.2.2.2.2.2.2.2.2.2.1, rfl⟩
theorem zd_8_10_12 : zz_D zy_readKernelFrom_8_10 12 (.aload_n 0) 1 13 := ⟨zq_42 zg_8_10_0.2.2.2.2.2.2.2.2.2.2.2.2.2.2.1, rfl⟩
theorem zd_8_10_13 : zz_D zy_readKernelFrom_8_10 13 (.getfield 9) 3 16 := ⟨zq_180 zg_8_10_0.2.2.2.2.2.2.2.2.2.2.2.2.2.2.2.1 zg_8_10_0.2.2.2.2.2.2.2.2.2.2.2.2.2.2.2.2.1 zg_8_10_0.2.2.2.2.2.2.2.2.2.2.2.2.2.2.2.2.2.1 rfl, rfl⟩
theorem zd_8_10_16 : zz_D zy_readKernelFrom_8_10 16 (.invokevirtual 91) 3 19 := ⟨zq_182 zg_8_10_0.2.2.2.2.2.2.2.2.2.2.2.2.2.2.2.2.2.2.1 zg_8_10_0.2.2.2.2.2.2.2.2.2.2.2.2.2.2.2.2.2.2.2.1 zg_8_10_0.2.2.2.2.2.2.2.2.2.2.2.2.2.2.2.2.2.2.2.2.1 rfl, rfl⟩
theorem zd_8_10_19 : zz_B zy_readKernelFrom_8_10 19 (Instr.ifCond .ne) 24 22 := ⟨5, zq_154 zg_8_10_0.2.2.2.2.2.2.2.2.2.2.2.2.2.2.2.2.2.2.2.2.2.1 zg_8_10_0.2.2.2.2.2.2.2.2.2.2.2.2.2.2.2.2.2.2.2.2.2.2.1 zg_8_10_0.2.2.2.2.2.2.2.2.2.2.2.2.2.2.2.2.2.2.2.2.2.2.2 (by decide), rfl, rfl⟩
theorem zg_8_10_24 : zq_at zy_readKernelFrom_8_10.2.1 24 44 ∧ zq_at zy_readKernelFrom_8_10.2.1 25 27 ∧ zq_at zy_readKernelFrom_8_10.2.1 26 42 ∧ zq_at zy_readKernelFrom_8_10.2.1 27 180 ∧ zq_at zy_readKernelFrom_8_10.2.1 28 0 ∧ zq_at zy_readKernelFrom_8_10.2.1 29 9 ∧ zq_at zy_readKernelFrom_8_10.2.1 30 180 ∧ zq_at zy_readKernelFrom_8_10.2.1 31 0 ∧ zq_at zy_readKernelFrom_8_10.2.1 32 94 ∧ zq_at zy_readKernelFrom_8_10.2.1 33 182 ∧ zq_at zy_readKernelFrom_8_10.2.1 34 0 ∧ zq_at zy_readKernelFrom_8_10.2.1 35 180 ∧ zq_at zy_readKernelFrom_8_10.2.1 36 4 ∧ zq_at zy_readKernelFrom_8_10.2.1 37 172 := by decide +kernel
theorem zd_8_10_24 : zz_D zy_readKernelFrom_8_10 24 (.aload_n 2) 1 25 := ⟨zq_44 zg_8_10_24.1, rfl⟩
theorem zd_8_10_25 : zz_D zy_readKernelFrom_8_10 25 (.iload_n 1) 1 26 := ⟨zq_27 zg_8_10_24.2.1, rfl⟩
theorem zd_8_10_26 : zz_D zy_readKernelFrom_8_10 26 (.aload_n 0) 1 27 := ⟨zq_42 zg_8_10_24.2.2.1, rfl⟩
theorem zd_8_10_27 : zz_D zy_readKernelFrom_8_10 27 (.getfield 9) 3 30 := ⟨zq_180 zg_8_10_24.2.2.2.1 zg_8_10_24.2.2.2.2.1 zg_8_10_24.2.2.2.2.2.1 rfl, rfl⟩
theorem zd_8_10_30 : zz_D zy_readKernelFrom_8_10 30 (.getfield 94) 3 33 := ⟨zq_180 zg_8_10_24.2.2.2.2.2.2.1 zg_8_10_24.2.2.2.2.2.2.2.1 zg_8_10_24.2.2.2.2.2.2.2.2.1 rfl, rfl⟩
theorem zd_8_10_33 : zz_D zy_readKernelFrom_8_10 33 (.invokevirtual 180) 3 36 := ⟨zq_182 zg_8_10_24.2.2.2.2.2.2.2.2.2.1 zg_8_10_24.2.2.2.2.2.2.2.2.2.2.1 zg_8_10_24.2.2.2.2.2.2.2.2.2.2.2.1 rfl, rfl⟩
theorem zd_8_10_36 : zz_D zy_readKernelFrom_8_10 36 (.iconst 1) 1 37 := ⟨zq_4 zg_8_10_24.2.2.2.2.2.2.2.2.2.2.2.2.1, rfl⟩
theorem zd_8_10_37 : zz_D zy_readKernelFrom_8_10 37 (.ireturn) 1 38 := ⟨zq_172 zg_8_10_24.2.2.2.2.2.2.2.2.2.2.2.2.2, rfl⟩
