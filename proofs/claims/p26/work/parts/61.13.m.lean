-- TensorForgeModel isWord (J)Z
abbrev zr_isWord_14_94 : Room := { frames := 0, cells := 0, slots := 0, locals := 0 }
def zp_isWord_14_94 (p0 : Int) (S0 : zz_S) : Int → zz_S → Prop := fun r S => S0 = S ∧ (0 ≤ r ∧ r ≤ 1) ∧ ((r = 1 ∧ S0 1079 30 = 102 ∧ S0 1079 61 = p0) ∨ (r = 0 ∧ ¬ (S0 1079 30 = 102 ∧ S0 1079 61 = p0)))
theorem zc_isWord_14_94 {g : mm_G} {l : Launch} (p0 : Int) (S0 : zz_S) (n : Nat) (hn : zz_end ≤ n) (G_S0 : zz_G S0) (hp0 : (-9223372036854775808) ≤ p0 ∧ p0 ≤ 9223372036854775807) : mm_Met g l zy_isWord_14_94 zr_isWord_14_94 [.ref 1079, zl p0] (zz_M S0 n) n (zz_QI n (zp_isWord_14_94 p0 S0)) := by
  refine zz_enter (by decide) (Nat.le_of_ble_eq_true rfl) (zz_less (ls1 := [some (.ref 1079), some (zl p0), none]) ⟨rfl, ⟨rfl, trivial⟩⟩ ?_)
  refine zz_aload_n (x := 1079) rfl zd_14_94_0 ?_
  have g1 := zz_G.r G_S0 1079 30 0 102 rfl rfl
  refine zz_geti (z := S0 1079 30) zd_14_94_1 zf_Md_347 zT_1079 rfl (zz_ltn hn rfl) rfl ?_
  refine zz_bipush (by decide) zd_14_94_4 ?_
  refine zz_icmp_ne (by omega) (by omega) zd_14_94_6 (fun c2 => ?_) (fun c2 => ?_)
  · refine zz_iconst zd_14_94_22 ?_
    exact zz_zret zd_14_94_23 rfl (by omega) (Nat.zero_le _) (Nat.zero_le _) ⟨_, _, rfl, rfl, by omega, by omega⟩
  · refine zz_aload_n (x := 1079) rfl zd_14_94_9 ?_
    have g3 := zz_G.r G_S0 1079 61 (-9223372036854775808) 9223372036854775807 rfl rfl
    refine zz_getl (z := S0 1079 61) zd_14_94_10 zf_Md_522 zT_1079 rfl (zz_ltn hn rfl) rfl ?_
    refine zz_lload_n (x := p0) rfl zd_14_94_13 ?_
    refine zz_lcmp (by omega) (by omega) zd_14_94_14 (fun v4 hv4 => ?_)
    refine zz_if_ne (by omega) zd_14_94_15 (fun c5 => ?_) (fun c5 => ?_)
    · refine zz_iconst zd_14_94_22 ?_
      exact zz_zret zd_14_94_23 rfl (by omega) (Nat.zero_le _) (Nat.zero_le _) ⟨_, _, rfl, rfl, by omega, by omega⟩
    · refine zz_iconst zd_14_94_18 ?_
      refine zz_goto zd_14_94_19 ?_
      exact zz_zret zd_14_94_23 rfl (by omega) (Nat.zero_le _) (Nat.zero_le _) ⟨_, _, rfl, rfl, by omega, by omega⟩
abbrev zy_takeNet_14_95 : mm_Y := (⟨"TensorForgeModel", "takeNet", "(I)Z"⟩, prog_14_method_95_code, 2, (some .boolean))
theorem zyw_takeNet_14_95 : mm_Yw zy_takeNet_14_95 1 := ⟨mm_tb_1 2239 (by decide +kernel) rfl, mm_tb_1 12 (by decide +kernel) rfl, ⟨by decide, by decide⟩, by decide +kernel⟩
theorem zf_Md_136 : mm_Fl "TensorForgeModel" 136 11 63 (.array .int) true := ⟨R_Md, F_Md, 69, t_Md, rfl, i_Md, by decide, mm_tb_1 1674 (by decide +kernel) rfl, rfl, t_Md_ok, n_Md, rfl, by decide +kernel⟩
theorem zk_Md_526 : mm_Vl "TensorForgeModel" 526 11 0 zy_advanceNet_14_93 := ⟨zyw_advanceNet_14_93, (R_Md, F_Md, 69), rfl, mm_tb_1 2196 (by decide +kernel) rfl, mm_tb_1 2198 (by decide +kernel) rfl, mm_tb_s 140 (by decide +kernel) rfl⟩
theorem zg_14_95_0 : zq_at zy_takeNet_14_95.2.1 0 42 ∧ zq_at zy_takeNet_14_95.2.1 1 180 ∧ zq_at zy_takeNet_14_95.2.1 2 1 ∧ zq_at zy_takeNet_14_95.2.1 3 91 ∧ zq_at zy_takeNet_14_95.2.1 4 16 ∧ zq_at zy_takeNet_14_95.2.1 5 100 ∧ zq_at zy_takeNet_14_95.2.1 6 159 ∧ zq_at zy_takeNet_14_95.2.1 7 0 ∧ zq_at zy_takeNet_14_95.2.1 8 5 ∧ zq_at zy_takeNet_14_95.2.1 11 42 ∧ zq_at zy_takeNet_14_95.2.1 12 180 ∧ zq_at zy_takeNet_14_95.2.1 13 0 ∧ zq_at zy_takeNet_14_95.2.1 14 136 ∧ zq_at zy_takeNet_14_95.2.1 15 27 ∧ zq_at zy_takeNet_14_95.2.1 16 42 ∧ zq_at zy_takeNet_14_95.2.1 17 180 ∧ zq_at zy_takeNet_14_95.2.1 18 1 ∧ zq_at zy_takeNet_14_95.2.1 19 98 ∧ zq_at zy_takeNet_14_95.2.1 20 79 ∧ zq_at zy_takeNet_14_95.2.1 21 42 ∧ zq_at zy_takeNet_14_95.2.1 22 182 ∧ zq_at zy_takeNet_14_95.2.1 23 2 ∧ zq_at zy_takeNet_14_95.2.1 24 14 ∧ zq_at zy_takeNet_14_95.2.1 25 4 := by decide +kernel
theorem zd_14_95_0 : zz_D zy_takeNet_14_95 0 (.aload_n 0) 1 1 := ⟨zq_42 zg_14_95_0.1, rfl⟩
theorem zd_14_95_1 : zz_D zy_takeNet_14_95 1 (.getfield 347) 3 4 := ⟨zq_180 zg_14_95_0.2.1 zg_14_95_0.2.2.1 zg_14_95_0.2.2.2.1 rfl, rfl⟩
theorem zd_14_95_4 : zz_D zy_takeNet_14_95 4 (.bipush 100) 2 6 := ⟨zq_16 zg_14_95_0.2.2.2.2.1 zg_14_95_0.2.2.2.2.2.1 (by decide), rfl⟩
theorem zd_14_95_6 : zz_B zy_takeNet_14_95 6 (Instr.if_icmp .eq) 11 9 := ⟨5, zq_159 zg_14_95_0.2.2.2.2.2.2.1 zg_14_95_0.2.2.2.2.2.2.2.1 zg_14_95_0.2.2.2.2.2.2.2.2.1 (by decide), rfl, rfl⟩
theorem zd_14_95_11 : zz_D zy_takeNet_14_95 11 (.aload_n 0) 1 12 := ⟨zq_42 zg_14_95_0.2.2.2.2.2.2.2.2.2.1, rfl⟩
theorem zd_14_95_12 : zz_D zy_takeNet_14_95 12 (.getfield 136) 3 15 := ⟨zq_180 zg_14_95_0.2.2.2.2.2.2.2.2.2.2.1 zg_14_95_0.2.2.2.2.2.2.2.2.2.2.2.1 zg_14_95_0.2.2.2.2.2.2.2.2.2.2.2.2.1 rfl, rfl⟩
theorem zd_14_95_15 : zz_D zy_takeNet_14_95 15 (.iload_n 1) 1 16 := ⟨zq_27 zg_14_95_0.2.2.2.2.2.2.2.2.2.2.2.2.2.1, rfl⟩
theorem zd_14_95_16 : zz_D zy_takeNet_14_95 16 (.aload_n 0) 1 17 := ⟨zq_42 zg_14_95_0.2.2.2.2.2.2.2.2.2.2.2.2.2.2.1, rfl⟩
theorem zd_14_95_17 : zz_D zy_takeNet_14_95 17 (.getfield 354) 3 20 := ⟨zq_180 zg_14_95_0.2.2.2.2.2.2.2.2.2.2.2.2.2.2.2.1 zg_14_95_0.2.2.2.2.2.2.2.2.2.2.2.2.2.2.2.2.1 zg_14_95_0.2.2.2.2.2.2.2.2.2.2.2.2.2.2.2.2.2.1 rfl, rfl⟩
theorem zd_14_95_20 : zz_D zy_takeNet_14_95 20 (.iastore) 1 21 := ⟨zq_79 zg_14_95_0.2.2.2.2.2.2.2.2.2.2.2.2.2.2.2.2.2.2.1, rfl⟩
theorem zd_14_95_21 : zz_D zy_takeNet_14_95 21 (.aload_n 0) 1 22 := ⟨zq_42 zg_14_95_0.2.2.2.2.2.2.2.2.2.2.2.2.2.2.2.2.2.2.2.1, rfl⟩
theorem zd_14_95_22 : zz_D zy_takeNet_14_95 22 (.invokevirtual 526) 3 25 := ⟨zq_182 zg_14_95_0.2.2.2.2.2.2.2.2.2.2.2.2.2.2.2.2.2.2.2.2.1 zg_14_95_0.2.2.2.2.2.2.2.2.2.2.2.2.2.2.2.2.2.2.2.2.2.1 zg_14_95_0.2.2.2.2.2.2.2.2.2.2.2.2.2.2.2.2.2.2.2.2.2.2.1 rfl, rfl⟩
theorem zd_14_95_25 : zz_D zy_takeNet_14_95 25 (.iconst 1) 1 26 := ⟨zq_4 zg_14_95_0.2.2.2.2.2.2.2.2.2.2.2.2.2.2.2.2.2.2.2.2.2.2.2, rfl⟩
theorem zg_14_95_26 : zq_at zy_takeNet_14_95.2.1 26 172 ∧ zq_at zy_takeNet_14_95.2.1 9 3 ∧ zq_at zy_takeNet_14_95.2.1 10 172 := by decide +kernel
theorem zd_14_95_26 : zz_D zy_takeNet_14_95 26 (.ireturn) 1 27 := ⟨zq_172 zg_14_95_26.1, rfl⟩
theorem zd_14_95_9 : zz_D zy_takeNet_14_95 9 (.iconst 0) 1 10 := ⟨zq_3 zg_14_95_26.2.1, rfl⟩
theorem zd_14_95_10 : zz_D zy_takeNet_14_95 10 (.ireturn) 1 11 := ⟨zq_172 zg_14_95_26.2.2, rfl⟩
-- TensorForgeModel takeNet (I)Z
abbrev zr_takeNet_14_95 : Room := { frames := 3, cells := 0, slots := 0, locals := 48 }
def zp_takeNet_14_95 (p0 : Int) (S0 : zz_S) : Int → zz_S → Prop := fun r S => zz_G S ∧ zz_fr [(1079, 30), (1079, 31), (1079, 32), (1079, 61)] [] (fun a i => (a = 1118 ∧ i = p0.toNat)) S0 S ∧ (0 ≤ r ∧ r ≤ 1) ∧ (S 1079 32 > S0 1079 32 ∨ (S 1079 32 = S0 1079 32 ∧ (S 1079 30 = S0 1079 30 ∨ S 1079 30 = 0 ∨ S 1079 30 = 101))) ∧ ((r = 1 ∧ S0 1079 30 = 100 ∧ S 1118 p0.toNat = S0 1079 31) ∨ (r = 0 ∧ S0 1079 30 ≠ 100)) ∧ (r = 1 → zt_MK (S0 1099) (S0 1079 33) (S0 1079 32) (S 1079 30) (S 1079 32) (S 1079 31) (S 1079 61))
theorem zc_takeNet_14_95 {g : mm_G} {l : Launch} (p0 : Int) (S0 : zz_S) (n : Nat) (hn : zz_end ≤ n) (G_S0 : zz_G S0) (hp0 : 0 ≤ p0 ∧ p0 ≤ 7) (hN : ∀ w : Nat, 1 ≤ w → w ≤ 20 → S0 1100 w = zt_cd (zt_nw.getD w [])) : mm_Met g l zy_takeNet_14_95 zr_takeNet_14_95 [.ref 1079, zi p0] (zz_M S0 n) n (zz_QI n (zp_takeNet_14_95 p0 S0)) := by
  refine zz_enter (by decide) (Nat.le_of_ble_eq_true rfl) (zz_less (ls1 := [some (.ref 1079), some (zi p0)]) ⟨rfl, ⟨rfl, trivial⟩⟩ ?_)
  have F_S0 : zz_fr [(1079, 30), (1079, 31), (1079, 32), (1079, 61)] [] (fun a i => (a = 1118 ∧ i = p0.toNat)) S0 S0 := zz_fr.refl
  refine zz_aload_n (x := 1079) rfl zd_14_95_0 ?_
  have g1 := zz_G.r G_S0 1079 30 0 102 rfl rfl
  refine zz_geti (z := S0 1079 30) zd_14_95_1 zf_Md_347 zT_1079 rfl (zz_ltn hn rfl) rfl ?_
  refine zz_bipush (by decide) zd_14_95_4 ?_
  refine zz_icmp_eq (by omega) (by omega) zd_14_95_6 (fun c2 => ?_) (fun c2 => ?_)
  · refine zz_aload_n (x := 1079) rfl zd_14_95_11 ?_
    refine zz_getr (kd := 0) (z := 1118) zd_14_95_12 zf_Md_136 zT_1079 rfl (zz_ltn hn rfl) (zz_G.eq G_S0 1079 63 1118 rfl rfl) (by decide) 1118 rfl ?_
    refine zz_iload_n (x := p0) rfl zd_14_95_15 ?_
    refine zz_aload_n (x := 1079) rfl zd_14_95_16 ?_
    have g3 := zz_G.r G_S0 1079 31 0 9999 rfl rfl
    refine zz_geti (z := S0 1079 31) zd_14_95_17 zf_Md_354 zT_1079 rfl (zz_ltn hn rfl) rfl ?_
    refine zz_iast zd_14_95_20 zT_1118 rfl (zz_ltn hn rfl) (by decide) (by omega) (fun S4 qS4 => ?_)
    have G_S4 := zz_G.put G_S0 qS4 0 9999 rfl (by omega)
    have F_S4 := zz_fr.putv F_S0 qS4 (⟨rfl, rfl⟩)
    refine zz_aload_n (x := 1079) rfl zd_14_95_21 ?_
    have g5 := zz_G.r G_S0 1079 32 0 1500 rfl rfl
    have e6 : S4 1079 32 = S0 1079 32 := (zz_ro qS4 (fun h => absurd h.1 (by decide)) rfl)
    have g7 := zz_G.r G_S0 1079 33 0 1500 rfl rfl
    have e8 : S4 1079 33 = S0 1079 33 := (zz_ro qS4 (fun h => absurd h.1 (by decide)) rfl)
    refine zz_callVV [] zd_14_95_22 zk_Md_526 zT_1079 (zz_ltn hn rfl) rfl rfl ⟨Nat.le_of_ble_eq_true rfl, Nat.le_of_ble_eq_true rfl⟩ ⟨rfl, rfl⟩ (Nat.zero_le _) (Nat.zero_le _) (zc_advanceNet_14_93  S4 n hn G_S4 (fun u h1 h2 => ((zz_ro qS4 (fun h => absurd h.1 (by decide)) rfl)).trans (hN u h1 h2))) (fun S9 hP => ?_)
    obtain ⟨G_S9, fS9, o11, o12, o13, o14, o15, o16⟩ := hP
    rw [show S4 1079 32 = S0 1079 32 from (zz_ro qS4 (fun h => absurd h.1 (by decide)) rfl)] at o11
    rw [show S4 1099 = S0 1099 from funext (fun u => (zz_ro qS4 (fun h => absurd h.1 (by decide)) rfl)), show S4 1079 33 = S0 1079 33 from (zz_ro qS4 (fun h => absurd h.1 (by decide)) rfl), show S4 1079 32 = S0 1079 32 from (zz_ro qS4 (fun h => absurd h.1 (by decide)) rfl)] at o12
    rw [show S4 1099 = S0 1099 from funext (fun u => (zz_ro qS4 (fun h => absurd h.1 (by decide)) rfl)), show S4 1079 33 = S0 1079 33 from (zz_ro qS4 (fun h => absurd h.1 (by decide)) rfl), show S4 1079 32 = S0 1079 32 from (zz_ro qS4 (fun h => absurd h.1 (by decide)) rfl)] at o13
    rw [show S4 1099 = S0 1099 from funext (fun u => (zz_ro qS4 (fun h => absurd h.1 (by decide)) rfl)), show S4 1079 33 = S0 1079 33 from (zz_ro qS4 (fun h => absurd h.1 (by decide)) rfl), show S4 1079 32 = S0 1079 32 from (zz_ro qS4 (fun h => absurd h.1 (by decide)) rfl)] at o14
    rw [show S4 1099 = S0 1099 from funext (fun u => (zz_ro qS4 (fun h => absurd h.1 (by decide)) rfl)), show S4 1079 33 = S0 1079 33 from (zz_ro qS4 (fun h => absurd h.1 (by decide)) rfl), show S4 1079 32 = S0 1079 32 from (zz_ro qS4 (fun h => absurd h.1 (by decide)) rfl)] at o15
    rw [show S4 1099 = S0 1099 from funext (fun u => (zz_ro qS4 (fun h => absurd h.1 (by decide)) rfl)), show S4 1079 33 = S0 1079 33 from (zz_ro qS4 (fun h => absurd h.1 (by decide)) rfl), show S4 1079 32 = S0 1079 32 from (zz_ro qS4 (fun h => absurd h.1 (by decide)) rfl)] at o16
    have F_S9 := zz_fr.trans F_S4 fS9 rfl zz_nv
    refine zz_iconst zd_14_95_25 ?_
    have g17 := zz_G.r G_S9 1079 30 0 102 rfl rfl
    have g18 := zz_G.r G_S9 1079 32 0 1500 rfl rfl
    have e19 : S9 1118 p0.toNat = S0 1079 31 := (zz_rc fS9 (zz_nc1 rfl) rfl (fun h => h) (zz_rs qS4))
    have g20 := zz_G.r G_S9 1079 31 0 9999 rfl rfl
    exact zz_zret zd_14_95_26 rfl (by omega) (Nat.zero_le _) (Nat.zero_le _) ⟨_, _, rfl, G_S9, F_S9, by omega, by omega, by omega, fun _ => o16⟩
  · refine zz_iconst zd_14_95_9 ?_
    have g21 := zz_G.r G_S0 1079 32 0 1500 rfl rfl
    have g22 := zz_G.r G_S0 1118 p0.toNat 0 9999 rfl rfl
    have g23 := zz_G.r G_S0 1079 31 0 9999 rfl rfl
    exact zz_zret zd_14_95_10 rfl (by omega) (Nat.zero_le _) (Nat.zero_le _) ⟨_, _, rfl, G_S0, F_S0, by omega, by omega, by omega, fun h => absurd h (by decide)⟩
abbrev zy_takeX_14_96 : mm_Y := (⟨"TensorForgeModel", "takeX", "()Z"⟩, prog_14_method_96_code, 2, (some .boolean))
theorem zyw_takeX_14_96 : mm_Yw zy_takeX_14_96 0 := ⟨mm_tb_1 2243 (by decide +kernel) rfl, mm_tb_1 12 (by decide +kernel) rfl, ⟨by decide, by decide⟩, by decide +kernel⟩
theorem zq_Md_167 : Cond.constantLong "TensorForgeModel" 167 (24 : Int64) ∈ mm_tb := mm_tb_1 1599 (by decide +kernel) rfl
theorem zk_Md_529 : mm_Vl "TensorForgeModel" 529 11 1 zy_isWord_14_94 := ⟨zyw_isWord_14_94, (R_Md, F_Md, 69), rfl, mm_tb_1 2205 (by decide +kernel) rfl, mm_tb_1 2207 (by decide +kernel) rfl, mm_tb_s 142 (by decide +kernel) rfl⟩
theorem zg_14_96_0 : zq_at zy_takeX_14_96.2.1 0 42 ∧ zq_at zy_takeX_14_96.2.1 1 20 ∧ zq_at zy_takeX_14_96.2.1 2 0 ∧ zq_at zy_takeX_14_96.2.1 3 167 ∧ zq_at zy_takeX_14_96.2.1 4 182 ∧ zq_at zy_takeX_14_96.2.1 5 2 ∧ zq_at zy_takeX_14_96.2.1 6 17 ∧ zq_at zy_takeX_14_96.2.1 7 60 ∧ zq_at zy_takeX_14_96.2.1 8 42 ∧ zq_at zy_takeX_14_96.2.1 9 182 ∧ zq_at zy_takeX_14_96.2.1 10 2 ∧ zq_at zy_takeX_14_96.2.1 11 14 ∧ zq_at zy_takeX_14_96.2.1 12 27 ∧ zq_at zy_takeX_14_96.2.1 13 172 := by decide +kernel
theorem zd_14_96_0 : zz_D zy_takeX_14_96 0 (.aload_n 0) 1 1 := ⟨zq_42 zg_14_96_0.1, rfl⟩
theorem zd_14_96_1 : zz_D zy_takeX_14_96 1 (.ldc2_w 167) 3 4 := ⟨zq_20 zg_14_96_0.2.1 zg_14_96_0.2.2.1 zg_14_96_0.2.2.2.1 rfl, rfl⟩
theorem zd_14_96_4 : zz_D zy_takeX_14_96 4 (.invokevirtual 529) 3 7 := ⟨zq_182 zg_14_96_0.2.2.2.2.1 zg_14_96_0.2.2.2.2.2.1 zg_14_96_0.2.2.2.2.2.2.1 rfl, rfl⟩
theorem zd_14_96_7 : zz_D zy_takeX_14_96 7 (.istore_n 1) 1 8 := ⟨zq_60 zg_14_96_0.2.2.2.2.2.2.2.1, rfl⟩
theorem zd_14_96_8 : zz_D zy_takeX_14_96 8 (.aload_n 0) 1 9 := ⟨zq_42 zg_14_96_0.2.2.2.2.2.2.2.2.1, rfl⟩
theorem zd_14_96_9 : zz_D zy_takeX_14_96 9 (.invokevirtual 526) 3 12 := ⟨zq_182 zg_14_96_0.2.2.2.2.2.2.2.2.2.1 zg_14_96_0.2.2.2.2.2.2.2.2.2.2.1 zg_14_96_0.2.2.2.2.2.2.2.2.2.2.2.1 rfl, rfl⟩
theorem zd_14_96_12 : zz_D zy_takeX_14_96 12 (.iload_n 1) 1 13 := ⟨zq_27 zg_14_96_0.2.2.2.2.2.2.2.2.2.2.2.2.1, rfl⟩
theorem zd_14_96_13 : zz_D zy_takeX_14_96 13 (.ireturn) 1 14 := ⟨zq_172 zg_14_96_0.2.2.2.2.2.2.2.2.2.2.2.2.2, rfl⟩
-- TensorForgeModel takeX ()Z
abbrev zr_takeX_14_96 : Room := { frames := 3, cells := 0, slots := 0, locals := 48 }
def zp_takeX_14_96  (S0 : zz_S) : Int → zz_S → Prop := fun r S => zz_G S ∧ zz_fr [(1079, 30), (1079, 31), (1079, 32), (1079, 61)] [] (fun _ _ => False) S0 S ∧ (0 ≤ r ∧ r ≤ 1) ∧ (S 1079 32 > S0 1079 32 ∨ (S 1079 32 = S0 1079 32 ∧ (S 1079 30 = S0 1079 30 ∨ S 1079 30 = 0 ∨ S 1079 30 = 101))) ∧ ((r = 1 ∧ S0 1079 30 = 102 ∧ S0 1079 61 = 24) ∨ (r = 0 ∧ ¬ (S0 1079 30 = 102 ∧ S0 1079 61 = 24))) ∧ (zt_MK (S0 1099) (S0 1079 33) (S0 1079 32) (S 1079 30) (S 1079 32) (S 1079 31) (S 1079 61))
theorem zc_takeX_14_96 {g : mm_G} {l : Launch}  (S0 : zz_S) (n : Nat) (hn : zz_end ≤ n) (G_S0 : zz_G S0) (hN : ∀ w : Nat, 1 ≤ w → w ≤ 20 → S0 1100 w = zt_cd (zt_nw.getD w [])) : mm_Met g l zy_takeX_14_96 zr_takeX_14_96 [.ref 1079] (zz_M S0 n) n (zz_QI n (zp_takeX_14_96  S0)) := by
  refine zz_enter (by decide) (Nat.le_of_ble_eq_true rfl) (zz_less (ls1 := [some (.ref 1079)]) ⟨rfl, trivial⟩ ?_)
  have F_S0 : zz_fr [(1079, 30), (1079, 31), (1079, 32), (1079, 61)] [] (fun _ _ => False) S0 S0 := zz_fr.refl
  refine zz_aload_n (x := 1079) rfl zd_14_96_0 ?_
  refine zz_ldc2 (z := 24) zq_Md_167 (by decide) zd_14_96_1 ?_
  have g1 := zz_G.r G_S0 1079 30 0 102 rfl rfl
  refine zz_callVI [zl 24] zd_14_96_4 zk_Md_529 zT_1079 (zz_ltn hn rfl) rfl rfl ⟨Nat.le_of_ble_eq_true rfl, Nat.le_of_ble_eq_true rfl⟩ ⟨rfl, rfl⟩ (Nat.zero_le _) (Nat.zero_le _) (zc_isWord_14_94 24 S0 n hn G_S0 (by omega)) (fun v3 S2 hP => ?_)
  obtain ⟨rfl, o4, o5⟩ := hP
  rcases (by omega : v3 = 0 ∨ v3 = 1) with rfl | rfl
  · refine zz_istore_n [some (.ref 1079), some (zi 0)] zd_14_96_7 (by decide) rfl ?_
    refine zz_aload_n (x := 1079) rfl zd_14_96_8 ?_
    have g6 := zz_G.r G_S0 1079 32 0 1500 rfl rfl
    have g7 := zz_G.r G_S0 1079 33 0 1500 rfl rfl
    refine zz_callVV [] zd_14_96_9 zk_Md_526 zT_1079 (zz_ltn hn rfl) rfl rfl ⟨Nat.le_of_ble_eq_true rfl, Nat.le_of_ble_eq_true rfl⟩ ⟨rfl, rfl⟩ (Nat.zero_le _) (Nat.zero_le _) (zc_advanceNet_14_93  S0 n hn G_S0 hN) (fun S8 hP => ?_)
    obtain ⟨G_S8, fS8, o10, o11, o12, o13, o14, o15⟩ := hP
    have F_S8 := zz_fr.trans F_S0 fS8 rfl zz_nv
    refine zz_iload_n (x := 0) rfl zd_14_96_12 ?_
    have g16 := zz_G.r G_S8 1079 30 0 102 rfl rfl
    have g17 := zz_G.r G_S8 1079 32 0 1500 rfl rfl
    have g18 := zz_G.r G_S8 1079 31 0 9999 rfl rfl
    exact zz_zret zd_14_96_13 rfl (by omega) (Nat.zero_le _) (Nat.zero_le _) ⟨_, _, rfl, G_S8, F_S8, by omega, by omega, by omega, o15⟩
  · refine zz_istore_n [some (.ref 1079), some (zi 1)] zd_14_96_7 (by decide) rfl ?_
    refine zz_aload_n (x := 1079) rfl zd_14_96_8 ?_
    have g19 := zz_G.r G_S0 1079 32 0 1500 rfl rfl
    have g20 := zz_G.r G_S0 1079 33 0 1500 rfl rfl
    refine zz_callVV [] zd_14_96_9 zk_Md_526 zT_1079 (zz_ltn hn rfl) rfl rfl ⟨Nat.le_of_ble_eq_true rfl, Nat.le_of_ble_eq_true rfl⟩ ⟨rfl, rfl⟩ (Nat.zero_le _) (Nat.zero_le _) (zc_advanceNet_14_93  S0 n hn G_S0 hN) (fun S21 hP => ?_)
    obtain ⟨G_S21, fS21, o23, o24, o25, o26, o27, o28⟩ := hP
    have F_S21 := zz_fr.trans F_S0 fS21 rfl zz_nv
    refine zz_iload_n (x := 1) rfl zd_14_96_12 ?_
    have g29 := zz_G.r G_S21 1079 30 0 102 rfl rfl
    have g30 := zz_G.r G_S21 1079 32 0 1500 rfl rfl
    have g31 := zz_G.r G_S21 1079 31 0 9999 rfl rfl
    exact zz_zret zd_14_96_13 rfl (by omega) (Nat.zero_le _) (Nat.zero_le _) ⟨_, _, rfl, G_S21, F_S21, by omega, by omega, by omega, o28⟩
abbrev zy_isKeyword_14_97 : mm_Y := (⟨"TensorForgeModel", "isKeyword", "(J)Z"⟩, prog_14_method_97_code, 3, (some .boolean))
theorem zyw_isKeyword_14_97 : mm_Yw zy_isKeyword_14_97 1 := ⟨mm_tb_1 2247 (by decide +kernel) rfl, mm_tb_1 12 (by decide +kernel) rfl, ⟨by decide, by decide⟩, by decide +kernel⟩
theorem zq_Md_532 : Cond.constantLong "TensorForgeModel" 532 (21676489 : Int64) ∈ mm_tb := mm_tb_1 2248 (by decide +kernel) rfl
theorem zq_Md_534 : Cond.constantLong "TensorForgeModel" 534 (735715 : Int64) ∈ mm_tb := mm_tb_1 2204 (by decide +kernel) rfl
theorem zq_Md_536 : Cond.constantLong "TensorForgeModel" 536 (409072 : Int64) ∈ mm_tb := mm_tb_1 2209 (by decide +kernel) rfl
theorem zq_Md_538 : Cond.constantLong "TensorForgeModel" 538 (4225 : Int64) ∈ mm_tb := mm_tb_1 2210 (by decide +kernel) rfl
theorem zq_Md_165 : Cond.constantLong "TensorForgeModel" 165 (802 : Int64) ∈ mm_tb := mm_tb_1 1598 (by decide +kernel) rfl
theorem zq_Md_540 : Cond.constantLong "TensorForgeModel" 540 (21094748847 : Int64) ∈ mm_tb := mm_tb_1 2227 (by decide +kernel) rfl
theorem zq_Md_163 : Cond.constantLong "TensorForgeModel" 163 (641 : Int64) ∈ mm_tb := mm_tb_1 1597 (by decide +kernel) rfl
theorem zq_Md_171 : Cond.constantLong "TensorForgeModel" 171 (530067 : Int64) ∈ mm_tb := mm_tb_1 1601 (by decide +kernel) rfl
theorem zq_Md_542 : Cond.constantLong "TensorForgeModel" 542 (171141 : Int64) ∈ mm_tb := mm_tb_1 2228 (by decide +kernel) rfl
theorem zq_Md_544 : Cond.constantLong "TensorForgeModel" 544 (21177619 : Int64) ∈ mm_tb := mm_tb_1 2229 (by decide +kernel) rfl
theorem zq_Md_546 : Cond.constantLong "TensorForgeModel" 546 (700594 : Int64) ∈ mm_tb := mm_tb_1 2230 (by decide +kernel) rfl
theorem zq_Md_548 : Cond.constantLong "TensorForgeModel" 548 (609 : Int64) ∈ mm_tb := mm_tb_1 2231 (by decide +kernel) rfl
theorem zg_14_97_0 : zq_at zy_isKeyword_14_97.2.1 0 31 ∧ zq_at zy_isKeyword_14_97.2.1 1 20 ∧ zq_at zy_isKeyword_14_97.2.1 2 2 ∧ zq_at zy_isKeyword_14_97.2.1 3 20 ∧ zq_at zy_isKeyword_14_97.2.1 4 148 ∧ zq_at zy_isKeyword_14_97.2.1 5 153 ∧ zq_at zy_isKeyword_14_97.2.1 6 0 ∧ zq_at zy_isKeyword_14_97.2.1 7 99 ∧ zq_at zy_isKeyword_14_97.2.1 104 4 ∧ zq_at zy_isKeyword_14_97.2.1 105 167 ∧ zq_at zy_isKeyword_14_97.2.1 106 0 ∧ zq_at zy_isKeyword_14_97.2.1 107 4 ∧ zq_at zy_isKeyword_14_97.2.1 109 172 ∧ zq_at zy_isKeyword_14_97.2.1 8 31 ∧ zq_at zy_isKeyword_14_97.2.1 9 20 ∧ zq_at zy_isKeyword_14_97.2.1 10 2 ∧ zq_at zy_isKeyword_14_97.2.1 11 22 ∧ zq_at zy_isKeyword_14_97.2.1 12 148 ∧ zq_at zy_isKeyword_14_97.2.1 13 153 ∧ zq_at zy_isKeyword_14_97.2.1 14 0 ∧ zq_at zy_isKeyword_14_97.2.1 15 91 ∧ zq_at zy_isKeyword_14_97.2.1 16 31 := by decide +kernel
theorem zd_14_97_0 : zz_D zy_isKeyword_14_97 0 (.lload_n 1) 1 1 := ⟨zq_31 zg_14_97_0.1, rfl⟩
theorem zd_14_97_1 : zz_D zy_isKeyword_14_97 1 (.ldc2_w 532) 3 4 := ⟨zq_20 zg_14_97_0.2.1 zg_14_97_0.2.2.1 zg_14_97_0.2.2.2.1 rfl, rfl⟩
theorem zd_14_97_4 : zz_D zy_isKeyword_14_97 4 (.lcmp) 1 5 := ⟨zq_148 zg_14_97_0.2.2.2.2.1, rfl⟩
theorem zd_14_97_5 : zz_B zy_isKeyword_14_97 5 (Instr.ifCond .eq) 104 8 := ⟨99, zq_153 zg_14_97_0.2.2.2.2.2.1 zg_14_97_0.2.2.2.2.2.2.1 zg_14_97_0.2.2.2.2.2.2.2.1 (by decide), rfl, rfl⟩
theorem zd_14_97_104 : zz_D zy_isKeyword_14_97 104 (.iconst 1) 1 105 := ⟨zq_4 zg_14_97_0.2.2.2.2.2.2.2.2.1, rfl⟩
theorem zd_14_97_105 : zz_B zy_isKeyword_14_97 105 Instr.goto 109 108 := ⟨4, zq_167 zg_14_97_0.2.2.2.2.2.2.2.2.2.1 zg_14_97_0.2.2.2.2.2.2.2.2.2.2.1 zg_14_97_0.2.2.2.2.2.2.2.2.2.2.2.1 (by decide), rfl, rfl⟩
theorem zd_14_97_109 : zz_D zy_isKeyword_14_97 109 (.ireturn) 1 110 := ⟨zq_172 zg_14_97_0.2.2.2.2.2.2.2.2.2.2.2.2.1, rfl⟩
theorem zd_14_97_8 : zz_D zy_isKeyword_14_97 8 (.lload_n 1) 1 9 := ⟨zq_31 zg_14_97_0.2.2.2.2.2.2.2.2.2.2.2.2.2.1, rfl⟩
theorem zd_14_97_9 : zz_D zy_isKeyword_14_97 9 (.ldc2_w 534) 3 12 := ⟨zq_20 zg_14_97_0.2.2.2.2.2.2.2.2.2.2.2.2.2.2.1 zg_14_97_0.2.2.2.2.2.2.2.2.2.2.2.2.2.2.2.1 zg_14_97_0.2.2.2.2.2.2.2.2.2.2.2.2.2.2.2.2.1 rfl, rfl⟩
theorem zd_14_97_12 : zz_D zy_isKeyword_14_97 12 (.lcmp) 1 13 := ⟨zq_148 zg_14_97_0.2.2.2.2.2.2.2.2.2.2.2.2.2.2.2.2.2.1, rfl⟩
theorem zd_14_97_13 : zz_B zy_isKeyword_14_97 13 (Instr.ifCond .eq) 104 16 := ⟨91, zq_153 zg_14_97_0.2.2.2.2.2.2.2.2.2.2.2.2.2.2.2.2.2.2.1 zg_14_97_0.2.2.2.2.2.2.2.2.2.2.2.2.2.2.2.2.2.2.2.1 zg_14_97_0.2.2.2.2.2.2.2.2.2.2.2.2.2.2.2.2.2.2.2.2.1 (by decide), rfl, rfl⟩
theorem zd_14_97_16 : zz_D zy_isKeyword_14_97 16 (.lload_n 1) 1 17 := ⟨zq_31 zg_14_97_0.2.2.2.2.2.2.2.2.2.2.2.2.2.2.2.2.2.2.2.2.2, rfl⟩
theorem zg_14_97_17 : zq_at zy_isKeyword_14_97.2.1 17 20 ∧ zq_at zy_isKeyword_14_97.2.1 18 2 ∧ zq_at zy_isKeyword_14_97.2.1 19 24 ∧ zq_at zy_isKeyword_14_97.2.1 20 148 ∧ zq_at zy_isKeyword_14_97.2.1 21 153 ∧ zq_at zy_isKeyword_14_97.2.1 22 0 ∧ zq_at zy_isKeyword_14_97.2.1 23 83 ∧ zq_at zy_isKeyword_14_97.2.1 24 31 ∧ zq_at zy_isKeyword_14_97.2.1 25 20 ∧ zq_at zy_isKeyword_14_97.2.1 26 2 ∧ zq_at zy_isKeyword_14_97.2.1 27 26 ∧ zq_at zy_isKeyword_14_97.2.1 28 148 ∧ zq_at zy_isKeyword_14_97.2.1 29 153 ∧ zq_at zy_isKeyword_14_97.2.1 30 0 ∧ zq_at zy_isKeyword_14_97.2.1 31 75 ∧ zq_at zy_isKeyword_14_97.2.1 32 31 ∧ zq_at zy_isKeyword_14_97.2.1 33 20 ∧ zq_at zy_isKeyword_14_97.2.1 34 0 ∧ zq_at zy_isKeyword_14_97.2.1 35 165 ∧ zq_at zy_isKeyword_14_97.2.1 36 148 ∧ zq_at zy_isKeyword_14_97.2.1 37 153 ∧ zq_at zy_isKeyword_14_97.2.1 38 0 ∧ zq_at zy_isKeyword_14_97.2.1 39 67 ∧ zq_at zy_isKeyword_14_97.2.1 40 31 := by decide +kernel
theorem zd_14_97_17 : zz_D zy_isKeyword_14_97 17 (.ldc2_w 536) 3 20 := ⟨zq_20 zg_14_97_17.1 zg_14_97_17.2.1 zg_14_97_17.2.2.1 rfl, rfl⟩
theorem zd_14_97_20 : zz_D zy_isKeyword_14_97 20 (.lcmp) 1 21 := ⟨zq_148 zg_14_97_17.2.2.2.1, rfl⟩
theorem zd_14_97_21 : zz_B zy_isKeyword_14_97 21 (Instr.ifCond .eq) 104 24 := ⟨83, zq_153 zg_14_97_17.2.2.2.2.1 zg_14_97_17.2.2.2.2.2.1 zg_14_97_17.2.2.2.2.2.2.1 (by decide), rfl, rfl⟩
theorem zd_14_97_24 : zz_D zy_isKeyword_14_97 24 (.lload_n 1) 1 25 := ⟨zq_31 zg_14_97_17.2.2.2.2.2.2.2.1, rfl⟩
theorem zd_14_97_25 : zz_D zy_isKeyword_14_97 25 (.ldc2_w 538) 3 28 := ⟨zq_20 zg_14_97_17.2.2.2.2.2.2.2.2.1 zg_14_97_17.2.2.2.2.2.2.2.2.2.1 zg_14_97_17.2.2.2.2.2.2.2.2.2.2.1 rfl, rfl⟩
theorem zd_14_97_28 : zz_D zy_isKeyword_14_97 28 (.lcmp) 1 29 := ⟨zq_148 zg_14_97_17.2.2.2.2.2.2.2.2.2.2.2.1, rfl⟩
theorem zd_14_97_29 : zz_B zy_isKeyword_14_97 29 (Instr.ifCond .eq) 104 32 := ⟨75, zq_153 zg_14_97_17.2.2.2.2.2.2.2.2.2.2.2.2.1 zg_14_97_17.2.2.2.2.2.2.2.2.2.2.2.2.2.1 zg_14_97_17.2.2.2.2.2.2.2.2.2.2.2.2.2.2.1 (by decide), rfl, rfl⟩
theorem zd_14_97_32 : zz_D zy_isKeyword_14_97 32 (.lload_n 1) 1 33 := ⟨zq_31 zg_14_97_17.2.2.2.2.2.2.2.2.2.2.2.2.2.2.2.1, rfl⟩
theorem zd_14_97_33 : zz_D zy_isKeyword_14_97 33 (.ldc2_w 165) 3 36 := ⟨zq_20 zg_14_97_17.2.2.2.2.2.2.2.2.2.2.2.2.2.2.2.2.1 zg_14_97_17.2.2.2.2.2.2.2.2.2.2.2.2.2.2.2.2.2.1 zg_14_97_17.2.2.2.2.2.2.2.2.2.2.2.2.2.2.2.2.2.2.1 rfl, rfl⟩
theorem zd_14_97_36 : zz_D zy_isKeyword_14_97 36 (.lcmp) 1 37 := ⟨zq_148 zg_14_97_17.2.2.2.2.2.2.2.2.2.2.2.2.2.2.2.2.2.2.2.1, rfl⟩
theorem zd_14_97_37 : zz_B zy_isKeyword_14_97 37 (Instr.ifCond .eq) 104 40 := ⟨67, zq_153 zg_14_97_17.2.2.2.2.2.2.2.2.2.2.2.2.2.2.2.2.2.2.2.2.1 zg_14_97_17.2.2.2.2.2.2.2.2.2.2.2.2.2.2.2.2.2.2.2.2.2.1 zg_14_97_17.2.2.2.2.2.2.2.2.2.2.2.2.2.2.2.2.2.2.2.2.2.2.1 (by decide), rfl, rfl⟩
theorem zd_14_97_40 : zz_D zy_isKeyword_14_97 40 (.lload_n 1) 1 41 := ⟨zq_31 zg_14_97_17.2.2.2.2.2.2.2.2.2.2.2.2.2.2.2.2.2.2.2.2.2.2.2, rfl⟩
theorem zg_14_97_41 : zq_at zy_isKeyword_14_97.2.1 41 20 ∧ zq_at zy_isKeyword_14_97.2.1 42 0 ∧ zq_at zy_isKeyword_14_97.2.1 43 167 ∧ zq_at zy_isKeyword_14_97.2.1 44 148 ∧ zq_at zy_isKeyword_14_97.2.1 45 153 ∧ zq_at zy_isKeyword_14_97.2.1 46 0 ∧ zq_at zy_isKeyword_14_97.2.1 47 59 ∧ zq_at zy_isKeyword_14_97.2.1 48 31 ∧ zq_at zy_isKeyword_14_97.2.1 49 20 ∧ zq_at zy_isKeyword_14_97.2.1 50 2 ∧ zq_at zy_isKeyword_14_97.2.1 51 28 ∧ zq_at zy_isKeyword_14_97.2.1 52 148 ∧ zq_at zy_isKeyword_14_97.2.1 53 153 ∧ zq_at zy_isKeyword_14_97.2.1 54 0 ∧ zq_at zy_isKeyword_14_97.2.1 55 51 ∧ zq_at zy_isKeyword_14_97.2.1 56 31 ∧ zq_at zy_isKeyword_14_97.2.1 57 20 ∧ zq_at zy_isKeyword_14_97.2.1 58 0 ∧ zq_at zy_isKeyword_14_97.2.1 59 163 ∧ zq_at zy_isKeyword_14_97.2.1 60 148 ∧ zq_at zy_isKeyword_14_97.2.1 61 153 ∧ zq_at zy_isKeyword_14_97.2.1 62 0 ∧ zq_at zy_isKeyword_14_97.2.1 63 43 ∧ zq_at zy_isKeyword_14_97.2.1 64 31 := by decide +kernel
theorem zd_14_97_41 : zz_D zy_isKeyword_14_97 41 (.ldc2_w 167) 3 44 := ⟨zq_20 zg_14_97_41.1 zg_14_97_41.2.1 zg_14_97_41.2.2.1 rfl, rfl⟩
theorem zd_14_97_44 : zz_D zy_isKeyword_14_97 44 (.lcmp) 1 45 := ⟨zq_148 zg_14_97_41.2.2.2.1, rfl⟩
theorem zd_14_97_45 : zz_B zy_isKeyword_14_97 45 (Instr.ifCond .eq) 104 48 := ⟨59, zq_153 zg_14_97_41.2.2.2.2.1 zg_14_97_41.2.2.2.2.2.1 zg_14_97_41.2.2.2.2.2.2.1 (by decide), rfl, rfl⟩
theorem zd_14_97_48 : zz_D zy_isKeyword_14_97 48 (.lload_n 1) 1 49 := ⟨zq_31 zg_14_97_41.2.2.2.2.2.2.2.1, rfl⟩
theorem zd_14_97_49 : zz_D zy_isKeyword_14_97 49 (.ldc2_w 540) 3 52 := ⟨zq_20 zg_14_97_41.2.2.2.2.2.2.2.2.1 zg_14_97_41.2.2.2.2.2.2.2.2.2.1 zg_14_97_41.2.2.2.2.2.2.2.2.2.2.1 rfl, rfl⟩
theorem zd_14_97_52 : zz_D zy_isKeyword_14_97 52 (.lcmp) 1 53 := ⟨zq_148 zg_14_97_41.2.2.2.2.2.2.2.2.2.2.2.1, rfl⟩
theorem zd_14_97_53 : zz_B zy_isKeyword_14_97 53 (Instr.ifCond .eq) 104 56 := ⟨51, zq_153 zg_14_97_41.2.2.2.2.2.2.2.2.2.2.2.2.1 zg_14_97_41.2.2.2.2.2.2.2.2.2.2.2.2.2.1 zg_14_97_41.2.2.2.2.2.2.2.2.2.2.2.2.2.2.1 (by decide), rfl, rfl⟩
theorem zd_14_97_56 : zz_D zy_isKeyword_14_97 56 (.lload_n 1) 1 57 := ⟨zq_31 zg_14_97_41.2.2.2.2.2.2.2.2.2.2.2.2.2.2.2.1, rfl⟩
theorem zd_14_97_57 : zz_D zy_isKeyword_14_97 57 (.ldc2_w 163) 3 60 := ⟨zq_20 zg_14_97_41.2.2.2.2.2.2.2.2.2.2.2.2.2.2.2.2.1 zg_14_97_41.2.2.2.2.2.2.2.2.2.2.2.2.2.2.2.2.2.1 zg_14_97_41.2.2.2.2.2.2.2.2.2.2.2.2.2.2.2.2.2.2.1 rfl, rfl⟩
theorem zd_14_97_60 : zz_D zy_isKeyword_14_97 60 (.lcmp) 1 61 := ⟨zq_148 zg_14_97_41.2.2.2.2.2.2.2.2.2.2.2.2.2.2.2.2.2.2.2.1, rfl⟩
theorem zd_14_97_61 : zz_B zy_isKeyword_14_97 61 (Instr.ifCond .eq) 104 64 := ⟨43, zq_153 zg_14_97_41.2.2.2.2.2.2.2.2.2.2.2.2.2.2.2.2.2.2.2.2.1 zg_14_97_41.2.2.2.2.2.2.2.2.2.2.2.2.2.2.2.2.2.2.2.2.2.1 zg_14_97_41.2.2.2.2.2.2.2.2.2.2.2.2.2.2.2.2.2.2.2.2.2.2.1 (by decide), rfl, rfl⟩
theorem zd_14_97_64 : zz_D zy_isKeyword_14_97 64 (.lload_n 1) 1 65 := ⟨zq_31 zg_14_97_41.2.2.2.2.2.2.2.2.2.2.2.2.2.2.2.2.2.2.2.2.2.2.2, rfl⟩
theorem zg_14_97_65 : zq_at zy_isKeyword_14_97.2.1 65 20 ∧ zq_at zy_isKeyword_14_97.2.1 66 0 ∧ zq_at zy_isKeyword_14_97.2.1 67 171 ∧ zq_at zy_isKeyword_14_97.2.1 68 148 ∧ zq_at zy_isKeyword_14_97.2.1 69 153 ∧ zq_at zy_isKeyword_14_97.2.1 70 0 ∧ zq_at zy_isKeyword_14_97.2.1 71 35 ∧ zq_at zy_isKeyword_14_97.2.1 72 31 ∧ zq_at zy_isKeyword_14_97.2.1 73 20 ∧ zq_at zy_isKeyword_14_97.2.1 74 2 ∧ zq_at zy_isKeyword_14_97.2.1 75 30 ∧ zq_at zy_isKeyword_14_97.2.1 76 148 ∧ zq_at zy_isKeyword_14_97.2.1 77 153 ∧ zq_at zy_isKeyword_14_97.2.1 78 0 ∧ zq_at zy_isKeyword_14_97.2.1 79 27 ∧ zq_at zy_isKeyword_14_97.2.1 80 31 ∧ zq_at zy_isKeyword_14_97.2.1 81 20 ∧ zq_at zy_isKeyword_14_97.2.1 82 2 ∧ zq_at zy_isKeyword_14_97.2.1 83 32 ∧ zq_at zy_isKeyword_14_97.2.1 84 148 ∧ zq_at zy_isKeyword_14_97.2.1 85 153 ∧ zq_at zy_isKeyword_14_97.2.1 86 0 ∧ zq_at zy_isKeyword_14_97.2.1 87 19 ∧ zq_at zy_isKeyword_14_97.2.1 88 31 := by decide +kernel
theorem zd_14_97_65 : zz_D zy_isKeyword_14_97 65 (.ldc2_w 171) 3 68 := ⟨zq_20 zg_14_97_65.1 zg_14_97_65.2.1 zg_14_97_65.2.2.1 rfl, rfl⟩
theorem zd_14_97_68 : zz_D zy_isKeyword_14_97 68 (.lcmp) 1 69 := ⟨zq_148 zg_14_97_65.2.2.2.1, rfl⟩
theorem zd_14_97_69 : zz_B zy_isKeyword_14_97 69 (Instr.ifCond .eq) 104 72 := ⟨35, zq_153 zg_14_97_65.2.2.2.2.1 zg_14_97_65.2.2.2.2.2.1 zg_14_97_65.2.2.2.2.2.2.1 (by decide), rfl, rfl⟩
theorem zd_14_97_72 : zz_D zy_isKeyword_14_97 72 (.lload_n 1) 1 73 := ⟨zq_31 zg_14_97_65.2.2.2.2.2.2.2.1, rfl⟩
theorem zd_14_97_73 : zz_D zy_isKeyword_14_97 73 (.ldc2_w 542) 3 76 := ⟨zq_20 zg_14_97_65.2.2.2.2.2.2.2.2.1 zg_14_97_65.2.2.2.2.2.2.2.2.2.1 zg_14_97_65.2.2.2.2.2.2.2.2.2.2.1 rfl, rfl⟩
theorem zd_14_97_76 : zz_D zy_isKeyword_14_97 76 (.lcmp) 1 77 := ⟨zq_148 zg_14_97_65.2.2.2.2.2.2.2.2.2.2.2.1, rfl⟩
theorem zd_14_97_77 : zz_B zy_isKeyword_14_97 77 (Instr.ifCond .eq) 104 80 := ⟨27, zq_153 zg_14_97_65.2.2.2.2.2.2.2.2.2.2.2.2.1 zg_14_97_65.2.2.2.2.2.2.2.2.2.2.2.2.2.1 zg_14_97_65.2.2.2.2.2.2.2.2.2.2.2.2.2.2.1 (by decide), rfl, rfl⟩
theorem zd_14_97_80 : zz_D zy_isKeyword_14_97 80 (.lload_n 1) 1 81 := ⟨zq_31 zg_14_97_65.2.2.2.2.2.2.2.2.2.2.2.2.2.2.2.1, rfl⟩
theorem zd_14_97_81 : zz_D zy_isKeyword_14_97 81 (.ldc2_w 544) 3 84 := ⟨zq_20 zg_14_97_65.2.2.2.2.2.2.2.2.2.2.2.2.2.2.2.2.1 zg_14_97_65.2.2.2.2.2.2.2.2.2.2.2.2.2.2.2.2.2.1 zg_14_97_65.2.2.2.2.2.2.2.2.2.2.2.2.2.2.2.2.2.2.1 rfl, rfl⟩
theorem zd_14_97_84 : zz_D zy_isKeyword_14_97 84 (.lcmp) 1 85 := ⟨zq_148 zg_14_97_65.2.2.2.2.2.2.2.2.2.2.2.2.2.2.2.2.2.2.2.1, rfl⟩
theorem zd_14_97_85 : zz_B zy_isKeyword_14_97 85 (Instr.ifCond .eq) 104 88 := ⟨19, zq_153 zg_14_97_65.2.2.2.2.2.2.2.2.2.2.2.2.2.2.2.2.2.2.2.2.1 zg_14_97_65.2.2.2.2.2.2.2.2.2.2.2.2.2.2.2.2.2.2.2.2.2.1 zg_14_97_65.2.2.2.2.2.2.2.2.2.2.2.2.2.2.2.2.2.2.2.2.2.2.1 (by decide), rfl, rfl⟩
theorem zd_14_97_88 : zz_D zy_isKeyword_14_97 88 (.lload_n 1) 1 89 := ⟨zq_31 zg_14_97_65.2.2.2.2.2.2.2.2.2.2.2.2.2.2.2.2.2.2.2.2.2.2.2, rfl⟩
theorem zg_14_97_89 : zq_at zy_isKeyword_14_97.2.1 89 20 ∧ zq_at zy_isKeyword_14_97.2.1 90 2 ∧ zq_at zy_isKeyword_14_97.2.1 91 34 ∧ zq_at zy_isKeyword_14_97.2.1 92 148 ∧ zq_at zy_isKeyword_14_97.2.1 93 153 ∧ zq_at zy_isKeyword_14_97.2.1 94 0 ∧ zq_at zy_isKeyword_14_97.2.1 95 11 ∧ zq_at zy_isKeyword_14_97.2.1 96 31 ∧ zq_at zy_isKeyword_14_97.2.1 97 20 ∧ zq_at zy_isKeyword_14_97.2.1 98 2 ∧ zq_at zy_isKeyword_14_97.2.1 99 36 ∧ zq_at zy_isKeyword_14_97.2.1 100 148 ∧ zq_at zy_isKeyword_14_97.2.1 101 154 ∧ zq_at zy_isKeyword_14_97.2.1 102 0 ∧ zq_at zy_isKeyword_14_97.2.1 103 7 ∧ zq_at zy_isKeyword_14_97.2.1 108 3 := by decide +kernel
theorem zd_14_97_89 : zz_D zy_isKeyword_14_97 89 (.ldc2_w 546) 3 92 := ⟨zq_20 zg_14_97_89.1 zg_14_97_89.2.1 zg_14_97_89.2.2.1 rfl, rfl⟩
theorem zd_14_97_92 : zz_D zy_isKeyword_14_97 92 (.lcmp) 1 93 := ⟨zq_148 zg_14_97_89.2.2.2.1, rfl⟩
theorem zd_14_97_93 : zz_B zy_isKeyword_14_97 93 (Instr.ifCond .eq) 104 96 := ⟨11, zq_153 zg_14_97_89.2.2.2.2.1 zg_14_97_89.2.2.2.2.2.1 zg_14_97_89.2.2.2.2.2.2.1 (by decide), rfl, rfl⟩
theorem zd_14_97_96 : zz_D zy_isKeyword_14_97 96 (.lload_n 1) 1 97 := ⟨zq_31 zg_14_97_89.2.2.2.2.2.2.2.1, rfl⟩
theorem zd_14_97_97 : zz_D zy_isKeyword_14_97 97 (.ldc2_w 548) 3 100 := ⟨zq_20 zg_14_97_89.2.2.2.2.2.2.2.2.1 zg_14_97_89.2.2.2.2.2.2.2.2.2.1 zg_14_97_89.2.2.2.2.2.2.2.2.2.2.1 rfl, rfl⟩
theorem zd_14_97_100 : zz_D zy_isKeyword_14_97 100 (.lcmp) 1 101 := ⟨zq_148 zg_14_97_89.2.2.2.2.2.2.2.2.2.2.2.1, rfl⟩
theorem zd_14_97_101 : zz_B zy_isKeyword_14_97 101 (Instr.ifCond .ne) 108 104 := ⟨7, zq_154 zg_14_97_89.2.2.2.2.2.2.2.2.2.2.2.2.1 zg_14_97_89.2.2.2.2.2.2.2.2.2.2.2.2.2.1 zg_14_97_89.2.2.2.2.2.2.2.2.2.2.2.2.2.2.1 (by decide), rfl, rfl⟩
theorem zd_14_97_108 : zz_D zy_isKeyword_14_97 108 (.iconst 0) 1 109 := ⟨zq_3 zg_14_97_89.2.2.2.2.2.2.2.2.2.2.2.2.2.2.2, rfl⟩
-- TensorForgeModel isKeyword (J)Z
abbrev zr_isKeyword_14_97 : Room := { frames := 0, cells := 0, slots := 0, locals := 0 }
def zp_isKeyword_14_97 (p0 : Int) (S0 : zz_S) : Int → zz_S → Prop := fun r S => S0 = S ∧ (0 ≤ r ∧ r ≤ 1) ∧ ((r = 1 ∧ zt_kw p0) ∨ (r = 0 ∧ ¬ zt_kw p0))
theorem zc_isKeyword_14_97 {g : mm_G} {l : Launch} (p0 : Int) (S0 : zz_S) (n : Nat) (hn : zz_end ≤ n) (G_S0 : zz_G S0) (hp0 : (-9223372036854775808) ≤ p0 ∧ p0 ≤ 9223372036854775807) : mm_Met g l zy_isKeyword_14_97 zr_isKeyword_14_97 [.ref 1079, zl p0] (zz_M S0 n) n (zz_QI n (zp_isKeyword_14_97 p0 S0)) := by
  refine zz_enter (by decide) (Nat.le_of_ble_eq_true rfl) (zz_less (ls1 := [some (.ref 1079), some (zl p0), none]) ⟨rfl, ⟨rfl, trivial⟩⟩ ?_)
  refine zz_lload_n (x := p0) rfl zd_14_97_0 ?_
  refine zz_ldc2 (z := 21676489) zq_Md_532 (by decide) zd_14_97_1 ?_
  refine zz_lcmp (by omega) (by omega) zd_14_97_4 (fun v1 hv1 => ?_)
  refine zz_if_eq (by omega) zd_14_97_5 (fun c2 => ?_) (fun c2 => ?_)
  · refine zz_iconst zd_14_97_104 ?_
    refine zz_goto zd_14_97_105 ?_
    exact zz_zret zd_14_97_109 rfl (by omega) (Nat.zero_le _) (Nat.zero_le _) ⟨_, _, rfl, rfl, by omega, (by unfold zt_kw; omega)⟩
  · refine zz_lload_n (x := p0) rfl zd_14_97_8 ?_
    refine zz_ldc2 (z := 735715) zq_Md_534 (by decide) zd_14_97_9 ?_
    refine zz_lcmp (by omega) (by omega) zd_14_97_12 (fun v3 hv3 => ?_)
    refine zz_if_eq (by omega) zd_14_97_13 (fun c4 => ?_) (fun c4 => ?_)
    · refine zz_iconst zd_14_97_104 ?_
      refine zz_goto zd_14_97_105 ?_
      exact zz_zret zd_14_97_109 rfl (by omega) (Nat.zero_le _) (Nat.zero_le _) ⟨_, _, rfl, rfl, by omega, (by unfold zt_kw; omega)⟩
    · refine zz_lload_n (x := p0) rfl zd_14_97_16 ?_
      refine zz_ldc2 (z := 409072) zq_Md_536 (by decide) zd_14_97_17 ?_
      refine zz_lcmp (by omega) (by omega) zd_14_97_20 (fun v5 hv5 => ?_)
      refine zz_if_eq (by omega) zd_14_97_21 (fun c6 => ?_) (fun c6 => ?_)
      · refine zz_iconst zd_14_97_104 ?_
        refine zz_goto zd_14_97_105 ?_
        exact zz_zret zd_14_97_109 rfl (by omega) (Nat.zero_le _) (Nat.zero_le _) ⟨_, _, rfl, rfl, by omega, (by unfold zt_kw; omega)⟩
      · refine zz_lload_n (x := p0) rfl zd_14_97_24 ?_
        refine zz_ldc2 (z := 4225) zq_Md_538 (by decide) zd_14_97_25 ?_
        refine zz_lcmp (by omega) (by omega) zd_14_97_28 (fun v7 hv7 => ?_)
        refine zz_if_eq (by omega) zd_14_97_29 (fun c8 => ?_) (fun c8 => ?_)
        · refine zz_iconst zd_14_97_104 ?_
          refine zz_goto zd_14_97_105 ?_
          exact zz_zret zd_14_97_109 rfl (by omega) (Nat.zero_le _) (Nat.zero_le _) ⟨_, _, rfl, rfl, by omega, (by unfold zt_kw; omega)⟩
        · refine zz_lload_n (x := p0) rfl zd_14_97_32 ?_
          refine zz_ldc2 (z := 802) zq_Md_165 (by decide) zd_14_97_33 ?_
          refine zz_lcmp (by omega) (by omega) zd_14_97_36 (fun v9 hv9 => ?_)
          refine zz_if_eq (by omega) zd_14_97_37 (fun c10 => ?_) (fun c10 => ?_)
          · refine zz_iconst zd_14_97_104 ?_
            refine zz_goto zd_14_97_105 ?_
            exact zz_zret zd_14_97_109 rfl (by omega) (Nat.zero_le _) (Nat.zero_le _) ⟨_, _, rfl, rfl, by omega, (by unfold zt_kw; omega)⟩
          · refine zz_lload_n (x := p0) rfl zd_14_97_40 ?_
            refine zz_ldc2 (z := 24) zq_Md_167 (by decide) zd_14_97_41 ?_
            refine zz_lcmp (by omega) (by omega) zd_14_97_44 (fun v11 hv11 => ?_)
            refine zz_if_eq (by omega) zd_14_97_45 (fun c12 => ?_) (fun c12 => ?_)
            · refine zz_iconst zd_14_97_104 ?_
              refine zz_goto zd_14_97_105 ?_
              exact zz_zret zd_14_97_109 rfl (by omega) (Nat.zero_le _) (Nat.zero_le _) ⟨_, _, rfl, rfl, by omega, (by unfold zt_kw; omega)⟩
            · refine zz_lload_n (x := p0) rfl zd_14_97_48 ?_
              refine zz_ldc2 (z := 21094748847) zq_Md_540 (by decide) zd_14_97_49 ?_
              refine zz_lcmp (by omega) (by omega) zd_14_97_52 (fun v13 hv13 => ?_)
              refine zz_if_eq (by omega) zd_14_97_53 (fun c14 => ?_) (fun c14 => ?_)
              · refine zz_iconst zd_14_97_104 ?_
                refine zz_goto zd_14_97_105 ?_
                exact zz_zret zd_14_97_109 rfl (by omega) (Nat.zero_le _) (Nat.zero_le _) ⟨_, _, rfl, rfl, by omega, (by unfold zt_kw; omega)⟩
              · refine zz_lload_n (x := p0) rfl zd_14_97_56 ?_
                refine zz_ldc2 (z := 641) zq_Md_163 (by decide) zd_14_97_57 ?_
                refine zz_lcmp (by omega) (by omega) zd_14_97_60 (fun v15 hv15 => ?_)
                refine zz_if_eq (by omega) zd_14_97_61 (fun c16 => ?_) (fun c16 => ?_)
                · refine zz_iconst zd_14_97_104 ?_
                  refine zz_goto zd_14_97_105 ?_
                  exact zz_zret zd_14_97_109 rfl (by omega) (Nat.zero_le _) (Nat.zero_le _) ⟨_, _, rfl, rfl, by omega, (by unfold zt_kw; omega)⟩
                · refine zz_lload_n (x := p0) rfl zd_14_97_64 ?_
                  refine zz_ldc2 (z := 530067) zq_Md_171 (by decide) zd_14_97_65 ?_
                  refine zz_lcmp (by omega) (by omega) zd_14_97_68 (fun v17 hv17 => ?_)
                  refine zz_if_eq (by omega) zd_14_97_69 (fun c18 => ?_) (fun c18 => ?_)
                  · refine zz_iconst zd_14_97_104 ?_
                    refine zz_goto zd_14_97_105 ?_
                    exact zz_zret zd_14_97_109 rfl (by omega) (Nat.zero_le _) (Nat.zero_le _) ⟨_, _, rfl, rfl, by omega, (by unfold zt_kw; omega)⟩
                  · refine zz_lload_n (x := p0) rfl zd_14_97_72 ?_
                    refine zz_ldc2 (z := 171141) zq_Md_542 (by decide) zd_14_97_73 ?_
                    refine zz_lcmp (by omega) (by omega) zd_14_97_76 (fun v19 hv19 => ?_)
                    refine zz_if_eq (by omega) zd_14_97_77 (fun c20 => ?_) (fun c20 => ?_)
                    · refine zz_iconst zd_14_97_104 ?_
                      refine zz_goto zd_14_97_105 ?_
                      exact zz_zret zd_14_97_109 rfl (by omega) (Nat.zero_le _) (Nat.zero_le _) ⟨_, _, rfl, rfl, by omega, (by unfold zt_kw; omega)⟩
                    · refine zz_lload_n (x := p0) rfl zd_14_97_80 ?_
                      refine zz_ldc2 (z := 21177619) zq_Md_544 (by decide) zd_14_97_81 ?_
                      refine zz_lcmp (by omega) (by omega) zd_14_97_84 (fun v21 hv21 => ?_)
                      refine zz_if_eq (by omega) zd_14_97_85 (fun c22 => ?_) (fun c22 => ?_)
                      · refine zz_iconst zd_14_97_104 ?_
                        refine zz_goto zd_14_97_105 ?_
                        exact zz_zret zd_14_97_109 rfl (by omega) (Nat.zero_le _) (Nat.zero_le _) ⟨_, _, rfl, rfl, by omega, (by unfold zt_kw; omega)⟩
                      · refine zz_lload_n (x := p0) rfl zd_14_97_88 ?_
                        refine zz_ldc2 (z := 700594) zq_Md_546 (by decide) zd_14_97_89 ?_
                        refine zz_lcmp (by omega) (by omega) zd_14_97_92 (fun v23 hv23 => ?_)
                        refine zz_if_eq (by omega) zd_14_97_93 (fun c24 => ?_) (fun c24 => ?_)
                        · refine zz_iconst zd_14_97_104 ?_
                          refine zz_goto zd_14_97_105 ?_
                          exact zz_zret zd_14_97_109 rfl (by omega) (Nat.zero_le _) (Nat.zero_le _) ⟨_, _, rfl, rfl, by omega, (by unfold zt_kw; omega)⟩
                        · refine zz_lload_n (x := p0) rfl zd_14_97_96 ?_
                          refine zz_ldc2 (z := 609) zq_Md_548 (by decide) zd_14_97_97 ?_
                          refine zz_lcmp (by omega) (by omega) zd_14_97_100 (fun v25 hv25 => ?_)
                          refine zz_if_ne (by omega) zd_14_97_101 (fun c26 => ?_) (fun c26 => ?_)
                          · refine zz_iconst zd_14_97_108 ?_
                            exact zz_zret zd_14_97_109 rfl (by omega) (Nat.zero_le _) (Nat.zero_le _) ⟨_, _, rfl, rfl, by omega, (by unfold zt_kw; omega)⟩
                          · refine zz_iconst zd_14_97_104 ?_
                            refine zz_goto zd_14_97_105 ?_
                            exact zz_zret zd_14_97_109 rfl (by omega) (Nat.zero_le _) (Nat.zero_le _) ⟨_, _, rfl, rfl, by omega, (by unfold zt_kw; omega)⟩
abbrev zy_named_14_98 : mm_Y := (⟨"TensorForgeModel", "named", "(J)I"⟩, prog_14_method_98_code, 5, (some .int))
theorem zyw_named_14_98 : mm_Yw zy_named_14_98 1 := ⟨mm_tb_1 2218 (by decide +kernel) rfl, mm_tb_1 12 (by decide +kernel) rfl, ⟨by decide, by decide⟩, by decide +kernel⟩
theorem zf_Md_133 : mm_Fl "TensorForgeModel" 133 11 62 (.array .long) true := ⟨R_Md, F_Md, 69, t_Md, rfl, i_Md, by decide, mm_tb_1 1673 (by decide +kernel) rfl, rfl, t_Md_ok, n_Md, rfl, by decide +kernel⟩
theorem zg_14_98_0 : zq_at zy_named_14_98.2.1 0 2 ∧ zq_at zy_named_14_98.2.1 1 62 ∧ zq_at zy_named_14_98.2.1 2 3 ∧ zq_at zy_named_14_98.2.1 3 54 ∧ zq_at zy_named_14_98.2.1 4 4 ∧ zq_at zy_named_14_98.2.1 5 21 ∧ zq_at zy_named_14_98.2.1 6 4 ∧ zq_at zy_named_14_98.2.1 7 42 ∧ zq_at zy_named_14_98.2.1 8 180 ∧ zq_at zy_named_14_98.2.1 9 0 ∧ zq_at zy_named_14_98.2.1 10 85 ∧ zq_at zy_named_14_98.2.1 11 162 ∧ zq_at zy_named_14_98.2.1 12 0 ∧ zq_at zy_named_14_98.2.1 13 28 ∧ zq_at zy_named_14_98.2.1 39 29 ∧ zq_at zy_named_14_98.2.1 40 172 ∧ zq_at zy_named_14_98.2.1 14 42 ∧ zq_at zy_named_14_98.2.1 15 180 ∧ zq_at zy_named_14_98.2.1 16 0 ∧ zq_at zy_named_14_98.2.1 17 133 ∧ zq_at zy_named_14_98.2.1 18 21 ∧ zq_at zy_named_14_98.2.1 19 4 ∧ zq_at zy_named_14_98.2.1 20 47 ∧ zq_at zy_named_14_98.2.1 21 31 := by decide +kernel
theorem zd_14_98_0 : zz_D zy_named_14_98 0 (.iconst (-1)) 1 1 := ⟨zq_2 zg_14_98_0.1, rfl⟩
theorem zd_14_98_1 : zz_D zy_named_14_98 1 (.istore_n 3) 1 2 := ⟨zq_62 zg_14_98_0.2.1, rfl⟩
theorem zd_14_98_2 : zz_D zy_named_14_98 2 (.iconst 0) 1 3 := ⟨zq_3 zg_14_98_0.2.2.1, rfl⟩
theorem zd_14_98_3 : zz_D zy_named_14_98 3 (.istore 4) 2 5 := ⟨zq_54 zg_14_98_0.2.2.2.1 zg_14_98_0.2.2.2.2.1, rfl⟩
theorem zd_14_98_5 : zz_D zy_named_14_98 5 (.iload 4) 2 7 := ⟨zq_21 zg_14_98_0.2.2.2.2.2.1 zg_14_98_0.2.2.2.2.2.2.1, rfl⟩
theorem zd_14_98_7 : zz_D zy_named_14_98 7 (.aload_n 0) 1 8 := ⟨zq_42 zg_14_98_0.2.2.2.2.2.2.2.1, rfl⟩
theorem zd_14_98_8 : zz_D zy_named_14_98 8 (.getfield 85) 3 11 := ⟨zq_180 zg_14_98_0.2.2.2.2.2.2.2.2.1 zg_14_98_0.2.2.2.2.2.2.2.2.2.1 zg_14_98_0.2.2.2.2.2.2.2.2.2.2.1 rfl, rfl⟩
theorem zd_14_98_11 : zz_B zy_named_14_98 11 (Instr.if_icmp .ge) 39 14 := ⟨28, zq_162 zg_14_98_0.2.2.2.2.2.2.2.2.2.2.2.1 zg_14_98_0.2.2.2.2.2.2.2.2.2.2.2.2.1 zg_14_98_0.2.2.2.2.2.2.2.2.2.2.2.2.2.1 (by decide), rfl, rfl⟩
theorem zd_14_98_39 : zz_D zy_named_14_98 39 (.iload_n 3) 1 40 := ⟨zq_29 zg_14_98_0.2.2.2.2.2.2.2.2.2.2.2.2.2.2.1, rfl⟩
theorem zd_14_98_40 : zz_D zy_named_14_98 40 (.ireturn) 1 41 := ⟨zq_172 zg_14_98_0.2.2.2.2.2.2.2.2.2.2.2.2.2.2.2.1, rfl⟩
theorem zd_14_98_14 : zz_D zy_named_14_98 14 (.aload_n 0) 1 15 := ⟨zq_42 zg_14_98_0.2.2.2.2.2.2.2.2.2.2.2.2.2.2.2.2.1, rfl⟩
theorem zd_14_98_15 : zz_D zy_named_14_98 15 (.getfield 133) 3 18 := ⟨zq_180 zg_14_98_0.2.2.2.2.2.2.2.2.2.2.2.2.2.2.2.2.2.1 zg_14_98_0.2.2.2.2.2.2.2.2.2.2.2.2.2.2.2.2.2.2.1 zg_14_98_0.2.2.2.2.2.2.2.2.2.2.2.2.2.2.2.2.2.2.2.1 rfl, rfl⟩
theorem zd_14_98_18 : zz_D zy_named_14_98 18 (.iload 4) 2 20 := ⟨zq_21 zg_14_98_0.2.2.2.2.2.2.2.2.2.2.2.2.2.2.2.2.2.2.2.2.1 zg_14_98_0.2.2.2.2.2.2.2.2.2.2.2.2.2.2.2.2.2.2.2.2.2.1, rfl⟩
theorem zd_14_98_20 : zz_D zy_named_14_98 20 (.laload) 1 21 := ⟨zq_47 zg_14_98_0.2.2.2.2.2.2.2.2.2.2.2.2.2.2.2.2.2.2.2.2.2.2.1, rfl⟩
theorem zd_14_98_21 : zz_D zy_named_14_98 21 (.lload_n 1) 1 22 := ⟨zq_31 zg_14_98_0.2.2.2.2.2.2.2.2.2.2.2.2.2.2.2.2.2.2.2.2.2.2.2, rfl⟩
theorem zg_14_98_22 : zq_at zy_named_14_98.2.1 22 148 ∧ zq_at zy_named_14_98.2.1 23 154 ∧ zq_at zy_named_14_98.2.1 24 0 ∧ zq_at zy_named_14_98.2.1 25 8 ∧ zq_at zy_named_14_98.2.1 31 29 ∧ zq_at zy_named_14_98.2.1 32 62 ∧ zq_at zy_named_14_98.2.1 33 132 ∧ zq_at zy_named_14_98.2.1 34 4 ∧ zq_at zy_named_14_98.2.1 35 1 ∧ zq_at zy_named_14_98.2.1 36 167 ∧ zq_at zy_named_14_98.2.1 37 255 ∧ zq_at zy_named_14_98.2.1 38 225 ∧ zq_at zy_named_14_98.2.1 26 21 ∧ zq_at zy_named_14_98.2.1 27 4 ∧ zq_at zy_named_14_98.2.1 28 167 ∧ zq_at zy_named_14_98.2.1 29 0 ∧ zq_at zy_named_14_98.2.1 30 4 := by decide +kernel
theorem zd_14_98_22 : zz_D zy_named_14_98 22 (.lcmp) 1 23 := ⟨zq_148 zg_14_98_22.1, rfl⟩
theorem zd_14_98_23 : zz_B zy_named_14_98 23 (Instr.ifCond .ne) 31 26 := ⟨8, zq_154 zg_14_98_22.2.1 zg_14_98_22.2.2.1 zg_14_98_22.2.2.2.1 (by decide), rfl, rfl⟩
theorem zd_14_98_31 : zz_D zy_named_14_98 31 (.iload_n 3) 1 32 := ⟨zq_29 zg_14_98_22.2.2.2.2.1, rfl⟩
theorem zd_14_98_32 : zz_D zy_named_14_98 32 (.istore_n 3) 1 33 := ⟨zq_62 zg_14_98_22.2.2.2.2.2.1, rfl⟩
theorem zd_14_98_33 : zz_D zy_named_14_98 33 (.iinc 4 1) 3 36 := ⟨zq_132 zg_14_98_22.2.2.2.2.2.2.1 zg_14_98_22.2.2.2.2.2.2.2.1 zg_14_98_22.2.2.2.2.2.2.2.2.1 (by decide), rfl⟩
theorem zd_14_98_36 : zz_B zy_named_14_98 36 Instr.goto 5 39 := ⟨(-31), zq_167 zg_14_98_22.2.2.2.2.2.2.2.2.2.1 zg_14_98_22.2.2.2.2.2.2.2.2.2.2.1 zg_14_98_22.2.2.2.2.2.2.2.2.2.2.2.1 (by decide), rfl, rfl⟩
theorem zd_14_98_26 : zz_D zy_named_14_98 26 (.iload 4) 2 28 := ⟨zq_21 zg_14_98_22.2.2.2.2.2.2.2.2.2.2.2.2.1 zg_14_98_22.2.2.2.2.2.2.2.2.2.2.2.2.2.1, rfl⟩
theorem zd_14_98_28 : zz_B zy_named_14_98 28 Instr.goto 32 31 := ⟨4, zq_167 zg_14_98_22.2.2.2.2.2.2.2.2.2.2.2.2.2.2.1 zg_14_98_22.2.2.2.2.2.2.2.2.2.2.2.2.2.2.2.1 zg_14_98_22.2.2.2.2.2.2.2.2.2.2.2.2.2.2.2.2 (by decide), rfl, rfl⟩
-- TensorForgeModel named (J)I
abbrev zr_named_14_98 : Room := { frames := 0, cells := 0, slots := 0, locals := 0 }
def zp_named_14_98 (p0 : Int) (S0 : zz_S) : Int → zz_S → Prop := fun r S => S0 = S ∧ ((-1) ≤ r ∧ r ≤ 10) ∧ (r = zt_nf (S0 1117) p0 (S0 1079 36).toNat)
theorem zb_named_14_98_5 {g : mm_G} {l : Launch} (p0 : Int) (S0 : zz_S) (n : Nat) (hn : zz_end ≤ n) (G_S0 : zz_G S0) (hp0 : (-9223372036854775808) ≤ p0 ∧ p0 ≤ 9223372036854775807) (x3 : Int) (x4 : Int) (S : zz_S) (G_S : zz_G S) (F_S : zz_fr [] [] (fun _ _ => False) S0 S) (i5_0 : (-1) ≤ x3 ∧ x3 ≤ 10) (i5_1 : 0 ≤ x4 ∧ x4 ≤ 11) (i5_2 : x4 ≤ S0 1079 36 ∨ x4 = 0) (i5_3 : x3 = zt_nf (S0 1117) p0 x4.toNat) (R : Nat) (hR : (S0 1079 36 - x4).toNat = R) (k5 : ∀ (x3 : Int) (x4 : Int) (S : zz_S), zz_G S → zz_fr [] [] (fun _ _ => False) S0 S → ((-1) ≤ x3 ∧ x3 ≤ 10) → (0 ≤ x4 ∧ x4 ≤ 11) → (x4 ≤ S0 1079 36 ∨ x4 = 0) → (x3 = zt_nf (S0 1117) p0 x4.toNat) → (S0 1079 36 - x4).toNat < R → zz_E g l zy_named_14_98 zr_named_14_98 (zz_QI n (zp_named_14_98 p0 S0)) S n 5 [some (.ref 1079), some (zl p0), none, some (zi x3), some (zi x4)] [] 0 0) : zz_E g l zy_named_14_98 zr_named_14_98 (zz_QI n (zp_named_14_98 p0 S0)) S n 5 [some (.ref 1079), some (zl p0), none, some (zi x3), some (zi x4)] [] 0 0 := by
  refine zz_iload (x := x4) rfl zd_14_98_5 ?_
  refine zz_aload_n (x := 1079) rfl zd_14_98_7 ?_
  have g2 := zz_G.r G_S0 1079 36 0 11 rfl rfl
  refine zz_geti (z := S0 1079 36) zd_14_98_8 zf_Md_85 zT_1079 rfl (zz_ltn hn rfl) (zz_rc F_S rfl rfl (fun h => h) rfl) ?_
  refine zz_icmp_ge (by omega) (by omega) zd_14_98_11 (fun c3 => ?_) (fun c3 => ?_)
  · refine zz_iload_n (x := x3) rfl zd_14_98_39 ?_
    exact zz_iret zd_14_98_40 rfl (Nat.zero_le _) (Nat.zero_le _) ⟨_, _, rfl, zz_fr.eq F_S, by omega, (by rw [show (S0 1079 36).toNat = x4.toNat by omega]; exact i5_3)⟩
  · refine zz_aload_n (x := 1079) rfl zd_14_98_14 ?_
    refine zz_getr (kd := 0) (z := 1117) zd_14_98_15 zf_Md_133 zT_1079 rfl (zz_ltn hn rfl) (zz_G.eq G_S 1079 62 1117 rfl rfl) (by decide) 1117 rfl ?_
    refine zz_iload (x := x4) rfl zd_14_98_18 ?_
    have g4 := zz_G.r G_S0 1117 x4.toNat (-9223372036854775808) 9223372036854775807 rfl rfl
    refine zz_lald (z := S0 1117 x4.toNat) zd_14_98_20 zT_1117 rfl (zz_ltn hn rfl) (by decide) (by omega) (zz_rc F_S (zz_nc1 rfl) rfl (fun h => h) rfl) ?_
    refine zz_lload_n (x := p0) rfl zd_14_98_21 ?_
    refine zz_lcmp (by omega) (by omega) zd_14_98_22 (fun v5 hv5 => ?_)
    refine zz_if_ne (by omega) zd_14_98_23 (fun c6 => ?_) (fun c6 => ?_)
    · refine zz_iload_n (x := x3) rfl zd_14_98_31 ?_
      refine zz_istore_n [some (.ref 1079), some (zl p0), none, some (zi x3), some (zi x4)] zd_14_98_32 (by decide) rfl ?_
      refine zz_iinc [some (.ref 1079), some (zl p0), none, some (zi x3), some (zi (x4 + 1))] zd_14_98_33 rfl rfl ?_
      refine zz_goto zd_14_98_36 ?_
      refine zz_less (ls1 := [some (.ref 1079), some (zl p0), none, some (zi x3), some (zi (x4 + 1))]) ⟨rfl, ⟨rfl, ⟨rfl, ⟨rfl, trivial⟩⟩⟩⟩ ?_
      exact k5 x3 (x4 + 1) S G_S F_S (by omega) (by omega) (by omega) (by rw [show (x4 + 1).toNat = x4.toNat + 1 by omega]; show x3 = (if S0 1117 x4.toNat = p0 then ((x4.toNat : Nat) : Int) else zt_nf (S0 1117) p0 x4.toNat); rw [if_neg (by omega)]; exact i5_3) (by omega)
    · refine zz_iload (x := x4) rfl zd_14_98_26 ?_
      refine zz_goto zd_14_98_28 ?_
      refine zz_istore_n [some (.ref 1079), some (zl p0), none, some (zi x4), some (zi x4)] zd_14_98_32 (by decide) rfl ?_
      refine zz_iinc [some (.ref 1079), some (zl p0), none, some (zi x4), some (zi (x4 + 1))] zd_14_98_33 rfl rfl ?_
      refine zz_goto zd_14_98_36 ?_
      refine zz_less (ls1 := [some (.ref 1079), some (zl p0), none, some (zi x4), some (zi (x4 + 1))]) ⟨rfl, ⟨rfl, ⟨rfl, ⟨rfl, trivial⟩⟩⟩⟩ ?_
      exact k5 x4 (x4 + 1) S G_S F_S (by omega) (by omega) (by omega) (by rw [show (x4 + 1).toNat = x4.toNat + 1 by omega]; show x4 = (if S0 1117 x4.toNat = p0 then ((x4.toNat : Nat) : Int) else zt_nf (S0 1117) p0 x4.toNat); rw [if_pos (by omega)]; omega) (by omega)
theorem zi_named_14_98 {g : mm_G} {l : Launch} (p0 : Int) (S0 : zz_S) (n : Nat) (hn : zz_end ≤ n) (G_S0 : zz_G S0) (hp0 : (-9223372036854775808) ≤ p0 ∧ p0 ≤ 9223372036854775807) : ∀ N : Nat, (∀ (x3 : Int) (x4 : Int) (S : zz_S), zz_G S → zz_fr [] [] (fun _ _ => False) S0 S → ((-1) ≤ x3 ∧ x3 ≤ 10) → (0 ≤ x4 ∧ x4 ≤ 11) → (x4 ≤ S0 1079 36 ∨ x4 = 0) → (x3 = zt_nf (S0 1117) p0 x4.toNat) → (S0 1079 36 - x4).toNat < N → zz_E g l zy_named_14_98 zr_named_14_98 (zz_QI n (zp_named_14_98 p0 S0)) S n 5 [some (.ref 1079), some (zl p0), none, some (zi x3), some (zi x4)] [] 0 0) := by
  intro N
  induction N with
  | zero => exact fun x3 x4 S _ _ _ _ _ _ h => absurd h (Nat.not_lt_zero _)
  | succ N ih =>
    exact fun x3 x4 S a b j0 j1 j2 j3 hR => zb_named_14_98_5 p0 S0 n hn G_S0 hp0 x3 x4 S a b j0 j1 j2 j3 _ rfl (fun x3 x4 S a b j0 j1 j2 j3 h => ih x3 x4 S a b j0 j1 j2 j3 (Nat.lt_of_lt_of_le h (Nat.le_of_lt_succ hR)))
theorem zc_named_14_98 {g : mm_G} {l : Launch} (p0 : Int) (S0 : zz_S) (n : Nat) (hn : zz_end ≤ n) (G_S0 : zz_G S0) (hp0 : (-9223372036854775808) ≤ p0 ∧ p0 ≤ 9223372036854775807) : mm_Met g l zy_named_14_98 zr_named_14_98 [.ref 1079, zl p0] (zz_M S0 n) n (zz_QI n (zp_named_14_98 p0 S0)) := by
  refine zz_enter (by decide) (Nat.le_of_ble_eq_true rfl) (zz_less (ls1 := [some (.ref 1079), some (zl p0), none]) ⟨rfl, ⟨rfl, trivial⟩⟩ ?_)
  have F_S0 : zz_fr [] [] (fun _ _ => False) S0 S0 := zz_fr.refl
  have k5 : ∀ (x3 : Int) (x4 : Int) (S : zz_S), zz_G S → zz_fr [] [] (fun _ _ => False) S0 S → ((-1) ≤ x3 ∧ x3 ≤ 10) → (0 ≤ x4 ∧ x4 ≤ 11) → (x4 ≤ S0 1079 36 ∨ x4 = 0) → (x3 = zt_nf (S0 1117) p0 x4.toNat) → zz_E g l zy_named_14_98 zr_named_14_98 (zz_QI n (zp_named_14_98 p0 S0)) S n 5 [some (.ref 1079), some (zl p0), none, some (zi x3), some (zi x4)] [] 0 0 := fun x3 x4 S a b j0 j1 j2 j3 => (zi_named_14_98 (g := g) (l := l) p0 S0 n hn G_S0 hp0 _) x3 x4 S a b j0 j1 j2 j3 (Nat.lt_succ_self _)
  refine zz_iconst zd_14_98_0 ?_
  refine zz_istore_n [some (.ref 1079), some (zl p0), none, some (zi (-1))] zd_14_98_1 (by decide) rfl ?_
  refine zz_iconst zd_14_98_2 ?_
  refine zz_istore [some (.ref 1079), some (zl p0), none, some (zi (-1)), some (zi 0)] zd_14_98_3 (by decide) rfl ?_
  have g1 := zz_G.r G_S0 1079 36 0 11 rfl rfl
  refine zz_less (ls1 := [some (.ref 1079), some (zl p0), none, some (zi (-1)), some (zi 0)]) ⟨rfl, ⟨rfl, ⟨rfl, ⟨rfl, trivial⟩⟩⟩⟩ ?_
  exact k5 (-1) 0 S0 G_S0 F_S0 (by omega) (by omega) (by omega) (by exact rfl)
abbrev zy_partOf_14_99 : mm_Y := (⟨"TensorForgeModel", "partOf", "()I"⟩, prog_14_method_99_code, 1, (some .int))
theorem zyw_partOf_14_99 : mm_Yw zy_partOf_14_99 0 := ⟨mm_tb_1 2226 (by decide +kernel) rfl, mm_tb_1 12 (by decide +kernel) rfl, ⟨by decide, by decide⟩, by decide +kernel⟩
theorem zg_14_99_0 : zq_at zy_partOf_14_99.2.1 0 42 ∧ zq_at zy_partOf_14_99.2.1 1 180 ∧ zq_at zy_partOf_14_99.2.1 2 1 ∧ zq_at zy_partOf_14_99.2.1 3 91 ∧ zq_at zy_partOf_14_99.2.1 4 16 ∧ zq_at zy_partOf_14_99.2.1 5 102 ∧ zq_at zy_partOf_14_99.2.1 6 159 ∧ zq_at zy_partOf_14_99.2.1 7 0 ∧ zq_at zy_partOf_14_99.2.1 8 5 ∧ zq_at zy_partOf_14_99.2.1 11 42 ∧ zq_at zy_partOf_14_99.2.1 12 180 ∧ zq_at zy_partOf_14_99.2.1 13 2 ∧ zq_at zy_partOf_14_99.2.1 14 10 ∧ zq_at zy_partOf_14_99.2.1 15 20 ∧ zq_at zy_partOf_14_99.2.1 16 0 ∧ zq_at zy_partOf_14_99.2.1 17 165 ∧ zq_at zy_partOf_14_99.2.1 18 148 ∧ zq_at zy_partOf_14_99.2.1 19 154 ∧ zq_at zy_partOf_14_99.2.1 20 0 ∧ zq_at zy_partOf_14_99.2.1 21 7 ∧ zq_at zy_partOf_14_99.2.1 26 42 ∧ zq_at zy_partOf_14_99.2.1 27 180 ∧ zq_at zy_partOf_14_99.2.1 28 2 ∧ zq_at zy_partOf_14_99.2.1 29 10 := by decide +kernel
theorem zd_14_99_0 : zz_D zy_partOf_14_99 0 (.aload_n 0) 1 1 := ⟨zq_42 zg_14_99_0.1, rfl⟩
theorem zd_14_99_1 : zz_D zy_partOf_14_99 1 (.getfield 347) 3 4 := ⟨zq_180 zg_14_99_0.2.1 zg_14_99_0.2.2.1 zg_14_99_0.2.2.2.1 rfl, rfl⟩
theorem zd_14_99_4 : zz_D zy_partOf_14_99 4 (.bipush 102) 2 6 := ⟨zq_16 zg_14_99_0.2.2.2.2.1 zg_14_99_0.2.2.2.2.2.1 (by decide), rfl⟩
theorem zd_14_99_6 : zz_B zy_partOf_14_99 6 (Instr.if_icmp .eq) 11 9 := ⟨5, zq_159 zg_14_99_0.2.2.2.2.2.2.1 zg_14_99_0.2.2.2.2.2.2.2.1 zg_14_99_0.2.2.2.2.2.2.2.2.1 (by decide), rfl, rfl⟩
theorem zd_14_99_11 : zz_D zy_partOf_14_99 11 (.aload_n 0) 1 12 := ⟨zq_42 zg_14_99_0.2.2.2.2.2.2.2.2.2.1, rfl⟩
theorem zd_14_99_12 : zz_D zy_partOf_14_99 12 (.getfield 522) 3 15 := ⟨zq_180 zg_14_99_0.2.2.2.2.2.2.2.2.2.2.1 zg_14_99_0.2.2.2.2.2.2.2.2.2.2.2.1 zg_14_99_0.2.2.2.2.2.2.2.2.2.2.2.2.1 rfl, rfl⟩
theorem zd_14_99_15 : zz_D zy_partOf_14_99 15 (.ldc2_w 165) 3 18 := ⟨zq_20 zg_14_99_0.2.2.2.2.2.2.2.2.2.2.2.2.2.1 zg_14_99_0.2.2.2.2.2.2.2.2.2.2.2.2.2.2.1 zg_14_99_0.2.2.2.2.2.2.2.2.2.2.2.2.2.2.2.1 rfl, rfl⟩
theorem zd_14_99_18 : zz_D zy_partOf_14_99 18 (.lcmp) 1 19 := ⟨zq_148 zg_14_99_0.2.2.2.2.2.2.2.2.2.2.2.2.2.2.2.2.1, rfl⟩
theorem zd_14_99_19 : zz_B zy_partOf_14_99 19 (Instr.ifCond .ne) 26 22 := ⟨7, zq_154 zg_14_99_0.2.2.2.2.2.2.2.2.2.2.2.2.2.2.2.2.2.1 zg_14_99_0.2.2.2.2.2.2.2.2.2.2.2.2.2.2.2.2.2.2.1 zg_14_99_0.2.2.2.2.2.2.2.2.2.2.2.2.2.2.2.2.2.2.2.1 (by decide), rfl, rfl⟩
theorem zd_14_99_26 : zz_D zy_partOf_14_99 26 (.aload_n 0) 1 27 := ⟨zq_42 zg_14_99_0.2.2.2.2.2.2.2.2.2.2.2.2.2.2.2.2.2.2.2.2.1, rfl⟩
theorem zd_14_99_27 : zz_D zy_partOf_14_99 27 (.getfield 522) 3 30 := ⟨zq_180 zg_14_99_0.2.2.2.2.2.2.2.2.2.2.2.2.2.2.2.2.2.2.2.2.2.1 zg_14_99_0.2.2.2.2.2.2.2.2.2.2.2.2.2.2.2.2.2.2.2.2.2.2.1 zg_14_99_0.2.2.2.2.2.2.2.2.2.2.2.2.2.2.2.2.2.2.2.2.2.2.2 rfl, rfl⟩
theorem zg_14_99_30 : zq_at zy_partOf_14_99.2.1 30 20 ∧ zq_at zy_partOf_14_99.2.1 31 2 ∧ zq_at zy_partOf_14_99.2.1 32 28 ∧ zq_at zy_partOf_14_99.2.1 33 148 ∧ zq_at zy_partOf_14_99.2.1 34 154 ∧ zq_at zy_partOf_14_99.2.1 35 0 ∧ zq_at zy_partOf_14_99.2.1 36 7 ∧ zq_at zy_partOf_14_99.2.1 41 42 ∧ zq_at zy_partOf_14_99.2.1 42 180 ∧ zq_at zy_partOf_14_99.2.1 43 2 ∧ zq_at zy_partOf_14_99.2.1 44 10 ∧ zq_at zy_partOf_14_99.2.1 45 20 ∧ zq_at zy_partOf_14_99.2.1 46 0 ∧ zq_at zy_partOf_14_99.2.1 47 163 ∧ zq_at zy_partOf_14_99.2.1 48 148 ∧ zq_at zy_partOf_14_99.2.1 49 154 ∧ zq_at zy_partOf_14_99.2.1 50 0 ∧ zq_at zy_partOf_14_99.2.1 51 7 ∧ zq_at zy_partOf_14_99.2.1 56 42 ∧ zq_at zy_partOf_14_99.2.1 57 180 ∧ zq_at zy_partOf_14_99.2.1 58 2 ∧ zq_at zy_partOf_14_99.2.1 59 10 := by decide +kernel
theorem zd_14_99_30 : zz_D zy_partOf_14_99 30 (.ldc2_w 540) 3 33 := ⟨zq_20 zg_14_99_30.1 zg_14_99_30.2.1 zg_14_99_30.2.2.1 rfl, rfl⟩
theorem zd_14_99_33 : zz_D zy_partOf_14_99 33 (.lcmp) 1 34 := ⟨zq_148 zg_14_99_30.2.2.2.1, rfl⟩
theorem zd_14_99_34 : zz_B zy_partOf_14_99 34 (Instr.ifCond .ne) 41 37 := ⟨7, zq_154 zg_14_99_30.2.2.2.2.1 zg_14_99_30.2.2.2.2.2.1 zg_14_99_30.2.2.2.2.2.2.1 (by decide), rfl, rfl⟩
theorem zd_14_99_41 : zz_D zy_partOf_14_99 41 (.aload_n 0) 1 42 := ⟨zq_42 zg_14_99_30.2.2.2.2.2.2.2.1, rfl⟩
theorem zd_14_99_42 : zz_D zy_partOf_14_99 42 (.getfield 522) 3 45 := ⟨zq_180 zg_14_99_30.2.2.2.2.2.2.2.2.1 zg_14_99_30.2.2.2.2.2.2.2.2.2.1 zg_14_99_30.2.2.2.2.2.2.2.2.2.2.1 rfl, rfl⟩
theorem zd_14_99_45 : zz_D zy_partOf_14_99 45 (.ldc2_w 163) 3 48 := ⟨zq_20 zg_14_99_30.2.2.2.2.2.2.2.2.2.2.2.1 zg_14_99_30.2.2.2.2.2.2.2.2.2.2.2.2.1 zg_14_99_30.2.2.2.2.2.2.2.2.2.2.2.2.2.1 rfl, rfl⟩
theorem zd_14_99_48 : zz_D zy_partOf_14_99 48 (.lcmp) 1 49 := ⟨zq_148 zg_14_99_30.2.2.2.2.2.2.2.2.2.2.2.2.2.2.1, rfl⟩
theorem zd_14_99_49 : zz_B zy_partOf_14_99 49 (Instr.ifCond .ne) 56 52 := ⟨7, zq_154 zg_14_99_30.2.2.2.2.2.2.2.2.2.2.2.2.2.2.2.1 zg_14_99_30.2.2.2.2.2.2.2.2.2.2.2.2.2.2.2.2.1 zg_14_99_30.2.2.2.2.2.2.2.2.2.2.2.2.2.2.2.2.2.1 (by decide), rfl, rfl⟩
theorem zd_14_99_56 : zz_D zy_partOf_14_99 56 (.aload_n 0) 1 57 := ⟨zq_42 zg_14_99_30.2.2.2.2.2.2.2.2.2.2.2.2.2.2.2.2.2.2.1, rfl⟩
theorem zd_14_99_57 : zz_D zy_partOf_14_99 57 (.getfield 522) 3 60 := ⟨zq_180 zg_14_99_30.2.2.2.2.2.2.2.2.2.2.2.2.2.2.2.2.2.2.2.1 zg_14_99_30.2.2.2.2.2.2.2.2.2.2.2.2.2.2.2.2.2.2.2.2.1 zg_14_99_30.2.2.2.2.2.2.2.2.2.2.2.2.2.2.2.2.2.2.2.2.2 rfl, rfl⟩
theorem zg_14_99_60 : zq_at zy_partOf_14_99.2.1 60 20 ∧ zq_at zy_partOf_14_99.2.1 61 0 ∧ zq_at zy_partOf_14_99.2.1 62 171 ∧ zq_at zy_partOf_14_99.2.1 63 148 ∧ zq_at zy_partOf_14_99.2.1 64 154 ∧ zq_at zy_partOf_14_99.2.1 65 0 ∧ zq_at zy_partOf_14_99.2.1 66 8 ∧ zq_at zy_partOf_14_99.2.1 72 42 ∧ zq_at zy_partOf_14_99.2.1 73 180 ∧ zq_at zy_partOf_14_99.2.1 74 2 ∧ zq_at zy_partOf_14_99.2.1 75 10 ∧ zq_at zy_partOf_14_99.2.1 76 20 ∧ zq_at zy_partOf_14_99.2.1 77 2 ∧ zq_at zy_partOf_14_99.2.1 78 30 ∧ zq_at zy_partOf_14_99.2.1 79 148 ∧ zq_at zy_partOf_14_99.2.1 80 154 ∧ zq_at zy_partOf_14_99.2.1 81 0 ∧ zq_at zy_partOf_14_99.2.1 82 8 ∧ zq_at zy_partOf_14_99.2.1 88 42 ∧ zq_at zy_partOf_14_99.2.1 89 180 ∧ zq_at zy_partOf_14_99.2.1 90 2 ∧ zq_at zy_partOf_14_99.2.1 91 10 := by decide +kernel
theorem zd_14_99_60 : zz_D zy_partOf_14_99 60 (.ldc2_w 171) 3 63 := ⟨zq_20 zg_14_99_60.1 zg_14_99_60.2.1 zg_14_99_60.2.2.1 rfl, rfl⟩
theorem zd_14_99_63 : zz_D zy_partOf_14_99 63 (.lcmp) 1 64 := ⟨zq_148 zg_14_99_60.2.2.2.1, rfl⟩
theorem zd_14_99_64 : zz_B zy_partOf_14_99 64 (Instr.ifCond .ne) 72 67 := ⟨8, zq_154 zg_14_99_60.2.2.2.2.1 zg_14_99_60.2.2.2.2.2.1 zg_14_99_60.2.2.2.2.2.2.1 (by decide), rfl, rfl⟩
theorem zd_14_99_72 : zz_D zy_partOf_14_99 72 (.aload_n 0) 1 73 := ⟨zq_42 zg_14_99_60.2.2.2.2.2.2.2.1, rfl⟩
theorem zd_14_99_73 : zz_D zy_partOf_14_99 73 (.getfield 522) 3 76 := ⟨zq_180 zg_14_99_60.2.2.2.2.2.2.2.2.1 zg_14_99_60.2.2.2.2.2.2.2.2.2.1 zg_14_99_60.2.2.2.2.2.2.2.2.2.2.1 rfl, rfl⟩
theorem zd_14_99_76 : zz_D zy_partOf_14_99 76 (.ldc2_w 542) 3 79 := ⟨zq_20 zg_14_99_60.2.2.2.2.2.2.2.2.2.2.2.1 zg_14_99_60.2.2.2.2.2.2.2.2.2.2.2.2.1 zg_14_99_60.2.2.2.2.2.2.2.2.2.2.2.2.2.1 rfl, rfl⟩
theorem zd_14_99_79 : zz_D zy_partOf_14_99 79 (.lcmp) 1 80 := ⟨zq_148 zg_14_99_60.2.2.2.2.2.2.2.2.2.2.2.2.2.2.1, rfl⟩
theorem zd_14_99_80 : zz_B zy_partOf_14_99 80 (Instr.ifCond .ne) 88 83 := ⟨8, zq_154 zg_14_99_60.2.2.2.2.2.2.2.2.2.2.2.2.2.2.2.1 zg_14_99_60.2.2.2.2.2.2.2.2.2.2.2.2.2.2.2.2.1 zg_14_99_60.2.2.2.2.2.2.2.2.2.2.2.2.2.2.2.2.2.1 (by decide), rfl, rfl⟩
theorem zd_14_99_88 : zz_D zy_partOf_14_99 88 (.aload_n 0) 1 89 := ⟨zq_42 zg_14_99_60.2.2.2.2.2.2.2.2.2.2.2.2.2.2.2.2.2.2.1, rfl⟩
theorem zd_14_99_89 : zz_D zy_partOf_14_99 89 (.getfield 522) 3 92 := ⟨zq_180 zg_14_99_60.2.2.2.2.2.2.2.2.2.2.2.2.2.2.2.2.2.2.2.1 zg_14_99_60.2.2.2.2.2.2.2.2.2.2.2.2.2.2.2.2.2.2.2.2.1 zg_14_99_60.2.2.2.2.2.2.2.2.2.2.2.2.2.2.2.2.2.2.2.2.2 rfl, rfl⟩
theorem zg_14_99_92 : zq_at zy_partOf_14_99.2.1 92 20 ∧ zq_at zy_partOf_14_99.2.1 93 2 ∧ zq_at zy_partOf_14_99.2.1 94 32 ∧ zq_at zy_partOf_14_99.2.1 95 148 ∧ zq_at zy_partOf_14_99.2.1 96 154 ∧ zq_at zy_partOf_14_99.2.1 97 0 ∧ zq_at zy_partOf_14_99.2.1 98 8 ∧ zq_at zy_partOf_14_99.2.1 104 42 ∧ zq_at zy_partOf_14_99.2.1 105 180 ∧ zq_at zy_partOf_14_99.2.1 106 2 ∧ zq_at zy_partOf_14_99.2.1 107 10 ∧ zq_at zy_partOf_14_99.2.1 108 20 ∧ zq_at zy_partOf_14_99.2.1 109 2 ∧ zq_at zy_partOf_14_99.2.1 110 34 ∧ zq_at zy_partOf_14_99.2.1 111 148 ∧ zq_at zy_partOf_14_99.2.1 112 154 ∧ zq_at zy_partOf_14_99.2.1 113 0 ∧ zq_at zy_partOf_14_99.2.1 114 8 ∧ zq_at zy_partOf_14_99.2.1 120 42 ∧ zq_at zy_partOf_14_99.2.1 121 180 ∧ zq_at zy_partOf_14_99.2.1 122 2 ∧ zq_at zy_partOf_14_99.2.1 123 10 := by decide +kernel
theorem zd_14_99_92 : zz_D zy_partOf_14_99 92 (.ldc2_w 544) 3 95 := ⟨zq_20 zg_14_99_92.1 zg_14_99_92.2.1 zg_14_99_92.2.2.1 rfl, rfl⟩
theorem zd_14_99_95 : zz_D zy_partOf_14_99 95 (.lcmp) 1 96 := ⟨zq_148 zg_14_99_92.2.2.2.1, rfl⟩
theorem zd_14_99_96 : zz_B zy_partOf_14_99 96 (Instr.ifCond .ne) 104 99 := ⟨8, zq_154 zg_14_99_92.2.2.2.2.1 zg_14_99_92.2.2.2.2.2.1 zg_14_99_92.2.2.2.2.2.2.1 (by decide), rfl, rfl⟩
theorem zd_14_99_104 : zz_D zy_partOf_14_99 104 (.aload_n 0) 1 105 := ⟨zq_42 zg_14_99_92.2.2.2.2.2.2.2.1, rfl⟩
theorem zd_14_99_105 : zz_D zy_partOf_14_99 105 (.getfield 522) 3 108 := ⟨zq_180 zg_14_99_92.2.2.2.2.2.2.2.2.1 zg_14_99_92.2.2.2.2.2.2.2.2.2.1 zg_14_99_92.2.2.2.2.2.2.2.2.2.2.1 rfl, rfl⟩
theorem zd_14_99_108 : zz_D zy_partOf_14_99 108 (.ldc2_w 546) 3 111 := ⟨zq_20 zg_14_99_92.2.2.2.2.2.2.2.2.2.2.2.1 zg_14_99_92.2.2.2.2.2.2.2.2.2.2.2.2.1 zg_14_99_92.2.2.2.2.2.2.2.2.2.2.2.2.2.1 rfl, rfl⟩
theorem zd_14_99_111 : zz_D zy_partOf_14_99 111 (.lcmp) 1 112 := ⟨zq_148 zg_14_99_92.2.2.2.2.2.2.2.2.2.2.2.2.2.2.1, rfl⟩
theorem zd_14_99_112 : zz_B zy_partOf_14_99 112 (Instr.ifCond .ne) 120 115 := ⟨8, zq_154 zg_14_99_92.2.2.2.2.2.2.2.2.2.2.2.2.2.2.2.1 zg_14_99_92.2.2.2.2.2.2.2.2.2.2.2.2.2.2.2.2.1 zg_14_99_92.2.2.2.2.2.2.2.2.2.2.2.2.2.2.2.2.2.1 (by decide), rfl, rfl⟩
theorem zd_14_99_120 : zz_D zy_partOf_14_99 120 (.aload_n 0) 1 121 := ⟨zq_42 zg_14_99_92.2.2.2.2.2.2.2.2.2.2.2.2.2.2.2.2.2.2.1, rfl⟩
theorem zd_14_99_121 : zz_D zy_partOf_14_99 121 (.getfield 522) 3 124 := ⟨zq_180 zg_14_99_92.2.2.2.2.2.2.2.2.2.2.2.2.2.2.2.2.2.2.2.1 zg_14_99_92.2.2.2.2.2.2.2.2.2.2.2.2.2.2.2.2.2.2.2.2.1 zg_14_99_92.2.2.2.2.2.2.2.2.2.2.2.2.2.2.2.2.2.2.2.2.2 rfl, rfl⟩
theorem zg_14_99_124 : zq_at zy_partOf_14_99.2.1 124 20 ∧ zq_at zy_partOf_14_99.2.1 125 2 ∧ zq_at zy_partOf_14_99.2.1 126 36 ∧ zq_at zy_partOf_14_99.2.1 127 148 ∧ zq_at zy_partOf_14_99.2.1 128 154 ∧ zq_at zy_partOf_14_99.2.1 129 0 ∧ zq_at zy_partOf_14_99.2.1 130 9 ∧ zq_at zy_partOf_14_99.2.1 137 3 ∧ zq_at zy_partOf_14_99.2.1 138 172 ∧ zq_at zy_partOf_14_99.2.1 131 17 ∧ zq_at zy_partOf_14_99.2.1 132 0 ∧ zq_at zy_partOf_14_99.2.1 133 128 ∧ zq_at zy_partOf_14_99.2.1 134 167 ∧ zq_at zy_partOf_14_99.2.1 135 0 ∧ zq_at zy_partOf_14_99.2.1 136 4 ∧ zq_at zy_partOf_14_99.2.1 115 16 ∧ zq_at zy_partOf_14_99.2.1 116 64 ∧ zq_at zy_partOf_14_99.2.1 117 167 ∧ zq_at zy_partOf_14_99.2.1 118 0 ∧ zq_at zy_partOf_14_99.2.1 119 21 ∧ zq_at zy_partOf_14_99.2.1 99 16 ∧ zq_at zy_partOf_14_99.2.1 100 32 := by decide +kernel
theorem zd_14_99_124 : zz_D zy_partOf_14_99 124 (.ldc2_w 548) 3 127 := ⟨zq_20 zg_14_99_124.1 zg_14_99_124.2.1 zg_14_99_124.2.2.1 rfl, rfl⟩
theorem zd_14_99_127 : zz_D zy_partOf_14_99 127 (.lcmp) 1 128 := ⟨zq_148 zg_14_99_124.2.2.2.1, rfl⟩
theorem zd_14_99_128 : zz_B zy_partOf_14_99 128 (Instr.ifCond .ne) 137 131 := ⟨9, zq_154 zg_14_99_124.2.2.2.2.1 zg_14_99_124.2.2.2.2.2.1 zg_14_99_124.2.2.2.2.2.2.1 (by decide), rfl, rfl⟩
theorem zd_14_99_137 : zz_D zy_partOf_14_99 137 (.iconst 0) 1 138 := ⟨zq_3 zg_14_99_124.2.2.2.2.2.2.2.1, rfl⟩
theorem zd_14_99_138 : zz_D zy_partOf_14_99 138 (.ireturn) 1 139 := ⟨zq_172 zg_14_99_124.2.2.2.2.2.2.2.2.1, rfl⟩
theorem zd_14_99_131 : zz_D zy_partOf_14_99 131 (.sipush 128) 3 134 := ⟨zq_17 zg_14_99_124.2.2.2.2.2.2.2.2.2.1 zg_14_99_124.2.2.2.2.2.2.2.2.2.2.1 zg_14_99_124.2.2.2.2.2.2.2.2.2.2.2.1 (by decide), rfl⟩
theorem zd_14_99_134 : zz_B zy_partOf_14_99 134 Instr.goto 138 137 := ⟨4, zq_167 zg_14_99_124.2.2.2.2.2.2.2.2.2.2.2.2.1 zg_14_99_124.2.2.2.2.2.2.2.2.2.2.2.2.2.1 zg_14_99_124.2.2.2.2.2.2.2.2.2.2.2.2.2.2.1 (by decide), rfl, rfl⟩
theorem zd_14_99_115 : zz_D zy_partOf_14_99 115 (.bipush 64) 2 117 := ⟨zq_16 zg_14_99_124.2.2.2.2.2.2.2.2.2.2.2.2.2.2.2.1 zg_14_99_124.2.2.2.2.2.2.2.2.2.2.2.2.2.2.2.2.1 (by decide), rfl⟩
theorem zd_14_99_117 : zz_B zy_partOf_14_99 117 Instr.goto 138 120 := ⟨21, zq_167 zg_14_99_124.2.2.2.2.2.2.2.2.2.2.2.2.2.2.2.2.2.1 zg_14_99_124.2.2.2.2.2.2.2.2.2.2.2.2.2.2.2.2.2.2.1 zg_14_99_124.2.2.2.2.2.2.2.2.2.2.2.2.2.2.2.2.2.2.2.1 (by decide), rfl, rfl⟩
theorem zd_14_99_99 : zz_D zy_partOf_14_99 99 (.bipush 32) 2 101 := ⟨zq_16 zg_14_99_124.2.2.2.2.2.2.2.2.2.2.2.2.2.2.2.2.2.2.2.2.1 zg_14_99_124.2.2.2.2.2.2.2.2.2.2.2.2.2.2.2.2.2.2.2.2.2 (by decide), rfl⟩
theorem zg_14_99_101 : zq_at zy_partOf_14_99.2.1 101 167 ∧ zq_at zy_partOf_14_99.2.1 102 0 ∧ zq_at zy_partOf_14_99.2.1 103 37 ∧ zq_at zy_partOf_14_99.2.1 83 16 ∧ zq_at zy_partOf_14_99.2.1 84 16 ∧ zq_at zy_partOf_14_99.2.1 85 167 ∧ zq_at zy_partOf_14_99.2.1 86 0 ∧ zq_at zy_partOf_14_99.2.1 87 53 ∧ zq_at zy_partOf_14_99.2.1 67 16 ∧ zq_at zy_partOf_14_99.2.1 68 8 ∧ zq_at zy_partOf_14_99.2.1 69 167 ∧ zq_at zy_partOf_14_99.2.1 70 0 ∧ zq_at zy_partOf_14_99.2.1 71 69 ∧ zq_at zy_partOf_14_99.2.1 52 7 ∧ zq_at zy_partOf_14_99.2.1 53 167 ∧ zq_at zy_partOf_14_99.2.1 54 0 ∧ zq_at zy_partOf_14_99.2.1 55 85 ∧ zq_at zy_partOf_14_99.2.1 37 5 ∧ zq_at zy_partOf_14_99.2.1 38 167 ∧ zq_at zy_partOf_14_99.2.1 39 0 ∧ zq_at zy_partOf_14_99.2.1 40 100 ∧ zq_at zy_partOf_14_99.2.1 22 4 := by decide +kernel
theorem zd_14_99_101 : zz_B zy_partOf_14_99 101 Instr.goto 138 104 := ⟨37, zq_167 zg_14_99_101.1 zg_14_99_101.2.1 zg_14_99_101.2.2.1 (by decide), rfl, rfl⟩
theorem zd_14_99_83 : zz_D zy_partOf_14_99 83 (.bipush 16) 2 85 := ⟨zq_16 zg_14_99_101.2.2.2.1 zg_14_99_101.2.2.2.2.1 (by decide), rfl⟩
theorem zd_14_99_85 : zz_B zy_partOf_14_99 85 Instr.goto 138 88 := ⟨53, zq_167 zg_14_99_101.2.2.2.2.2.1 zg_14_99_101.2.2.2.2.2.2.1 zg_14_99_101.2.2.2.2.2.2.2.1 (by decide), rfl, rfl⟩
theorem zd_14_99_67 : zz_D zy_partOf_14_99 67 (.bipush 8) 2 69 := ⟨zq_16 zg_14_99_101.2.2.2.2.2.2.2.2.1 zg_14_99_101.2.2.2.2.2.2.2.2.2.1 (by decide), rfl⟩
theorem zd_14_99_69 : zz_B zy_partOf_14_99 69 Instr.goto 138 72 := ⟨69, zq_167 zg_14_99_101.2.2.2.2.2.2.2.2.2.2.1 zg_14_99_101.2.2.2.2.2.2.2.2.2.2.2.1 zg_14_99_101.2.2.2.2.2.2.2.2.2.2.2.2.1 (by decide), rfl, rfl⟩
theorem zd_14_99_52 : zz_D zy_partOf_14_99 52 (.iconst 4) 1 53 := ⟨zq_7 zg_14_99_101.2.2.2.2.2.2.2.2.2.2.2.2.2.1, rfl⟩
theorem zd_14_99_53 : zz_B zy_partOf_14_99 53 Instr.goto 138 56 := ⟨85, zq_167 zg_14_99_101.2.2.2.2.2.2.2.2.2.2.2.2.2.2.1 zg_14_99_101.2.2.2.2.2.2.2.2.2.2.2.2.2.2.2.1 zg_14_99_101.2.2.2.2.2.2.2.2.2.2.2.2.2.2.2.2.1 (by decide), rfl, rfl⟩
theorem zd_14_99_37 : zz_D zy_partOf_14_99 37 (.iconst 2) 1 38 := ⟨zq_5 zg_14_99_101.2.2.2.2.2.2.2.2.2.2.2.2.2.2.2.2.2.1, rfl⟩
theorem zd_14_99_38 : zz_B zy_partOf_14_99 38 Instr.goto 138 41 := ⟨100, zq_167 zg_14_99_101.2.2.2.2.2.2.2.2.2.2.2.2.2.2.2.2.2.2.1 zg_14_99_101.2.2.2.2.2.2.2.2.2.2.2.2.2.2.2.2.2.2.2.1 zg_14_99_101.2.2.2.2.2.2.2.2.2.2.2.2.2.2.2.2.2.2.2.2.1 (by decide), rfl, rfl⟩
theorem zd_14_99_22 : zz_D zy_partOf_14_99 22 (.iconst 1) 1 23 := ⟨zq_4 zg_14_99_101.2.2.2.2.2.2.2.2.2.2.2.2.2.2.2.2.2.2.2.2.2, rfl⟩
theorem zg_14_99_23 : zq_at zy_partOf_14_99.2.1 23 167 ∧ zq_at zy_partOf_14_99.2.1 24 0 ∧ zq_at zy_partOf_14_99.2.1 25 115 ∧ zq_at zy_partOf_14_99.2.1 9 3 ∧ zq_at zy_partOf_14_99.2.1 10 172 := by decide +kernel
theorem zd_14_99_23 : zz_B zy_partOf_14_99 23 Instr.goto 138 26 := ⟨115, zq_167 zg_14_99_23.1 zg_14_99_23.2.1 zg_14_99_23.2.2.1 (by decide), rfl, rfl⟩
theorem zd_14_99_9 : zz_D zy_partOf_14_99 9 (.iconst 0) 1 10 := ⟨zq_3 zg_14_99_23.2.2.2.1, rfl⟩
theorem zd_14_99_10 : zz_D zy_partOf_14_99 10 (.ireturn) 1 11 := ⟨zq_172 zg_14_99_23.2.2.2.2, rfl⟩
