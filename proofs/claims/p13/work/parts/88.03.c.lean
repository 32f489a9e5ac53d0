-- TensorForge$Layer parametersSize (LTensorForge$Layer;)I
abbrev zr_parametersSize_4_12 : Room := { frames := 0, cells := 0, slots := 0, locals := 0 }
def zp_parametersSize_4_12 (t : Int) (p0 : Int) (S0 : zz_S) : Int → zz_S → Prop := fun r S => S0 = S ∧ ((-2147483648) ≤ r ∧ r ≤ 2147483647)
theorem zc_parametersSize_4_12 {g : mm_G} {l : Launch} (t : Int) (p0 : Int) (S0 : zz_S) (n : Nat) (hn : zz_end ≤ n) (G_S0 : zz_G S0) (ht : 0 ≤ t ∧ t ≤ 23) (hp0 : 0 ≤ p0 ∧ p0 ≤ 23) : mm_Met g l zy_parametersSize_4_12 zr_parametersSize_4_12 [.ref (zz_rf 6 t), .ref (zz_rf 6 p0)] (zz_M S0 n) n (zz_QI n (zp_parametersSize_4_12 t p0 S0)) := by
  refine zz_enter (by decide) (Nat.le_of_ble_eq_true rfl) (zz_less (ls1 := [some (.ref (zz_rf 6 t)), some (.ref (zz_rf 6 p0))]) ⟨rfl, ⟨rfl, trivial⟩⟩ ?_)
  have b_p0 := zz_rf6 (z := p0) (by omega)
  have b_t := zz_rf6 (z := t) (by omega)
  refine zz_aload_n (x := zz_rf 6 t) rfl zd_4_12_0 ?_
  have g1 := zz_G.r G_S0 (zz_rf 6 t) 12 (-2147483648) 2147483647 (zR_k6_12 (by omega)) (zB_k6 (by omega))
  refine zz_geti (z := S0 (zz_rf 6 t) 12) zd_4_12_1 zf_Layer_60 (zT_k6 (by omega)) rfl (zN_k6 hn (by omega)) rfl ?_
  refine zz_iconst zd_4_12_4 ?_
  refine zz_aload_n (x := zz_rf 6 t) rfl zd_4_12_5 ?_
  have g2 := zz_G.r G_S0 (zz_rf 6 t) 3 (-2147483648) 2147483647 (zR_k6_3 (by omega)) (zB_k6 (by omega))
  refine zz_geti (z := S0 (zz_rf 6 t) 3) zd_4_12_6 zf_Layer_23 (zT_k6 (by omega)) rfl (zN_k6 hn (by omega)) rfl ?_
  refine zz_aload_n (x := zz_rf 6 t) rfl zd_4_12_9 ?_
  have g3 := zz_G.r G_S0 (zz_rf 6 t) 4 (-2147483648) 2147483647 (zR_k6_4 (by omega)) (zB_k6 (by omega))
  refine zz_geti (z := S0 (zz_rf 6 t) 4) zd_4_12_10 zf_Layer_26 (zT_k6 (by omega)) rfl (zN_k6 hn (by omega)) rfl ?_
  refine zz_imul zd_4_12_13 ?_
  refine zz_nrm (fun v4 hv4 ev4 => ?_)
  refine zz_aload_n (x := zz_rf 6 p0) rfl zd_4_12_14 ?_
  have g5 := zz_G.r G_S0 (zz_rf 6 p0) 12 (-2147483648) 2147483647 (zR_k6_12 (by omega)) (zB_k6 (by omega))
  refine zz_geti (z := S0 (zz_rf 6 p0) 12) zd_4_12_15 zf_Layer_60 (zT_k6 (by omega)) rfl (zN_k6 hn (by omega)) rfl ?_
  refine zz_imul zd_4_12_18 ?_
  refine zz_nrm (fun v6 hv6 ev6 => ?_)
  refine zz_iadd zd_4_12_19 ?_
  refine zz_nrm (fun v7 hv7 ev7 => ?_)
  refine zz_imul zd_4_12_20 ?_
  refine zz_nrm (fun v8 hv8 ev8 => ?_)
  exact zz_iret zd_4_12_21 rfl (Nat.zero_le _) (Nat.zero_le _) ⟨_, _, rfl, rfl, by omega⟩
theorem zk_Layer_69 : mm_Vl "TensorForge$Layer" 69 2 1 zy_parametersSize_4_12 := ⟨zyw_parametersSize_4_12, (R_Layer, F_Layer, 15), rfl, mm_tb_1 1005 (by decide +kernel) rfl, mm_tb_1 1007 (by decide +kernel) rfl, mm_tb_s 50 (by decide +kernel) rfl⟩
theorem zg_4_11_180 : (decode zy_takeResult_4_11.2.1 180 = .ok ((.isub), 1)) ∧ (decode zy_takeResult_4_11.2.1 181 = .ok ((Instr.if_icmp .le) 5, 3)) ∧ (decode zy_takeResult_4_11.2.1 186 = .ok ((.aload_n 0), 1)) ∧ (decode zy_takeResult_4_11.2.1 187 = .ok ((.getfield 54), 3)) ∧ (decode zy_takeResult_4_11.2.1 190 = .ok ((.iconst 1), 1)) ∧ (decode zy_takeResult_4_11.2.1 191 = .ok ((.bipush 63), 2)) ∧ (decode zy_takeResult_4_11.2.1 193 = .ok ((.invokestatic 63), 3)) ∧ (decode zy_takeResult_4_11.2.1 196 = .ok ((Instr.ifCond .eq) 20, 3)) ∧ (decode zy_takeResult_4_11.2.1 216 = .ok ((.iconst 0), 1)) ∧ (decode zy_takeResult_4_11.2.1 217 = .ok ((.ireturn), 1)) := by decide +kernel
theorem zd_4_11_180 : zz_D zy_takeResult_4_11 180 (.isub) 1 181 := ⟨zg_4_11_180.1, rfl⟩
theorem zd_4_11_181 : zz_B zy_takeResult_4_11 181 (Instr.if_icmp .le) 186 184 := ⟨5, zg_4_11_180.2.1, rfl, rfl⟩
theorem zd_4_11_186 : zz_D zy_takeResult_4_11 186 (.aload_n 0) 1 187 := ⟨zg_4_11_180.2.2.1, rfl⟩
theorem zd_4_11_187 : zz_D zy_takeResult_4_11 187 (.getfield 54) 3 190 := ⟨zg_4_11_180.2.2.2.1, rfl⟩
theorem zd_4_11_190 : zz_D zy_takeResult_4_11 190 (.iconst 1) 1 191 := ⟨zg_4_11_180.2.2.2.2.1, rfl⟩
theorem zd_4_11_191 : zz_D zy_takeResult_4_11 191 (.bipush 63) 2 193 := ⟨zg_4_11_180.2.2.2.2.2.1, rfl⟩
theorem zd_4_11_193 : zz_D zy_takeResult_4_11 193 (.invokestatic 63) 3 196 := ⟨zg_4_11_180.2.2.2.2.2.2.1, rfl⟩
theorem zd_4_11_196 : zz_B zy_takeResult_4_11 196 (Instr.ifCond .eq) 216 199 := ⟨20, zg_4_11_180.2.2.2.2.2.2.2.1, rfl, rfl⟩
theorem zd_4_11_216 : zz_D zy_takeResult_4_11 216 (.iconst 0) 1 217 := ⟨zg_4_11_180.2.2.2.2.2.2.2.2.1, rfl⟩
theorem zd_4_11_217 : zz_D zy_takeResult_4_11 217 (.ireturn) 1 218 := ⟨zg_4_11_180.2.2.2.2.2.2.2.2.2, rfl⟩
theorem zg_4_11_199 : (decode zy_takeResult_4_11.2.1 199 = .ok ((.aload_n 0), 1)) ∧ (decode zy_takeResult_4_11.2.1 200 = .ok ((.getfield 57), 3)) ∧ (decode zy_takeResult_4_11.2.1 203 = .ok ((.iconst 1), 1)) ∧ (decode zy_takeResult_4_11.2.1 204 = .ok ((.bipush 63), 2)) ∧ (decode zy_takeResult_4_11.2.1 206 = .ok ((.invokestatic 63), 3)) ∧ (decode zy_takeResult_4_11.2.1 209 = .ok ((Instr.ifCond .eq) 7, 3)) ∧ (decode zy_takeResult_4_11.2.1 212 = .ok ((.iconst 1), 1)) ∧ (decode zy_takeResult_4_11.2.1 213 = .ok (Instr.goto 4, 3)) ∧ (decode zy_takeResult_4_11.2.1 150 = .ok ((.aload_n 0), 1)) ∧ (decode zy_takeResult_4_11.2.1 151 = .ok ((.aload_n 1), 1)) := by decide +kernel
theorem zd_4_11_199 : zz_D zy_takeResult_4_11 199 (.aload_n 0) 1 200 := ⟨zg_4_11_199.1, rfl⟩
theorem zd_4_11_200 : zz_D zy_takeResult_4_11 200 (.getfield 57) 3 203 := ⟨zg_4_11_199.2.1, rfl⟩
theorem zd_4_11_203 : zz_D zy_takeResult_4_11 203 (.iconst 1) 1 204 := ⟨zg_4_11_199.2.2.1, rfl⟩
theorem zd_4_11_204 : zz_D zy_takeResult_4_11 204 (.bipush 63) 2 206 := ⟨zg_4_11_199.2.2.2.1, rfl⟩
theorem zd_4_11_206 : zz_D zy_takeResult_4_11 206 (.invokestatic 63) 3 209 := ⟨zg_4_11_199.2.2.2.2.1, rfl⟩
theorem zd_4_11_209 : zz_B zy_takeResult_4_11 209 (Instr.ifCond .eq) 216 212 := ⟨7, zg_4_11_199.2.2.2.2.2.1, rfl, rfl⟩
theorem zd_4_11_212 : zz_D zy_takeResult_4_11 212 (.iconst 1) 1 213 := ⟨zg_4_11_199.2.2.2.2.2.2.1, rfl⟩
theorem zd_4_11_213 : zz_B zy_takeResult_4_11 213 Instr.goto 217 216 := ⟨4, zg_4_11_199.2.2.2.2.2.2.2.1, rfl, rfl⟩
theorem zd_4_11_150 : zz_D zy_takeResult_4_11 150 (.aload_n 0) 1 151 := ⟨zg_4_11_199.2.2.2.2.2.2.2.2.1, rfl⟩
theorem zd_4_11_151 : zz_D zy_takeResult_4_11 151 (.aload_n 1) 1 152 := ⟨zg_4_11_199.2.2.2.2.2.2.2.2.2, rfl⟩
theorem zg_4_11_152 : (decode zy_takeResult_4_11.2.1 152 = .ok ((.getfield 60), 3)) ∧ (decode zy_takeResult_4_11.2.1 155 = .ok ((.putfield 60), 3)) ∧ (decode zy_takeResult_4_11.2.1 158 = .ok (Instr.goto 28, 3)) ∧ (decode zy_takeResult_4_11.2.1 8 = .ok ((.aload_n 0), 1)) ∧ (decode zy_takeResult_4_11.2.1 9 = .ok ((.aload_n 1), 1)) ∧ (decode zy_takeResult_4_11.2.1 10 = .ok ((.getfield 54), 3)) ∧ (decode zy_takeResult_4_11.2.1 13 = .ok ((.aload_n 1), 1)) ∧ (decode zy_takeResult_4_11.2.1 14 = .ok ((.getfield 57), 3)) ∧ (decode zy_takeResult_4_11.2.1 17 = .ok ((.aload_n 1), 1)) ∧ (decode zy_takeResult_4_11.2.1 18 = .ok ((.getfield 60), 3)) := by decide +kernel
theorem zd_4_11_152 : zz_D zy_takeResult_4_11 152 (.getfield 60) 3 155 := ⟨zg_4_11_152.1, rfl⟩
theorem zd_4_11_155 : zz_D zy_takeResult_4_11 155 (.putfield 60) 3 158 := ⟨zg_4_11_152.2.1, rfl⟩
theorem zd_4_11_158 : zz_B zy_takeResult_4_11 158 Instr.goto 186 161 := ⟨28, zg_4_11_152.2.2.1, rfl, rfl⟩
theorem zd_4_11_8 : zz_D zy_takeResult_4_11 8 (.aload_n 0) 1 9 := ⟨zg_4_11_152.2.2.2.1, rfl⟩
theorem zd_4_11_9 : zz_D zy_takeResult_4_11 9 (.aload_n 1) 1 10 := ⟨zg_4_11_152.2.2.2.2.1, rfl⟩
theorem zd_4_11_10 : zz_D zy_takeResult_4_11 10 (.getfield 54) 3 13 := ⟨zg_4_11_152.2.2.2.2.2.1, rfl⟩
theorem zd_4_11_13 : zz_D zy_takeResult_4_11 13 (.aload_n 1) 1 14 := ⟨zg_4_11_152.2.2.2.2.2.2.1, rfl⟩
theorem zd_4_11_14 : zz_D zy_takeResult_4_11 14 (.getfield 57) 3 17 := ⟨zg_4_11_152.2.2.2.2.2.2.2.1, rfl⟩
theorem zd_4_11_17 : zz_D zy_takeResult_4_11 17 (.aload_n 1) 1 18 := ⟨zg_4_11_152.2.2.2.2.2.2.2.2.1, rfl⟩
theorem zd_4_11_18 : zz_D zy_takeResult_4_11 18 (.getfield 60) 3 21 := ⟨zg_4_11_152.2.2.2.2.2.2.2.2.2, rfl⟩
theorem zg_4_11_21 : (decode zy_takeResult_4_11.2.1 21 = .ok ((.invokevirtual 45), 3)) ∧ (decode zy_takeResult_4_11.2.1 24 = .ok ((.aload_n 0), 1)) ∧ (decode zy_takeResult_4_11.2.1 25 = .ok ((.getfield 54), 3)) ∧ (decode zy_takeResult_4_11.2.1 28 = .ok ((.aload_n 2), 1)) ∧ (decode zy_takeResult_4_11.2.1 29 = .ok ((.getfield 54), 3)) ∧ (decode zy_takeResult_4_11.2.1 32 = .ok ((Instr.if_icmp .ne) 29, 3)) ∧ (decode zy_takeResult_4_11.2.1 61 = .ok ((.iconst 0), 1)) ∧ (decode zy_takeResult_4_11.2.1 62 = .ok ((.ireturn), 1)) ∧ (decode zy_takeResult_4_11.2.1 35 = .ok ((.aload_n 0), 1)) ∧ (decode zy_takeResult_4_11.2.1 36 = .ok ((.getfield 57), 3)) := by decide +kernel
theorem zd_4_11_21 : zz_D zy_takeResult_4_11 21 (.invokevirtual 45) 3 24 := ⟨zg_4_11_21.1, rfl⟩
theorem zd_4_11_24 : zz_D zy_takeResult_4_11 24 (.aload_n 0) 1 25 := ⟨zg_4_11_21.2.1, rfl⟩
theorem zd_4_11_25 : zz_D zy_takeResult_4_11 25 (.getfield 54) 3 28 := ⟨zg_4_11_21.2.2.1, rfl⟩
theorem zd_4_11_28 : zz_D zy_takeResult_4_11 28 (.aload_n 2) 1 29 := ⟨zg_4_11_21.2.2.2.1, rfl⟩
theorem zd_4_11_29 : zz_D zy_takeResult_4_11 29 (.getfield 54) 3 32 := ⟨zg_4_11_21.2.2.2.2.1, rfl⟩
theorem zd_4_11_32 : zz_B zy_takeResult_4_11 32 (Instr.if_icmp .ne) 61 35 := ⟨29, zg_4_11_21.2.2.2.2.2.1, rfl, rfl⟩
theorem zd_4_11_61 : zz_D zy_takeResult_4_11 61 (.iconst 0) 1 62 := ⟨zg_4_11_21.2.2.2.2.2.2.1, rfl⟩
theorem zd_4_11_62 : zz_D zy_takeResult_4_11 62 (.ireturn) 1 63 := ⟨zg_4_11_21.2.2.2.2.2.2.2.1, rfl⟩
theorem zd_4_11_35 : zz_D zy_takeResult_4_11 35 (.aload_n 0) 1 36 := ⟨zg_4_11_21.2.2.2.2.2.2.2.2.1, rfl⟩
theorem zd_4_11_36 : zz_D zy_takeResult_4_11 36 (.getfield 57) 3 39 := ⟨zg_4_11_21.2.2.2.2.2.2.2.2.2, rfl⟩
theorem zg_4_11_39 : (decode zy_takeResult_4_11.2.1 39 = .ok ((.aload_n 2), 1)) ∧ (decode zy_takeResult_4_11.2.1 40 = .ok ((.getfield 57), 3)) ∧ (decode zy_takeResult_4_11.2.1 43 = .ok ((Instr.if_icmp .ne) 18, 3)) ∧ (decode zy_takeResult_4_11.2.1 46 = .ok ((.aload_n 0), 1)) ∧ (decode zy_takeResult_4_11.2.1 47 = .ok ((.getfield 60), 3)) ∧ (decode zy_takeResult_4_11.2.1 50 = .ok ((.aload_n 2), 1)) ∧ (decode zy_takeResult_4_11.2.1 51 = .ok ((.getfield 60), 3)) ∧ (decode zy_takeResult_4_11.2.1 54 = .ok ((Instr.if_icmp .ne) 7, 3)) ∧ (decode zy_takeResult_4_11.2.1 57 = .ok ((.iconst 1), 1)) ∧ (decode zy_takeResult_4_11.2.1 58 = .ok (Instr.goto 4, 3)) := by decide +kernel
theorem zd_4_11_39 : zz_D zy_takeResult_4_11 39 (.aload_n 2) 1 40 := ⟨zg_4_11_39.1, rfl⟩
theorem zd_4_11_40 : zz_D zy_takeResult_4_11 40 (.getfield 57) 3 43 := ⟨zg_4_11_39.2.1, rfl⟩
theorem zd_4_11_43 : zz_B zy_takeResult_4_11 43 (Instr.if_icmp .ne) 61 46 := ⟨18, zg_4_11_39.2.2.1, rfl, rfl⟩
theorem zd_4_11_46 : zz_D zy_takeResult_4_11 46 (.aload_n 0) 1 47 := ⟨zg_4_11_39.2.2.2.1, rfl⟩
theorem zd_4_11_47 : zz_D zy_takeResult_4_11 47 (.getfield 60) 3 50 := ⟨zg_4_11_39.2.2.2.2.1, rfl⟩
theorem zd_4_11_50 : zz_D zy_takeResult_4_11 50 (.aload_n 2) 1 51 := ⟨zg_4_11_39.2.2.2.2.2.1, rfl⟩
theorem zd_4_11_51 : zz_D zy_takeResult_4_11 51 (.getfield 60) 3 54 := ⟨zg_4_11_39.2.2.2.2.2.2.1, rfl⟩
theorem zd_4_11_54 : zz_B zy_takeResult_4_11 54 (Instr.if_icmp .ne) 61 57 := ⟨7, zg_4_11_39.2.2.2.2.2.2.2.1, rfl, rfl⟩
theorem zd_4_11_57 : zz_D zy_takeResult_4_11 57 (.iconst 1) 1 58 := ⟨zg_4_11_39.2.2.2.2.2.2.2.2.1, rfl⟩
theorem zd_4_11_58 : zz_B zy_takeResult_4_11 58 Instr.goto 62 61 := ⟨4, zg_4_11_39.2.2.2.2.2.2.2.2.2, rfl, rfl⟩
-- TensorForge$Layer takeResult (LTensorForge$Layer;LTensorForge$Layer;)Z
abbrev zr_takeResult_4_11 : Room := { frames := 1, cells := 0, slots := 0, locals := 15 }
def zp_takeResult_4_11 (t : Int) (p0 : Int) (p1 : Int) (S0 : zz_S) : Int → zz_S → Prop := fun r S => zz_G S ∧ zz_fr [] [] (fun a i => (a = zz_rf 6 t ∧ i = 10) ∨ (a = zz_rf 6 t ∧ i = 11) ∨ (a = zz_rf 6 t ∧ i = 12)) S0 S ∧ (0 ≤ r ∧ r ≤ 1) ∧ (r = 1 → ((S0 (zz_rf 6 t) 0 = 3 ∨ S0 (zz_rf 6 t) 0 = 2) ∧ S (zz_rf 6 t) 12 = S0 (zz_rf 6 p0) 12) ∨ (S0 (zz_rf 6 t) 0 ≠ 3 ∧ S0 (zz_rf 6 t) 0 ≠ 2 ∧ S (zz_rf 6 t) 12 = S0 (zz_rf 6 t) 12))
theorem zc_takeResult_4_11 {g : mm_G} {l : Launch} (t : Int) (p0 : Int) (p1 : Int) (S0 : zz_S) (n : Nat) (hn : zz_end ≤ n) (G_S0 : zz_G S0) (ht : 0 ≤ t ∧ t ≤ 23) (hp0 : 0 ≤ p0 ∧ p0 ≤ 23) (hp1 : 0 ≤ p1 ∧ p1 ≤ 23) : mm_Met g l zy_takeResult_4_11 zr_takeResult_4_11 [.ref (zz_rf 6 t), .ref (zz_rf 6 p0), .ref (zz_rf 6 p1)] (zz_M S0 n) n (zz_QI n (zp_takeResult_4_11 t p0 p1 S0)) := by
  refine zz_enter (by decide) (Nat.le_of_ble_eq_true rfl) (zz_less (ls1 := [some (.ref (zz_rf 6 t)), some (.ref (zz_rf 6 p0)), some (.ref (zz_rf 6 p1))]) ⟨rfl, ⟨rfl, ⟨rfl, trivial⟩⟩⟩ ?_)
  have F_S0 : zz_fr [] [] (fun a i => (a = zz_rf 6 t ∧ i = 10) ∨ (a = zz_rf 6 t ∧ i = 11) ∨ (a = zz_rf 6 t ∧ i = 12)) S0 S0 := zz_fr.refl
  have b_p0 := zz_rf6 (z := p0) (by omega)
  have b_p1 := zz_rf6 (z := p1) (by omega)
  have b_t := zz_rf6 (z := t) (by omega)
  refine zz_aload_n (x := zz_rf 6 t) rfl zd_4_11_0 ?_
  have g1 := zz_G.r G_S0 (zz_rf 6 t) 0 (-2147483648) 2147483647 (zR_k6_0 (by omega)) (zB_k6 (by omega))
  refine zz_geti (z := S0 (zz_rf 6 t) 0) zd_4_11_1 zf_Layer_13 (zT_k6 (by omega)) rfl (zN_k6 hn (by omega)) rfl ?_
  refine zz_iconst zd_4_11_4 ?_
  refine zz_icmp_ne (by omega) (by omega) zd_4_11_5 (fun c2 => ?_) (fun c2 => ?_)
  · refine zz_aload_n (x := zz_rf 6 p0) rfl zd_4_11_63 ?_
    have g3 := zz_G.r G_S0 (zz_rf 6 p0) 10 (-2147483648) 2147483647 (zR_k6_10 (by omega)) (zB_k6 (by omega))
    refine zz_geti (z := S0 (zz_rf 6 p0) 10) zd_4_11_64 zf_Layer_54 (zT_k6 (by omega)) rfl (zN_k6 hn (by omega)) rfl ?_
    refine zz_iconst zd_4_11_67 ?_
    refine zz_aload_n (x := zz_rf 6 t) rfl zd_4_11_68 ?_
    have g4 := zz_G.r G_S0 (zz_rf 6 t) 6 (-2147483648) 2147483647 (zR_k6_6 (by omega)) (zB_k6 (by omega))
    refine zz_geti (z := S0 (zz_rf 6 t) 6) zd_4_11_69 zf_Layer_32 (zT_k6 (by omega)) rfl (zN_k6 hn (by omega)) rfl ?_
    refine zz_imul zd_4_11_72 ?_
    refine zz_nrm (fun v5 hv5 ev5 => ?_)
    refine zz_iadd zd_4_11_73 ?_
    refine zz_nrm (fun v6 hv6 ev6 => ?_)
    refine zz_aload_n (x := zz_rf 6 t) rfl zd_4_11_74 ?_
    have g7 := zz_G.r G_S0 (zz_rf 6 t) 3 (-2147483648) 2147483647 (zR_k6_3 (by omega)) (zB_k6 (by omega))
    refine zz_geti (z := S0 (zz_rf 6 t) 3) zd_4_11_75 zf_Layer_23 (zT_k6 (by omega)) rfl (zN_k6 hn (by omega)) rfl ?_
    refine zz_isub zd_4_11_78 ?_
    refine zz_nrm (fun v8 hv8 ev8 => ?_)
    refine zz_istore_n [some (.ref (zz_rf 6 t)), some (.ref (zz_rf 6 p0)), some (.ref (zz_rf 6 p1)), some (zi v8)] zd_4_11_79 (by decide) rfl ?_
    refine zz_aload_n (x := zz_rf 6 p0) rfl zd_4_11_80 ?_
    have g9 := zz_G.r G_S0 (zz_rf 6 p0) 11 (-2147483648) 2147483647 (zR_k6_11 (by omega)) (zB_k6 (by omega))
    refine zz_geti (z := S0 (zz_rf 6 p0) 11) zd_4_11_81 zf_Layer_57 (zT_k6 (by omega)) rfl (zN_k6 hn (by omega)) rfl ?_
    refine zz_iconst zd_4_11_84 ?_
    refine zz_aload_n (x := zz_rf 6 t) rfl zd_4_11_85 ?_
    refine zz_geti (z := S0 (zz_rf 6 t) 6) zd_4_11_86 zf_Layer_32 (zT_k6 (by omega)) rfl (zN_k6 hn (by omega)) rfl ?_
    refine zz_imul zd_4_11_89 ?_
    refine zz_nrm (fun v10 hv10 ev10 => ?_)
    refine zz_iadd zd_4_11_90 ?_
    refine zz_nrm (fun v11 hv11 ev11 => ?_)
    refine zz_aload_n (x := zz_rf 6 t) rfl zd_4_11_91 ?_
    have g12 := zz_G.r G_S0 (zz_rf 6 t) 4 (-2147483648) 2147483647 (zR_k6_4 (by omega)) (zB_k6 (by omega))
    refine zz_geti (z := S0 (zz_rf 6 t) 4) zd_4_11_92 zf_Layer_26 (zT_k6 (by omega)) rfl (zN_k6 hn (by omega)) rfl ?_
    refine zz_isub zd_4_11_95 ?_
    refine zz_nrm (fun v13 hv13 ev13 => ?_)
    refine zz_istore [some (.ref (zz_rf 6 t)), some (.ref (zz_rf 6 p0)), some (.ref (zz_rf 6 p1)), some (zi v8), some (zi v13)] zd_4_11_96 (by decide) rfl ?_
    refine zz_iload_n (x := v8) rfl zd_4_11_98 ?_
    refine zz_if_lt (by omega) zd_4_11_99 (fun c14 => ?_) (fun c14 => ?_)
    · refine zz_iconst zd_4_11_115 ?_
      exact zz_zret zd_4_11_116 rfl (by omega) (Nat.zero_le _) (Nat.zero_le _) ⟨_, _, rfl, G_S0, F_S0, by omega, fun hr => absurd hr (by decide)⟩
    · refine zz_iload (x := v13) rfl zd_4_11_102 ?_
      refine zz_if_lt (by omega) zd_4_11_104 (fun c15 => ?_) (fun c15 => ?_)
      · refine zz_iconst zd_4_11_115 ?_
        exact zz_zret zd_4_11_116 rfl (by omega) (Nat.zero_le _) (Nat.zero_le _) ⟨_, _, rfl, G_S0, F_S0, by omega, fun hr => absurd hr (by decide)⟩
      · refine zz_aload_n (x := zz_rf 6 t) rfl zd_4_11_107 ?_
        have g16 := zz_G.r G_S0 (zz_rf 6 t) 5 (-2147483648) 2147483647 (zR_k6_5 (by omega)) (zB_k6 (by omega))
        refine zz_geti (z := S0 (zz_rf 6 t) 5) zd_4_11_108 zf_Layer_29 (zT_k6 (by omega)) rfl (zN_k6 hn (by omega)) rfl ?_
        refine zz_iconst zd_4_11_111 ?_
        refine zz_icmp_ge (by omega) (by omega) zd_4_11_112 (fun c17 => ?_) (fun c17 => ?_)
        · refine zz_aload_n (x := zz_rf 6 t) rfl zd_4_11_117 ?_
          refine zz_iload_n (x := v8) rfl zd_4_11_118 ?_
          refine zz_aload_n (x := zz_rf 6 t) rfl zd_4_11_119 ?_
          refine zz_geti (z := S0 (zz_rf 6 t) 5) zd_4_11_120 zf_Layer_29 (zT_k6 (by omega)) rfl (zN_k6 hn (by omega)) rfl ?_
          refine zz_idiv (by omega) (by omega) zd_4_11_123 (fun v18 hv18 av18 bv18 cv18 => ?_)
          have m19 := zz_divb (by omega) (by omega) av18
          refine zz_iconst zd_4_11_124 ?_
          refine zz_iadd zd_4_11_125 ?_
          refine zz_nrm (fun v20 hv20 ev20 => ?_)
          refine zz_puti zd_4_11_126 zf_Layer_54 (zT_k6 (by omega)) rfl (zN_k6 hn (by omega)) (fun S21 qS21 => ?_)
          have G_S21 := zz_G.put G_S0 qS21 (-2147483648) 2147483647 (zR_k6_10 (by omega)) (by omega)
          have F_S21 := zz_fr.putv F_S0 qS21 (Or.inl ⟨rfl, rfl⟩)
          refine zz_aload_n (x := zz_rf 6 t) rfl zd_4_11_129 ?_
          refine zz_iload (x := v13) rfl zd_4_11_130 ?_
          refine zz_aload_n (x := zz_rf 6 t) rfl zd_4_11_132 ?_
          refine zz_geti (z := S0 (zz_rf 6 t) 5) zd_4_11_133 zf_Layer_29 (zT_k6 (by omega)) rfl (zN_k6 hn (by omega)) (zz_ro qS21 (fun h => absurd h.2 (by decide)) rfl) ?_
          refine zz_idiv (by omega) (by omega) zd_4_11_136 (fun v22 hv22 av22 bv22 cv22 => ?_)
          have m23 := zz_divb (by omega) (by omega) av22
          refine zz_iconst zd_4_11_137 ?_
          refine zz_iadd zd_4_11_138 ?_
          refine zz_nrm (fun v24 hv24 ev24 => ?_)
          refine zz_puti zd_4_11_139 zf_Layer_57 (zT_k6 (by omega)) rfl (zN_k6 hn (by omega)) (fun S25 qS25 => ?_)
          have G_S25 := zz_G.put G_S21 qS25 (-2147483648) 2147483647 (zR_k6_11 (by omega)) (by omega)
          have F_S25 := zz_fr.putv F_S21 qS25 (Or.inr (Or.inl ⟨rfl, rfl⟩))
          refine zz_aload_n (x := zz_rf 6 t) rfl zd_4_11_142 ?_
          refine zz_geti (z := S0 (zz_rf 6 t) 0) zd_4_11_143 zf_Layer_13 (zT_k6 (by omega)) rfl (zN_k6 hn (by omega)) (zz_ro qS25 (fun h => absurd h.2 (by decide)) (zz_ro qS21 (fun h => absurd h.2 (by decide)) rfl)) ?_
          refine zz_iconst zd_4_11_146 ?_
          refine zz_icmp_ne (by omega) (by omega) zd_4_11_147 (fun c26 => ?_) (fun c26 => ?_)
          · refine zz_aload_n (x := zz_rf 6 t) rfl zd_4_11_161 ?_
            have g27 := zz_G.r G_S0 (zz_rf 6 t) 9 (-2147483648) 2147483647 (zR_k6_9 (by omega)) (zB_k6 (by omega))
            refine zz_geti (z := S0 (zz_rf 6 t) 9) zd_4_11_162 zf_Layer_42 (zT_k6 (by omega)) rfl (zN_k6 hn (by omega)) (zz_ro qS25 (fun h => absurd h.2 (by decide)) (zz_ro qS21 (fun h => absurd h.2 (by decide)) rfl)) ?_
            refine zz_if_lt (by omega) zd_4_11_165 (fun c28 => ?_) (fun c28 => ?_)
            · refine zz_iconst zd_4_11_184 ?_
              have e29 : S25 (zz_rf 6 t) 12 = S0 (zz_rf 6 t) 12 := (zz_ro qS25 (fun h => absurd h.2 (by decide)) (zz_ro qS21 (fun h => absurd h.2 (by decide)) rfl))
              exact zz_zret zd_4_11_185 rfl (by omega) (Nat.zero_le _) (Nat.zero_le _) ⟨_, _, rfl, G_S25, F_S25, by omega, fun hr => absurd hr (by decide)⟩
            · refine zz_aload_n (x := zz_rf 6 t) rfl zd_4_11_168 ?_
              refine zz_geti (z := S0 (zz_rf 6 t) 9) zd_4_11_169 zf_Layer_42 (zT_k6 (by omega)) rfl (zN_k6 hn (by omega)) (zz_ro qS25 (fun h => absurd h.2 (by decide)) (zz_ro qS21 (fun h => absurd h.2 (by decide)) rfl)) ?_
              refine zz_sipush (by decide) zd_4_11_172 ?_
              refine zz_aload_n (x := zz_rf 6 t) rfl zd_4_11_175 ?_
              refine zz_aload_n (x := zz_rf 6 p0) rfl zd_4_11_176 ?_
              refine zz_callVI [.ref (zz_rf 6 p0)] zd_4_11_177 zk_Layer_69 (zT_k6 (by omega)) (zN_k6 hn (by omega)) rfl rfl ⟨Nat.le_of_ble_eq_true rfl, Nat.le_of_ble_eq_true rfl⟩ ⟨rfl, rfl⟩ (Nat.zero_le _) (Nat.zero_le _) (zc_parametersSize_4_12 t p0 S25 n hn G_S25 (by omega) (by omega)) (fun v31 S30 hP => ?_)
              obtain ⟨rfl, o32⟩ := hP
              refine zz_isub zd_4_11_180 ?_
              refine zz_nrm (fun v33 hv33 ev33 => ?_)
              refine zz_icmp_le (by omega) (by omega) zd_4_11_181 (fun c34 => ?_) (fun c34 => ?_)
              · refine zz_aload_n (x := zz_rf 6 t) rfl zd_4_11_186 ?_
                refine zz_geti (z := v20) zd_4_11_187 zf_Layer_54 (zT_k6 (by omega)) rfl (zN_k6 hn (by omega)) (zz_ro qS25 (fun h => absurd h.2 (by decide)) (zz_rs qS21)) ?_
                refine zz_iconst zd_4_11_190 ?_
                refine zz_bipush (by decide) zd_4_11_191 ?_
                refine zz_callSI [zi v20, zi 1, zi 63] zd_4_11_193 zk_Layer_63 rfl rfl ⟨Nat.le_of_ble_eq_true rfl, Nat.le_of_ble_eq_true rfl⟩ ⟨rfl, rfl⟩ (Nat.zero_le _) (Nat.zero_le _) (zc_isWithin_4_9 v20 1 63 S25 n hn G_S25 (by omega) (by omega) (by omega)) (fun v36 S35 hP => ?_)
                obtain ⟨rfl, o37, o38⟩ := hP
                rcases (by omega : v36 = 0 ∨ v36 = 1) with rfl | rfl
                · refine zz_if_eq (by omega) zd_4_11_196 (fun c39 => ?_) (fun c39 => ?_)
                  · refine zz_iconst zd_4_11_216 ?_
                    have e40 : S25 (zz_rf 6 t) 12 = S0 (zz_rf 6 t) 12 := (zz_ro qS25 (fun h => absurd h.2 (by decide)) (zz_ro qS21 (fun h => absurd h.2 (by decide)) rfl))
                    exact zz_zret zd_4_11_217 rfl (by omega) (Nat.zero_le _) (Nat.zero_le _) ⟨_, _, rfl, G_S25, F_S25, by omega, fun hr => absurd hr (by decide)⟩
                  · exfalso; omega
                · refine zz_if_eq (by omega) zd_4_11_196 (fun c41 => ?_) (fun c41 => ?_)
                  · exfalso; omega
                  · refine zz_aload_n (x := zz_rf 6 t) rfl zd_4_11_199 ?_
                    refine zz_geti (z := v24) zd_4_11_200 zf_Layer_57 (zT_k6 (by omega)) rfl (zN_k6 hn (by omega)) (zz_rs qS25) ?_
                    refine zz_iconst zd_4_11_203 ?_
                    refine zz_bipush (by decide) zd_4_11_204 ?_
                    refine zz_callSI [zi v24, zi 1, zi 63] zd_4_11_206 zk_Layer_63 rfl rfl ⟨Nat.le_of_ble_eq_true rfl, Nat.le_of_ble_eq_true rfl⟩ ⟨rfl, rfl⟩ (Nat.zero_le _) (Nat.zero_le _) (zc_isWithin_4_9 v24 1 63 S25 n hn G_S25 (by omega) (by omega) (by omega)) (fun v43 S42 hP => ?_)
                    obtain ⟨rfl, o44, o45⟩ := hP
                    rcases (by omega : v43 = 0 ∨ v43 = 1) with rfl | rfl
                    · refine zz_if_eq (by omega) zd_4_11_209 (fun c46 => ?_) (fun c46 => ?_)
                      · refine zz_iconst zd_4_11_216 ?_
                        have e47 : S25 (zz_rf 6 t) 12 = S0 (zz_rf 6 t) 12 := (zz_ro qS25 (fun h => absurd h.2 (by decide)) (zz_ro qS21 (fun h => absurd h.2 (by decide)) rfl))
                        exact zz_zret zd_4_11_217 rfl (by omega) (Nat.zero_le _) (Nat.zero_le _) ⟨_, _, rfl, G_S25, F_S25, by omega, fun hr => absurd hr (by decide)⟩
                      · exfalso; omega
                    · refine zz_if_eq (by omega) zd_4_11_209 (fun c48 => ?_) (fun c48 => ?_)
                      · exfalso; omega
                      · refine zz_iconst zd_4_11_212 ?_
                        refine zz_goto zd_4_11_213 ?_
                        have e49 : S25 (zz_rf 6 t) 12 = S0 (zz_rf 6 t) 12 := (zz_ro qS25 (fun h => absurd h.2 (by decide)) (zz_ro qS21 (fun h => absurd h.2 (by decide)) rfl))
                        exact zz_zret zd_4_11_217 rfl (by omega) (Nat.zero_le _) (Nat.zero_le _) ⟨_, _, rfl, G_S25, F_S25, by omega, fun _ => Or.inr ⟨by omega, by omega, by omega⟩⟩
              · refine zz_iconst zd_4_11_184 ?_
                have e50 : S25 (zz_rf 6 t) 12 = S0 (zz_rf 6 t) 12 := (zz_ro qS25 (fun h => absurd h.2 (by decide)) (zz_ro qS21 (fun h => absurd h.2 (by decide)) rfl))
                exact zz_zret zd_4_11_185 rfl (by omega) (Nat.zero_le _) (Nat.zero_le _) ⟨_, _, rfl, G_S25, F_S25, by omega, fun hr => absurd hr (by decide)⟩
          · refine zz_aload_n (x := zz_rf 6 t) rfl zd_4_11_150 ?_
            refine zz_aload_n (x := zz_rf 6 p0) rfl zd_4_11_151 ?_
            have g51 := zz_G.r G_S0 (zz_rf 6 p0) 12 (-2147483648) 2147483647 (zR_k6_12 (by omega)) (zB_k6 (by omega))
            refine zz_geti (z := S0 (zz_rf 6 p0) 12) zd_4_11_152 zf_Layer_60 (zT_k6 (by omega)) rfl (zN_k6 hn (by omega)) (zz_ro qS25 (fun h => absurd h.2 (by decide)) (zz_ro qS21 (fun h => absurd h.2 (by decide)) rfl)) ?_
            refine zz_puti zd_4_11_155 zf_Layer_60 (zT_k6 (by omega)) rfl (zN_k6 hn (by omega)) (fun S52 qS52 => ?_)
            have G_S52 := zz_G.put G_S25 qS52 (-2147483648) 2147483647 (zR_k6_12 (by omega)) (by omega)
            have F_S52 := zz_fr.putv F_S25 qS52 (Or.inr (Or.inr (⟨rfl, rfl⟩)))
            refine zz_goto zd_4_11_158 ?_
            refine zz_aload_n (x := zz_rf 6 t) rfl zd_4_11_186 ?_
            refine zz_geti (z := v20) zd_4_11_187 zf_Layer_54 (zT_k6 (by omega)) rfl (zN_k6 hn (by omega)) (zz_ro qS52 (fun h => absurd h.2 (by decide)) (zz_ro qS25 (fun h => absurd h.2 (by decide)) (zz_rs qS21))) ?_
            refine zz_iconst zd_4_11_190 ?_
            refine zz_bipush (by decide) zd_4_11_191 ?_
            refine zz_callSI [zi v20, zi 1, zi 63] zd_4_11_193 zk_Layer_63 rfl rfl ⟨Nat.le_of_ble_eq_true rfl, Nat.le_of_ble_eq_true rfl⟩ ⟨rfl, rfl⟩ (Nat.zero_le _) (Nat.zero_le _) (zc_isWithin_4_9 v20 1 63 S52 n hn G_S52 (by omega) (by omega) (by omega)) (fun v54 S53 hP => ?_)
            obtain ⟨rfl, o55, o56⟩ := hP
            rcases (by omega : v54 = 0 ∨ v54 = 1) with rfl | rfl
            · refine zz_if_eq (by omega) zd_4_11_196 (fun c57 => ?_) (fun c57 => ?_)
              · refine zz_iconst zd_4_11_216 ?_
                have e58 : S52 (zz_rf 6 t) 12 = S0 (zz_rf 6 p0) 12 := (zz_rs qS52)
                exact zz_zret zd_4_11_217 rfl (by omega) (Nat.zero_le _) (Nat.zero_le _) ⟨_, _, rfl, G_S52, F_S52, by omega, fun hr => absurd hr (by decide)⟩
              · exfalso; omega
            · refine zz_if_eq (by omega) zd_4_11_196 (fun c59 => ?_) (fun c59 => ?_)
              · exfalso; omega
              · refine zz_aload_n (x := zz_rf 6 t) rfl zd_4_11_199 ?_
                refine zz_geti (z := v24) zd_4_11_200 zf_Layer_57 (zT_k6 (by omega)) rfl (zN_k6 hn (by omega)) (zz_ro qS52 (fun h => absurd h.2 (by decide)) (zz_rs qS25)) ?_
                refine zz_iconst zd_4_11_203 ?_
                refine zz_bipush (by decide) zd_4_11_204 ?_
                refine zz_callSI [zi v24, zi 1, zi 63] zd_4_11_206 zk_Layer_63 rfl rfl ⟨Nat.le_of_ble_eq_true rfl, Nat.le_of_ble_eq_true rfl⟩ ⟨rfl, rfl⟩ (Nat.zero_le _) (Nat.zero_le _) (zc_isWithin_4_9 v24 1 63 S52 n hn G_S52 (by omega) (by omega) (by omega)) (fun v61 S60 hP => ?_)
                obtain ⟨rfl, o62, o63⟩ := hP
                rcases (by omega : v61 = 0 ∨ v61 = 1) with rfl | rfl
                · refine zz_if_eq (by omega) zd_4_11_209 (fun c64 => ?_) (fun c64 => ?_)
                  · refine zz_iconst zd_4_11_216 ?_
                    have e65 : S52 (zz_rf 6 t) 12 = S0 (zz_rf 6 p0) 12 := (zz_rs qS52)
                    exact zz_zret zd_4_11_217 rfl (by omega) (Nat.zero_le _) (Nat.zero_le _) ⟨_, _, rfl, G_S52, F_S52, by omega, fun hr => absurd hr (by decide)⟩
                  · exfalso; omega
                · refine zz_if_eq (by omega) zd_4_11_209 (fun c66 => ?_) (fun c66 => ?_)
                  · exfalso; omega
                  · refine zz_iconst zd_4_11_212 ?_
                    refine zz_goto zd_4_11_213 ?_
                    have e67 : S52 (zz_rf 6 t) 12 = S0 (zz_rf 6 p0) 12 := (zz_rs qS52)
                    exact zz_zret zd_4_11_217 rfl (by omega) (Nat.zero_le _) (Nat.zero_le _) ⟨_, _, rfl, G_S52, F_S52, by omega, fun _ => Or.inl ⟨Or.inr (by omega), by omega⟩⟩
        · refine zz_iconst zd_4_11_115 ?_
          exact zz_zret zd_4_11_116 rfl (by omega) (Nat.zero_le _) (Nat.zero_le _) ⟨_, _, rfl, G_S0, F_S0, by omega, fun hr => absurd hr (by decide)⟩
  · refine zz_aload_n (x := zz_rf 6 t) rfl zd_4_11_8 ?_
    refine zz_aload_n (x := zz_rf 6 p0) rfl zd_4_11_9 ?_
    have g68 := zz_G.r G_S0 (zz_rf 6 p0) 10 (-2147483648) 2147483647 (zR_k6_10 (by omega)) (zB_k6 (by omega))
    refine zz_geti (z := S0 (zz_rf 6 p0) 10) zd_4_11_10 zf_Layer_54 (zT_k6 (by omega)) rfl (zN_k6 hn (by omega)) rfl ?_
    refine zz_aload_n (x := zz_rf 6 p0) rfl zd_4_11_13 ?_
    have g69 := zz_G.r G_S0 (zz_rf 6 p0) 11 (-2147483648) 2147483647 (zR_k6_11 (by omega)) (zB_k6 (by omega))
    refine zz_geti (z := S0 (zz_rf 6 p0) 11) zd_4_11_14 zf_Layer_57 (zT_k6 (by omega)) rfl (zN_k6 hn (by omega)) rfl ?_
    refine zz_aload_n (x := zz_rf 6 p0) rfl zd_4_11_17 ?_
    have g70 := zz_G.r G_S0 (zz_rf 6 p0) 12 (-2147483648) 2147483647 (zR_k6_12 (by omega)) (zB_k6 (by omega))
    refine zz_geti (z := S0 (zz_rf 6 p0) 12) zd_4_11_18 zf_Layer_60 (zT_k6 (by omega)) rfl (zN_k6 hn (by omega)) rfl ?_
    refine zz_callVV [zi (S0 (zz_rf 6 p0) 10), zi (S0 (zz_rf 6 p0) 11), zi (S0 (zz_rf 6 p0) 12)] zd_4_11_21 zk_Layer_45 (zT_k6 (by omega)) (zN_k6 hn (by omega)) rfl rfl ⟨Nat.le_of_ble_eq_true rfl, Nat.le_of_ble_eq_true rfl⟩ ⟨rfl, rfl⟩ (Nat.zero_le _) (Nat.zero_le _) (zc_takeForm_4_3 t (S0 (zz_rf 6 p0) 10) (S0 (zz_rf 6 p0) 11) (S0 (zz_rf 6 p0) 12) S0 n hn G_S0 (by omega) (by omega) (by omega) (by omega)) (fun S71 hP => ?_)
    obtain ⟨G_S71, fS71, o73⟩ := hP
    have F_S71 := zz_fr.trans F_S0 fS71 rfl (fun a i h => by rcases h with h | h | h; exact Or.inr (Or.inr (Or.inl h)); exact Or.inr (Or.inr (Or.inr (Or.inl h))); exact Or.inr (Or.inr (Or.inr (Or.inr (h)))))
    have b74 := zz_rf6 (z := t) (by omega)
    refine zz_aload_n (x := zz_rf 6 t) rfl zd_4_11_24 ?_
    have g75 := zz_G.r G_S71 (zz_rf 6 t) 10 (-2147483648) 2147483647 (zR_k6_10 (by omega)) (zB_k6 (by omega))
    refine zz_geti (z := S71 (zz_rf 6 t) 10) zd_4_11_25 zf_Layer_54 (zT_k6 (by omega)) rfl (zN_k6 hn (by omega)) rfl ?_
    refine zz_aload_n (x := zz_rf 6 p1) rfl zd_4_11_28 ?_
    have g76 := zz_G.r G_S71 (zz_rf 6 p1) 10 (-2147483648) 2147483647 (zR_k6_10 (by omega)) (zB_k6 (by omega))
    refine zz_geti (z := S71 (zz_rf 6 p1) 10) zd_4_11_29 zf_Layer_54 (zT_k6 (by omega)) rfl (zN_k6 hn (by omega)) rfl ?_
    refine zz_icmp_ne (by omega) (by omega) zd_4_11_32 (fun c77 => ?_) (fun c77 => ?_)
    · refine zz_iconst zd_4_11_61 ?_
      exact zz_zret zd_4_11_62 rfl (by omega) (Nat.zero_le _) (Nat.zero_le _) ⟨_, _, rfl, G_S71, F_S71, by omega, fun hr => absurd hr (by decide)⟩
    · refine zz_aload_n (x := zz_rf 6 t) rfl zd_4_11_35 ?_
      have g78 := zz_G.r G_S71 (zz_rf 6 t) 11 (-2147483648) 2147483647 (zR_k6_11 (by omega)) (zB_k6 (by omega))
      refine zz_geti (z := S71 (zz_rf 6 t) 11) zd_4_11_36 zf_Layer_57 (zT_k6 (by omega)) rfl (zN_k6 hn (by omega)) rfl ?_
      refine zz_aload_n (x := zz_rf 6 p1) rfl zd_4_11_39 ?_
      have g79 := zz_G.r G_S71 (zz_rf 6 p1) 11 (-2147483648) 2147483647 (zR_k6_11 (by omega)) (zB_k6 (by omega))
      refine zz_geti (z := S71 (zz_rf 6 p1) 11) zd_4_11_40 zf_Layer_57 (zT_k6 (by omega)) rfl (zN_k6 hn (by omega)) rfl ?_
      refine zz_icmp_ne (by omega) (by omega) zd_4_11_43 (fun c80 => ?_) (fun c80 => ?_)
      · refine zz_iconst zd_4_11_61 ?_
        exact zz_zret zd_4_11_62 rfl (by omega) (Nat.zero_le _) (Nat.zero_le _) ⟨_, _, rfl, G_S71, F_S71, by omega, fun hr => absurd hr (by decide)⟩
      · refine zz_aload_n (x := zz_rf 6 t) rfl zd_4_11_46 ?_
        have g81 := zz_G.r G_S71 (zz_rf 6 t) 12 (-2147483648) 2147483647 (zR_k6_12 (by omega)) (zB_k6 (by omega))
        refine zz_geti (z := S71 (zz_rf 6 t) 12) zd_4_11_47 zf_Layer_60 (zT_k6 (by omega)) rfl (zN_k6 hn (by omega)) rfl ?_
        refine zz_aload_n (x := zz_rf 6 p1) rfl zd_4_11_50 ?_
        have g82 := zz_G.r G_S71 (zz_rf 6 p1) 12 (-2147483648) 2147483647 (zR_k6_12 (by omega)) (zB_k6 (by omega))
        refine zz_geti (z := S71 (zz_rf 6 p1) 12) zd_4_11_51 zf_Layer_60 (zT_k6 (by omega)) rfl (zN_k6 hn (by omega)) rfl ?_
        refine zz_icmp_ne (by omega) (by omega) zd_4_11_54 (fun c83 => ?_) (fun c83 => ?_)
        · refine zz_iconst zd_4_11_61 ?_
          exact zz_zret zd_4_11_62 rfl (by omega) (Nat.zero_le _) (Nat.zero_le _) ⟨_, _, rfl, G_S71, F_S71, by omega, fun hr => absurd hr (by decide)⟩
        · refine zz_iconst zd_4_11_57 ?_
          refine zz_goto zd_4_11_58 ?_
          exact zz_zret zd_4_11_62 rfl (by omega) (Nat.zero_le _) (Nat.zero_le _) ⟨_, _, rfl, G_S71, F_S71, by omega, fun _ => Or.inl ⟨Or.inl (by omega), by omega⟩⟩
theorem zk_Network_52 : mm_Vl "TensorForge$Network" 52 2 2 zy_takeResult_4_11 := ⟨zyw_takeResult_4_11, (R_Layer, F_Layer, 15), rfl, mm_tb_1 1001 (by decide +kernel) rfl, mm_tb_1 1002 (by decide +kernel) rfl, mm_tb_1 1003 (by decide +kernel) rfl⟩
abbrev zy_endOfAll_7_8 : mm_Y := (⟨"TensorForge$Network", "endOfAll", "()I"⟩, prog_7_method_8_code, 3, (some .int))
theorem zyw_endOfAll_7_8 : mm_Yw zy_endOfAll_7_8 0 := ⟨mm_tb_1 1012 (by decide +kernel) rfl, mm_tb_1 2 (by decide +kernel) rfl, ⟨by decide, by decide⟩, by decide +kernel⟩
theorem zf_Network_63 : mm_Fl "TensorForge$Network" 63 2 13 .int false := ⟨R_Layer, F_Layer, 15, t_Layer, rfl, i_Layer, by decide, mm_tb_1 108 (by decide +kernel) rfl, rfl, t_Layer_ok, n_Layer, rfl, by decide +kernel⟩
abbrev zy_size_4_7 : mm_Y := (⟨"TensorForge$Layer", "size", "()I"⟩, prog_4_method_7_code, 1, (some .int))
theorem zyw_size_4_7 : mm_Yw zy_size_4_7 0 := ⟨mm_tb_1 1016 (by decide +kernel) rfl, mm_tb_1 3 (by decide +kernel) rfl, ⟨by decide, by decide⟩, by decide +kernel⟩
theorem zg_7_7_58 : (decode zy_offer_7_7.2.1 58 = .ok ((Instr.ifCond .ne) 5, 3)) ∧ (decode zy_offer_7_7.2.1 63 = .ok ((.aload_n 0), 1)) ∧ (decode zy_offer_7_7.2.1 64 = .ok ((.invokevirtual 56), 3)) := by decide +kernel
theorem zd_7_7_58 : zz_B zy_offer_7_7 58 (Instr.ifCond .ne) 63 61 := ⟨5, zg_7_7_58.1, rfl, rfl⟩
theorem zd_7_7_63 : zz_D zy_offer_7_7 63 (.aload_n 0) 1 64 := ⟨zg_7_7_58.2.1, rfl⟩
theorem zd_7_7_64 : zz_D zy_offer_7_7 64 (.invokevirtual 56) 3 67 := ⟨zg_7_7_58.2.2, rfl⟩
theorem zg_7_8_0 : (decode zy_endOfAll_7_8.2.1 0 = .ok ((.iconst 0), 1)) ∧ (decode zy_endOfAll_7_8.2.1 1 = .ok ((.istore_n 1), 1)) ∧ (decode zy_endOfAll_7_8.2.1 2 = .ok ((.iconst 0), 1)) ∧ (decode zy_endOfAll_7_8.2.1 3 = .ok ((.istore_n 2), 1)) ∧ (decode zy_endOfAll_7_8.2.1 4 = .ok ((.iload_n 2), 1)) ∧ (decode zy_endOfAll_7_8.2.1 5 = .ok ((.aload_n 0), 1)) ∧ (decode zy_endOfAll_7_8.2.1 6 = .ok ((.getfield 16), 3)) ∧ (decode zy_endOfAll_7_8.2.1 9 = .ok ((Instr.if_icmp .ge) 33, 3)) ∧ (decode zy_endOfAll_7_8.2.1 12 = .ok ((.iload_n 1), 1)) ∧ (decode zy_endOfAll_7_8.2.1 13 = .ok ((.aload_n 0), 1)) := by decide +kernel
theorem zd_7_8_0 : zz_D zy_endOfAll_7_8 0 (.iconst 0) 1 1 := ⟨zg_7_8_0.1, rfl⟩
theorem zd_7_8_1 : zz_D zy_endOfAll_7_8 1 (.istore_n 1) 1 2 := ⟨zg_7_8_0.2.1, rfl⟩
theorem zd_7_8_2 : zz_D zy_endOfAll_7_8 2 (.iconst 0) 1 3 := ⟨zg_7_8_0.2.2.1, rfl⟩
theorem zd_7_8_3 : zz_D zy_endOfAll_7_8 3 (.istore_n 2) 1 4 := ⟨zg_7_8_0.2.2.2.1, rfl⟩
theorem zd_7_8_4 : zz_D zy_endOfAll_7_8 4 (.iload_n 2) 1 5 := ⟨zg_7_8_0.2.2.2.2.1, rfl⟩
theorem zd_7_8_5 : zz_D zy_endOfAll_7_8 5 (.aload_n 0) 1 6 := ⟨zg_7_8_0.2.2.2.2.2.1, rfl⟩
theorem zd_7_8_6 : zz_D zy_endOfAll_7_8 6 (.getfield 16) 3 9 := ⟨zg_7_8_0.2.2.2.2.2.2.1, rfl⟩
theorem zd_7_8_9 : zz_B zy_endOfAll_7_8 9 (Instr.if_icmp .ge) 42 12 := ⟨33, zg_7_8_0.2.2.2.2.2.2.2.1, rfl, rfl⟩
theorem zd_7_8_12 : zz_D zy_endOfAll_7_8 12 (.iload_n 1) 1 13 := ⟨zg_7_8_0.2.2.2.2.2.2.2.2.1, rfl⟩
theorem zd_7_8_13 : zz_D zy_endOfAll_7_8 13 (.aload_n 0) 1 14 := ⟨zg_7_8_0.2.2.2.2.2.2.2.2.2, rfl⟩
theorem zg_7_8_14 : (decode zy_endOfAll_7_8.2.1 14 = .ok ((.getfield 11), 3)) ∧ (decode zy_endOfAll_7_8.2.1 17 = .ok ((.iload_n 2), 1)) ∧ (decode zy_endOfAll_7_8.2.1 18 = .ok ((.aaload), 1)) ∧ (decode zy_endOfAll_7_8.2.1 19 = .ok ((.getfield 63), 3)) ∧ (decode zy_endOfAll_7_8.2.1 22 = .ok ((.aload_n 0), 1)) ∧ (decode zy_endOfAll_7_8.2.1 23 = .ok ((.getfield 11), 3)) ∧ (decode zy_endOfAll_7_8.2.1 26 = .ok ((.iload_n 2), 1)) ∧ (decode zy_endOfAll_7_8.2.1 27 = .ok ((.aaload), 1)) ∧ (decode zy_endOfAll_7_8.2.1 28 = .ok ((.invokevirtual 60), 3)) := by decide +kernel
theorem zd_7_8_14 : zz_D zy_endOfAll_7_8 14 (.getfield 11) 3 17 := ⟨zg_7_8_14.1, rfl⟩
theorem zd_7_8_17 : zz_D zy_endOfAll_7_8 17 (.iload_n 2) 1 18 := ⟨zg_7_8_14.2.1, rfl⟩
theorem zd_7_8_18 : zz_D zy_endOfAll_7_8 18 (.aaload) 1 19 := ⟨zg_7_8_14.2.2.1, rfl⟩
theorem zd_7_8_19 : zz_D zy_endOfAll_7_8 19 (.getfield 63) 3 22 := ⟨zg_7_8_14.2.2.2.1, rfl⟩
theorem zd_7_8_22 : zz_D zy_endOfAll_7_8 22 (.aload_n 0) 1 23 := ⟨zg_7_8_14.2.2.2.2.1, rfl⟩
theorem zd_7_8_23 : zz_D zy_endOfAll_7_8 23 (.getfield 11) 3 26 := ⟨zg_7_8_14.2.2.2.2.2.1, rfl⟩
theorem zd_7_8_26 : zz_D zy_endOfAll_7_8 26 (.iload_n 2) 1 27 := ⟨zg_7_8_14.2.2.2.2.2.2.1, rfl⟩
theorem zd_7_8_27 : zz_D zy_endOfAll_7_8 27 (.aaload) 1 28 := ⟨zg_7_8_14.2.2.2.2.2.2.2.1, rfl⟩
theorem zd_7_8_28 : zz_D zy_endOfAll_7_8 28 (.invokevirtual 60) 3 31 := ⟨zg_7_8_14.2.2.2.2.2.2.2.2, rfl⟩
theorem zg_4_7_0 : (decode zy_size_4_7.2.1 0 = .ok ((.aload_n 0), 1)) ∧ (decode zy_size_4_7.2.1 1 = .ok ((.getfield 54), 3)) ∧ (decode zy_size_4_7.2.1 4 = .ok ((.aload_n 0), 1)) ∧ (decode zy_size_4_7.2.1 5 = .ok ((.getfield 57), 3)) ∧ (decode zy_size_4_7.2.1 8 = .ok ((.imul), 1)) ∧ (decode zy_size_4_7.2.1 9 = .ok ((.aload_n 0), 1)) ∧ (decode zy_size_4_7.2.1 10 = .ok ((.getfield 60), 3)) ∧ (decode zy_size_4_7.2.1 13 = .ok ((.imul), 1)) ∧ (decode zy_size_4_7.2.1 14 = .ok ((.ireturn), 1)) := by decide +kernel
theorem zd_4_7_0 : zz_D zy_size_4_7 0 (.aload_n 0) 1 1 := ⟨zg_4_7_0.1, rfl⟩
theorem zd_4_7_1 : zz_D zy_size_4_7 1 (.getfield 54) 3 4 := ⟨zg_4_7_0.2.1, rfl⟩
theorem zd_4_7_4 : zz_D zy_size_4_7 4 (.aload_n 0) 1 5 := ⟨zg_4_7_0.2.2.1, rfl⟩
theorem zd_4_7_5 : zz_D zy_size_4_7 5 (.getfield 57) 3 8 := ⟨zg_4_7_0.2.2.2.1, rfl⟩
theorem zd_4_7_8 : zz_D zy_size_4_7 8 (.imul) 1 9 := ⟨zg_4_7_0.2.2.2.2.1, rfl⟩
theorem zd_4_7_9 : zz_D zy_size_4_7 9 (.aload_n 0) 1 10 := ⟨zg_4_7_0.2.2.2.2.2.1, rfl⟩
theorem zd_4_7_10 : zz_D zy_size_4_7 10 (.getfield 60) 3 13 := ⟨zg_4_7_0.2.2.2.2.2.2.1, rfl⟩
theorem zd_4_7_13 : zz_D zy_size_4_7 13 (.imul) 1 14 := ⟨zg_4_7_0.2.2.2.2.2.2.2.1, rfl⟩
theorem zd_4_7_14 : zz_D zy_size_4_7 14 (.ireturn) 1 15 := ⟨zg_4_7_0.2.2.2.2.2.2.2.2, rfl⟩
-- TensorForge$Layer size ()I
abbrev zr_size_4_7 : Room := { frames := 0, cells := 0, slots := 0, locals := 0 }
def zp_size_4_7 (t : Int) (S0 : zz_S) : Int → zz_S → Prop := fun r S => S0 = S ∧ ((-2147483648) ≤ r ∧ r ≤ 2147483647)
theorem zc_size_4_7 {g : mm_G} {l : Launch} (t : Int) (S0 : zz_S) (n : Nat) (hn : zz_end ≤ n) (G_S0 : zz_G S0) (ht : 0 ≤ t ∧ t ≤ 23) : mm_Met g l zy_size_4_7 zr_size_4_7 [.ref (zz_rf 6 t)] (zz_M S0 n) n (zz_QI n (zp_size_4_7 t S0)) := by
  refine zz_enter (by decide) (Nat.le_of_ble_eq_true rfl) (zz_less (ls1 := [some (.ref (zz_rf 6 t))]) ⟨rfl, trivial⟩ ?_)
  have b_t := zz_rf6 (z := t) (by omega)
  refine zz_aload_n (x := zz_rf 6 t) rfl zd_4_7_0 ?_
  have g1 := zz_G.r G_S0 (zz_rf 6 t) 10 (-2147483648) 2147483647 (zR_k6_10 (by omega)) (zB_k6 (by omega))
  refine zz_geti (z := S0 (zz_rf 6 t) 10) zd_4_7_1 zf_Layer_54 (zT_k6 (by omega)) rfl (zN_k6 hn (by omega)) rfl ?_
  refine zz_aload_n (x := zz_rf 6 t) rfl zd_4_7_4 ?_
  have g2 := zz_G.r G_S0 (zz_rf 6 t) 11 (-2147483648) 2147483647 (zR_k6_11 (by omega)) (zB_k6 (by omega))
  refine zz_geti (z := S0 (zz_rf 6 t) 11) zd_4_7_5 zf_Layer_57 (zT_k6 (by omega)) rfl (zN_k6 hn (by omega)) rfl ?_
  refine zz_imul zd_4_7_8 ?_
  refine zz_nrm (fun v3 hv3 ev3 => ?_)
  refine zz_aload_n (x := zz_rf 6 t) rfl zd_4_7_9 ?_
  have g4 := zz_G.r G_S0 (zz_rf 6 t) 12 (-2147483648) 2147483647 (zR_k6_12 (by omega)) (zB_k6 (by omega))
  refine zz_geti (z := S0 (zz_rf 6 t) 12) zd_4_7_10 zf_Layer_60 (zT_k6 (by omega)) rfl (zN_k6 hn (by omega)) rfl ?_
  refine zz_imul zd_4_7_13 ?_
  refine zz_nrm (fun v5 hv5 ev5 => ?_)
  exact zz_iret zd_4_7_14 rfl (Nat.zero_le _) (Nat.zero_le _) ⟨_, _, rfl, rfl, by omega⟩
theorem zk_Network_60 : mm_Vl "TensorForge$Network" 60 2 0 zy_size_4_7 := ⟨zyw_size_4_7, (R_Layer, F_Layer, 15), rfl, mm_tb_1 1013 (by decide +kernel) rfl, mm_tb_1 1014 (by decide +kernel) rfl, mm_tb_1 1015 (by decide +kernel) rfl⟩
theorem zm_Network_66 : Cond.methodLink "TensorForge$Network" 66 Lib.Math.max.name ∈ mm_tb ∧ Cond.static Lib.Math.max.name ∈ mm_tb ∧ Cond.initialized "java/lang/Math" ∈ mm_tb ∧ Cond.code Lib.Math.max.name Lib.Math.max.code 2 (some .int) ∈ mm_tb := ⟨mm_tb_1 1017 (by decide +kernel) rfl, mm_tb_1 709 (by decide +kernel) rfl, mm_tb_1 25 (by decide +kernel) rfl, mm_tb_1 710 (by decide +kernel) rfl⟩
theorem zg_7_8_31 : (decode zy_endOfAll_7_8.2.1 31 = .ok ((.iadd), 1)) ∧ (decode zy_endOfAll_7_8.2.1 32 = .ok ((.invokestatic 66), 3)) ∧ (decode zy_endOfAll_7_8.2.1 35 = .ok ((.istore_n 1), 1)) ∧ (decode zy_endOfAll_7_8.2.1 36 = .ok ((.iinc 2 1), 3)) ∧ (decode zy_endOfAll_7_8.2.1 39 = .ok (Instr.goto (-35), 3)) ∧ (decode zy_endOfAll_7_8.2.1 42 = .ok ((.iload_n 1), 1)) ∧ (decode zy_endOfAll_7_8.2.1 43 = .ok ((.ireturn), 1)) := by decide +kernel
theorem zd_7_8_31 : zz_D zy_endOfAll_7_8 31 (.iadd) 1 32 := ⟨zg_7_8_31.1, rfl⟩
theorem zd_7_8_32 : zz_D zy_endOfAll_7_8 32 (.invokestatic 66) 3 35 := ⟨zg_7_8_31.2.1, rfl⟩
theorem zd_7_8_35 : zz_D zy_endOfAll_7_8 35 (.istore_n 1) 1 36 := ⟨zg_7_8_31.2.2.1, rfl⟩
theorem zd_7_8_36 : zz_D zy_endOfAll_7_8 36 (.iinc 2 1) 3 39 := ⟨zg_7_8_31.2.2.2.1, rfl⟩
theorem zd_7_8_39 : zz_B zy_endOfAll_7_8 39 Instr.goto 4 42 := ⟨(-35), zg_7_8_31.2.2.2.2.1, rfl, rfl⟩
theorem zd_7_8_42 : zz_D zy_endOfAll_7_8 42 (.iload_n 1) 1 43 := ⟨zg_7_8_31.2.2.2.2.2.1, rfl⟩
theorem zd_7_8_43 : zz_D zy_endOfAll_7_8 43 (.ireturn) 1 44 := ⟨zg_7_8_31.2.2.2.2.2.2, rfl⟩
-- TensorForge$Network endOfAll ()I
abbrev zr_endOfAll_7_8 : Room := { frames := 1, cells := 0, slots := 0, locals := 14 }
def zp_endOfAll_7_8 (t : Int) (S0 : zz_S) : Int → zz_S → Prop := fun r S => S0 = S ∧ ((-2147483648) ≤ r ∧ r ≤ 2147483647)
theorem zb_endOfAll_7_8_4 {g : mm_G} {l : Launch} (t : Int) (S0 : zz_S) (n : Nat) (hn : zz_end ≤ n) (G_S0 : zz_G S0) (ht : 0 ≤ t ∧ t ≤ 1) (x1 : Int) (x2 : Int) (S : zz_S) (G_S : zz_G S) (F_S : zz_fr [] [] (fun _ _ => False) S0 S) (i4_0 : 0 ≤ x1 ∧ x1 ≤ 2147483647) (i4_1 : 0 ≤ x2 ∧ x2 ≤ 11) (R : Nat) (hR : (S (zz_rf 3 t) 1 - x2).toNat = R) (k4 : ∀ (x1 : Int) (x2 : Int) (S : zz_S), zz_G S → zz_fr [] [] (fun _ _ => False) S0 S → (0 ≤ x1 ∧ x1 ≤ 2147483647) → (0 ≤ x2 ∧ x2 ≤ 11) → (S (zz_rf 3 t) 1 - x2).toNat < R → zz_E g l zy_endOfAll_7_8 zr_endOfAll_7_8 (zz_QI n (zp_endOfAll_7_8 t S0)) S n 4 [some (.ref (zz_rf 3 t)), some (zi x1), some (zi x2)] [] 0 0) : zz_E g l zy_endOfAll_7_8 zr_endOfAll_7_8 (zz_QI n (zp_endOfAll_7_8 t S0)) S n 4 [some (.ref (zz_rf 3 t)), some (zi x1), some (zi x2)] [] 0 0 := by
  have b_t := zz_rf3 (z := t) (by omega)
  refine zz_iload_n (x := x2) rfl zd_7_8_4 ?_
  refine zz_aload_n (x := zz_rf 3 t) rfl zd_7_8_5 ?_
  have g1 := zz_G.r G_S0 (zz_rf 3 t) 1 1 11 (zR_k3_1 (by omega)) (zB_k3 (by omega))
  refine zz_geti (z := S0 (zz_rf 3 t) 1) zd_7_8_6 zf_Network_16 (zT_k3 (by omega)) rfl (zN_k3 hn (by omega)) (zz_rc F_S (zP_k3 (by omega) rfl) (zQ_k3 (by omega) rfl) (fun h => h) rfl) ?_
  refine zz_icmp_ge (by omega) (by omega) zd_7_8_9 (fun c2 => ?_) (fun c2 => ?_)
  · refine zz_iload_n (x := x1) rfl zd_7_8_42 ?_
    exact zz_iret zd_7_8_43 rfl (Nat.zero_le _) (Nat.zero_le _) ⟨_, _, rfl, zz_fr.eq F_S, by omega⟩
  · refine zz_iload_n (x := x1) rfl zd_7_8_12 ?_
    refine zz_aload_n (x := zz_rf 3 t) rfl zd_7_8_13 ?_
    refine zz_getr (kd := 0) (z := ((zz_rf 3 t + 1 : Nat) : Int)) zd_7_8_14 zf_Network_11 (zT_k3 (by omega)) rfl (zN_k3 hn (by omega)) (zE_k3a G_S (by omega)) (Int.natCast_nonneg _) (zz_rf 3 t + 1) (Int.toNat_natCast _) ?_
    refine zz_iload_n (x := x2) rfl zd_7_8_17 ?_
    refine zz_aald (kd := 4) (z := 12 * t + x2) zd_7_8_18 (zT_k3a (by omega)) rfl (zN_k3a hn (by omega)) (by decide) (by omega) (zE_lay G_S (by omega) (by omega)) (by omega) (zz_rf 6 (12 * t + x2)) rfl ?_
    have g3 := zz_G.r G_S0 (zz_rf 6 (12 * t + x2)) 13 (-2147483648) 2147483647 (zR_k6_13 (by omega)) (zB_k6 (by omega))
    refine zz_geti (z := S0 (zz_rf 6 (12 * t + x2)) 13) zd_7_8_19 zf_Network_63 (zT_k6 (by omega)) rfl (zN_k6 hn (by omega)) (zz_rc F_S (zP_k6 (by omega) rfl) (zQ_k6 (by omega) rfl) (fun h => h) rfl) ?_
    refine zz_aload_n (x := zz_rf 3 t) rfl zd_7_8_22 ?_
    refine zz_getr (kd := 0) (z := ((zz_rf 3 t + 1 : Nat) : Int)) zd_7_8_23 zf_Network_11 (zT_k3 (by omega)) rfl (zN_k3 hn (by omega)) (zE_k3a G_S (by omega)) (Int.natCast_nonneg _) (zz_rf 3 t + 1) (Int.toNat_natCast _) ?_
    refine zz_iload_n (x := x2) rfl zd_7_8_26 ?_
    refine zz_aald (kd := 4) (z := 12 * t + x2) zd_7_8_27 (zT_k3a (by omega)) rfl (zN_k3a hn (by omega)) (by decide) (by omega) (zE_lay G_S (by omega) (by omega)) (by omega) (zz_rf 6 (12 * t + x2)) rfl ?_
    refine zz_callVI [] zd_7_8_28 zk_Network_60 (zT_k6 (by omega)) (zN_k6 hn (by omega)) rfl rfl ⟨Nat.le_of_ble_eq_true rfl, Nat.le_of_ble_eq_true rfl⟩ ⟨rfl, rfl⟩ (Nat.zero_le _) (Nat.zero_le _) (zc_size_4_7 (12 * t + x2) S n hn G_S (by omega)) (fun v5 S4 hP => ?_)
    obtain ⟨rfl, o6⟩ := hP
    refine zz_iadd zd_7_8_31 ?_
    refine zz_nrm (fun v7 hv7 ev7 => ?_)
    refine zz_mmax (by omega) (by omega) zd_7_8_32 zm_Network_66 ⟨Nat.le_of_ble_eq_true rfl, Nat.le_of_ble_eq_true rfl⟩ (Nat.zero_le _) (Nat.zero_le _) (fun v8 hv8 => ?_)
    refine zz_istore_n [some (.ref (zz_rf 3 t)), some (zi v8), some (zi x2)] zd_7_8_35 (by decide) rfl ?_
    refine zz_iinc [some (.ref (zz_rf 3 t)), some (zi v8), some (zi (x2 + 1))] zd_7_8_36 rfl rfl ?_
    refine zz_goto zd_7_8_39 ?_
    have e9 : S (zz_rf 3 t) 1 = S0 (zz_rf 3 t) 1 := (zz_rc F_S (zP_k3 (by omega) rfl) (zQ_k3 (by omega) rfl) (fun h => h) rfl)
    refine zz_less (ls1 := [some (.ref (zz_rf 3 t)), some (zi v8), some (zi (x2 + 1))]) ⟨rfl, ⟨rfl, ⟨rfl, trivial⟩⟩⟩ ?_
    exact k4 v8 (x2 + 1) S G_S F_S (by omega) (by omega) (by omega)
theorem zi_endOfAll_7_8 {g : mm_G} {l : Launch} (t : Int) (S0 : zz_S) (n : Nat) (hn : zz_end ≤ n) (G_S0 : zz_G S0) (ht : 0 ≤ t ∧ t ≤ 1) : ∀ N : Nat, (∀ (x1 : Int) (x2 : Int) (S : zz_S), zz_G S → zz_fr [] [] (fun _ _ => False) S0 S → (0 ≤ x1 ∧ x1 ≤ 2147483647) → (0 ≤ x2 ∧ x2 ≤ 11) → (S (zz_rf 3 t) 1 - x2).toNat < N → zz_E g l zy_endOfAll_7_8 zr_endOfAll_7_8 (zz_QI n (zp_endOfAll_7_8 t S0)) S n 4 [some (.ref (zz_rf 3 t)), some (zi x1), some (zi x2)] [] 0 0) := by
  intro N
  induction N with
  | zero => exact fun x1 x2 S _ _ _ _ h => absurd h (Nat.not_lt_zero _)
  | succ N ih =>
    exact fun x1 x2 S a b j0 j1 hR => zb_endOfAll_7_8_4 t S0 n hn G_S0 ht x1 x2 S a b j0 j1 _ rfl (fun x1 x2 S a b j0 j1 h => ih x1 x2 S a b j0 j1 (Nat.lt_of_lt_of_le h (Nat.le_of_lt_succ hR)))
theorem zc_endOfAll_7_8 {g : mm_G} {l : Launch} (t : Int) (S0 : zz_S) (n : Nat) (hn : zz_end ≤ n) (G_S0 : zz_G S0) (ht : 0 ≤ t ∧ t ≤ 1) : mm_Met g l zy_endOfAll_7_8 zr_endOfAll_7_8 [.ref (zz_rf 3 t)] (zz_M S0 n) n (zz_QI n (zp_endOfAll_7_8 t S0)) := by
  refine zz_enter (by decide) (Nat.le_of_ble_eq_true rfl) (zz_less (ls1 := [some (.ref (zz_rf 3 t))]) ⟨rfl, trivial⟩ ?_)
  have F_S0 : zz_fr [] [] (fun _ _ => False) S0 S0 := zz_fr.refl
  have k4 : ∀ (x1 : Int) (x2 : Int) (S : zz_S), zz_G S → zz_fr [] [] (fun _ _ => False) S0 S → (0 ≤ x1 ∧ x1 ≤ 2147483647) → (0 ≤ x2 ∧ x2 ≤ 11) → zz_E g l zy_endOfAll_7_8 zr_endOfAll_7_8 (zz_QI n (zp_endOfAll_7_8 t S0)) S n 4 [some (.ref (zz_rf 3 t)), some (zi x1), some (zi x2)] [] 0 0 := fun x1 x2 S a b j0 j1 => (zi_endOfAll_7_8 (g := g) (l := l) t S0 n hn G_S0 ht _) x1 x2 S a b j0 j1 (Nat.lt_succ_self _)
  have b_t := zz_rf3 (z := t) (by omega)
  refine zz_iconst zd_7_8_0 ?_
  refine zz_istore_n [some (.ref (zz_rf 3 t)), some (zi 0)] zd_7_8_1 (by decide) rfl ?_
  refine zz_iconst zd_7_8_2 ?_
  refine zz_istore_n [some (.ref (zz_rf 3 t)), some (zi 0), some (zi 0)] zd_7_8_3 (by decide) rfl ?_
  refine zz_less (ls1 := [some (.ref (zz_rf 3 t)), some (zi 0), some (zi 0)]) ⟨rfl, ⟨rfl, ⟨rfl, trivial⟩⟩⟩ ?_
  exact k4 0 0 S0 G_S0 F_S0 (by omega) (by omega)
theorem zk_Network_56 : mm_Vl "TensorForge$Network" 56 1 0 zy_endOfAll_7_8 := ⟨zyw_endOfAll_7_8, (R_Network, F_Network, 2), rfl, mm_tb_1 1009 (by decide +kernel) rfl, mm_tb_1 1010 (by decide +kernel) rfl, mm_tb_1 1011 (by decide +kernel) rfl⟩
theorem zg_7_7_67 : (decode zy_offer_7_7.2.1 67 = .ok ((.istore_n 2), 1)) ∧ (decode zy_offer_7_7.2.1 68 = .ok ((.aload_n 0), 1)) ∧ (decode zy_offer_7_7.2.1 69 = .ok ((.getfield 16), 3)) ∧ (decode zy_offer_7_7.2.1 72 = .ok ((.bipush 11), 2)) ∧ (decode zy_offer_7_7.2.1 74 = .ok ((Instr.if_icmp .ge) 15, 3)) ∧ (decode zy_offer_7_7.2.1 89 = .ok ((.iconst 3), 1)) ∧ (decode zy_offer_7_7.2.1 90 = .ok ((.ireturn), 1)) ∧ (decode zy_offer_7_7.2.1 77 = .ok ((.iload_n 2), 1)) ∧ (decode zy_offer_7_7.2.1 78 = .ok ((.aload_n 1), 1)) ∧ (decode zy_offer_7_7.2.1 79 = .ok ((.invokevirtual 60), 3)) := by decide +kernel
theorem zd_7_7_67 : zz_D zy_offer_7_7 67 (.istore_n 2) 1 68 := ⟨zg_7_7_67.1, rfl⟩
theorem zd_7_7_68 : zz_D zy_offer_7_7 68 (.aload_n 0) 1 69 := ⟨zg_7_7_67.2.1, rfl⟩
theorem zd_7_7_69 : zz_D zy_offer_7_7 69 (.getfield 16) 3 72 := ⟨zg_7_7_67.2.2.1, rfl⟩
theorem zd_7_7_72 : zz_D zy_offer_7_7 72 (.bipush 11) 2 74 := ⟨zg_7_7_67.2.2.2.1, rfl⟩
theorem zd_7_7_74 : zz_B zy_offer_7_7 74 (Instr.if_icmp .ge) 89 77 := ⟨15, zg_7_7_67.2.2.2.2.1, rfl, rfl⟩
theorem zd_7_7_89 : zz_D zy_offer_7_7 89 (.iconst 3) 1 90 := ⟨zg_7_7_67.2.2.2.2.2.1, rfl⟩
theorem zd_7_7_90 : zz_D zy_offer_7_7 90 (.ireturn) 1 91 := ⟨zg_7_7_67.2.2.2.2.2.2.1, rfl⟩
theorem zd_7_7_77 : zz_D zy_offer_7_7 77 (.iload_n 2) 1 78 := ⟨zg_7_7_67.2.2.2.2.2.2.2.1, rfl⟩
theorem zd_7_7_78 : zz_D zy_offer_7_7 78 (.aload_n 1) 1 79 := ⟨zg_7_7_67.2.2.2.2.2.2.2.2.1, rfl⟩
theorem zd_7_7_79 : zz_D zy_offer_7_7 79 (.invokevirtual 60) 3 82 := ⟨zg_7_7_67.2.2.2.2.2.2.2.2.2, rfl⟩
theorem zg_7_7_82 : (decode zy_offer_7_7.2.1 82 = .ok ((.iadd), 1)) ∧ (decode zy_offer_7_7.2.1 83 = .ok ((.sipush 2048), 3)) ∧ (decode zy_offer_7_7.2.1 86 = .ok ((Instr.if_icmp .le) 5, 3)) ∧ (decode zy_offer_7_7.2.1 91 = .ok ((.aload_n 1), 1)) ∧ (decode zy_offer_7_7.2.1 92 = .ok ((.iload_n 2), 1)) ∧ (decode zy_offer_7_7.2.1 93 = .ok ((.putfield 63), 3)) ∧ (decode zy_offer_7_7.2.1 96 = .ok ((.aload_n 0), 1)) ∧ (decode zy_offer_7_7.2.1 97 = .ok ((.dup), 1)) ∧ (decode zy_offer_7_7.2.1 98 = .ok ((.getfield 16), 3)) ∧ (decode zy_offer_7_7.2.1 101 = .ok ((.iconst 1), 1)) := by decide +kernel
theorem zd_7_7_82 : zz_D zy_offer_7_7 82 (.iadd) 1 83 := ⟨zg_7_7_82.1, rfl⟩
theorem zd_7_7_83 : zz_D zy_offer_7_7 83 (.sipush 2048) 3 86 := ⟨zg_7_7_82.2.1, rfl⟩
theorem zd_7_7_86 : zz_B zy_offer_7_7 86 (Instr.if_icmp .le) 91 89 := ⟨5, zg_7_7_82.2.2.1, rfl, rfl⟩
theorem zd_7_7_91 : zz_D zy_offer_7_7 91 (.aload_n 1) 1 92 := ⟨zg_7_7_82.2.2.2.1, rfl⟩
theorem zd_7_7_92 : zz_D zy_offer_7_7 92 (.iload_n 2) 1 93 := ⟨zg_7_7_82.2.2.2.2.1, rfl⟩
theorem zd_7_7_93 : zz_D zy_offer_7_7 93 (.putfield 63) 3 96 := ⟨zg_7_7_82.2.2.2.2.2.1, rfl⟩
theorem zd_7_7_96 : zz_D zy_offer_7_7 96 (.aload_n 0) 1 97 := ⟨zg_7_7_82.2.2.2.2.2.2.1, rfl⟩
theorem zd_7_7_97 : zz_D zy_offer_7_7 97 (.dup) 1 98 := ⟨zg_7_7_82.2.2.2.2.2.2.2.1, rfl⟩
theorem zd_7_7_98 : zz_D zy_offer_7_7 98 (.getfield 16) 3 101 := ⟨zg_7_7_82.2.2.2.2.2.2.2.2.1, rfl⟩
theorem zd_7_7_101 : zz_D zy_offer_7_7 101 (.iconst 1) 1 102 := ⟨zg_7_7_82.2.2.2.2.2.2.2.2.2, rfl⟩
theorem zg_7_7_102 : (decode zy_offer_7_7.2.1 102 = .ok ((.iadd), 1)) ∧ (decode zy_offer_7_7.2.1 103 = .ok ((.putfield 16), 3)) ∧ (decode zy_offer_7_7.2.1 106 = .ok ((.iconst 0), 1)) ∧ (decode zy_offer_7_7.2.1 107 = .ok ((.ireturn), 1)) := by decide +kernel
theorem zd_7_7_102 : zz_D zy_offer_7_7 102 (.iadd) 1 103 := ⟨zg_7_7_102.1, rfl⟩
theorem zd_7_7_103 : zz_D zy_offer_7_7 103 (.putfield 16) 3 106 := ⟨zg_7_7_102.2.1, rfl⟩
theorem zd_7_7_106 : zz_D zy_offer_7_7 106 (.iconst 0) 1 107 := ⟨zg_7_7_102.2.2.1, rfl⟩
theorem zd_7_7_107 : zz_D zy_offer_7_7 107 (.ireturn) 1 108 := ⟨zg_7_7_102.2.2.2, rfl⟩
-- TensorForge$Network offer ()I
abbrev zr_offer_7_7 : Room := { frames := 2, cells := 0, slots := 0, locals := 31 }
def zp_offer_7_7 (t : Int) (S0 : zz_S) : Int → zz_S → Prop := fun r S => zz_G S ∧ zz_fr [] [] (fun a i => (a = zz_rf 3 t ∧ i = 1) ∨ (a = zz_rf 6 (12 * t + S0 (zz_rf 3 t) 1) ∧ i = 10) ∨ (a = zz_rf 6 (12 * t + S0 (zz_rf 3 t) 1) ∧ i = 11) ∨ (a = zz_rf 6 (12 * t + S0 (zz_rf 3 t) 1) ∧ i = 12) ∨ (a = zz_rf 6 (12 * t + S0 (zz_rf 3 t) 1) ∧ i = 13)) S0 S ∧ (0 ≤ r ∧ r ≤ 3) ∧ (zz_Hc S)
theorem zc_offer_7_7 {g : mm_G} {l : Launch} (t : Int) (S0 : zz_S) (n : Nat) (hn : zz_end ≤ n) (G_S0 : zz_G S0) (ht : 0 ≤ t ∧ t ≤ 1) (H_S0 : zz_Hc S0) : mm_Met g l zy_offer_7_7 zr_offer_7_7 [.ref (zz_rf 3 t)] (zz_M S0 n) n (zz_QI n (zp_offer_7_7 t S0)) := by
  refine zz_enter (by decide) (Nat.le_of_ble_eq_true rfl) (zz_less (ls1 := [some (.ref (zz_rf 3 t))]) ⟨rfl, trivial⟩ ?_)
  have F_S0 : zz_fr [] [] (fun a i => (a = zz_rf 3 t ∧ i = 1) ∨ (a = zz_rf 6 (12 * t + S0 (zz_rf 3 t) 1) ∧ i = 10) ∨ (a = zz_rf 6 (12 * t + S0 (zz_rf 3 t) 1) ∧ i = 11) ∨ (a = zz_rf 6 (12 * t + S0 (zz_rf 3 t) 1) ∧ i = 12) ∨ (a = zz_rf 6 (12 * t + S0 (zz_rf 3 t) 1) ∧ i = 13)) S0 S0 := zz_fr.refl
  have b_t := zz_rf3 (z := t) (by omega)
  refine zz_aload_n (x := zz_rf 3 t) rfl zd_7_7_0 ?_
  refine zz_callVA [] zd_7_7_1 zk_Network_34 (zT_k3 (by omega)) (zN_k3 hn (by omega)) rfl rfl ⟨Nat.le_of_ble_eq_true rfl, Nat.le_of_ble_eq_true rfl⟩ ⟨rfl, rfl⟩ (Nat.zero_le _) (Nat.zero_le _) (zc_draft_7_6 t S0 n hn G_S0 (by omega)) (fun v2 S1 hP => ?_)
  obtain ⟨rfl, o3, o4⟩ := hP
  subst o3
  refine zz_astore_n [some (.ref (zz_rf 3 t)), some (.ref (zz_rf 6 (12 * t + S0 (zz_rf 3 t) 1)))] zd_7_7_4 (by decide) rfl ?_
  refine zz_aload_n (x := zz_rf 3 t) rfl zd_7_7_5 ?_
  refine zz_aload_n (x := zz_rf 6 (12 * t + S0 (zz_rf 3 t) 1)) rfl zd_7_7_6 ?_
  have g5 := zz_G.r G_S0 (zz_rf 6 (12 * t + S0 (zz_rf 3 t) 1)) 1 (-2147483648) 2147483647 (zR_k6_1 (by omega)) (zB_k6 (by omega))
  refine zz_geti (z := S0 (zz_rf 6 (12 * t + S0 (zz_rf 3 t) 1)) 1) zd_7_7_7 zf_Network_38 (zT_k6 (by omega)) rfl (zN_k6 hn (by omega)) rfl ?_
  refine zz_callVI [zi (S0 (zz_rf 6 (12 * t + S0 (zz_rf 3 t) 1)) 1)] zd_7_7_10 zk_Network_41 (zT_k3 (by omega)) (zN_k3 hn (by omega)) rfl rfl ⟨Nat.le_of_ble_eq_true rfl, Nat.le_of_ble_eq_true rfl⟩ ⟨rfl, rfl⟩ (Nat.zero_le _) (Nat.zero_le _) (zc_has_7_5 t (S0 (zz_rf 6 (12 * t + S0 (zz_rf 3 t) 1)) 1) S0 n hn G_S0 (by omega) (by omega)) (fun v7 S6 hP => ?_)
  obtain ⟨rfl, o8, o9⟩ := hP
  rcases (by omega : v7 = 0 ∨ v7 = 1) with rfl | rfl
  · refine zz_if_eq (by omega) zd_7_7_13 (fun c10 => ?_) (fun c10 => ?_)
    · refine zz_iconst zd_7_7_27 ?_
      exact zz_iret zd_7_7_28 rfl (Nat.zero_le _) (Nat.zero_le _) ⟨_, _, rfl, G_S0, F_S0, by omega, H_S0⟩
    · exfalso; omega
  · refine zz_if_eq (by omega) zd_7_7_13 (fun c11 => ?_) (fun c11 => ?_)
    · exfalso; omega
    · refine zz_aload_n (x := zz_rf 3 t) rfl zd_7_7_16 ?_
      refine zz_aload_n (x := zz_rf 6 (12 * t + S0 (zz_rf 3 t) 1)) rfl zd_7_7_17 ?_
      have g12 := zz_G.r G_S0 (zz_rf 6 (12 * t + S0 (zz_rf 3 t) 1)) 2 (-2147483648) 2147483647 (zR_k6_2 (by omega)) (zB_k6 (by omega))
      refine zz_geti (z := S0 (zz_rf 6 (12 * t + S0 (zz_rf 3 t) 1)) 2) zd_7_7_18 zf_Network_45 (zT_k6 (by omega)) rfl (zN_k6 hn (by omega)) rfl ?_
      refine zz_callVI [zi (S0 (zz_rf 6 (12 * t + S0 (zz_rf 3 t) 1)) 2)] zd_7_7_21 zk_Network_41 (zT_k3 (by omega)) (zN_k3 hn (by omega)) rfl rfl ⟨Nat.le_of_ble_eq_true rfl, Nat.le_of_ble_eq_true rfl⟩ ⟨rfl, rfl⟩ (Nat.zero_le _) (Nat.zero_le _) (zc_has_7_5 t (S0 (zz_rf 6 (12 * t + S0 (zz_rf 3 t) 1)) 2) S0 n hn G_S0 (by omega) (by omega)) (fun v14 S13 hP => ?_)
      obtain ⟨rfl, o15, o16⟩ := hP
      rcases (by omega : v14 = 0 ∨ v14 = 1) with rfl | rfl
      · refine zz_if_ne (by omega) zd_7_7_24 (fun c17 => ?_) (fun c17 => ?_)
        · exfalso; omega
        · refine zz_iconst zd_7_7_27 ?_
          exact zz_iret zd_7_7_28 rfl (Nat.zero_le _) (Nat.zero_le _) ⟨_, _, rfl, G_S0, F_S0, by omega, H_S0⟩
      · refine zz_if_ne (by omega) zd_7_7_24 (fun c18 => ?_) (fun c18 => ?_)
        · refine zz_aload_n (x := zz_rf 6 (12 * t + S0 (zz_rf 3 t) 1)) rfl zd_7_7_29 ?_
          refine zz_callVI [] zd_7_7_30 zk_Network_48 (zT_k6 (by omega)) (zN_k6 hn (by omega)) rfl rfl ⟨Nat.le_of_ble_eq_true rfl, Nat.le_of_ble_eq_true rfl⟩ ⟨rfl, rfl⟩ (Nat.zero_le _) (Nat.zero_le _) (zc_numbersFit_4_10 (12 * t + S0 (zz_rf 3 t) 1) S0 n hn G_S0 (by omega)) (fun v20 S19 hP => ?_)
          obtain ⟨rfl, o21, o22⟩ := hP
          rcases (by omega : v20 = 0 ∨ v20 = 1) with rfl | rfl
          · refine zz_if_eq (by omega) zd_7_7_33 (fun c23 => ?_) (fun c23 => ?_)
            · refine zz_iconst zd_7_7_61 ?_
              exact zz_iret zd_7_7_62 rfl (Nat.zero_le _) (Nat.zero_le _) ⟨_, _, rfl, G_S0, F_S0, by omega, H_S0⟩
            · exfalso; omega
          · refine zz_if_eq (by omega) zd_7_7_33 (fun c24 => ?_) (fun c24 => ?_)
            · exfalso; omega
            · refine zz_aload_n (x := zz_rf 6 (12 * t + S0 (zz_rf 3 t) 1)) rfl zd_7_7_36 ?_
              refine zz_aload_n (x := zz_rf 3 t) rfl zd_7_7_37 ?_
              refine zz_getr (kd := 0) (z := ((zz_rf 3 t + 1 : Nat) : Int)) zd_7_7_38 zf_Network_11 (zT_k3 (by omega)) rfl (zN_k3 hn (by omega)) (zE_k3a G_S0 (by omega)) (Int.natCast_nonneg _) (zz_rf 3 t + 1) (Int.toNat_natCast _) ?_
              refine zz_aload_n (x := zz_rf 6 (12 * t + S0 (zz_rf 3 t) 1)) rfl zd_7_7_41 ?_
              refine zz_geti (z := S0 (zz_rf 6 (12 * t + S0 (zz_rf 3 t) 1)) 1) zd_7_7_42 zf_Network_38 (zT_k6 (by omega)) rfl (zN_k6 hn (by omega)) rfl ?_
              refine zz_aald (kd := 4) (z := 12 * t + (S0 (zz_rf 6 (12 * t + S0 (zz_rf 3 t) 1)) 1)) zd_7_7_45 (zT_k3a (by omega)) rfl (zN_k3a hn (by omega)) (by decide) (by omega) (zE_lay G_S0 (by omega) (by omega)) (by omega) (zz_rf 6 (12 * t + (S0 (zz_rf 6 (12 * t + S0 (zz_rf 3 t) 1)) 1))) rfl ?_
              refine zz_aload_n (x := zz_rf 3 t) rfl zd_7_7_46 ?_
              refine zz_getr (kd := 0) (z := ((zz_rf 3 t + 1 : Nat) : Int)) zd_7_7_47 zf_Network_11 (zT_k3 (by omega)) rfl (zN_k3 hn (by omega)) (zE_k3a G_S0 (by omega)) (Int.natCast_nonneg _) (zz_rf 3 t + 1) (Int.toNat_natCast _) ?_
              refine zz_aload_n (x := zz_rf 6 (12 * t + S0 (zz_rf 3 t) 1)) rfl zd_7_7_50 ?_
              refine zz_geti (z := S0 (zz_rf 6 (12 * t + S0 (zz_rf 3 t) 1)) 2) zd_7_7_51 zf_Network_45 (zT_k6 (by omega)) rfl (zN_k6 hn (by omega)) rfl ?_
              refine zz_aald (kd := 4) (z := 12 * t + (S0 (zz_rf 6 (12 * t + S0 (zz_rf 3 t) 1)) 2)) zd_7_7_54 (zT_k3a (by omega)) rfl (zN_k3a hn (by omega)) (by decide) (by omega) (zE_lay G_S0 (by omega) (by omega)) (by omega) (zz_rf 6 (12 * t + (S0 (zz_rf 6 (12 * t + S0 (zz_rf 3 t) 1)) 2))) rfl ?_
              refine zz_callVI [.ref (zz_rf 6 (12 * t + (S0 (zz_rf 6 (12 * t + S0 (zz_rf 3 t) 1)) 1))), .ref (zz_rf 6 (12 * t + (S0 (zz_rf 6 (12 * t + S0 (zz_rf 3 t) 1)) 2)))] zd_7_7_55 zk_Network_52 (zT_k6 (by omega)) (zN_k6 hn (by omega)) rfl rfl ⟨Nat.le_of_ble_eq_true rfl, Nat.le_of_ble_eq_true rfl⟩ ⟨rfl, rfl⟩ (Nat.zero_le _) (Nat.zero_le _) (zc_takeResult_4_11 (12 * t + S0 (zz_rf 3 t) 1) (12 * t + (S0 (zz_rf 6 (12 * t + S0 (zz_rf 3 t) 1)) 1)) (12 * t + (S0 (zz_rf 6 (12 * t + S0 (zz_rf 3 t) 1)) 2)) S0 n hn G_S0 (by omega) (by omega) (by omega)) (fun v26 S25 hP => ?_)
              obtain ⟨G_S25, fS25, o27, o28⟩ := hP
              have b29 := zz_G.r G_S0 (zz_rf 3 t) 1 1 11 (zR_k3_1 (by omega)) (zB_k3 (by omega))
              have F_S25 := zz_fr.trans F_S0 fS25 rfl (fun a i h => by rcases h with h | h | h; exact Or.inr (Or.inr (Or.inr (Or.inl h))); exact Or.inr (Or.inr (Or.inr (Or.inr (Or.inl h)))); exact Or.inr (Or.inr (Or.inr (Or.inr (Or.inr (Or.inl h))))))
              have b30 := zz_G.r G_S0 (zz_rf 3 t) 1 1 11 (zR_k3_1 (by omega)) (zB_k3 (by omega))
              have b31 := zz_rf6 (z := (12 * t + S0 (zz_rf 3 t) 1)) (by omega)
              have b32 := zz_rf3 (z := t) (by omega)
              have H_S25 : zz_Hc S25 := zz_Hc.fr (q := t) (z := 12 * t + S0 (zz_rf 3 t) 1) fS25 rfl rfl G_S0 (by omega) rfl (fun b j h => by omega) H_S0
              rcases (by omega : v26 = 0 ∨ v26 = 1) with rfl | rfl
              · refine zz_if_ne (by omega) zd_7_7_58 (fun c33 => ?_) (fun c33 => ?_)
                · exfalso; omega
                · refine zz_iconst zd_7_7_61 ?_
                  exact zz_iret zd_7_7_62 rfl (Nat.zero_le _) (Nat.zero_le _) ⟨_, _, rfl, G_S25, F_S25, by omega, H_S25⟩
              · refine zz_if_ne (by omega) zd_7_7_58 (fun c34 => ?_) (fun c34 => ?_)
                · refine zz_aload_n (x := zz_rf 3 t) rfl zd_7_7_63 ?_
                  refine zz_callVI [] zd_7_7_64 zk_Network_56 (zT_k3 (by omega)) (zN_k3 hn (by omega)) rfl rfl ⟨Nat.le_of_ble_eq_true rfl, Nat.le_of_ble_eq_true rfl⟩ ⟨rfl, rfl⟩ (Nat.zero_le _) (Nat.zero_le _) (zc_endOfAll_7_8 t S25 n hn G_S25 (by omega)) (fun v36 S35 hP => ?_)
                  obtain ⟨rfl, o37⟩ := hP
                  refine zz_istore_n [some (.ref (zz_rf 3 t)), some (.ref (zz_rf 6 (12 * t + S0 (zz_rf 3 t) 1))), some (zi v36)] zd_7_7_67 (by decide) rfl ?_
                  refine zz_aload_n (x := zz_rf 3 t) rfl zd_7_7_68 ?_
                  have g38 := zz_G.r G_S0 (zz_rf 3 t) 1 1 11 (zR_k3_1 (by omega)) (zB_k3 (by omega))
                  refine zz_geti (z := S0 (zz_rf 3 t) 1) zd_7_7_69 zf_Network_16 (zT_k3 (by omega)) rfl (zN_k3 hn (by omega)) (zz_rc fS25 (zP_k3 (by omega) rfl) (zQ_k3 (by omega) rfl) (by have hz_ := zz_rf3 (z := t) (by omega); omega) rfl) ?_
                  refine zz_bipush (by decide) zd_7_7_72 ?_
                  refine zz_icmp_ge (by omega) (by omega) zd_7_7_74 (fun c39 => ?_) (fun c39 => ?_)
                  · refine zz_iconst zd_7_7_89 ?_
                    exact zz_iret zd_7_7_90 rfl (Nat.zero_le _) (Nat.zero_le _) ⟨_, _, rfl, G_S25, F_S25, by omega, H_S25⟩
                  · refine zz_iload_n (x := v36) rfl zd_7_7_77 ?_
                    refine zz_aload_n (x := zz_rf 6 (12 * t + S0 (zz_rf 3 t) 1)) rfl zd_7_7_78 ?_
                    refine zz_callVI [] zd_7_7_79 zk_Network_60 (zT_k6 (by omega)) (zN_k6 hn (by omega)) rfl rfl ⟨Nat.le_of_ble_eq_true rfl, Nat.le_of_ble_eq_true rfl⟩ ⟨rfl, rfl⟩ (Nat.zero_le _) (Nat.zero_le _) (zc_size_4_7 (12 * t + S0 (zz_rf 3 t) 1) S25 n hn G_S25 (by omega)) (fun v41 S40 hP => ?_)
                    obtain ⟨rfl, o42⟩ := hP
                    refine zz_iadd zd_7_7_82 ?_
                    refine zz_nrm (fun v43 hv43 ev43 => ?_)
                    refine zz_sipush (by decide) zd_7_7_83 ?_
                    refine zz_icmp_le (by omega) (by omega) zd_7_7_86 (fun c44 => ?_) (fun c44 => ?_)
                    · refine zz_aload_n (x := zz_rf 6 (12 * t + S0 (zz_rf 3 t) 1)) rfl zd_7_7_91 ?_
                      refine zz_iload_n (x := v36) rfl zd_7_7_92 ?_
                      refine zz_puti zd_7_7_93 zf_Network_63 (zT_k6 (by omega)) rfl (zN_k6 hn (by omega)) (fun S45 qS45 => ?_)
                      have G_S45 := zz_G.put G_S25 qS45 (-2147483648) 2147483647 (zR_k6_13 (by omega)) (by omega)
                      have F_S45 := zz_fr.putv F_S25 qS45 (Or.inr (Or.inr (Or.inr (Or.inr (⟨rfl, rfl⟩)))))
                      have H_S45 : zz_Hc S45 := zz_Hc.fr (q := t) (z := 12 * t + S0 (zz_rf 3 t) 1) (zz_fr.put1 qS45) rfl rfl G_S25 (by omega) (by rw [show S25 (zz_rf 3 t) 1 = S0 (zz_rf 3 t) 1 from (zz_rc fS25 (zP_k3 (by omega) rfl) (zQ_k3 (by omega) rfl) (by have hz_ := zz_rf3 (z := t) (by omega); omega) rfl)]) (fun b j h => Or.inr (Or.inr h.1)) H_S25
                      refine zz_aload_n (x := zz_rf 3 t) rfl zd_7_7_96 ?_
                      refine zz_dup rfl zd_7_7_97 ?_
                      refine zz_geti (z := S0 (zz_rf 3 t) 1) zd_7_7_98 zf_Network_16 (zT_k3 (by omega)) rfl (zN_k3 hn (by omega)) (zz_ro qS45 (fun h => absurd h.2 (by decide)) (zz_rc fS25 (zP_k3 (by omega) rfl) (zQ_k3 (by omega) rfl) (by have hz_ := zz_rf3 (z := t) (by omega); omega) rfl)) ?_
                      refine zz_iconst zd_7_7_101 ?_
                      refine zz_iadd zd_7_7_102 ?_
                      refine zz_puti zd_7_7_103 zf_Network_16 (zT_k3 (by omega)) rfl (zN_k3 hn (by omega)) (fun S46 qS46 => ?_)
                      have G_S46 := zz_G.put G_S45 qS46 1 11 (zR_k3_1 (by omega)) (by omega)
                      have F_S46 := zz_fr.putv F_S45 qS46 (Or.inl ⟨rfl, rfl⟩)
                      have e47 : S45 (zz_rf 3 t) 1 = S0 (zz_rf 3 t) 1 := (zz_ro qS45 (fun h => absurd h.2 (by decide)) (zz_rc fS25 (zP_k3 (by omega) rfl) (zQ_k3 (by omega) rfl) (by have hz_ := zz_rf3 (z := t) (by omega); omega) rfl))
                      have e48 : S45 (zz_rf 6 (12 * t + S0 (zz_rf 3 t) 1)) 0 = S0 (zz_rf 6 (12 * t + S0 (zz_rf 3 t) 1)) 0 := (zz_ro qS45 (fun h => absurd h.2 (by decide)) (zz_rc fS25 (zP_k6 (by omega) rfl) (zQ_k6 (by omega) rfl) (by have hz_ := zz_rf6 (z := 12 * t + S0 (zz_rf 3 t) 1) (by omega); omega) rfl))
                      have e49 : S45 (zz_rf 6 (12 * t + S0 (zz_rf 3 t) 1)) 12 = S25 (zz_rf 6 (12 * t + S0 (zz_rf 3 t) 1)) 12 := (zz_ro qS45 (fun h => absurd h.2 (by decide)) rfl)
                      have e50 : S45 (zz_rf 6 (12 * t + S0 (zz_rf 3 t) 1)) 3 = S0 (zz_rf 6 (12 * t + S0 (zz_rf 3 t) 1)) 3 := (zz_ro qS45 (fun h => absurd h.2 (by decide)) (zz_rc fS25 (zP_k6 (by omega) rfl) (zQ_k6 (by omega) rfl) (by have hz_ := zz_rf6 (z := 12 * t + S0 (zz_rf 3 t) 1) (by omega); omega) rfl))
                      have e51 : S45 (zz_rf 6 (12 * t + S0 (zz_rf 3 t) 1)) 4 = S0 (zz_rf 6 (12 * t + S0 (zz_rf 3 t) 1)) 4 := (zz_ro qS45 (fun h => absurd h.2 (by decide)) (zz_rc fS25 (zP_k6 (by omega) rfl) (zQ_k6 (by omega) rfl) (by have hz_ := zz_rf6 (z := 12 * t + S0 (zz_rf 3 t) 1) (by omega); omega) rfl))
                      have hy9 := (H_S0 t (by omega) (S0 (zz_rf 6 (12 * t + S0 (zz_rf 3 t) 1)) 1) (by omega) (by omega)).2
                      have H_S46 : zz_Hc S46 := zz_Hc.up qS46 (by omega) (by omega) G_S45 (by omega) (by rw [show S45 (zz_rf 3 t) 1 = S0 (zz_rf 3 t) 1 by omega]; unfold zz_ly; omega) H_S45
                      refine zz_iconst zd_7_7_106 ?_
                      exact zz_iret zd_7_7_107 rfl (Nat.zero_le _) (Nat.zero_le _) ⟨_, _, rfl, G_S46, F_S46, by omega, H_S46⟩
                    · refine zz_iconst zd_7_7_89 ?_
                      exact zz_iret zd_7_7_90 rfl (Nat.zero_le _) (Nat.zero_le _) ⟨_, _, rfl, G_S25, F_S25, by omega, H_S25⟩
                · exfalso; omega
        · exfalso; omega
theorem zk_TF_326 : mm_Vl "TensorForge" 326 1 0 zy_offer_7_7 := ⟨zyw_offer_7_7, (R_Network, F_Network, 2), rfl, mm_tb_1 1371 (by decide +kernel) rfl, mm_tb_1 990 (by decide +kernel) rfl, mm_tb_1 991 (by decide +kernel) rfl⟩
theorem zf_TF_278 : mm_Fl "TensorForge" 278 1 1 .int false := ⟨R_Network, F_Network, 2, t_Network, rfl, i_Network, by decide, mm_tb_1 148 (by decide +kernel) rfl, rfl, t_Network_ok, n_Network, rfl, by decide +kernel⟩
theorem zt_1_31_44 : zz_ThrW zy_added_1_31 44 126 331 130 := ⟨by decide +kernel, by decide +kernel, by decide +kernel, by decide +kernel, by decide +kernel⟩
theorem zxl_TF_126_331_130 : mm_Xl "TensorForge" 126 331 130 2 := ⟨mm_tb_1 1176 (by decide +kernel) rfl, mm_tb_1 1177 (by decide +kernel) rfl, mm_tb_1 19 (by decide +kernel) rfl, ⟨53, by decide +kernel⟩, zxa_TF_130⟩
theorem zt_1_31_28 : zz_ThrW zy_added_1_31 28 87 329 91 := ⟨by decide +kernel, by decide +kernel, by decide +kernel, by decide +kernel, by decide +kernel⟩
theorem zxl_TF_87_329_91 : mm_Xl "TensorForge" 87 329 91 0 := ⟨mm_tb_1 1048 (by decide +kernel) rfl, mm_tb_1 1049 (by decide +kernel) rfl, mm_tb_1 16 (by decide +kernel) rfl, ⟨52, by decide +kernel⟩, zxa_TF_91⟩
theorem zt_1_31_13 : zz_Thr zy_added_1_31 13 101 254 105 := ⟨by decide +kernel, by decide +kernel, by decide +kernel, by decide +kernel, by decide +kernel⟩
theorem zxl_TF_101_254_105 : mm_Xl "TensorForge" 101 254 105 1 := ⟨mm_tb_1 1133 (by decide +kernel) rfl, mm_tb_1 1134 (by decide +kernel) rfl, mm_tb_1 18 (by decide +kernel) rfl, ⟨51, by decide +kernel⟩, zxa_TF_105⟩
theorem zg_1_31_7 : (decode zy_added_1_31.2.1 7 = .ok ((.istore_n 1), 1)) ∧ (decode zy_added_1_31.2.1 8 = .ok ((.iload_n 1), 1)) ∧ (decode zy_added_1_31.2.1 9 = .ok ((.iconst 1), 1)) ∧ (decode zy_added_1_31.2.1 10 = .ok ((Instr.if_icmp .ne) 13, 3)) ∧ (decode zy_added_1_31.2.1 23 = .ok ((.iload_n 1), 1)) ∧ (decode zy_added_1_31.2.1 24 = .ok ((.iconst 2), 1)) ∧ (decode zy_added_1_31.2.1 25 = .ok ((Instr.if_icmp .ne) 14, 3)) ∧ (decode zy_added_1_31.2.1 39 = .ok ((.iload_n 1), 1)) ∧ (decode zy_added_1_31.2.1 40 = .ok ((.iconst 3), 1)) ∧ (decode zy_added_1_31.2.1 41 = .ok ((Instr.if_icmp .ne) 14, 3)) := by decide +kernel
theorem zd_1_31_7 : zz_D zy_added_1_31 7 (.istore_n 1) 1 8 := ⟨zg_1_31_7.1, rfl⟩
theorem zd_1_31_8 : zz_D zy_added_1_31 8 (.iload_n 1) 1 9 := ⟨zg_1_31_7.2.1, rfl⟩
theorem zd_1_31_9 : zz_D zy_added_1_31 9 (.iconst 1) 1 10 := ⟨zg_1_31_7.2.2.1, rfl⟩
theorem zd_1_31_10 : zz_B zy_added_1_31 10 (Instr.if_icmp .ne) 23 13 := ⟨13, zg_1_31_7.2.2.2.1, rfl, rfl⟩
theorem zd_1_31_23 : zz_D zy_added_1_31 23 (.iload_n 1) 1 24 := ⟨zg_1_31_7.2.2.2.2.1, rfl⟩
theorem zd_1_31_24 : zz_D zy_added_1_31 24 (.iconst 2) 1 25 := ⟨zg_1_31_7.2.2.2.2.2.1, rfl⟩
theorem zd_1_31_25 : zz_B zy_added_1_31 25 (Instr.if_icmp .ne) 39 28 := ⟨14, zg_1_31_7.2.2.2.2.2.2.1, rfl, rfl⟩
theorem zd_1_31_39 : zz_D zy_added_1_31 39 (.iload_n 1) 1 40 := ⟨zg_1_31_7.2.2.2.2.2.2.2.1, rfl⟩
theorem zd_1_31_40 : zz_D zy_added_1_31 40 (.iconst 3) 1 41 := ⟨zg_1_31_7.2.2.2.2.2.2.2.2.1, rfl⟩
theorem zd_1_31_41 : zz_B zy_added_1_31 41 (Instr.if_icmp .ne) 55 44 := ⟨14, zg_1_31_7.2.2.2.2.2.2.2.2.2, rfl, rfl⟩
theorem zg_1_31_55 : (decode zy_added_1_31.2.1 55 = .ok ((.aload_n 0), 1)) ∧ (decode zy_added_1_31.2.1 56 = .ok ((.getfield 10), 3)) ∧ (decode zy_added_1_31.2.1 59 = .ok ((.getfield 278), 3)) ∧ (decode zy_added_1_31.2.1 62 = .ok ((.iconst 1), 1)) ∧ (decode zy_added_1_31.2.1 63 = .ok ((.isub), 1)) ∧ (decode zy_added_1_31.2.1 64 = .ok ((.ireturn), 1)) := by decide +kernel
theorem zd_1_31_55 : zz_D zy_added_1_31 55 (.aload_n 0) 1 56 := ⟨zg_1_31_55.1, rfl⟩
theorem zd_1_31_56 : zz_D zy_added_1_31 56 (.getfield 10) 3 59 := ⟨zg_1_31_55.2.1, rfl⟩
theorem zd_1_31_59 : zz_D zy_added_1_31 59 (.getfield 278) 3 62 := ⟨zg_1_31_55.2.2.1, rfl⟩
theorem zd_1_31_62 : zz_D zy_added_1_31 62 (.iconst 1) 1 63 := ⟨zg_1_31_55.2.2.2.1, rfl⟩
theorem zd_1_31_63 : zz_D zy_added_1_31 63 (.isub) 1 64 := ⟨zg_1_31_55.2.2.2.2.1, rfl⟩
theorem zd_1_31_64 : zz_D zy_added_1_31 64 (.ireturn) 1 65 := ⟨zg_1_31_55.2.2.2.2.2, rfl⟩
-- TensorForge added ()I
abbrev zr_added_1_31 : Room := { frames := 6, cells := 1, slots := 6, locals := 82 }
def zp_added_1_31  (S0 : zz_S) : Int → zz_S → Prop := fun r S => zz_G S ∧ zz_fr [] [] (fun a i => (a = zz_rf 3 (S0 1000 7) ∧ i = 1) ∨ (a = zz_rf 6 (12 * (S0 1000 7) + S0 (zz_rf 3 (S0 1000 7)) 1) ∧ i = 10) ∨ (a = zz_rf 6 (12 * (S0 1000 7) + S0 (zz_rf 3 (S0 1000 7)) 1) ∧ i = 11) ∨ (a = zz_rf 6 (12 * (S0 1000 7) + S0 (zz_rf 3 (S0 1000 7)) 1) ∧ i = 12) ∨ (a = zz_rf 6 (12 * (S0 1000 7) + S0 (zz_rf 3 (S0 1000 7)) 1) ∧ i = 13)) S0 S ∧ ((-2147483648) ≤ r ∧ r ≤ 2147483647) ∧ (zz_Hc S)
def zx_added_1_31  (S0 : zz_S) : Nat → zz_S → Prop := fun i S => zz_G S ∧ zz_fr [] [] (fun a i => (a = zz_rf 3 (S0 1000 7) ∧ i = 1) ∨ (a = zz_rf 6 (12 * (S0 1000 7) + S0 (zz_rf 3 (S0 1000 7)) 1) ∧ i = 10) ∨ (a = zz_rf 6 (12 * (S0 1000 7) + S0 (zz_rf 3 (S0 1000 7)) 1) ∧ i = 11) ∨ (a = zz_rf 6 (12 * (S0 1000 7) + S0 (zz_rf 3 (S0 1000 7)) 1) ∧ i = 12) ∨ (a = zz_rf 6 (12 * (S0 1000 7) + S0 (zz_rf 3 (S0 1000 7)) 1) ∧ i = 13)) S0 S ∧ (i < 4) ∧ (i = 0 ∨ i = 1 ∨ i = 2) ∧ (zz_Hc S)
theorem zc_added_1_31 {g : mm_G} {l : Launch}  (S0 : zz_S) (n : Nat) (hn : zz_end ≤ n) (hfl : l.flags = flags0) (G_S0 : zz_G S0) (H_S0 : zz_Hc S0) : mm_Met g l zy_added_1_31 zr_added_1_31 [.ref 1000] (zz_M S0 n) n (zz_XI n (zp_added_1_31  S0) (zx_added_1_31  S0)) := by
  refine zz_enter (by decide) (Nat.le_of_ble_eq_true rfl) (zz_less (ls1 := [some (.ref 1000)]) ⟨rfl, trivial⟩ ?_)
  have F_S0 : zz_fr [] [] (fun a i => (a = zz_rf 3 (S0 1000 7) ∧ i = 1) ∨ (a = zz_rf 6 (12 * (S0 1000 7) + S0 (zz_rf 3 (S0 1000 7)) 1) ∧ i = 10) ∨ (a = zz_rf 6 (12 * (S0 1000 7) + S0 (zz_rf 3 (S0 1000 7)) 1) ∧ i = 11) ∨ (a = zz_rf 6 (12 * (S0 1000 7) + S0 (zz_rf 3 (S0 1000 7)) 1) ∧ i = 12) ∨ (a = zz_rf 6 (12 * (S0 1000 7) + S0 (zz_rf 3 (S0 1000 7)) 1) ∧ i = 13)) S0 S0 := zz_fr.refl
  refine zz_aload_n (x := 1000) rfl zd_1_31_0 ?_
  have g1 := zz_G.r G_S0 1000 7 0 1 rfl rfl
  refine zz_getr (kd := 1) (z := S0 1000 7) zd_1_31_1 zf_TF_10 zT_1000 rfl (zz_ltn hn rfl) rfl (by omega) (zz_rf 3 (S0 1000 7)) rfl ?_
  refine zz_callVI [] zd_1_31_4 zk_TF_326 (zT_k3 (by omega)) (zN_k3 hn (by omega)) rfl rfl ⟨Nat.le_of_ble_eq_true rfl, Nat.le_of_ble_eq_true rfl⟩ ⟨rfl, rfl⟩ (Nat.zero_le _) (Nat.zero_le _) (zc_offer_7_7 (S0 1000 7) S0 n hn G_S0 (by omega) H_S0) (fun v3 S2 hP => ?_)
  obtain ⟨G_S2, fS2, o4, o5⟩ := hP
  have g6 := zz_G.r G_S0 1000 7 0 1 rfl rfl
  have b7 := zz_G.r G_S0 (zz_rf 3 (S0 1000 7)) 1 1 11 (zR_k3_1 (by omega)) (zB_k3 (by omega))
  have F_S2 := zz_fr.trans F_S0 fS2 rfl (fun a i h => by rcases h with h | h | h | h | h; exact Or.inr (Or.inr (Or.inl h)); exact Or.inr (Or.inr (Or.inr (Or.inl h))); exact Or.inr (Or.inr (Or.inr (Or.inr (Or.inl h)))); exact Or.inr (Or.inr (Or.inr (Or.inr (Or.inr (Or.inl h))))); exact Or.inr (Or.inr (Or.inr (Or.inr (Or.inr (Or.inr (h)))))))
  have b8 := zz_rf3 (z := (S0 1000 7)) (by omega)
  have b9 := zz_G.r G_S0 (zz_rf 3 (S0 1000 7)) 1 1 11 (zR_k3_1 (by omega)) (zB_k3 (by omega))
  have b10 := zz_rf6 (z := (12 * (S0 1000 7) + S0 (zz_rf 3 (S0 1000 7)) 1)) (by omega)
  have H_S2 : zz_Hc S2 := o5
  refine zz_istore_n [some (.ref 1000), some (zi v3)] zd_1_31_7 (by decide) rfl ?_
  refine zz_iload_n (x := v3) rfl zd_1_31_8 ?_
  refine zz_iconst zd_1_31_9 ?_
  refine zz_icmp_ne (by omega) (by omega) zd_1_31_10 (fun c11 => ?_) (fun c11 => ?_)
  · refine zz_iload_n (x := v3) rfl zd_1_31_23 ?_
    refine zz_iconst zd_1_31_24 ?_
    refine zz_icmp_ne (by omega) (by omega) zd_1_31_25 (fun c12 => ?_) (fun c12 => ?_)
    · refine zz_iload_n (x := v3) rfl zd_1_31_39 ?_
      refine zz_iconst zd_1_31_40 ?_
      refine zz_icmp_ne (by omega) (by omega) zd_1_31_41 (fun c13 => ?_) (fun c13 => ?_)
      · refine zz_aload_n (x := 1000) rfl zd_1_31_55 ?_
        refine zz_getr (kd := 1) (z := S0 1000 7) zd_1_31_56 zf_TF_10 zT_1000 rfl (zz_ltn hn rfl) (zz_rc fS2 rfl rfl (by omega) rfl) (by omega) (zz_rf 3 (S0 1000 7)) rfl ?_
        have g14 := zz_G.r G_S2 (zz_rf 3 (S0 1000 7)) 1 1 11 (zR_k3_1 (by omega)) (zB_k3 (by omega))
        refine zz_geti (z := S2 (zz_rf 3 (S0 1000 7)) 1) zd_1_31_59 zf_TF_278 (zT_k3 (by omega)) rfl (zN_k3 hn (by omega)) rfl ?_
        refine zz_iconst zd_1_31_62 ?_
        refine zz_isub zd_1_31_63 ?_
        exact zz_iret zd_1_31_64 rfl (Nat.le_of_ble_eq_true rfl) (Nat.le_of_ble_eq_true rfl) (Or.inl ⟨_, _, rfl, G_S2, F_S2, by omega, H_S2⟩)
      · exact zz_throwW (i := 2) hfl hn zt_1_31_44 zyw_added_1_31 zxl_TF_126_331_130 (Nat.le_of_ble_eq_true rfl) (Nat.le_of_ble_eq_true rfl) ⟨Nat.le_of_ble_eq_true rfl, Nat.le_of_ble_eq_true rfl⟩ (Or.inr ⟨_, _, rfl, G_S2, F_S2, by omega, by omega, H_S2⟩)
    · exact zz_throwW (i := 0) hfl hn zt_1_31_28 zyw_added_1_31 zxl_TF_87_329_91 (Nat.le_of_ble_eq_true rfl) (Nat.le_of_ble_eq_true rfl) ⟨Nat.le_of_ble_eq_true rfl, Nat.le_of_ble_eq_true rfl⟩ (Or.inr ⟨_, _, rfl, G_S2, F_S2, by omega, by omega, H_S2⟩)
  · exact zz_throw (i := 1) hfl hn zt_1_31_13 zyw_added_1_31 zxl_TF_101_254_105 (Nat.le_of_ble_eq_true rfl) (Nat.le_of_ble_eq_true rfl) ⟨Nat.le_of_ble_eq_true rfl, Nat.le_of_ble_eq_true rfl⟩ (Or.inr ⟨_, _, rfl, G_S2, F_S2, by omega, by omega, H_S2⟩)
theorem zk_TF_247 : mm_Vl "TensorForge" 247 0 0 zy_added_1_31 := ⟨zyw_added_1_31, (R_TF, F_TF, 12), rfl, mm_tb_1 1367 (by decide +kernel) rfl, mm_tb_1 1369 (by decide +kernel) rfl, mm_tb_s 62 (by decide +kernel) rfl⟩
theorem zd_1_19_74 : zz_D zy_convolution_1_19 74 (.ireturn) 1 75 := ⟨by decide +kernel, rfl⟩
-- TensorForge convolution (IIIIII)I
abbrev zr_convolution_1_19 : Room := { frames := 7, cells := 1, slots := 6, locals := 95 }
def zp_convolution_1_19 (p0 : Int) (p1 : Int) (p2 : Int) (p3 : Int) (p4 : Int) (p5 : Int) (S0 : zz_S) : Int → zz_S → Prop := fun r S => zz_G S ∧ zz_fr [] [1001, 1003, 1004, 1005, 1006, 1007, 1008, 1009, 1010, 1011, 1012, 1013, 1014, 1015, 1017, 1018, 1019, 1020, 1021, 1022, 1023, 1024, 1025, 1026, 1027, 1028] (fun _ _ => False) S0 S ∧ ((-2147483648) ≤ r ∧ r ≤ 2147483647) ∧ (zz_Hc S)
def zx_convolution_1_19 (p0 : Int) (p1 : Int) (p2 : Int) (p3 : Int) (p4 : Int) (p5 : Int) (S0 : zz_S) : Nat → zz_S → Prop := fun i S => zz_G S ∧ zz_fr [] [1001, 1003, 1004, 1005, 1006, 1007, 1008, 1009, 1010, 1011, 1012, 1013, 1014, 1015, 1017, 1018, 1019, 1020, 1021, 1022, 1023, 1024, 1025, 1026, 1027, 1028] (fun _ _ => False) S0 S ∧ (i < 4) ∧ (i = 0 ∨ i = 1 ∨ i = 2) ∧ (zz_Hc S)
theorem zc_convolution_1_19 {g : mm_G} {l : Launch} (p0 : Int) (p1 : Int) (p2 : Int) (p3 : Int) (p4 : Int) (p5 : Int) (S0 : zz_S) (n : Nat) (hn : zz_end ≤ n) (hfl : l.flags = flags0) (G_S0 : zz_G S0) (hp0 : (-2147483648) ≤ p0 ∧ p0 ≤ 2147483647) (hp1 : (-2147483648) ≤ p1 ∧ p1 ≤ 2147483647) (hp2 : (-2147483648) ≤ p2 ∧ p2 ≤ 2147483647) (hp3 : (-2147483648) ≤ p3 ∧ p3 ≤ 2147483647) (hp4 : (-2147483648) ≤ p4 ∧ p4 ≤ 2147483647) (hp5 : (-2147483648) ≤ p5 ∧ p5 ≤ 2147483647) (H_S0 : zz_Hc S0) : mm_Met g l zy_convolution_1_19 zr_convolution_1_19 [.ref 1000, zi p0, zi p1, zi p2, zi p3, zi p4, zi p5] (zz_M S0 n) n (zz_XI n (zp_convolution_1_19 p0 p1 p2 p3 p4 p5 S0) (zx_convolution_1_19 p0 p1 p2 p3 p4 p5 S0)) := by
  refine zz_enter (by decide) (Nat.le_of_ble_eq_true rfl) (zz_less (ls1 := [some (.ref 1000), some (zi p0), some (zi p1), some (zi p2), some (zi p3), some (zi p4), some (zi p5)]) ⟨rfl, ⟨rfl, ⟨rfl, ⟨rfl, ⟨rfl, ⟨rfl, ⟨rfl, trivial⟩⟩⟩⟩⟩⟩⟩ ?_)
  have F_S0 : zz_fr [] [1001, 1003, 1004, 1005, 1006, 1007, 1008, 1009, 1010, 1011, 1012, 1013, 1014, 1015, 1017, 1018, 1019, 1020, 1021, 1022, 1023, 1024, 1025, 1026, 1027, 1028] (fun _ _ => False) S0 S0 := zz_fr.refl
  refine zz_aload_n (x := 1000) rfl zd_1_19_0 ?_
  have g1 := zz_G.r G_S0 1000 7 0 1 rfl rfl
  refine zz_getr (kd := 1) (z := S0 1000 7) zd_1_19_1 zf_TF_10 zT_1000 rfl (zz_ltn hn rfl) rfl (by omega) (zz_rf 3 (S0 1000 7)) rfl ?_
  refine zz_callVA [] zd_1_19_4 zk_TF_220 (zT_k3 (by omega)) (zN_k3 hn (by omega)) rfl rfl ⟨Nat.le_of_ble_eq_true rfl, Nat.le_of_ble_eq_true rfl⟩ ⟨rfl, rfl⟩ (Nat.zero_le _) (Nat.zero_le _) (zc_draft_7_6 (S0 1000 7) S0 n hn G_S0 (by omega)) (fun v3 S2 hP => ?_)
  obtain ⟨rfl, o4, o5⟩ := hP
  subst o4
  refine zz_astore [some (.ref 1000), some (zi p0), some (zi p1), some (zi p2), some (zi p3), some (zi p4), some (zi p5), some (.ref (zz_rf 6 (12 * (S0 1000 7) + S0 (zz_rf 3 (S0 1000 7)) 1)))] zd_1_19_7 (by decide) rfl ?_
  refine zz_aload (x := zz_rf 6 (12 * (S0 1000 7) + S0 (zz_rf 3 (S0 1000 7)) 1)) rfl zd_1_19_9 ?_
  refine zz_iconst zd_1_19_11 ?_
  refine zz_iload_n (x := p0) rfl zd_1_19_12 ?_
  refine zz_iload_n (x := p0) rfl zd_1_19_13 ?_
  refine zz_callVV [zi 1, zi p0, zi p0] zd_1_19_14 zk_TF_226 (zT_k6 (by omega)) (zN_k6 hn (by omega)) rfl rfl ⟨Nat.le_of_ble_eq_true rfl, Nat.le_of_ble_eq_true rfl⟩ ⟨rfl, rfl⟩ (Nat.zero_le _) (Nat.zero_le _) (zc_reset_4_2 (12 * (S0 1000 7) + S0 (zz_rf 3 (S0 1000 7)) 1) 1 p0 p0 S0 n hn G_S0 (by omega) (by omega) (by omega) (by omega)) (fun S6 hP => ?_)
  obtain ⟨G_S6, fS6, o8⟩ := hP
  have g9 := zz_G.r G_S0 1000 7 0 1 rfl rfl
  have b10 := zz_G.r G_S0 (zz_rf 3 (S0 1000 7)) 1 1 11 (zR_k3_1 (by omega)) (zB_k3 (by omega))
  have F_S6 := zz_fr.trans F_S0 fS6 rfl (fun a i h => by rcases h with h | h | h | h | h | h | h | h | h | h | h | h | h | h | h; exact Or.inr (Or.inl (h.1 ▸ zM_k6 (z := (12 * (S0 1000 7) + S0 (zz_rf 3 (S0 1000 7)) 1)) (by omega) rfl)); exact Or.inr (Or.inl (h.1 ▸ zM_k6 (z := (12 * (S0 1000 7) + S0 (zz_rf 3 (S0 1000 7)) 1)) (by omega) rfl)); exact Or.inr (Or.inl (h.1 ▸ zM_k6 (z := (12 * (S0 1000 7) + S0 (zz_rf 3 (S0 1000 7)) 1)) (by omega) rfl)); exact Or.inr (Or.inl (h.1 ▸ zM_k6 (z := (12 * (S0 1000 7) + S0 (zz_rf 3 (S0 1000 7)) 1)) (by omega) rfl)); exact Or.inr (Or.inl (h.1 ▸ zM_k6 (z := (12 * (S0 1000 7) + S0 (zz_rf 3 (S0 1000 7)) 1)) (by omega) rfl)); exact Or.inr (Or.inl (h.1 ▸ zM_k6 (z := (12 * (S0 1000 7) + S0 (zz_rf 3 (S0 1000 7)) 1)) (by omega) rfl)); exact Or.inr (Or.inl (h.1 ▸ zM_k6 (z := (12 * (S0 1000 7) + S0 (zz_rf 3 (S0 1000 7)) 1)) (by omega) rfl)); exact Or.inr (Or.inl (h.1 ▸ zM_k6 (z := (12 * (S0 1000 7) + S0 (zz_rf 3 (S0 1000 7)) 1)) (by omega) rfl)); exact Or.inr (Or.inl (h.1 ▸ zM_k6 (z := (12 * (S0 1000 7) + S0 (zz_rf 3 (S0 1000 7)) 1)) (by omega) rfl)); exact Or.inr (Or.inl (h.1 ▸ zM_k6 (z := (12 * (S0 1000 7) + S0 (zz_rf 3 (S0 1000 7)) 1)) (by omega) rfl)); exact Or.inr (Or.inl (h.1 ▸ zM_k6 (z := (12 * (S0 1000 7) + S0 (zz_rf 3 (S0 1000 7)) 1)) (by omega) rfl)); exact Or.inr (Or.inl (h.1 ▸ zM_k6 (z := (12 * (S0 1000 7) + S0 (zz_rf 3 (S0 1000 7)) 1)) (by omega) rfl)); exact Or.inr (Or.inl (h.1 ▸ zM_k6 (z := (12 * (S0 1000 7) + S0 (zz_rf 3 (S0 1000 7)) 1)) (by omega) rfl)); exact Or.inr (Or.inl (h.1 ▸ zM_k6 (z := (12 * (S0 1000 7) + S0 (zz_rf 3 (S0 1000 7)) 1)) (by omega) rfl)); exact Or.inr (Or.inl (h.1 ▸ zM_k6 (z := (12 * (S0 1000 7) + S0 (zz_rf 3 (S0 1000 7)) 1)) (by omega) rfl)))
  have b11 := zz_G.r G_S0 (zz_rf 3 (S0 1000 7)) 1 1 11 (zR_k3_1 (by omega)) (zB_k3 (by omega))
  have b12 := zz_rf6 (z := (12 * (S0 1000 7) + S0 (zz_rf 3 (S0 1000 7)) 1)) (by omega)
  have b13 := zz_rf3 (z := (S0 1000 7)) (by omega)
  have H_S6 : zz_Hc S6 := zz_Hc.fr (q := (S0 1000 7)) (z := 12 * (S0 1000 7) + S0 (zz_rf 3 (S0 1000 7)) 1) fS6 rfl rfl G_S0 (by omega) rfl (fun b j h => by omega) H_S0
  refine zz_aload (x := zz_rf 6 (12 * (S0 1000 7) + S0 (zz_rf 3 (S0 1000 7)) 1)) rfl zd_1_19_17 ?_
  refine zz_iload_n (x := p1) rfl zd_1_19_19 ?_
  refine zz_bipush (by decide) zd_1_19_20 ?_
  refine zz_idiv (by omega) (by omega) zd_1_19_22 (fun v14 hv14 av14 bv14 cv14 => ?_)
  refine zz_iload_n (x := p1) rfl zd_1_19_23 ?_
  refine zz_bipush (by decide) zd_1_19_24 ?_
  refine zz_irem (by omega) (by omega) zd_1_19_26 (fun v15 hv15 av15 bv15 cv15 => ?_)
  refine zz_callVV [zi v14, zi v15] zd_1_19_27 zk_TF_229 (zT_k6 (by omega)) (zN_k6 hn (by omega)) rfl rfl ⟨Nat.le_of_ble_eq_true rfl, Nat.le_of_ble_eq_true rfl⟩ ⟨rfl, rfl⟩ (Nat.zero_le _) (Nat.zero_le _) (zc_takeKernel_4_4 (12 * (S0 1000 7) + S0 (zz_rf 3 (S0 1000 7)) 1) v14 v15 S6 n hn G_S6 (by omega) (by omega) (by omega)) (fun S16 hP => ?_)
  obtain ⟨G_S16, fS16⟩ := hP
  have F_S16 := zz_fr.trans F_S6 fS16 rfl (fun a i h => by rcases h with h | h; exact Or.inr (Or.inl (h.1 ▸ zM_k6 (z := (12 * (S0 1000 7) + S0 (zz_rf 3 (S0 1000 7)) 1)) (by omega) rfl)); exact Or.inr (Or.inl (h.1 ▸ zM_k6 (z := (12 * (S0 1000 7) + S0 (zz_rf 3 (S0 1000 7)) 1)) (by omega) rfl)))
  have H_S16 : zz_Hc S16 := zz_Hc.fr (q := (S0 1000 7)) (z := 12 * (S0 1000 7) + S0 (zz_rf 3 (S0 1000 7)) 1) fS16 rfl rfl G_S6 (by omega) (by rw [show S6 (zz_rf 3 (S0 1000 7)) 1 = S0 (zz_rf 3 (S0 1000 7)) 1 from (zz_rc fS6 (zP_k3 (by omega) rfl) (zQ_k3 (by omega) rfl) (by have hz_ := zz_rf3 (z := S0 1000 7) (by omega); omega) rfl)]) (fun b j h => by omega) H_S6
  refine zz_aload (x := zz_rf 6 (12 * (S0 1000 7) + S0 (zz_rf 3 (S0 1000 7)) 1)) rfl zd_1_19_30 ?_
  refine zz_iload (x := p3) rfl zd_1_19_32 ?_
  refine zz_bipush (by decide) zd_1_19_34 ?_
  refine zz_idiv (by omega) (by omega) zd_1_19_36 (fun v18 hv18 av18 bv18 cv18 => ?_)
  refine zz_puti zd_1_19_37 zf_TF_232 (zT_k6 (by omega)) rfl (zN_k6 hn (by omega)) (fun S19 qS19 => ?_)
  have G_S19 := zz_G.put G_S16 qS19 (-2147483648) 2147483647 (zR_k6_5 (by omega)) (by omega)
  have F_S19 := zz_fr.putc F_S16 qS19 (zM_k6 (by omega) rfl)
  have H_S19 : zz_Hc S19 := zz_Hc.fr (q := (S0 1000 7)) (z := 12 * (S0 1000 7) + S0 (zz_rf 3 (S0 1000 7)) 1) (zz_fr.put1 qS19) rfl rfl G_S16 (by omega) (by rw [show S16 (zz_rf 3 (S0 1000 7)) 1 = S0 (zz_rf 3 (S0 1000 7)) 1 from (zz_rc fS16 (zP_k3 (by omega) rfl) (zQ_k3 (by omega) rfl) (by have hz_ := zz_rf3 (z := S0 1000 7) (by omega); omega) (zz_rc fS6 (zP_k3 (by omega) rfl) (zQ_k3 (by omega) rfl) (by have hz_ := zz_rf3 (z := S0 1000 7) (by omega); omega) rfl))]) (fun b j h => Or.inr (Or.inr h.1)) H_S16
  refine zz_aload (x := zz_rf 6 (12 * (S0 1000 7) + S0 (zz_rf 3 (S0 1000 7)) 1)) rfl zd_1_19_40 ?_
  refine zz_iload (x := p3) rfl zd_1_19_42 ?_
  refine zz_bipush (by decide) zd_1_19_44 ?_
  refine zz_irem (by omega) (by omega) zd_1_19_46 (fun v20 hv20 av20 bv20 cv20 => ?_)
  refine zz_puti zd_1_19_47 zf_TF_235 (zT_k6 (by omega)) rfl (zN_k6 hn (by omega)) (fun S21 qS21 => ?_)
  have G_S21 := zz_G.put G_S19 qS21 (-2147483648) 2147483647 (zR_k6_6 (by omega)) (by omega)
  have F_S21 := zz_fr.putc F_S19 qS21 (zM_k6 (by omega) rfl)
  have H_S21 : zz_Hc S21 := zz_Hc.fr (q := (S0 1000 7)) (z := 12 * (S0 1000 7) + S0 (zz_rf 3 (S0 1000 7)) 1) (zz_fr.put1 qS21) rfl rfl G_S19 (by omega) (by rw [show S19 (zz_rf 3 (S0 1000 7)) 1 = S0 (zz_rf 3 (S0 1000 7)) 1 from (zz_ro qS19 (fun h => absurd h.2 (by decide)) (zz_rc fS16 (zP_k3 (by omega) rfl) (zQ_k3 (by omega) rfl) (by have hz_ := zz_rf3 (z := S0 1000 7) (by omega); omega) (zz_rc fS6 (zP_k3 (by omega) rfl) (zQ_k3 (by omega) rfl) (by have hz_ := zz_rf3 (z := S0 1000 7) (by omega); omega) rfl)))]) (fun b j h => Or.inr (Or.inr h.1)) H_S19
  refine zz_aload (x := zz_rf 6 (12 * (S0 1000 7) + S0 (zz_rf 3 (S0 1000 7)) 1)) rfl zd_1_19_50 ?_
  refine zz_iload (x := p4) rfl zd_1_19_52 ?_
  refine zz_callVV [zi p4] zd_1_19_54 zk_TF_238 (zT_k6 (by omega)) (zN_k6 hn (by omega)) rfl rfl ⟨Nat.le_of_ble_eq_true rfl, Nat.le_of_ble_eq_true rfl⟩ ⟨rfl, rfl⟩ (Nat.zero_le _) (Nat.zero_le _) (zc_takeNarrowing_4_5 (12 * (S0 1000 7) + S0 (zz_rf 3 (S0 1000 7)) 1) p4 S21 n hn G_S21 (by omega) (by omega)) (fun S22 hP => ?_)
  obtain ⟨G_S22, fS22⟩ := hP
  have F_S22 := zz_fr.trans F_S21 fS22 rfl (fun a i h => by rcases h with h | h; exact Or.inr (Or.inl (h.1 ▸ zM_k6 (z := (12 * (S0 1000 7) + S0 (zz_rf 3 (S0 1000 7)) 1)) (by omega) rfl)); exact Or.inr (Or.inl (h.1 ▸ zM_k6 (z := (12 * (S0 1000 7) + S0 (zz_rf 3 (S0 1000 7)) 1)) (by omega) rfl)))
  have H_S22 : zz_Hc S22 := zz_Hc.fr (q := (S0 1000 7)) (z := 12 * (S0 1000 7) + S0 (zz_rf 3 (S0 1000 7)) 1) fS22 rfl rfl G_S21 (by omega) (by rw [show S21 (zz_rf 3 (S0 1000 7)) 1 = S0 (zz_rf 3 (S0 1000 7)) 1 from (zz_ro qS21 (fun h => absurd h.2 (by decide)) (zz_ro qS19 (fun h => absurd h.2 (by decide)) (zz_rc fS16 (zP_k3 (by omega) rfl) (zQ_k3 (by omega) rfl) (by have hz_ := zz_rf3 (z := S0 1000 7) (by omega); omega) (zz_rc fS6 (zP_k3 (by omega) rfl) (zQ_k3 (by omega) rfl) (by have hz_ := zz_rf3 (z := S0 1000 7) (by omega); omega) rfl))))]) (fun b j h => by omega) H_S21
  refine zz_aload (x := zz_rf 6 (12 * (S0 1000 7) + S0 (zz_rf 3 (S0 1000 7)) 1)) rfl zd_1_19_57 ?_
  refine zz_iload_n (x := p2) rfl zd_1_19_59 ?_
  refine zz_puti zd_1_19_60 zf_TF_241 (zT_k6 (by omega)) rfl (zN_k6 hn (by omega)) (fun S24 qS24 => ?_)
  have G_S24 := zz_G.put G_S22 qS24 (-2147483648) 2147483647 (zR_k6_12 (by omega)) (by omega)
  have F_S24 := zz_fr.putc F_S22 qS24 (zM_k6 (by omega) rfl)
  have H_S24 : zz_Hc S24 := zz_Hc.fr (q := (S0 1000 7)) (z := 12 * (S0 1000 7) + S0 (zz_rf 3 (S0 1000 7)) 1) (zz_fr.put1 qS24) rfl rfl G_S22 (by omega) (by rw [show S22 (zz_rf 3 (S0 1000 7)) 1 = S0 (zz_rf 3 (S0 1000 7)) 1 from (zz_rc fS22 (zP_k3 (by omega) rfl) (zQ_k3 (by omega) rfl) (by have hz_ := zz_rf3 (z := S0 1000 7) (by omega); omega) (zz_ro qS21 (fun h => absurd h.2 (by decide)) (zz_ro qS19 (fun h => absurd h.2 (by decide)) (zz_rc fS16 (zP_k3 (by omega) rfl) (zQ_k3 (by omega) rfl) (by have hz_ := zz_rf3 (z := S0 1000 7) (by omega); omega) (zz_rc fS6 (zP_k3 (by omega) rfl) (zQ_k3 (by omega) rfl) (by have hz_ := zz_rf3 (z := S0 1000 7) (by omega); omega) rfl)))))]) (fun b j h => Or.inr (Or.inr h.1)) H_S22
  refine zz_aload (x := zz_rf 6 (12 * (S0 1000 7) + S0 (zz_rf 3 (S0 1000 7)) 1)) rfl zd_1_19_63 ?_
  refine zz_iload (x := p5) rfl zd_1_19_65 ?_
  refine zz_puti zd_1_19_67 zf_TF_244 (zT_k6 (by omega)) rfl (zN_k6 hn (by omega)) (fun S25 qS25 => ?_)
  have G_S25 := zz_G.put G_S24 qS25 (-2147483648) 2147483647 (zR_k6_9 (by omega)) (by omega)
  have F_S25 := zz_fr.putc F_S24 qS25 (zM_k6 (by omega) rfl)
  have H_S25 : zz_Hc S25 := zz_Hc.fr (q := (S0 1000 7)) (z := 12 * (S0 1000 7) + S0 (zz_rf 3 (S0 1000 7)) 1) (zz_fr.put1 qS25) rfl rfl G_S24 (by omega) (by rw [show S24 (zz_rf 3 (S0 1000 7)) 1 = S0 (zz_rf 3 (S0 1000 7)) 1 from (zz_ro qS24 (fun h => absurd h.2 (by decide)) (zz_rc fS22 (zP_k3 (by omega) rfl) (zQ_k3 (by omega) rfl) (by have hz_ := zz_rf3 (z := S0 1000 7) (by omega); omega) (zz_ro qS21 (fun h => absurd h.2 (by decide)) (zz_ro qS19 (fun h => absurd h.2 (by decide)) (zz_rc fS16 (zP_k3 (by omega) rfl) (zQ_k3 (by omega) rfl) (by have hz_ := zz_rf3 (z := S0 1000 7) (by omega); omega) (zz_rc fS6 (zP_k3 (by omega) rfl) (zQ_k3 (by omega) rfl) (by have hz_ := zz_rf3 (z := S0 1000 7) (by omega); omega) rfl))))))]) (fun b j h => Or.inr (Or.inr h.1)) H_S24
  refine zz_aload_n (x := 1000) rfl zd_1_19_70 ?_
  have g32 := zz_G.r G_S25 1000 7 0 1 rfl rfl
  have b33 := zz_G.r G_S25 (zz_rf 3 (S25 1000 7)) 1 1 11 (zR_k3_1 (by omega)) (zB_k3 (by omega))
  refine zz_callVXI [] zd_1_19_71 zk_TF_247 zT_1000 (zz_ltn hn rfl) rfl rfl ⟨Nat.le_of_ble_eq_true rfl, Nat.le_of_ble_eq_true rfl⟩ (Nat.le_of_ble_eq_true rfl) (Nat.le_of_ble_eq_true rfl) (zc_added_1_31  S25 n hn hfl G_S25 H_S25) zyw_convolution_1_19 (fun i SX hX => by obtain ⟨GX, fX, x0, x1, x2⟩ := hX; exact Or.inr ⟨_, _, rfl, GX, zz_fr.trans F_S25 fX rfl (fun a i h => by rcases h with h | h | h | h | h; exact Or.inr (Or.inl (h.1 ▸ zM_k3 (z := (S25 1000 7)) (by omega) rfl)); exact Or.inr (Or.inl (h.1 ▸ zM_k6 (z := (12 * (S25 1000 7) + S25 (zz_rf 3 (S25 1000 7)) 1)) (by omega) rfl)); exact Or.inr (Or.inl (h.1 ▸ zM_k6 (z := (12 * (S25 1000 7) + S25 (zz_rf 3 (S25 1000 7)) 1)) (by omega) rfl)); exact Or.inr (Or.inl (h.1 ▸ zM_k6 (z := (12 * (S25 1000 7) + S25 (zz_rf 3 (S25 1000 7)) 1)) (by omega) rfl)); exact Or.inr (Or.inl (h.1 ▸ zM_k6 (z := (12 * (S25 1000 7) + S25 (zz_rf 3 (S25 1000 7)) 1)) (by omega) rfl))), by omega, by omega, x2⟩) (fun v29 S28 hP => ?_)
  obtain ⟨G_S28, fS28, o30, o31⟩ := hP
  have F_S28 := zz_fr.trans F_S25 fS28 rfl (fun a i h => by rcases h with h | h | h | h | h; exact Or.inr (Or.inl (h.1 ▸ zM_k3 (z := (S25 1000 7)) (by omega) rfl)); exact Or.inr (Or.inl (h.1 ▸ zM_k6 (z := (12 * (S25 1000 7) + S25 (zz_rf 3 (S25 1000 7)) 1)) (by omega) rfl)); exact Or.inr (Or.inl (h.1 ▸ zM_k6 (z := (12 * (S25 1000 7) + S25 (zz_rf 3 (S25 1000 7)) 1)) (by omega) rfl)); exact Or.inr (Or.inl (h.1 ▸ zM_k6 (z := (12 * (S25 1000 7) + S25 (zz_rf 3 (S25 1000 7)) 1)) (by omega) rfl)); exact Or.inr (Or.inl (h.1 ▸ zM_k6 (z := (12 * (S25 1000 7) + S25 (zz_rf 3 (S25 1000 7)) 1)) (by omega) rfl)))
  have b34 := zz_rf3 (z := (S25 1000 7)) (by omega)
  have b35 := zz_G.r G_S25 (zz_rf 3 (S25 1000 7)) 1 1 11 (zR_k3_1 (by omega)) (zB_k3 (by omega))
  have b36 := zz_rf6 (z := (12 * (S25 1000 7) + S25 (zz_rf 3 (S25 1000 7)) 1)) (by omega)
  have H_S28 : zz_Hc S28 := o31
  exact zz_iret zd_1_19_74 rfl (Nat.le_of_ble_eq_true rfl) (Nat.le_of_ble_eq_true rfl) (Or.inl ⟨_, _, rfl, G_S28, F_S28, by omega, H_S28⟩)
abbrev zy_pool_1_20 : mm_Y := (⟨"TensorForge", "pool", "(III)I"⟩, prog_1_method_20_code, 5, (some .int))
theorem zyw_pool_1_20 : mm_Yw zy_pool_1_20 3 := ⟨mm_tb_1 1381 (by decide +kernel) rfl, mm_tb_1 1 (by decide +kernel) rfl, ⟨by decide, by decide⟩, by decide +kernel⟩
theorem zg_1_20_0 : (decode zy_pool_1_20.2.1 0 = .ok ((.aload_n 0), 1)) ∧ (decode zy_pool_1_20.2.1 1 = .ok ((.getfield 10), 3)) ∧ (decode zy_pool_1_20.2.1 4 = .ok ((.invokevirtual 220), 3)) ∧ (decode zy_pool_1_20.2.1 7 = .ok ((.astore 4), 2)) ∧ (decode zy_pool_1_20.2.1 9 = .ok ((.aload 4), 2)) ∧ (decode zy_pool_1_20.2.1 11 = .ok ((.iconst 2), 1)) ∧ (decode zy_pool_1_20.2.1 12 = .ok ((.iload_n 1), 1)) ∧ (decode zy_pool_1_20.2.1 13 = .ok ((.iload_n 1), 1)) ∧ (decode zy_pool_1_20.2.1 14 = .ok ((.invokevirtual 226), 3)) ∧ (decode zy_pool_1_20.2.1 17 = .ok ((.aload 4), 2)) := by decide +kernel
theorem zd_1_20_0 : zz_D zy_pool_1_20 0 (.aload_n 0) 1 1 := ⟨zg_1_20_0.1, rfl⟩
theorem zd_1_20_1 : zz_D zy_pool_1_20 1 (.getfield 10) 3 4 := ⟨zg_1_20_0.2.1, rfl⟩
theorem zd_1_20_4 : zz_D zy_pool_1_20 4 (.invokevirtual 220) 3 7 := ⟨zg_1_20_0.2.2.1, rfl⟩
theorem zd_1_20_7 : zz_D zy_pool_1_20 7 (.astore 4) 2 9 := ⟨zg_1_20_0.2.2.2.1, rfl⟩
theorem zd_1_20_9 : zz_D zy_pool_1_20 9 (.aload 4) 2 11 := ⟨zg_1_20_0.2.2.2.2.1, rfl⟩
theorem zd_1_20_11 : zz_D zy_pool_1_20 11 (.iconst 2) 1 12 := ⟨zg_1_20_0.2.2.2.2.2.1, rfl⟩
theorem zd_1_20_12 : zz_D zy_pool_1_20 12 (.iload_n 1) 1 13 := ⟨zg_1_20_0.2.2.2.2.2.2.1, rfl⟩
theorem zd_1_20_13 : zz_D zy_pool_1_20 13 (.iload_n 1) 1 14 := ⟨zg_1_20_0.2.2.2.2.2.2.2.1, rfl⟩
theorem zd_1_20_14 : zz_D zy_pool_1_20 14 (.invokevirtual 226) 3 17 := ⟨zg_1_20_0.2.2.2.2.2.2.2.2.1, rfl⟩
theorem zd_1_20_17 : zz_D zy_pool_1_20 17 (.aload 4) 2 19 := ⟨zg_1_20_0.2.2.2.2.2.2.2.2.2, rfl⟩
theorem zg_1_20_19 : (decode zy_pool_1_20.2.1 19 = .ok ((.iload_n 2), 1)) ∧ (decode zy_pool_1_20.2.1 20 = .ok ((.bipush 10), 2)) ∧ (decode zy_pool_1_20.2.1 22 = .ok ((.idiv), 1)) ∧ (decode zy_pool_1_20.2.1 23 = .ok ((.iload_n 2), 1)) ∧ (decode zy_pool_1_20.2.1 24 = .ok ((.bipush 10), 2)) ∧ (decode zy_pool_1_20.2.1 26 = .ok ((.irem), 1)) ∧ (decode zy_pool_1_20.2.1 27 = .ok ((.invokevirtual 229), 3)) ∧ (decode zy_pool_1_20.2.1 30 = .ok ((.aload 4), 2)) ∧ (decode zy_pool_1_20.2.1 32 = .ok ((.iload_n 3), 1)) ∧ (decode zy_pool_1_20.2.1 33 = .ok ((.putfield 232), 3)) := by decide +kernel
theorem zd_1_20_19 : zz_D zy_pool_1_20 19 (.iload_n 2) 1 20 := ⟨zg_1_20_19.1, rfl⟩
theorem zd_1_20_20 : zz_D zy_pool_1_20 20 (.bipush 10) 2 22 := ⟨zg_1_20_19.2.1, rfl⟩
theorem zd_1_20_22 : zz_D zy_pool_1_20 22 (.idiv) 1 23 := ⟨zg_1_20_19.2.2.1, rfl⟩
theorem zd_1_20_23 : zz_D zy_pool_1_20 23 (.iload_n 2) 1 24 := ⟨zg_1_20_19.2.2.2.1, rfl⟩
theorem zd_1_20_24 : zz_D zy_pool_1_20 24 (.bipush 10) 2 26 := ⟨zg_1_20_19.2.2.2.2.1, rfl⟩
theorem zd_1_20_26 : zz_D zy_pool_1_20 26 (.irem) 1 27 := ⟨zg_1_20_19.2.2.2.2.2.1, rfl⟩
theorem zd_1_20_27 : zz_D zy_pool_1_20 27 (.invokevirtual 229) 3 30 := ⟨zg_1_20_19.2.2.2.2.2.2.1, rfl⟩
theorem zd_1_20_30 : zz_D zy_pool_1_20 30 (.aload 4) 2 32 := ⟨zg_1_20_19.2.2.2.2.2.2.2.1, rfl⟩
theorem zd_1_20_32 : zz_D zy_pool_1_20 32 (.iload_n 3) 1 33 := ⟨zg_1_20_19.2.2.2.2.2.2.2.2.1, rfl⟩
theorem zd_1_20_33 : zz_D zy_pool_1_20 33 (.putfield 232) 3 36 := ⟨zg_1_20_19.2.2.2.2.2.2.2.2.2, rfl⟩
theorem zg_1_20_36 : (decode zy_pool_1_20.2.1 36 = .ok ((.aload_n 0), 1)) ∧ (decode zy_pool_1_20.2.1 37 = .ok ((.invokevirtual 247), 3)) ∧ (decode zy_pool_1_20.2.1 40 = .ok ((.ireturn), 1)) := by decide +kernel
theorem zd_1_20_36 : zz_D zy_pool_1_20 36 (.aload_n 0) 1 37 := ⟨zg_1_20_36.1, rfl⟩
theorem zd_1_20_37 : zz_D zy_pool_1_20 37 (.invokevirtual 247) 3 40 := ⟨zg_1_20_36.2.1, rfl⟩
theorem zd_1_20_40 : zz_D zy_pool_1_20 40 (.ireturn) 1 41 := ⟨zg_1_20_36.2.2, rfl⟩
