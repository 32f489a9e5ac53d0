-- TensorForgeModel network ()I
abbrev zr_network_14_105 : Room := { frames := 7, cells := 0, slots := 0, locals := 109 }
def zp_network_14_105  (S0 : zz_S) : Int → zz_S → Prop := fun r S => zz_G S ∧ zz_fr [(1079, 0), (1079, 30), (1079, 31), (1079, 32), (1079, 33), (1079, 36), (1079, 61), (1079, 64), (1079, 65), (1079, 66), (1102, 0), (1103, 0), (1104, 0), (1105, 0), (1105, 1)] [1102, 1103, 1104, 1105, 1106, 1107, 1108, 1109, 1110, 1111, 1112, 1113, 1114, 1117, 1118, 1119] (fun _ _ => False) S0 S ∧ ((-1) ≤ r ∧ r ≤ 1501) ∧ (1 ≤ S 1079 36) ∧ (zz_Hr S)
theorem zb_network_14_105_19 {g : mm_G} {l : Launch}  (S0 : zz_S) (n : Nat) (hn : zz_end ≤ n) (G_S0 : zz_G S0) (R_S0 : zz_Hr S0) (h1 : 1 ≤ S0 1079 36) (x1 : Int) (x2 : Int) (x3 : Int) (x4 : Int) (S : zz_S) (G_S : zz_G S) (F_S : zz_fr [(1079, 0), (1079, 30), (1079, 31), (1079, 32), (1079, 33), (1079, 36), (1079, 61), (1079, 64), (1079, 65), (1079, 66), (1102, 0), (1103, 0), (1104, 0), (1105, 0), (1105, 1)] [1102, 1103, 1104, 1105, 1106, 1107, 1108, 1109, 1110, 1111, 1112, 1113, 1114, 1117, 1118, 1119] (fun _ _ => False) S0 S) (i19_0 : 0 ≤ x1 ∧ x1 ≤ 1) (i19_1 : 0 ≤ x2 ∧ x2 ≤ 1501) (i19_2 : 0 ≤ x3 ∧ x3 ≤ 1501) (i19_3 : 0 ≤ x4 ∧ x4 ≤ 1) (i19_4 : x2 ≤ x3) (i19_5 : zz_kp S0 S) (i19_6 : S 1079 66 = S0 1079 36) (i19_7 : x1 = 1 → x4 = 1 → 1 ≤ S 1079 36) (i19_8 : zz_Hr S) (R : Nat) (hR : (51539607552 + (S0 1079 28 + 1 - x3).toNat) * 1099511627776 + 1099511627775 = R) (k35 : ∀ (x1 : Int) (x2 : Int) (x3 : Int) (x4 : Int) (x5 : Int) (S : zz_S), zz_G S → zz_fr [(1079, 0), (1079, 30), (1079, 31), (1079, 32), (1079, 33), (1079, 36), (1079, 61), (1079, 64), (1079, 65), (1079, 66), (1102, 0), (1103, 0), (1104, 0), (1105, 0), (1105, 1)] [1102, 1103, 1104, 1105, 1106, 1107, 1108, 1109, 1110, 1111, 1112, 1113, 1114, 1117, 1118, 1119] (fun _ _ => False) S0 S → (0 ≤ x1 ∧ x1 ≤ 1) → (0 ≤ x2 ∧ x2 ≤ 1501) → (0 ≤ x3 ∧ x3 ≤ 1500) → (0 ≤ x4 ∧ x4 ≤ 1) → (0 ≤ x5 ∧ x5 ≤ 1500) → (0 ≤ x3 ∧ x3 ≤ 1501) → (x2 ≤ x3) → (x4 ≠ 0) → (x2 ≤ x3) → (x3 ≤ x5) → (x5 ≤ S0 1079 28) → (zz_kp S0 S) → (S 1079 66 = S0 1079 36) → (x1 = 1 → 1 ≤ S 1079 36) → (zz_Hr S) → (51539607552 + (S0 1079 28 + 1 - x3).toNat) * 1099511627776 + (34359738368 + (S0 1079 28 - x5).toNat) < R → zz_E g l zy_network_14_105 zr_network_14_105 (zz_QI n (zp_network_14_105  S0)) S n 35 [some (.ref 1079), some (zi x1), some (zi x2), some (zi x3), some (zi x4), some (zi x5)] [] 0 0) : zz_E g l zy_network_14_105 zr_network_14_105 (zz_QI n (zp_network_14_105  S0)) S n 19 [some (.ref 1079), some (zi x1), some (zi x2), some (zi x3), some (zi x4)] [] 0 0 := by
  have R_S := i19_8
  refine zz_iload_n (x := x3) rfl zd_14_105_19 ?_
  refine zz_aload_n (x := 1079) rfl zd_14_105_20 ?_
  have g12 := zz_G.r G_S0 1079 28 0 1500 rfl rfl
  refine zz_geti (z := S0 1079 28) zd_14_105_21 zf_Md_331 zT_1079 rfl (zz_ltn hn rfl) (zz_rc F_S rfl rfl (fun h => h) rfl) ?_
  refine zz_icmp_gt (by omega) (by omega) zd_14_105_24 (fun c13 => ?_) (fun c13 => ?_)
  · refine zz_aload_n (x := 1079) rfl zd_14_105_149 ?_
    refine zz_iconst zd_14_105_150 ?_
    refine zz_puti zd_14_105_151 zf_Md_187 zT_1079 rfl (zz_ltn hn rfl) (fun S14 qS14 => ?_)
    have G_S14 := zz_G.put G_S qS14 0 3 rfl (by omega)
    have F_S14 := zz_fr.puts F_S qS14 rfl
    have R_S14 : zz_Hr S14 := zz_Hr.p79 qS14 (by decide) R_S
    refine zz_iload (x := x4) rfl zd_14_105_154 ?_
    refine zz_if_eq (by omega) zd_14_105_156 (fun c15 => ?_) (fun c15 => ?_)
    · refine zz_aload_n (x := 1079) rfl zd_14_105_165 ?_
      refine zz_iconst zd_14_105_166 ?_
      have g16 := zz_G.r G_S 1079 66 0 11 rfl rfl
      have e17 : S14 1079 66 = S 1079 66 := (zz_ro qS14 (fun h => absurd h.2 (by decide)) rfl)
      refine zz_callVV [zi 1] zd_14_105_167 zk_Md_595 zT_1079 (zz_ltn hn rfl) rfl rfl ⟨Nat.le_of_ble_eq_true rfl, Nat.le_of_ble_eq_true rfl⟩ ⟨rfl, rfl⟩ (Nat.zero_le _) (Nat.zero_le _) (zc_keepNetwork_14_91_1  S14 n hn G_S14 ) (fun S18 hP => ?_)
      obtain ⟨G_S18, fS18, o20, o21, o22, o23, o24, o25, o26, o27, o28, o29, o30, o31, o32, o33⟩ := hP
      have F_S18 := zz_fr.trans F_S14 fS18 rfl zz_nv
      have kp34 : zz_kp S0 S14 := (zz_kp.same i19_5 (fun u => (zz_ro qS14 (fun h => absurd h.1 (by decide)) rfl)))
      have g35 := zz_G.r G_S0 1079 36 0 11 rfl rfl
      have R_S18 : zz_Hr S18 := zz_Hr.same R_S0 (by omega) (by omega) (fun u hu => (o21 u hu).trans (kp34.1 u hu)) (fun u hu => (o22 u hu).trans (kp34.2.1 u hu)) (fun u hu => (o23 u hu).trans (kp34.2.2.1 u hu)) (fun u hu => (o24 u hu).trans (kp34.2.2.2.1 u hu)) (fun u hu => (o25 u hu).trans (kp34.2.2.2.2.1 u hu)) (fun u hu => (o26 u hu).trans (kp34.2.2.2.2.2.1 u hu)) (fun u hu => (o27 u hu).trans (kp34.2.2.2.2.2.2.1 u hu)) (fun u hu => (o28 u hu).trans (kp34.2.2.2.2.2.2.2.1 u hu)) (fun u hu => (o29 u hu).trans (kp34.2.2.2.2.2.2.2.2.1 u hu)) (fun u hu => (o30 u hu).trans (kp34.2.2.2.2.2.2.2.2.2.1 u hu)) (fun u hu => (o31 u hu).trans (kp34.2.2.2.2.2.2.2.2.2.2.1 u hu)) (fun u hu => (o32 u hu).trans (kp34.2.2.2.2.2.2.2.2.2.2.2.1 u hu)) (fun u hu => (o33 u hu).trans (kp34.2.2.2.2.2.2.2.2.2.2.2.2 u hu))
      refine zz_iload (x := x4) rfl zd_14_105_170 ?_
      refine zz_if_eq (by omega) zd_14_105_172 (fun c36 => ?_) (fun c36 => ?_)
      · refine zz_iload_n (x := x2) rfl zd_14_105_179 ?_
        refine zz_iconst zd_14_105_180 ?_
        refine zz_isub zd_14_105_181 ?_
        have g37 := zz_G.r G_S18 1079 36 0 11 rfl rfl
        exact zz_iret zd_14_105_182 rfl (Nat.zero_le _) (Nat.zero_le _) ⟨_, _, rfl, G_S18, F_S18, by omega, by omega, R_S18⟩
      · exfalso; omega
    · refine zz_iload_n (x := x1) rfl zd_14_105_159 ?_
      refine zz_if_eq (by omega) zd_14_105_160 (fun c38 => ?_) (fun c38 => ?_)
      · refine zz_aload_n (x := 1079) rfl zd_14_105_165 ?_
        refine zz_iconst zd_14_105_166 ?_
        have g39 := zz_G.r G_S 1079 66 0 11 rfl rfl
        have e40 : S14 1079 66 = S 1079 66 := (zz_ro qS14 (fun h => absurd h.2 (by decide)) rfl)
        refine zz_callVV [zi 1] zd_14_105_167 zk_Md_595 zT_1079 (zz_ltn hn rfl) rfl rfl ⟨Nat.le_of_ble_eq_true rfl, Nat.le_of_ble_eq_true rfl⟩ ⟨rfl, rfl⟩ (Nat.zero_le _) (Nat.zero_le _) (zc_keepNetwork_14_91_1  S14 n hn G_S14 ) (fun S41 hP => ?_)
        obtain ⟨G_S41, fS41, o43, o44, o45, o46, o47, o48, o49, o50, o51, o52, o53, o54, o55, o56⟩ := hP
        have F_S41 := zz_fr.trans F_S14 fS41 rfl zz_nv
        have kp57 : zz_kp S0 S14 := (zz_kp.same i19_5 (fun u => (zz_ro qS14 (fun h => absurd h.1 (by decide)) rfl)))
        have g58 := zz_G.r G_S0 1079 36 0 11 rfl rfl
        have R_S41 : zz_Hr S41 := zz_Hr.same R_S0 (by omega) (by omega) (fun u hu => (o44 u hu).trans (kp57.1 u hu)) (fun u hu => (o45 u hu).trans (kp57.2.1 u hu)) (fun u hu => (o46 u hu).trans (kp57.2.2.1 u hu)) (fun u hu => (o47 u hu).trans (kp57.2.2.2.1 u hu)) (fun u hu => (o48 u hu).trans (kp57.2.2.2.2.1 u hu)) (fun u hu => (o49 u hu).trans (kp57.2.2.2.2.2.1 u hu)) (fun u hu => (o50 u hu).trans (kp57.2.2.2.2.2.2.1 u hu)) (fun u hu => (o51 u hu).trans (kp57.2.2.2.2.2.2.2.1 u hu)) (fun u hu => (o52 u hu).trans (kp57.2.2.2.2.2.2.2.2.1 u hu)) (fun u hu => (o53 u hu).trans (kp57.2.2.2.2.2.2.2.2.2.1 u hu)) (fun u hu => (o54 u hu).trans (kp57.2.2.2.2.2.2.2.2.2.2.1 u hu)) (fun u hu => (o55 u hu).trans (kp57.2.2.2.2.2.2.2.2.2.2.2.1 u hu)) (fun u hu => (o56 u hu).trans (kp57.2.2.2.2.2.2.2.2.2.2.2.2 u hu))
        refine zz_iload (x := x4) rfl zd_14_105_170 ?_
        refine zz_if_eq (by omega) zd_14_105_172 (fun c59 => ?_) (fun c59 => ?_)
        · exfalso; omega
        · refine zz_iload_n (x := x2) rfl zd_14_105_175 ?_
          refine zz_goto zd_14_105_176 ?_
          have g60 := zz_G.r G_S41 1079 36 0 11 rfl rfl
          exact zz_iret zd_14_105_182 rfl (Nat.zero_le _) (Nat.zero_le _) ⟨_, _, rfl, G_S41, F_S41, by omega, by omega, R_S41⟩
      · refine zz_iconst zd_14_105_163 ?_
        have g61 := zz_G.r G_S 1079 36 0 11 rfl rfl
        have e62 : S14 1079 36 = S 1079 36 := (zz_ro qS14 (fun h => absurd h.2 (by decide)) rfl)
        exact zz_iret zd_14_105_164 rfl (Nat.zero_le _) (Nat.zero_le _) ⟨_, _, rfl, G_S14, F_S14, by omega, by omega, R_S14⟩
  · refine zz_iload (x := x4) rfl zd_14_105_27 ?_
    refine zz_if_eq (by omega) zd_14_105_29 (fun c63 => ?_) (fun c63 => ?_)
    · refine zz_aload_n (x := 1079) rfl zd_14_105_149 ?_
      refine zz_iconst zd_14_105_150 ?_
      refine zz_puti zd_14_105_151 zf_Md_187 zT_1079 rfl (zz_ltn hn rfl) (fun S64 qS64 => ?_)
      have G_S64 := zz_G.put G_S qS64 0 3 rfl (by omega)
      have F_S64 := zz_fr.puts F_S qS64 rfl
      have R_S64 : zz_Hr S64 := zz_Hr.p79 qS64 (by decide) R_S
      refine zz_iload (x := x4) rfl zd_14_105_154 ?_
      refine zz_if_eq (by omega) zd_14_105_156 (fun c65 => ?_) (fun c65 => ?_)
      · refine zz_aload_n (x := 1079) rfl zd_14_105_165 ?_
        refine zz_iconst zd_14_105_166 ?_
        have g66 := zz_G.r G_S 1079 66 0 11 rfl rfl
        have e67 : S64 1079 66 = S 1079 66 := (zz_ro qS64 (fun h => absurd h.2 (by decide)) rfl)
        refine zz_callVV [zi 1] zd_14_105_167 zk_Md_595 zT_1079 (zz_ltn hn rfl) rfl rfl ⟨Nat.le_of_ble_eq_true rfl, Nat.le_of_ble_eq_true rfl⟩ ⟨rfl, rfl⟩ (Nat.zero_le _) (Nat.zero_le _) (zc_keepNetwork_14_91_1  S64 n hn G_S64 ) (fun S68 hP => ?_)
        obtain ⟨G_S68, fS68, o70, o71, o72, o73, o74, o75, o76, o77, o78, o79, o80, o81, o82, o83⟩ := hP
        have F_S68 := zz_fr.trans F_S64 fS68 rfl zz_nv
        have kp84 : zz_kp S0 S64 := (zz_kp.same i19_5 (fun u => (zz_ro qS64 (fun h => absurd h.1 (by decide)) rfl)))
        have g85 := zz_G.r G_S0 1079 36 0 11 rfl rfl
        have R_S68 : zz_Hr S68 := zz_Hr.same R_S0 (by omega) (by omega) (fun u hu => (o71 u hu).trans (kp84.1 u hu)) (fun u hu => (o72 u hu).trans (kp84.2.1 u hu)) (fun u hu => (o73 u hu).trans (kp84.2.2.1 u hu)) (fun u hu => (o74 u hu).trans (kp84.2.2.2.1 u hu)) (fun u hu => (o75 u hu).trans (kp84.2.2.2.2.1 u hu)) (fun u hu => (o76 u hu).trans (kp84.2.2.2.2.2.1 u hu)) (fun u hu => (o77 u hu).trans (kp84.2.2.2.2.2.2.1 u hu)) (fun u hu => (o78 u hu).trans (kp84.2.2.2.2.2.2.2.1 u hu)) (fun u hu => (o79 u hu).trans (kp84.2.2.2.2.2.2.2.2.1 u hu)) (fun u hu => (o80 u hu).trans (kp84.2.2.2.2.2.2.2.2.2.1 u hu)) (fun u hu => (o81 u hu).trans (kp84.2.2.2.2.2.2.2.2.2.2.1 u hu)) (fun u hu => (o82 u hu).trans (kp84.2.2.2.2.2.2.2.2.2.2.2.1 u hu)) (fun u hu => (o83 u hu).trans (kp84.2.2.2.2.2.2.2.2.2.2.2.2 u hu))
        refine zz_iload (x := x4) rfl zd_14_105_170 ?_
        refine zz_if_eq (by omega) zd_14_105_172 (fun c86 => ?_) (fun c86 => ?_)
        · refine zz_iload_n (x := x2) rfl zd_14_105_179 ?_
          refine zz_iconst zd_14_105_180 ?_
          refine zz_isub zd_14_105_181 ?_
          have g87 := zz_G.r G_S68 1079 36 0 11 rfl rfl
          exact zz_iret zd_14_105_182 rfl (Nat.zero_le _) (Nat.zero_le _) ⟨_, _, rfl, G_S68, F_S68, by omega, by omega, R_S68⟩
        · exfalso; omega
      · exfalso; omega
    · refine zz_iload_n (x := x3) rfl zd_14_105_32 ?_
      refine zz_istore [some (.ref 1079), some (zi x1), some (zi x2), some (zi x3), some (zi x4), some (zi x3)] zd_14_105_33 (by decide) rfl ?_
      have g88 := zz_G.r G_S 1079 66 0 11 rfl rfl
      have g89 := zz_G.r G_S 1079 36 0 11 rfl rfl
      refine zz_less (ls1 := [some (.ref 1079), some (zi x1), some (zi x2), some (zi x3), some (zi x4), some (zi x3)]) ⟨rfl, ⟨rfl, ⟨rfl, ⟨rfl, ⟨rfl, ⟨rfl, trivial⟩⟩⟩⟩⟩⟩ ?_
      exact k35 x1 x2 x3 x4 x3 S G_S F_S (by omega) (by omega) (by omega) (by omega) (by omega) (by omega) (by omega) (by omega) (by omega) (by omega) (by omega) i19_5 (by omega) (by omega) R_S (by omega)
theorem zb_network_14_105_35 {g : mm_G} {l : Launch}  (S0 : zz_S) (n : Nat) (hn : zz_end ≤ n) (G_S0 : zz_G S0) (R_S0 : zz_Hr S0) (h1 : 1 ≤ S0 1079 36) (x1 : Int) (x2 : Int) (x3 : Int) (x4 : Int) (x5 : Int) (S : zz_S) (G_S : zz_G S) (F_S : zz_fr [(1079, 0), (1079, 30), (1079, 31), (1079, 32), (1079, 33), (1079, 36), (1079, 61), (1079, 64), (1079, 65), (1079, 66), (1102, 0), (1103, 0), (1104, 0), (1105, 0), (1105, 1)] [1102, 1103, 1104, 1105, 1106, 1107, 1108, 1109, 1110, 1111, 1112, 1113, 1114, 1117, 1118, 1119] (fun _ _ => False) S0 S) (i35_0 : 0 ≤ x1 ∧ x1 ≤ 1) (i35_1 : 0 ≤ x2 ∧ x2 ≤ 1501) (i35_2 : 0 ≤ x3 ∧ x3 ≤ 1500) (i35_3 : 0 ≤ x4 ∧ x4 ≤ 1) (i35_4 : 0 ≤ x5 ∧ x5 ≤ 1500) (i35_5 : 0 ≤ x3 ∧ x3 ≤ 1501) (i35_6 : x2 ≤ x3) (i35_7 : x4 ≠ 0) (i35_8 : x2 ≤ x3) (i35_9 : x3 ≤ x5) (i35_10 : x5 ≤ S0 1079 28) (i35_11 : zz_kp S0 S) (i35_12 : S 1079 66 = S0 1079 36) (i35_13 : x1 = 1 → 1 ≤ S 1079 36) (i35_14 : zz_Hr S) (R : Nat) (hR : (51539607552 + (S0 1079 28 + 1 - x3).toNat) * 1099511627776 + (34359738368 + (S0 1079 28 - x5).toNat) = R) (k35 : ∀ (x1 : Int) (x2 : Int) (x3 : Int) (x4 : Int) (x5 : Int) (S : zz_S), zz_G S → zz_fr [(1079, 0), (1079, 30), (1079, 31), (1079, 32), (1079, 33), (1079, 36), (1079, 61), (1079, 64), (1079, 65), (1079, 66), (1102, 0), (1103, 0), (1104, 0), (1105, 0), (1105, 1)] [1102, 1103, 1104, 1105, 1106, 1107, 1108, 1109, 1110, 1111, 1112, 1113, 1114, 1117, 1118, 1119] (fun _ _ => False) S0 S → (0 ≤ x1 ∧ x1 ≤ 1) → (0 ≤ x2 ∧ x2 ≤ 1501) → (0 ≤ x3 ∧ x3 ≤ 1500) → (0 ≤ x4 ∧ x4 ≤ 1) → (0 ≤ x5 ∧ x5 ≤ 1500) → (0 ≤ x3 ∧ x3 ≤ 1501) → (x2 ≤ x3) → (x4 ≠ 0) → (x2 ≤ x3) → (x3 ≤ x5) → (x5 ≤ S0 1079 28) → (zz_kp S0 S) → (S 1079 66 = S0 1079 36) → (x1 = 1 → 1 ≤ S 1079 36) → (zz_Hr S) → (51539607552 + (S0 1079 28 + 1 - x3).toNat) * 1099511627776 + (34359738368 + (S0 1079 28 - x5).toNat) < R → zz_E g l zy_network_14_105 zr_network_14_105 (zz_QI n (zp_network_14_105  S0)) S n 35 [some (.ref 1079), some (zi x1), some (zi x2), some (zi x3), some (zi x4), some (zi x5)] [] 0 0) (k67 : ∀ (x1 : Int) (x2 : Int) (x3 : Int) (x4 : Int) (x5 : Int) (S : zz_S), zz_G S → zz_fr [(1079, 0), (1079, 30), (1079, 31), (1079, 32), (1079, 33), (1079, 36), (1079, 61), (1079, 64), (1079, 65), (1079, 66), (1102, 0), (1103, 0), (1104, 0), (1105, 0), (1105, 1)] [1102, 1103, 1104, 1105, 1106, 1107, 1108, 1109, 1110, 1111, 1112, 1113, 1114, 1117, 1118, 1119] (fun _ _ => False) S0 S → (0 ≤ x1 ∧ x1 ≤ 1) → (0 ≤ x2 ∧ x2 ≤ 1501) → (0 ≤ x3 ∧ x3 ≤ 1500) → (0 ≤ x4 ∧ x4 ≤ 1) → (0 ≤ x5 ∧ x5 ≤ 1500) → (0 ≤ x3 ∧ x3 ≤ 1501) → (x2 ≤ x3) → (x3 ≤ x5) → (x4 ≠ 0) → (x5 ≤ S0 1079 28) → (x2 ≤ x3) → (x3 ≤ x5) → (x5 ≤ S0 1079 28) → (zz_kp S0 S) → (S 1079 66 = S0 1079 36) → (x1 = 1 → 1 ≤ S 1079 36) → (zz_Hr S) → (51539607552 + (S0 1079 28 + 1 - x3).toNat) * 1099511627776 + (17179869184 + (x5 - S 1079 33).toNat) < R → zz_E g l zy_network_14_105 zr_network_14_105 (zz_QI n (zp_network_14_105  S0)) S n 67 [some (.ref 1079), some (zi x1), some (zi x2), some (zi x3), some (zi x4), some (zi x5)] [] 0 0) : zz_E g l zy_network_14_105 zr_network_14_105 (zz_QI n (zp_network_14_105  S0)) S n 35 [some (.ref 1079), some (zi x1), some (zi x2), some (zi x3), some (zi x4), some (zi x5)] [] 0 0 := by
  have R_S := i35_14
  refine zz_iload (x := x5) rfl zd_14_105_35 ?_
  refine zz_aload_n (x := 1079) rfl zd_14_105_37 ?_
  have g90 := zz_G.r G_S0 1079 28 0 1500 rfl rfl
  refine zz_geti (z := S0 1079 28) zd_14_105_38 zf_Md_331 zT_1079 rfl (zz_ltn hn rfl) (zz_rc F_S rfl rfl (fun h => h) rfl) ?_
  refine zz_icmp_ge (by omega) (by omega) zd_14_105_41 (fun c91 => ?_) (fun c91 => ?_)
  · refine zz_aload_n (x := 1079) rfl zd_14_105_62 ?_
    refine zz_iload_n (x := x3) rfl zd_14_105_63 ?_
    refine zz_puti zd_14_105_64 zf_Md_337 zT_1079 rfl (zz_ltn hn rfl) (fun S92 qS92 => ?_)
    have G_S92 := zz_G.put G_S qS92 0 1500 rfl (by omega)
    have F_S92 := zz_fr.puts F_S qS92 rfl
    have R_S92 : zz_Hr S92 := zz_Hr.p79 qS92 (by decide) R_S
    have g93 := zz_G.r G_S 1079 66 0 11 rfl rfl
    have e94 : S92 1079 66 = S 1079 66 := (zz_ro qS92 (fun h => absurd h.2 (by decide)) rfl)
    have g95 := zz_G.r G_S 1079 36 0 11 rfl rfl
    have e96 : S92 1079 36 = S 1079 36 := (zz_ro qS92 (fun h => absurd h.2 (by decide)) rfl)
    have e97 : S92 1079 33 = x3 := (zz_rs qS92)
    exact k67 x1 x2 x3 x4 x5 S92 G_S92 F_S92 (by omega) (by omega) (by omega) (by omega) (by omega) (by omega) (by omega) (by omega) (by omega) (by omega) (by omega) (by omega) (by omega) (zz_kp.same i35_11 (fun u => (zz_ro qS92 (fun h => absurd h.1 (by decide)) rfl))) (by omega) (by omega) R_S92 (by omega)
  · refine zz_aload_n (x := 1079) rfl zd_14_105_44 ?_
    refine zz_getr (kd := 0) (z := 1099) zd_14_105_45 zf_Md_76 zT_1079 rfl (zz_ltn hn rfl) (zz_G.eq G_S 1079 27 1099 rfl rfl) (by decide) 1099 rfl ?_
    refine zz_iload (x := x5) rfl zd_14_105_48 ?_
    have g98 := zz_G.r G_S0 1099 x5.toNat 0 255 rfl rfl
    refine zz_iald (z := S0 1099 x5.toNat) zd_14_105_50 zT_1099 rfl (zz_ltn hn rfl) (by decide) (by omega) (zz_rc F_S (zz_nc1 rfl) rfl (fun h => h) rfl) ?_
    refine zz_bipush (by decide) zd_14_105_51 ?_
    refine zz_icmp_eq (by omega) (by omega) zd_14_105_53 (fun c99 => ?_) (fun c99 => ?_)
    · refine zz_aload_n (x := 1079) rfl zd_14_105_62 ?_
      refine zz_iload_n (x := x3) rfl zd_14_105_63 ?_
      refine zz_puti zd_14_105_64 zf_Md_337 zT_1079 rfl (zz_ltn hn rfl) (fun S100 qS100 => ?_)
      have G_S100 := zz_G.put G_S qS100 0 1500 rfl (by omega)
      have F_S100 := zz_fr.puts F_S qS100 rfl
      have R_S100 : zz_Hr S100 := zz_Hr.p79 qS100 (by decide) R_S
      have g101 := zz_G.r G_S 1079 66 0 11 rfl rfl
      have e102 : S100 1079 66 = S 1079 66 := (zz_ro qS100 (fun h => absurd h.2 (by decide)) rfl)
      have g103 := zz_G.r G_S 1079 36 0 11 rfl rfl
      have e104 : S100 1079 36 = S 1079 36 := (zz_ro qS100 (fun h => absurd h.2 (by decide)) rfl)
      have e105 : S100 1079 33 = x3 := (zz_rs qS100)
      exact k67 x1 x2 x3 x4 x5 S100 G_S100 F_S100 (by omega) (by omega) (by omega) (by omega) (by omega) (by omega) (by omega) (by omega) (by omega) (by omega) (by omega) (by omega) (by omega) (zz_kp.same i35_11 (fun u => (zz_ro qS100 (fun h => absurd h.1 (by decide)) rfl))) (by omega) (by omega) R_S100 (by omega)
    · refine zz_iinc [some (.ref 1079), some (zi x1), some (zi x2), some (zi x3), some (zi x4), some (zi (x5 + 1))] zd_14_105_56 rfl rfl ?_
      refine zz_goto zd_14_105_59 ?_
      have g106 := zz_G.r G_S 1079 66 0 11 rfl rfl
      have g107 := zz_G.r G_S 1079 36 0 11 rfl rfl
      refine zz_less (ls1 := [some (.ref 1079), some (zi x1), some (zi x2), some (zi x3), some (zi x4), some (zi (x5 + 1))]) ⟨rfl, ⟨rfl, ⟨rfl, ⟨rfl, ⟨rfl, ⟨rfl, trivial⟩⟩⟩⟩⟩⟩ ?_
      exact k35 x1 x2 x3 x4 (x5 + 1) S G_S F_S (by omega) (by omega) (by omega) (by omega) (by omega) (by omega) (by omega) (by omega) (by omega) (by omega) (by omega) i35_11 (by omega) (by omega) R_S (by omega)
theorem zb_network_14_105_67 {g : mm_G} {l : Launch}  (S0 : zz_S) (n : Nat) (hn : zz_end ≤ n) (G_S0 : zz_G S0) (R_S0 : zz_Hr S0) (h1 : 1 ≤ S0 1079 36) (x1 : Int) (x2 : Int) (x3 : Int) (x4 : Int) (x5 : Int) (S : zz_S) (G_S : zz_G S) (F_S : zz_fr [(1079, 0), (1079, 30), (1079, 31), (1079, 32), (1079, 33), (1079, 36), (1079, 61), (1079, 64), (1079, 65), (1079, 66), (1102, 0), (1103, 0), (1104, 0), (1105, 0), (1105, 1)] [1102, 1103, 1104, 1105, 1106, 1107, 1108, 1109, 1110, 1111, 1112, 1113, 1114, 1117, 1118, 1119] (fun _ _ => False) S0 S) (i67_0 : 0 ≤ x1 ∧ x1 ≤ 1) (i67_1 : 0 ≤ x2 ∧ x2 ≤ 1501) (i67_2 : 0 ≤ x3 ∧ x3 ≤ 1500) (i67_3 : 0 ≤ x4 ∧ x4 ≤ 1) (i67_4 : 0 ≤ x5 ∧ x5 ≤ 1500) (i67_5 : 0 ≤ x3 ∧ x3 ≤ 1501) (i67_6 : x2 ≤ x3) (i67_7 : x3 ≤ x5) (i67_8 : x4 ≠ 0) (i67_9 : x5 ≤ S0 1079 28) (i67_10 : x2 ≤ x3) (i67_11 : x3 ≤ x5) (i67_12 : x5 ≤ S0 1079 28) (i67_13 : zz_kp S0 S) (i67_14 : S 1079 66 = S0 1079 36) (i67_15 : x1 = 1 → 1 ≤ S 1079 36) (i67_16 : zz_Hr S) (R : Nat) (hR : (51539607552 + (S0 1079 28 + 1 - x3).toNat) * 1099511627776 + (17179869184 + (x5 - S 1079 33).toNat) = R) (k19 : ∀ (x1 : Int) (x2 : Int) (x3 : Int) (x4 : Int) (S : zz_S), zz_G S → zz_fr [(1079, 0), (1079, 30), (1079, 31), (1079, 32), (1079, 33), (1079, 36), (1079, 61), (1079, 64), (1079, 65), (1079, 66), (1102, 0), (1103, 0), (1104, 0), (1105, 0), (1105, 1)] [1102, 1103, 1104, 1105, 1106, 1107, 1108, 1109, 1110, 1111, 1112, 1113, 1114, 1117, 1118, 1119] (fun _ _ => False) S0 S → (0 ≤ x1 ∧ x1 ≤ 1) → (0 ≤ x2 ∧ x2 ≤ 1501) → (0 ≤ x3 ∧ x3 ≤ 1501) → (0 ≤ x4 ∧ x4 ≤ 1) → (x2 ≤ x3) → (zz_kp S0 S) → (S 1079 66 = S0 1079 36) → (x1 = 1 → x4 = 1 → 1 ≤ S 1079 36) → (zz_Hr S) → (51539607552 + (S0 1079 28 + 1 - x3).toNat) * 1099511627776 + 1099511627775 < R → zz_E g l zy_network_14_105 zr_network_14_105 (zz_QI n (zp_network_14_105  S0)) S n 19 [some (.ref 1079), some (zi x1), some (zi x2), some (zi x3), some (zi x4)] [] 0 0) (k67 : ∀ (x1 : Int) (x2 : Int) (x3 : Int) (x4 : Int) (x5 : Int) (S : zz_S), zz_G S → zz_fr [(1079, 0), (1079, 30), (1079, 31), (1079, 32), (1079, 33), (1079, 36), (1079, 61), (1079, 64), (1079, 65), (1079, 66), (1102, 0), (1103, 0), (1104, 0), (1105, 0), (1105, 1)] [1102, 1103, 1104, 1105, 1106, 1107, 1108, 1109, 1110, 1111, 1112, 1113, 1114, 1117, 1118, 1119] (fun _ _ => False) S0 S → (0 ≤ x1 ∧ x1 ≤ 1) → (0 ≤ x2 ∧ x2 ≤ 1501) → (0 ≤ x3 ∧ x3 ≤ 1500) → (0 ≤ x4 ∧ x4 ≤ 1) → (0 ≤ x5 ∧ x5 ≤ 1500) → (0 ≤ x3 ∧ x3 ≤ 1501) → (x2 ≤ x3) → (x3 ≤ x5) → (x4 ≠ 0) → (x5 ≤ S0 1079 28) → (x2 ≤ x3) → (x3 ≤ x5) → (x5 ≤ S0 1079 28) → (zz_kp S0 S) → (S 1079 66 = S0 1079 36) → (x1 = 1 → 1 ≤ S 1079 36) → (zz_Hr S) → (51539607552 + (S0 1079 28 + 1 - x3).toNat) * 1099511627776 + (17179869184 + (x5 - S 1079 33).toNat) < R → zz_E g l zy_network_14_105 zr_network_14_105 (zz_QI n (zp_network_14_105  S0)) S n 67 [some (.ref 1079), some (zi x1), some (zi x2), some (zi x3), some (zi x4), some (zi x5)] [] 0 0) : zz_E g l zy_network_14_105 zr_network_14_105 (zz_QI n (zp_network_14_105  S0)) S n 67 [some (.ref 1079), some (zi x1), some (zi x2), some (zi x3), some (zi x4), some (zi x5)] [] 0 0 := by
  have R_S := i67_16
  refine zz_aload_n (x := 1079) rfl zd_14_105_67 ?_
  have g108 := zz_G.r G_S 1079 33 0 1500 rfl rfl
  refine zz_geti (z := S 1079 33) zd_14_105_68 zf_Md_337 zT_1079 rfl (zz_ltn hn rfl) rfl ?_
  refine zz_iload (x := x5) rfl zd_14_105_71 ?_
  refine zz_icmp_ge (by omega) (by omega) zd_14_105_73 (fun c109 => ?_) (fun c109 => ?_)
  · refine zz_aload_n (x := 1079) rfl zd_14_105_103 ?_
    refine zz_iload_n (x := x3) rfl zd_14_105_104 ?_
    refine zz_puti zd_14_105_105 zf_Md_334 zT_1079 rfl (zz_ltn hn rfl) (fun S110 qS110 => ?_)
    have G_S110 := zz_G.put G_S qS110 0 1500 rfl (by omega)
    have F_S110 := zz_fr.puts F_S qS110 rfl
    have R_S110 : zz_Hr S110 := zz_Hr.p79 qS110 (by decide) R_S
    refine zz_aload_n (x := 1079) rfl zd_14_105_108 ?_
    have e111 : S110 1079 32 = x3 := (zz_rs qS110)
    refine zz_callVV [] zd_14_105_109 zk_Md_526 zT_1079 (zz_ltn hn rfl) rfl rfl ⟨Nat.le_of_ble_eq_true rfl, Nat.le_of_ble_eq_true rfl⟩ ⟨rfl, rfl⟩ (Nat.zero_le _) (Nat.zero_le _) (zc_advanceNet_14_93  S110 n hn G_S110 ) (fun S112 hP => ?_)
    obtain ⟨G_S112, fS112, o114⟩ := hP
    have F_S112 := zz_fr.trans F_S110 fS112 rfl zz_nv
    have R_S112 : zz_Hr S112 := zz_Hr.fr fS112 rfl rfl (fun b j h => h.elim) R_S110
    refine zz_aload_n (x := 1079) rfl zd_14_105_112 ?_
    have g115 := zz_G.r G_S112 1079 30 0 102 rfl rfl
    refine zz_geti (z := S112 1079 30) zd_14_105_113 zf_Md_347 zT_1079 rfl (zz_ltn hn rfl) rfl ?_
    refine zz_if_eq (by omega) zd_14_105_116 (fun c116 => ?_) (fun c116 => ?_)
    · refine zz_iload (x := x5) rfl zd_14_105_138 ?_
      refine zz_iconst zd_14_105_140 ?_
      refine zz_iadd zd_14_105_141 ?_
      refine zz_istore_n [some (.ref 1079), some (zi x1), some (zi x2), some (zi (x5 + 1)), some (zi x4), some (zi x5)] zd_14_105_142 (by decide) rfl ?_
      refine zz_iinc [some (.ref 1079), some (zi x1), some (zi (x2 + 1)), some (zi (x5 + 1)), some (zi x4), some (zi x5)] zd_14_105_143 rfl rfl ?_
      refine zz_goto zd_14_105_146 ?_
      have g117 := zz_G.r G_S 1079 66 0 11 rfl rfl
      have e118 : S112 1079 66 = S 1079 66 := (zz_rc fS112 rfl rfl (fun h => h) (zz_ro qS110 (fun h => absurd h.2 (by decide)) rfl))
      have g119 := zz_G.r G_S 1079 36 0 11 rfl rfl
      have e120 : S112 1079 36 = S 1079 36 := (zz_rc fS112 rfl rfl (fun h => h) (zz_ro qS110 (fun h => absurd h.2 (by decide)) rfl))
      have g121 := zz_G.r G_S0 1079 28 0 1500 rfl rfl
      refine zz_less (ls1 := [some (.ref 1079), some (zi x1), some (zi (x2 + 1)), some (zi (x5 + 1)), some (zi x4)]) ⟨rfl, ⟨rfl, ⟨rfl, ⟨rfl, ⟨rfl, trivial⟩⟩⟩⟩⟩ ?_
      exact k19 x1 (x2 + 1) (x5 + 1) x4 S112 G_S112 F_S112 (by omega) (by omega) (by omega) (by omega) (by omega) (zz_kp.same i67_13 (fun u => (zz_rc fS112 (zz_nc1 rfl) rfl (fun h => h) (zz_ro qS110 (fun h => absurd h.1 (by decide)) rfl)))) (by omega) (by omega) R_S112 (by omega)
    · refine zz_iload_n (x := x1) rfl zd_14_105_119 ?_
      refine zz_if_eq (by omega) zd_14_105_120 (fun c122 => ?_) (fun c122 => ?_)
      · refine zz_aload_n (x := 1079) rfl zd_14_105_130 ?_
        refine zz_callVI [] zd_14_105_131 zk_Md_601 zT_1079 (zz_ltn hn rfl) rfl rfl ⟨Nat.le_of_ble_eq_true rfl, Nat.le_of_ble_eq_true rfl⟩ ⟨rfl, rfl⟩ (Nat.zero_le _) (Nat.zero_le _) (zc_readInput_14_103  S112 n hn G_S112 R_S112) (fun v124 S123 hP => ?_)
        obtain ⟨G_S123, fS123, o125, o126, o127⟩ := hP
        have F_S123 := zz_fr.trans F_S112 fS123 rfl zz_nv
        have R_S123 : zz_Hr S123 := o127
        rcases (by omega : v124 = 0 ∨ v124 = 1) with rfl | rfl
        · refine zz_istore [some (.ref 1079), some (zi x1), some (zi x2), some (zi x3), some (zi 0), some (zi x5)] zd_14_105_134 (by decide) rfl ?_
          refine zz_iconst zd_14_105_136 ?_
          refine zz_istore_n [some (.ref 1079), some (zi 1), some (zi x2), some (zi x3), some (zi 0), some (zi x5)] zd_14_105_137 (by decide) rfl ?_
          refine zz_iload (x := x5) rfl zd_14_105_138 ?_
          refine zz_iconst zd_14_105_140 ?_
          refine zz_iadd zd_14_105_141 ?_
          refine zz_istore_n [some (.ref 1079), some (zi 1), some (zi x2), some (zi (x5 + 1)), some (zi 0), some (zi x5)] zd_14_105_142 (by decide) rfl ?_
          refine zz_iinc [some (.ref 1079), some (zi 1), some (zi (x2 + 1)), some (zi (x5 + 1)), some (zi 0), some (zi x5)] zd_14_105_143 rfl rfl ?_
          refine zz_goto zd_14_105_146 ?_
          have g128 := zz_G.r G_S 1079 66 0 11 rfl rfl
          have e129 : S123 1079 66 = S 1079 66 := (zz_rc fS123 rfl rfl (fun h => h) (zz_rc fS112 rfl rfl (fun h => h) (zz_ro qS110 (fun h => absurd h.2 (by decide)) rfl)))
          have g130 := zz_G.r G_S123 1079 36 0 11 rfl rfl
          have g131 := zz_G.r G_S0 1079 28 0 1500 rfl rfl
          refine zz_less (ls1 := [some (.ref 1079), some (zi 1), some (zi (x2 + 1)), some (zi (x5 + 1)), some (zi 0)]) ⟨rfl, ⟨rfl, ⟨rfl, ⟨rfl, ⟨rfl, trivial⟩⟩⟩⟩⟩ ?_
          exact k19 1 (x2 + 1) (x5 + 1) 0 S123 G_S123 F_S123 (by omega) (by omega) (by omega) (by omega) (by omega) (zz_kp.same i67_13 (fun u => (zz_rc fS123 (zz_nc1 rfl) rfl (fun h => h) (zz_rc fS112 (zz_nc1 rfl) rfl (fun h => h) (zz_ro qS110 (fun h => absurd h.1 (by decide)) rfl))))) (by omega) (by omega) R_S123 (by omega)
        · refine zz_istore [some (.ref 1079), some (zi x1), some (zi x2), some (zi x3), some (zi 1), some (zi x5)] zd_14_105_134 (by decide) rfl ?_
          refine zz_iconst zd_14_105_136 ?_
          refine zz_istore_n [some (.ref 1079), some (zi 1), some (zi x2), some (zi x3), some (zi 1), some (zi x5)] zd_14_105_137 (by decide) rfl ?_
          refine zz_iload (x := x5) rfl zd_14_105_138 ?_
          refine zz_iconst zd_14_105_140 ?_
          refine zz_iadd zd_14_105_141 ?_
          refine zz_istore_n [some (.ref 1079), some (zi 1), some (zi x2), some (zi (x5 + 1)), some (zi 1), some (zi x5)] zd_14_105_142 (by decide) rfl ?_
          refine zz_iinc [some (.ref 1079), some (zi 1), some (zi (x2 + 1)), some (zi (x5 + 1)), some (zi 1), some (zi x5)] zd_14_105_143 rfl rfl ?_
          refine zz_goto zd_14_105_146 ?_
          have g132 := zz_G.r G_S 1079 66 0 11 rfl rfl
          have e133 : S123 1079 66 = S 1079 66 := (zz_rc fS123 rfl rfl (fun h => h) (zz_rc fS112 rfl rfl (fun h => h) (zz_ro qS110 (fun h => absurd h.2 (by decide)) rfl)))
          have g134 := zz_G.r G_S123 1079 36 0 11 rfl rfl
          have g135 := zz_G.r G_S0 1079 28 0 1500 rfl rfl
          refine zz_less (ls1 := [some (.ref 1079), some (zi 1), some (zi (x2 + 1)), some (zi (x5 + 1)), some (zi 1)]) ⟨rfl, ⟨rfl, ⟨rfl, ⟨rfl, ⟨rfl, trivial⟩⟩⟩⟩⟩ ?_
          exact k19 1 (x2 + 1) (x5 + 1) 1 S123 G_S123 F_S123 (by omega) (by omega) (by omega) (by omega) (by omega) (zz_kp.same i67_13 (fun u => (zz_rc fS123 (zz_nc1 rfl) rfl (fun h => h) (zz_rc fS112 (zz_nc1 rfl) rfl (fun h => h) (zz_ro qS110 (fun h => absurd h.1 (by decide)) rfl))))) (by omega) (by omega) R_S123 (by omega)
      · refine zz_aload_n (x := 1079) rfl zd_14_105_123 ?_
        have g136 := zz_G.r G_S 1079 36 0 11 rfl rfl
        have e137 : S112 1079 36 = S 1079 36 := (zz_rc fS112 rfl rfl (fun h => h) (zz_ro qS110 (fun h => absurd h.2 (by decide)) rfl))
        refine zz_callVI [] zd_14_105_124 zk_Md_598 zT_1079 (zz_ltn hn rfl) rfl rfl ⟨Nat.le_of_ble_eq_true rfl, Nat.le_of_ble_eq_true rfl⟩ ⟨rfl, rfl⟩ (Nat.zero_le _) (Nat.zero_le _) (zc_readLayer_14_104  S112 n hn G_S112 R_S112) (fun v139 S138 hP => ?_)
        obtain ⟨G_S138, fS138, o140, o141, o142⟩ := hP
        have F_S138 := zz_fr.trans F_S112 fS138 rfl zz_nv
        have R_S138 : zz_Hr S138 := o142
        rcases (by omega : v139 = 0 ∨ v139 = 1) with rfl | rfl
        · refine zz_goto zd_14_105_127 ?_
          refine zz_istore [some (.ref 1079), some (zi x1), some (zi x2), some (zi x3), some (zi 0), some (zi x5)] zd_14_105_134 (by decide) rfl ?_
          refine zz_iconst zd_14_105_136 ?_
          refine zz_istore_n [some (.ref 1079), some (zi 1), some (zi x2), some (zi x3), some (zi 0), some (zi x5)] zd_14_105_137 (by decide) rfl ?_
          refine zz_iload (x := x5) rfl zd_14_105_138 ?_
          refine zz_iconst zd_14_105_140 ?_
          refine zz_iadd zd_14_105_141 ?_
          refine zz_istore_n [some (.ref 1079), some (zi 1), some (zi x2), some (zi (x5 + 1)), some (zi 0), some (zi x5)] zd_14_105_142 (by decide) rfl ?_
          refine zz_iinc [some (.ref 1079), some (zi 1), some (zi (x2 + 1)), some (zi (x5 + 1)), some (zi 0), some (zi x5)] zd_14_105_143 rfl rfl ?_
          refine zz_goto zd_14_105_146 ?_
          have g143 := zz_G.r G_S 1079 66 0 11 rfl rfl
          have e144 : S138 1079 66 = S 1079 66 := (zz_rc fS138 rfl rfl (fun h => h) (zz_rc fS112 rfl rfl (fun h => h) (zz_ro qS110 (fun h => absurd h.2 (by decide)) rfl)))
          have g145 := zz_G.r G_S138 1079 36 0 11 rfl rfl
          have g146 := zz_G.r G_S0 1079 28 0 1500 rfl rfl
          refine zz_less (ls1 := [some (.ref 1079), some (zi 1), some (zi (x2 + 1)), some (zi (x5 + 1)), some (zi 0)]) ⟨rfl, ⟨rfl, ⟨rfl, ⟨rfl, ⟨rfl, trivial⟩⟩⟩⟩⟩ ?_
          exact k19 1 (x2 + 1) (x5 + 1) 0 S138 G_S138 F_S138 (by omega) (by omega) (by omega) (by omega) (by omega) (zz_kp.same i67_13 (fun u => (zz_rc fS138 (zz_nc1 rfl) rfl (fun h => h) (zz_rc fS112 (zz_nc1 rfl) rfl (fun h => h) (zz_ro qS110 (fun h => absurd h.1 (by decide)) rfl))))) (by omega) (by omega) R_S138 (by omega)
        · refine zz_goto zd_14_105_127 ?_
          refine zz_istore [some (.ref 1079), some (zi x1), some (zi x2), some (zi x3), some (zi 1), some (zi x5)] zd_14_105_134 (by decide) rfl ?_
          refine zz_iconst zd_14_105_136 ?_
          refine zz_istore_n [some (.ref 1079), some (zi 1), some (zi x2), some (zi x3), some (zi 1), some (zi x5)] zd_14_105_137 (by decide) rfl ?_
          refine zz_iload (x := x5) rfl zd_14_105_138 ?_
          refine zz_iconst zd_14_105_140 ?_
          refine zz_iadd zd_14_105_141 ?_
          refine zz_istore_n [some (.ref 1079), some (zi 1), some (zi x2), some (zi (x5 + 1)), some (zi 1), some (zi x5)] zd_14_105_142 (by decide) rfl ?_
          refine zz_iinc [some (.ref 1079), some (zi 1), some (zi (x2 + 1)), some (zi (x5 + 1)), some (zi 1), some (zi x5)] zd_14_105_143 rfl rfl ?_
          refine zz_goto zd_14_105_146 ?_
          have g147 := zz_G.r G_S 1079 66 0 11 rfl rfl
          have e148 : S138 1079 66 = S 1079 66 := (zz_rc fS138 rfl rfl (fun h => h) (zz_rc fS112 rfl rfl (fun h => h) (zz_ro qS110 (fun h => absurd h.2 (by decide)) rfl)))
          have g149 := zz_G.r G_S138 1079 36 0 11 rfl rfl
          have g150 := zz_G.r G_S0 1079 28 0 1500 rfl rfl
          refine zz_less (ls1 := [some (.ref 1079), some (zi 1), some (zi (x2 + 1)), some (zi (x5 + 1)), some (zi 1)]) ⟨rfl, ⟨rfl, ⟨rfl, ⟨rfl, ⟨rfl, trivial⟩⟩⟩⟩⟩ ?_
          exact k19 1 (x2 + 1) (x5 + 1) 1 S138 G_S138 F_S138 (by omega) (by omega) (by omega) (by omega) (by omega) (zz_kp.same i67_13 (fun u => (zz_rc fS138 (zz_nc1 rfl) rfl (fun h => h) (zz_rc fS112 (zz_nc1 rfl) rfl (fun h => h) (zz_ro qS110 (fun h => absurd h.1 (by decide)) rfl))))) (by omega) (by omega) R_S138 (by omega)
  · refine zz_aload_n (x := 1079) rfl zd_14_105_76 ?_
    refine zz_getr (kd := 0) (z := 1099) zd_14_105_77 zf_Md_76 zT_1079 rfl (zz_ltn hn rfl) (zz_G.eq G_S 1079 27 1099 rfl rfl) (by decide) 1099 rfl ?_
    refine zz_aload_n (x := 1079) rfl zd_14_105_80 ?_
    refine zz_geti (z := S 1079 33) zd_14_105_81 zf_Md_337 zT_1079 rfl (zz_ltn hn rfl) rfl ?_
    have g151 := zz_G.r G_S0 1099 ((S 1079 33).toNat) 0 255 rfl rfl
    refine zz_iald (z := S0 1099 ((S 1079 33).toNat)) zd_14_105_84 zT_1099 rfl (zz_ltn hn rfl) (by decide) (by omega) (zz_rc F_S (zz_nc1 rfl) rfl (fun h => h) rfl) ?_
    refine zz_bipush (by decide) zd_14_105_85 ?_
    refine zz_icmp_eq (by omega) (by omega) zd_14_105_87 (fun c152 => ?_) (fun c152 => ?_)
    · refine zz_aload_n (x := 1079) rfl zd_14_105_103 ?_
      refine zz_iload_n (x := x3) rfl zd_14_105_104 ?_
      refine zz_puti zd_14_105_105 zf_Md_334 zT_1079 rfl (zz_ltn hn rfl) (fun S153 qS153 => ?_)
      have G_S153 := zz_G.put G_S qS153 0 1500 rfl (by omega)
      have F_S153 := zz_fr.puts F_S qS153 rfl
      have R_S153 : zz_Hr S153 := zz_Hr.p79 qS153 (by decide) R_S
      refine zz_aload_n (x := 1079) rfl zd_14_105_108 ?_
      have e154 : S153 1079 32 = x3 := (zz_rs qS153)
      refine zz_callVV [] zd_14_105_109 zk_Md_526 zT_1079 (zz_ltn hn rfl) rfl rfl ⟨Nat.le_of_ble_eq_true rfl, Nat.le_of_ble_eq_true rfl⟩ ⟨rfl, rfl⟩ (Nat.zero_le _) (Nat.zero_le _) (zc_advanceNet_14_93  S153 n hn G_S153 ) (fun S155 hP => ?_)
      obtain ⟨G_S155, fS155, o157⟩ := hP
      have F_S155 := zz_fr.trans F_S153 fS155 rfl zz_nv
      have R_S155 : zz_Hr S155 := zz_Hr.fr fS155 rfl rfl (fun b j h => h.elim) R_S153
      refine zz_aload_n (x := 1079) rfl zd_14_105_112 ?_
      have g158 := zz_G.r G_S155 1079 30 0 102 rfl rfl
      refine zz_geti (z := S155 1079 30) zd_14_105_113 zf_Md_347 zT_1079 rfl (zz_ltn hn rfl) rfl ?_
      refine zz_if_eq (by omega) zd_14_105_116 (fun c159 => ?_) (fun c159 => ?_)
      · refine zz_iload (x := x5) rfl zd_14_105_138 ?_
        refine zz_iconst zd_14_105_140 ?_
        refine zz_iadd zd_14_105_141 ?_
        refine zz_istore_n [some (.ref 1079), some (zi x1), some (zi x2), some (zi (x5 + 1)), some (zi x4), some (zi x5)] zd_14_105_142 (by decide) rfl ?_
        refine zz_iinc [some (.ref 1079), some (zi x1), some (zi (x2 + 1)), some (zi (x5 + 1)), some (zi x4), some (zi x5)] zd_14_105_143 rfl rfl ?_
        refine zz_goto zd_14_105_146 ?_
        have g160 := zz_G.r G_S 1079 66 0 11 rfl rfl
        have e161 : S155 1079 66 = S 1079 66 := (zz_rc fS155 rfl rfl (fun h => h) (zz_ro qS153 (fun h => absurd h.2 (by decide)) rfl))
        have g162 := zz_G.r G_S 1079 36 0 11 rfl rfl
        have e163 : S155 1079 36 = S 1079 36 := (zz_rc fS155 rfl rfl (fun h => h) (zz_ro qS153 (fun h => absurd h.2 (by decide)) rfl))
        have g164 := zz_G.r G_S0 1079 28 0 1500 rfl rfl
        refine zz_less (ls1 := [some (.ref 1079), some (zi x1), some (zi (x2 + 1)), some (zi (x5 + 1)), some (zi x4)]) ⟨rfl, ⟨rfl, ⟨rfl, ⟨rfl, ⟨rfl, trivial⟩⟩⟩⟩⟩ ?_
        exact k19 x1 (x2 + 1) (x5 + 1) x4 S155 G_S155 F_S155 (by omega) (by omega) (by omega) (by omega) (by omega) (zz_kp.same i67_13 (fun u => (zz_rc fS155 (zz_nc1 rfl) rfl (fun h => h) (zz_ro qS153 (fun h => absurd h.1 (by decide)) rfl)))) (by omega) (by omega) R_S155 (by omega)
      · refine zz_iload_n (x := x1) rfl zd_14_105_119 ?_
        refine zz_if_eq (by omega) zd_14_105_120 (fun c165 => ?_) (fun c165 => ?_)
        · refine zz_aload_n (x := 1079) rfl zd_14_105_130 ?_
          refine zz_callVI [] zd_14_105_131 zk_Md_601 zT_1079 (zz_ltn hn rfl) rfl rfl ⟨Nat.le_of_ble_eq_true rfl, Nat.le_of_ble_eq_true rfl⟩ ⟨rfl, rfl⟩ (Nat.zero_le _) (Nat.zero_le _) (zc_readInput_14_103  S155 n hn G_S155 R_S155) (fun v167 S166 hP => ?_)
          obtain ⟨G_S166, fS166, o168, o169, o170⟩ := hP
          have F_S166 := zz_fr.trans F_S155 fS166 rfl zz_nv
          have R_S166 : zz_Hr S166 := o170
          rcases (by omega : v167 = 0 ∨ v167 = 1) with rfl | rfl
          · refine zz_istore [some (.ref 1079), some (zi x1), some (zi x2), some (zi x3), some (zi 0), some (zi x5)] zd_14_105_134 (by decide) rfl ?_
            refine zz_iconst zd_14_105_136 ?_
            refine zz_istore_n [some (.ref 1079), some (zi 1), some (zi x2), some (zi x3), some (zi 0), some (zi x5)] zd_14_105_137 (by decide) rfl ?_
            refine zz_iload (x := x5) rfl zd_14_105_138 ?_
            refine zz_iconst zd_14_105_140 ?_
            refine zz_iadd zd_14_105_141 ?_
            refine zz_istore_n [some (.ref 1079), some (zi 1), some (zi x2), some (zi (x5 + 1)), some (zi 0), some (zi x5)] zd_14_105_142 (by decide) rfl ?_
            refine zz_iinc [some (.ref 1079), some (zi 1), some (zi (x2 + 1)), some (zi (x5 + 1)), some (zi 0), some (zi x5)] zd_14_105_143 rfl rfl ?_
            refine zz_goto zd_14_105_146 ?_
            have g171 := zz_G.r G_S 1079 66 0 11 rfl rfl
            have e172 : S166 1079 66 = S 1079 66 := (zz_rc fS166 rfl rfl (fun h => h) (zz_rc fS155 rfl rfl (fun h => h) (zz_ro qS153 (fun h => absurd h.2 (by decide)) rfl)))
            have g173 := zz_G.r G_S166 1079 36 0 11 rfl rfl
            have g174 := zz_G.r G_S0 1079 28 0 1500 rfl rfl
            refine zz_less (ls1 := [some (.ref 1079), some (zi 1), some (zi (x2 + 1)), some (zi (x5 + 1)), some (zi 0)]) ⟨rfl, ⟨rfl, ⟨rfl, ⟨rfl, ⟨rfl, trivial⟩⟩⟩⟩⟩ ?_
            exact k19 1 (x2 + 1) (x5 + 1) 0 S166 G_S166 F_S166 (by omega) (by omega) (by omega) (by omega) (by omega) (zz_kp.same i67_13 (fun u => (zz_rc fS166 (zz_nc1 rfl) rfl (fun h => h) (zz_rc fS155 (zz_nc1 rfl) rfl (fun h => h) (zz_ro qS153 (fun h => absurd h.1 (by decide)) rfl))))) (by omega) (by omega) R_S166 (by omega)
          · refine zz_istore [some (.ref 1079), some (zi x1), some (zi x2), some (zi x3), some (zi 1), some (zi x5)] zd_14_105_134 (by decide) rfl ?_
            refine zz_iconst zd_14_105_136 ?_
            refine zz_istore_n [some (.ref 1079), some (zi 1), some (zi x2), some (zi x3), some (zi 1), some (zi x5)] zd_14_105_137 (by decide) rfl ?_
            refine zz_iload (x := x5) rfl zd_14_105_138 ?_
            refine zz_iconst zd_14_105_140 ?_
            refine zz_iadd zd_14_105_141 ?_
            refine zz_istore_n [some (.ref 1079), some (zi 1), some (zi x2), some (zi (x5 + 1)), some (zi 1), some (zi x5)] zd_14_105_142 (by decide) rfl ?_
            refine zz_iinc [some (.ref 1079), some (zi 1), some (zi (x2 + 1)), some (zi (x5 + 1)), some (zi 1), some (zi x5)] zd_14_105_143 rfl rfl ?_
            refine zz_goto zd_14_105_146 ?_
            have g175 := zz_G.r G_S 1079 66 0 11 rfl rfl
            have e176 : S166 1079 66 = S 1079 66 := (zz_rc fS166 rfl rfl (fun h => h) (zz_rc fS155 rfl rfl (fun h => h) (zz_ro qS153 (fun h => absurd h.2 (by decide)) rfl)))
            have g177 := zz_G.r G_S166 1079 36 0 11 rfl rfl
            have g178 := zz_G.r G_S0 1079 28 0 1500 rfl rfl
            refine zz_less (ls1 := [some (.ref 1079), some (zi 1), some (zi (x2 + 1)), some (zi (x5 + 1)), some (zi 1)]) ⟨rfl, ⟨rfl, ⟨rfl, ⟨rfl, ⟨rfl, trivial⟩⟩⟩⟩⟩ ?_
            exact k19 1 (x2 + 1) (x5 + 1) 1 S166 G_S166 F_S166 (by omega) (by omega) (by omega) (by omega) (by omega) (zz_kp.same i67_13 (fun u => (zz_rc fS166 (zz_nc1 rfl) rfl (fun h => h) (zz_rc fS155 (zz_nc1 rfl) rfl (fun h => h) (zz_ro qS153 (fun h => absurd h.1 (by decide)) rfl))))) (by omega) (by omega) R_S166 (by omega)
        · refine zz_aload_n (x := 1079) rfl zd_14_105_123 ?_
          have g179 := zz_G.r G_S 1079 36 0 11 rfl rfl
          have e180 : S155 1079 36 = S 1079 36 := (zz_rc fS155 rfl rfl (fun h => h) (zz_ro qS153 (fun h => absurd h.2 (by decide)) rfl))
          refine zz_callVI [] zd_14_105_124 zk_Md_598 zT_1079 (zz_ltn hn rfl) rfl rfl ⟨Nat.le_of_ble_eq_true rfl, Nat.le_of_ble_eq_true rfl⟩ ⟨rfl, rfl⟩ (Nat.zero_le _) (Nat.zero_le _) (zc_readLayer_14_104  S155 n hn G_S155 R_S155) (fun v182 S181 hP => ?_)
          obtain ⟨G_S181, fS181, o183, o184, o185⟩ := hP
          have F_S181 := zz_fr.trans F_S155 fS181 rfl zz_nv
          have R_S181 : zz_Hr S181 := o185
          rcases (by omega : v182 = 0 ∨ v182 = 1) with rfl | rfl
          · refine zz_goto zd_14_105_127 ?_
            refine zz_istore [some (.ref 1079), some (zi x1), some (zi x2), some (zi x3), some (zi 0), some (zi x5)] zd_14_105_134 (by decide) rfl ?_
            refine zz_iconst zd_14_105_136 ?_
            refine zz_istore_n [some (.ref 1079), some (zi 1), some (zi x2), some (zi x3), some (zi 0), some (zi x5)] zd_14_105_137 (by decide) rfl ?_
            refine zz_iload (x := x5) rfl zd_14_105_138 ?_
            refine zz_iconst zd_14_105_140 ?_
            refine zz_iadd zd_14_105_141 ?_
            refine zz_istore_n [some (.ref 1079), some (zi 1), some (zi x2), some (zi (x5 + 1)), some (zi 0), some (zi x5)] zd_14_105_142 (by decide) rfl ?_
            refine zz_iinc [some (.ref 1079), some (zi 1), some (zi (x2 + 1)), some (zi (x5 + 1)), some (zi 0), some (zi x5)] zd_14_105_143 rfl rfl ?_
            refine zz_goto zd_14_105_146 ?_
            have g186 := zz_G.r G_S 1079 66 0 11 rfl rfl
            have e187 : S181 1079 66 = S 1079 66 := (zz_rc fS181 rfl rfl (fun h => h) (zz_rc fS155 rfl rfl (fun h => h) (zz_ro qS153 (fun h => absurd h.2 (by decide)) rfl)))
            have g188 := zz_G.r G_S181 1079 36 0 11 rfl rfl
            have g189 := zz_G.r G_S0 1079 28 0 1500 rfl rfl
            refine zz_less (ls1 := [some (.ref 1079), some (zi 1), some (zi (x2 + 1)), some (zi (x5 + 1)), some (zi 0)]) ⟨rfl, ⟨rfl, ⟨rfl, ⟨rfl, ⟨rfl, trivial⟩⟩⟩⟩⟩ ?_
            exact k19 1 (x2 + 1) (x5 + 1) 0 S181 G_S181 F_S181 (by omega) (by omega) (by omega) (by omega) (by omega) (zz_kp.same i67_13 (fun u => (zz_rc fS181 (zz_nc1 rfl) rfl (fun h => h) (zz_rc fS155 (zz_nc1 rfl) rfl (fun h => h) (zz_ro qS153 (fun h => absurd h.1 (by decide)) rfl))))) (by omega) (by omega) R_S181 (by omega)
          · refine zz_goto zd_14_105_127 ?_
            refine zz_istore [some (.ref 1079), some (zi x1), some (zi x2), some (zi x3), some (zi 1), some (zi x5)] zd_14_105_134 (by decide) rfl ?_
            refine zz_iconst zd_14_105_136 ?_
            refine zz_istore_n [some (.ref 1079), some (zi 1), some (zi x2), some (zi x3), some (zi 1), some (zi x5)] zd_14_105_137 (by decide) rfl ?_
            refine zz_iload (x := x5) rfl zd_14_105_138 ?_
            refine zz_iconst zd_14_105_140 ?_
            refine zz_iadd zd_14_105_141 ?_
            refine zz_istore_n [some (.ref 1079), some (zi 1), some (zi x2), some (zi (x5 + 1)), some (zi 1), some (zi x5)] zd_14_105_142 (by decide) rfl ?_
            refine zz_iinc [some (.ref 1079), some (zi 1), some (zi (x2 + 1)), some (zi (x5 + 1)), some (zi 1), some (zi x5)] zd_14_105_143 rfl rfl ?_
            refine zz_goto zd_14_105_146 ?_
            have g190 := zz_G.r G_S 1079 66 0 11 rfl rfl
            have e191 : S181 1079 66 = S 1079 66 := (zz_rc fS181 rfl rfl (fun h => h) (zz_rc fS155 rfl rfl (fun h => h) (zz_ro qS153 (fun h => absurd h.2 (by decide)) rfl)))
            have g192 := zz_G.r G_S181 1079 36 0 11 rfl rfl
            have g193 := zz_G.r G_S0 1079 28 0 1500 rfl rfl
            refine zz_less (ls1 := [some (.ref 1079), some (zi 1), some (zi (x2 + 1)), some (zi (x5 + 1)), some (zi 1)]) ⟨rfl, ⟨rfl, ⟨rfl, ⟨rfl, ⟨rfl, trivial⟩⟩⟩⟩⟩ ?_
            exact k19 1 (x2 + 1) (x5 + 1) 1 S181 G_S181 F_S181 (by omega) (by omega) (by omega) (by omega) (by omega) (zz_kp.same i67_13 (fun u => (zz_rc fS181 (zz_nc1 rfl) rfl (fun h => h) (zz_rc fS155 (zz_nc1 rfl) rfl (fun h => h) (zz_ro qS153 (fun h => absurd h.1 (by decide)) rfl))))) (by omega) (by omega) R_S181 (by omega)
    · refine zz_aload_n (x := 1079) rfl zd_14_105_90 ?_
      refine zz_dup rfl zd_14_105_91 ?_
      refine zz_geti (z := S 1079 33) zd_14_105_92 zf_Md_337 zT_1079 rfl (zz_ltn hn rfl) rfl ?_
      refine zz_iconst zd_14_105_95 ?_
      refine zz_iadd zd_14_105_96 ?_
      refine zz_puti zd_14_105_97 zf_Md_337 zT_1079 rfl (zz_ltn hn rfl) (fun S194 qS194 => ?_)
      have G_S194 := zz_G.put G_S qS194 0 1500 rfl (by omega)
      have F_S194 := zz_fr.puts F_S qS194 rfl
      have R_S194 : zz_Hr S194 := zz_Hr.p79 qS194 (by decide) R_S
      refine zz_goto zd_14_105_100 ?_
      have g195 := zz_G.r G_S 1079 66 0 11 rfl rfl
      have e196 : S194 1079 66 = S 1079 66 := (zz_ro qS194 (fun h => absurd h.2 (by decide)) rfl)
      have g197 := zz_G.r G_S 1079 36 0 11 rfl rfl
      have e198 : S194 1079 36 = S 1079 36 := (zz_ro qS194 (fun h => absurd h.2 (by decide)) rfl)
      have e199 : S194 1079 33 = (S 1079 33) + 1 := (zz_rs qS194)
      have g200 := zz_G.r G_S0 1079 28 0 1500 rfl rfl
      exact k67 x1 x2 x3 x4 x5 S194 G_S194 F_S194 (by omega) (by omega) (by omega) (by omega) (by omega) (by omega) (by omega) (by omega) (by omega) (by omega) (by omega) (by omega) (by omega) (zz_kp.same i67_13 (fun u => (zz_ro qS194 (fun h => absurd h.1 (by decide)) rfl))) (by omega) (by omega) R_S194 (by omega)
theorem zi_network_14_105 {g : mm_G} {l : Launch}  (S0 : zz_S) (n : Nat) (hn : zz_end ≤ n) (G_S0 : zz_G S0) (R_S0 : zz_Hr S0) (h1 : 1 ≤ S0 1079 36) : ∀ N : Nat, (∀ (x1 : Int) (x2 : Int) (x3 : Int) (x4 : Int) (S : zz_S), zz_G S → zz_fr [(1079, 0), (1079, 30), (1079, 31), (1079, 32), (1079, 33), (1079, 36), (1079, 61), (1079, 64), (1079, 65), (1079, 66), (1102, 0), (1103, 0), (1104, 0), (1105, 0), (1105, 1)] [1102, 1103, 1104, 1105, 1106, 1107, 1108, 1109, 1110, 1111, 1112, 1113, 1114, 1117, 1118, 1119] (fun _ _ => False) S0 S → (0 ≤ x1 ∧ x1 ≤ 1) → (0 ≤ x2 ∧ x2 ≤ 1501) → (0 ≤ x3 ∧ x3 ≤ 1501) → (0 ≤ x4 ∧ x4 ≤ 1) → (x2 ≤ x3) → (zz_kp S0 S) → (S 1079 66 = S0 1079 36) → (x1 = 1 → x4 = 1 → 1 ≤ S 1079 36) → (zz_Hr S) → (51539607552 + (S0 1079 28 + 1 - x3).toNat) * 1099511627776 + 1099511627775 < N → zz_E g l zy_network_14_105 zr_network_14_105 (zz_QI n (zp_network_14_105  S0)) S n 19 [some (.ref 1079), some (zi x1), some (zi x2), some (zi x3), some (zi x4)] [] 0 0) ∧ (∀ (x1 : Int) (x2 : Int) (x3 : Int) (x4 : Int) (x5 : Int) (S : zz_S), zz_G S → zz_fr [(1079, 0), (1079, 30), (1079, 31), (1079, 32), (1079, 33), (1079, 36), (1079, 61), (1079, 64), (1079, 65), (1079, 66), (1102, 0), (1103, 0), (1104, 0), (1105, 0), (1105, 1)] [1102, 1103, 1104, 1105, 1106, 1107, 1108, 1109, 1110, 1111, 1112, 1113, 1114, 1117, 1118, 1119] (fun _ _ => False) S0 S → (0 ≤ x1 ∧ x1 ≤ 1) → (0 ≤ x2 ∧ x2 ≤ 1501) → (0 ≤ x3 ∧ x3 ≤ 1500) → (0 ≤ x4 ∧ x4 ≤ 1) → (0 ≤ x5 ∧ x5 ≤ 1500) → (0 ≤ x3 ∧ x3 ≤ 1501) → (x2 ≤ x3) → (x4 ≠ 0) → (x2 ≤ x3) → (x3 ≤ x5) → (x5 ≤ S0 1079 28) → (zz_kp S0 S) → (S 1079 66 = S0 1079 36) → (x1 = 1 → 1 ≤ S 1079 36) → (zz_Hr S) → (51539607552 + (S0 1079 28 + 1 - x3).toNat) * 1099511627776 + (34359738368 + (S0 1079 28 - x5).toNat) < N → zz_E g l zy_network_14_105 zr_network_14_105 (zz_QI n (zp_network_14_105  S0)) S n 35 [some (.ref 1079), some (zi x1), some (zi x2), some (zi x3), some (zi x4), some (zi x5)] [] 0 0) ∧ (∀ (x1 : Int) (x2 : Int) (x3 : Int) (x4 : Int) (x5 : Int) (S : zz_S), zz_G S → zz_fr [(1079, 0), (1079, 30), (1079, 31), (1079, 32), (1079, 33), (1079, 36), (1079, 61), (1079, 64), (1079, 65), (1079, 66), (1102, 0), (1103, 0), (1104, 0), (1105, 0), (1105, 1)] [1102, 1103, 1104, 1105, 1106, 1107, 1108, 1109, 1110, 1111, 1112, 1113, 1114, 1117, 1118, 1119] (fun _ _ => False) S0 S → (0 ≤ x1 ∧ x1 ≤ 1) → (0 ≤ x2 ∧ x2 ≤ 1501) → (0 ≤ x3 ∧ x3 ≤ 1500) → (0 ≤ x4 ∧ x4 ≤ 1) → (0 ≤ x5 ∧ x5 ≤ 1500) → (0 ≤ x3 ∧ x3 ≤ 1501) → (x2 ≤ x3) → (x3 ≤ x5) → (x4 ≠ 0) → (x5 ≤ S0 1079 28) → (x2 ≤ x3) → (x3 ≤ x5) → (x5 ≤ S0 1079 28) → (zz_kp S0 S) → (S 1079 66 = S0 1079 36) → (x1 = 1 → 1 ≤ S 1079 36) → (zz_Hr S) → (51539607552 + (S0 1079 28 + 1 - x3).toNat) * 1099511627776 + (17179869184 + (x5 - S 1079 33).toNat) < N → zz_E g l zy_network_14_105 zr_network_14_105 (zz_QI n (zp_network_14_105  S0)) S n 67 [some (.ref 1079), some (zi x1), some (zi x2), some (zi x3), some (zi x4), some (zi x5)] [] 0 0) := by
  intro N
  induction N with
  | zero => exact ⟨fun x1 x2 x3 x4 S _ _ _ _ _ _ _ _ _ _ _ h => absurd h (Nat.not_lt_zero _), fun x1 x2 x3 x4 x5 S _ _ _ _ _ _ _ _ _ _ _ _ _ _ _ _ _ h => absurd h (Nat.not_lt_zero _), fun x1 x2 x3 x4 x5 S _ _ _ _ _ _ _ _ _ _ _ _ _ _ _ _ _ _ _ h => absurd h (Nat.not_lt_zero _)⟩
  | succ N ih =>
    exact ⟨fun x1 x2 x3 x4 S a b j0 j1 j2 j3 j4 j5 j6 j7 j8 hR => zb_network_14_105_19  S0 n hn G_S0 R_S0 h1 x1 x2 x3 x4 S a b j0 j1 j2 j3 j4 j5 j6 j7 j8 _ rfl (fun x1 x2 x3 x4 x5 S a b j0 j1 j2 j3 j4 j5 j6 j7 j8 j9 j10 j11 j12 j13 j14 h => ih.2.1 x1 x2 x3 x4 x5 S a b j0 j1 j2 j3 j4 j5 j6 j7 j8 j9 j10 j11 j12 j13 j14 (Nat.lt_of_lt_of_le h (Nat.le_of_lt_succ hR))),
      fun x1 x2 x3 x4 x5 S a b j0 j1 j2 j3 j4 j5 j6 j7 j8 j9 j10 j11 j12 j13 j14 hR => zb_network_14_105_35  S0 n hn G_S0 R_S0 h1 x1 x2 x3 x4 x5 S a b j0 j1 j2 j3 j4 j5 j6 j7 j8 j9 j10 j11 j12 j13 j14 _ rfl (fun x1 x2 x3 x4 x5 S a b j0 j1 j2 j3 j4 j5 j6 j7 j8 j9 j10 j11 j12 j13 j14 h => ih.2.1 x1 x2 x3 x4 x5 S a b j0 j1 j2 j3 j4 j5 j6 j7 j8 j9 j10 j11 j12 j13 j14 (Nat.lt_of_lt_of_le h (Nat.le_of_lt_succ hR))) (fun x1 x2 x3 x4 x5 S a b j0 j1 j2 j3 j4 j5 j6 j7 j8 j9 j10 j11 j12 j13 j14 j15 j16 h => ih.2.2 x1 x2 x3 x4 x5 S a b j0 j1 j2 j3 j4 j5 j6 j7 j8 j9 j10 j11 j12 j13 j14 j15 j16 (Nat.lt_of_lt_of_le h (Nat.le_of_lt_succ hR))),
      fun x1 x2 x3 x4 x5 S a b j0 j1 j2 j3 j4 j5 j6 j7 j8 j9 j10 j11 j12 j13 j14 j15 j16 hR => zb_network_14_105_67  S0 n hn G_S0 R_S0 h1 x1 x2 x3 x4 x5 S a b j0 j1 j2 j3 j4 j5 j6 j7 j8 j9 j10 j11 j12 j13 j14 j15 j16 _ rfl (fun x1 x2 x3 x4 S a b j0 j1 j2 j3 j4 j5 j6 j7 j8 h => ih.1 x1 x2 x3 x4 S a b j0 j1 j2 j3 j4 j5 j6 j7 j8 (Nat.lt_of_lt_of_le h (Nat.le_of_lt_succ hR))) (fun x1 x2 x3 x4 x5 S a b j0 j1 j2 j3 j4 j5 j6 j7 j8 j9 j10 j11 j12 j13 j14 j15 j16 h => ih.2.2 x1 x2 x3 x4 x5 S a b j0 j1 j2 j3 j4 j5 j6 j7 j8 j9 j10 j11 j12 j13 j14 j15 j16 (Nat.lt_of_lt_of_le h (Nat.le_of_lt_succ hR)))⟩
theorem zc_network_14_105 {g : mm_G} {l : Launch}  (S0 : zz_S) (n : Nat) (hn : zz_end ≤ n) (G_S0 : zz_G S0) (R_S0 : zz_Hr S0) (h1 : 1 ≤ S0 1079 36) : mm_Met g l zy_network_14_105 zr_network_14_105 [.ref 1079] (zz_M S0 n) n (zz_QI n (zp_network_14_105  S0)) := by
  refine zz_enter (by decide) (Nat.le_of_ble_eq_true rfl) (zz_less (ls1 := [some (.ref 1079)]) ⟨rfl, trivial⟩ ?_)
  have F_S0 : zz_fr [(1079, 0), (1079, 30), (1079, 31), (1079, 32), (1079, 33), (1079, 36), (1079, 61), (1079, 64), (1079, 65), (1079, 66), (1102, 0), (1103, 0), (1104, 0), (1105, 0), (1105, 1)] [1102, 1103, 1104, 1105, 1106, 1107, 1108, 1109, 1110, 1111, 1112, 1113, 1114, 1117, 1118, 1119] (fun _ _ => False) S0 S0 := zz_fr.refl
  have k19 : ∀ (x1 : Int) (x2 : Int) (x3 : Int) (x4 : Int) (S : zz_S), zz_G S → zz_fr [(1079, 0), (1079, 30), (1079, 31), (1079, 32), (1079, 33), (1079, 36), (1079, 61), (1079, 64), (1079, 65), (1079, 66), (1102, 0), (1103, 0), (1104, 0), (1105, 0), (1105, 1)] [1102, 1103, 1104, 1105, 1106, 1107, 1108, 1109, 1110, 1111, 1112, 1113, 1114, 1117, 1118, 1119] (fun _ _ => False) S0 S → (0 ≤ x1 ∧ x1 ≤ 1) → (0 ≤ x2 ∧ x2 ≤ 1501) → (0 ≤ x3 ∧ x3 ≤ 1501) → (0 ≤ x4 ∧ x4 ≤ 1) → (x2 ≤ x3) → (zz_kp S0 S) → (S 1079 66 = S0 1079 36) → (x1 = 1 → x4 = 1 → 1 ≤ S 1079 36) → (zz_Hr S) → zz_E g l zy_network_14_105 zr_network_14_105 (zz_QI n (zp_network_14_105  S0)) S n 19 [some (.ref 1079), some (zi x1), some (zi x2), some (zi x3), some (zi x4)] [] 0 0 := fun x1 x2 x3 x4 S a b j0 j1 j2 j3 j4 j5 j6 j7 j8 => (zi_network_14_105 (g := g) (l := l)  S0 n hn G_S0 R_S0 h1 _).1 x1 x2 x3 x4 S a b j0 j1 j2 j3 j4 j5 j6 j7 j8 (Nat.lt_succ_self _)
  refine zz_aload_n (x := 1079) rfl zd_14_105_0 ?_
  refine zz_iconst zd_14_105_1 ?_
  refine zz_puti zd_14_105_2 zf_Md_187 zT_1079 rfl (zz_ltn hn rfl) (fun S1 qS1 => ?_)
  have G_S1 := zz_G.put G_S0 qS1 0 3 rfl (by omega)
  have F_S1 := zz_fr.puts F_S0 qS1 rfl
  have R_S1 : zz_Hr S1 := zz_Hr.p79 qS1 (by decide) R_S0
  refine zz_aload_n (x := 1079) rfl zd_14_105_5 ?_
  refine zz_iconst zd_14_105_6 ?_
  have g2 := zz_G.r G_S0 1079 36 0 11 rfl rfl
  have e3 : S1 1079 36 = S0 1079 36 := (zz_ro qS1 (fun h => absurd h.2 (by decide)) rfl)
  refine zz_callVV [zi 0] zd_14_105_7 zk_Md_595 zT_1079 (zz_ltn hn rfl) rfl rfl ⟨Nat.le_of_ble_eq_true rfl, Nat.le_of_ble_eq_true rfl⟩ ⟨rfl, rfl⟩ (Nat.zero_le _) (Nat.zero_le _) (zc_keepNetwork_14_91_0  S1 n hn G_S1 ) (fun S4 hP => ?_)
  obtain ⟨G_S4, fS4, o6, o7, o8⟩ := hP
  have F_S4 := zz_fr.trans F_S1 fS4 rfl zz_nv
  have R_S4 : zz_Hr S4 := o8 R_S1
  refine zz_iconst zd_14_105_10 ?_
  refine zz_istore_n [some (.ref 1079), some (zi 0)] zd_14_105_11 (by decide) rfl ?_
  refine zz_iconst zd_14_105_12 ?_
  refine zz_istore_n [some (.ref 1079), some (zi 0), some (zi 0)] zd_14_105_13 (by decide) rfl ?_
  refine zz_iconst zd_14_105_14 ?_
  refine zz_istore_n [some (.ref 1079), some (zi 0), some (zi 0), some (zi 0)] zd_14_105_15 (by decide) rfl ?_
  refine zz_iconst zd_14_105_16 ?_
  refine zz_istore [some (.ref 1079), some (zi 0), some (zi 0), some (zi 0), some (zi 1)] zd_14_105_17 (by decide) rfl ?_
  have g9 := zz_G.r G_S4 1079 66 0 11 rfl rfl
  have g10 := zz_G.r G_S4 1079 36 0 11 rfl rfl
  have g11 := zz_G.r G_S0 1079 28 0 1500 rfl rfl
  refine zz_less (ls1 := [some (.ref 1079), some (zi 0), some (zi 0), some (zi 0), some (zi 1)]) ⟨rfl, ⟨rfl, ⟨rfl, ⟨rfl, ⟨rfl, trivial⟩⟩⟩⟩⟩ ?_
  exact k19 0 0 0 1 S4 G_S4 F_S4 (by omega) (by omega) (by omega) (by omega) (by omega) (zz_kp.from o6 (fun a u x y => zz_ro qS1 (fun h => by omega) rfl)) (by omega) (by omega) R_S4
abbrev zy_sayCode_14_106 : mm_Y := (⟨"TensorForgeModel", "sayCode", "(J)V"⟩, prog_14_method_106_code, 5, none)
theorem zyw_sayCode_14_106 : mm_Yw zy_sayCode_14_106 1 := ⟨mm_tb_1 2264 (by decide +kernel) rfl, mm_tb_1 12 (by decide +kernel) rfl, ⟨by decide, by decide⟩, by decide +kernel⟩
theorem zd_14_106_0 : zz_D zy_sayCode_14_106 0 (.aload_n 0) 1 1 := ⟨by decide +kernel, rfl⟩
theorem zd_14_106_1 : zz_D zy_sayCode_14_106 1 (.getfield 385) 3 4 := ⟨by decide +kernel, rfl⟩
theorem zd_14_106_4 : zz_B zy_sayCode_14_106 4 (Instr.ifCond .le) 14 7 := ⟨10, by decide +kernel, rfl, rfl⟩
theorem zd_14_106_14 : zz_D zy_sayCode_14_106 14 (.lload_n 1) 1 15 := ⟨by decide +kernel, rfl⟩
theorem zd_14_106_15 : zz_D zy_sayCode_14_106 15 (.lstore_n 3) 1 16 := ⟨by decide +kernel, rfl⟩
theorem zd_14_106_7 : zz_D zy_sayCode_14_106 7 (.aload_n 0) 1 8 := ⟨by decide +kernel, rfl⟩
theorem zd_14_106_8 : zz_D zy_sayCode_14_106 8 (.ldc2_w 327) 3 11 := ⟨by decide +kernel, rfl⟩
theorem zd_14_106_11 : zz_D zy_sayCode_14_106 11 (.invokevirtual 388) 3 14 := ⟨by decide +kernel, rfl⟩
theorem zd_14_106_16 : zz_D zy_sayCode_14_106 16 (.lload_n 3) 1 17 := ⟨by decide +kernel, rfl⟩
theorem zd_14_106_17 : zz_D zy_sayCode_14_106 17 (.lconst 0) 1 18 := ⟨by decide +kernel, rfl⟩
theorem zd_14_106_18 : zz_D zy_sayCode_14_106 18 (.lcmp) 1 19 := ⟨by decide +kernel, rfl⟩
theorem zd_14_106_19 : zz_B zy_sayCode_14_106 19 (Instr.ifCond .le) 42 22 := ⟨23, by decide +kernel, rfl, rfl⟩
theorem zd_14_106_42 : zz_D zy_sayCode_14_106 42 (.return_) 1 43 := ⟨by decide +kernel, rfl⟩
theorem zd_14_106_22 : zz_D zy_sayCode_14_106 22 (.aload_n 0) 1 23 := ⟨by decide +kernel, rfl⟩
theorem zd_14_106_23 : zz_D zy_sayCode_14_106 23 (.ldc2_w 391) 3 26 := ⟨by decide +kernel, rfl⟩
theorem zd_14_106_26 : zz_D zy_sayCode_14_106 26 (.lload_n 3) 1 27 := ⟨by decide +kernel, rfl⟩
theorem zd_14_106_27 : zz_D zy_sayCode_14_106 27 (.ldc2_w 357) 3 30 := ⟨by decide +kernel, rfl⟩
theorem zd_14_106_30 : zz_D zy_sayCode_14_106 30 (.land) 1 31 := ⟨by decide +kernel, rfl⟩
theorem zd_14_106_31 : zz_D zy_sayCode_14_106 31 (.ladd) 1 32 := ⟨by decide +kernel, rfl⟩
theorem zd_14_106_32 : zz_D zy_sayCode_14_106 32 (.invokevirtual 388) 3 35 := ⟨by decide +kernel, rfl⟩
theorem zd_14_106_35 : zz_D zy_sayCode_14_106 35 (.lload_n 3) 1 36 := ⟨by decide +kernel, rfl⟩
theorem zd_14_106_36 : zz_D zy_sayCode_14_106 36 (.iconst 5) 1 37 := ⟨by decide +kernel, rfl⟩
theorem zd_14_106_37 : zz_D zy_sayCode_14_106 37 (.lshr) 1 38 := ⟨by decide +kernel, rfl⟩
theorem zd_14_106_38 : zz_D zy_sayCode_14_106 38 (.lstore_n 3) 1 39 := ⟨by decide +kernel, rfl⟩
theorem zd_14_106_39 : zz_B zy_sayCode_14_106 39 Instr.goto 16 42 := ⟨(-23), by decide +kernel, rfl, rfl⟩
-- TensorForgeModel sayCode (J)V
abbrev zr_sayCode_14_106 : Room := { frames := 1, cells := 0, slots := 0, locals := 14 }
def zp_sayCode_14_106 (p0 : Int) (S0 : zz_S) : zz_S → Prop := fun S => zz_G S ∧ zz_fr [(1079, 34)] [1101] (fun _ _ => False) S0 S ∧ (S 1079 34 ≤ S0 1079 34 + 9) ∧ (S 1079 34 ≥ S0 1079 34)
theorem zb_sayCode_14_106_16 {g : mm_G} {l : Launch} (p0 : Int) (S0 : zz_S) (n : Nat) (hn : zz_end ≤ n) (G_S0 : zz_G S0) (hp0 : (-9223372036854775808) ≤ p0 ∧ p0 ≤ 9223372036854775807) (hq : S0 1079 34 ≤ 190) (hc : 0 ≤ p0 ∧ p0 < 1099511627776) (x3 : Int) (S : zz_S) (G_S : zz_G S) (F_S : zz_fr [(1079, 34)] [1101] (fun _ _ => False) S0 S) (i16_0 : 0 ≤ x3 ∧ x3 ≤ 1099511627775) (i16_1 : S 1079 34 ≥ S0 1079 34) (i16_2 : (S 1079 34 ≤ S0 1079 34 + 1 ∧ x3 < 1099511627776) ∨ (S 1079 34 ≤ S0 1079 34 + 2 ∧ x3 < 34359738368) ∨ (S 1079 34 ≤ S0 1079 34 + 3 ∧ x3 < 1073741824) ∨ (S 1079 34 ≤ S0 1079 34 + 4 ∧ x3 < 33554432) ∨ (S 1079 34 ≤ S0 1079 34 + 5 ∧ x3 < 1048576) ∨ (S 1079 34 ≤ S0 1079 34 + 6 ∧ x3 < 32768) ∨ (S 1079 34 ≤ S0 1079 34 + 7 ∧ x3 < 1024) ∨ (S 1079 34 ≤ S0 1079 34 + 8 ∧ x3 < 32) ∨ (S 1079 34 ≤ S0 1079 34 + 9 ∧ x3 < 1)) (R : Nat) (hR : x3.toNat = R) (k16 : ∀ (x3 : Int) (S : zz_S), zz_G S → zz_fr [(1079, 34)] [1101] (fun _ _ => False) S0 S → (0 ≤ x3 ∧ x3 ≤ 1099511627775) → (S 1079 34 ≥ S0 1079 34) → ((S 1079 34 ≤ S0 1079 34 + 1 ∧ x3 < 1099511627776) ∨ (S 1079 34 ≤ S0 1079 34 + 2 ∧ x3 < 34359738368) ∨ (S 1079 34 ≤ S0 1079 34 + 3 ∧ x3 < 1073741824) ∨ (S 1079 34 ≤ S0 1079 34 + 4 ∧ x3 < 33554432) ∨ (S 1079 34 ≤ S0 1079 34 + 5 ∧ x3 < 1048576) ∨ (S 1079 34 ≤ S0 1079 34 + 6 ∧ x3 < 32768) ∨ (S 1079 34 ≤ S0 1079 34 + 7 ∧ x3 < 1024) ∨ (S 1079 34 ≤ S0 1079 34 + 8 ∧ x3 < 32) ∨ (S 1079 34 ≤ S0 1079 34 + 9 ∧ x3 < 1)) → x3.toNat < R → zz_E g l zy_sayCode_14_106 zr_sayCode_14_106 (zz_QV n (zp_sayCode_14_106 p0 S0)) S n 16 [some (.ref 1079), none, none, some (zl x3)] [] 0 0) : zz_E g l zy_sayCode_14_106 zr_sayCode_14_106 (zz_QV n (zp_sayCode_14_106 p0 S0)) S n 16 [some (.ref 1079), none, none, some (zl x3)] [] 0 0 := by
  refine zz_lload_n (x := x3) rfl zd_14_106_16 ?_
  refine zz_lconst (z := 0) (by decide) zd_14_106_17 ?_
  refine zz_lcmp (by omega) (by omega) zd_14_106_18 (fun v7 hv7 => ?_)
  refine zz_if_le (by omega) zd_14_106_19 (fun c8 => ?_) (fun c8 => ?_)
  · have g9 := zz_G.r G_S 1079 34 0 200 rfl rfl
    exact zz_vret zd_14_106_42 rfl (Nat.zero_le _) (Nat.zero_le _) ⟨_, rfl, G_S, F_S, by omega, by omega⟩
  · refine zz_aload_n (x := 1079) rfl zd_14_106_22 ?_
    refine zz_ldc2 (z := 96) zq_Md_391 (by decide) zd_14_106_23 ?_
    refine zz_lload_n (x := x3) rfl zd_14_106_26 ?_
    refine zz_ldc2 (z := 31) zq_Md_357 (by decide) zd_14_106_27 ?_
    refine zz_land zd_14_106_30 (fun v10 hv10 ev10 => ?_)
    have av10 := zz_band64 (by omega) (by omega) ev10
    refine zz_ladd zd_14_106_31 ?_
    have g11 := zz_G.r G_S 1079 34 0 200 rfl rfl
    refine zz_callVV [zl (96 + v10)] zd_14_106_32 zk_Md_388 zT_1079 (zz_ltn hn rfl) rfl rfl ⟨Nat.le_of_ble_eq_true rfl, Nat.le_of_ble_eq_true rfl⟩ ⟨rfl, rfl⟩ (Nat.zero_le _) (Nat.zero_le _) (zc_say_14_57 (96 + v10) S n hn G_S (by omega) (by omega)) (fun S12 hP => ?_)
    obtain ⟨G_S12, fS12, o14⟩ := hP
    have F_S12 := zz_fr.trans F_S fS12 rfl zz_nv
    refine zz_lload_n (x := x3) rfl zd_14_106_35 ?_
    refine zz_iconst zd_14_106_36 ?_
    refine zz_lshr zd_14_106_37 (fun v15 hv15 ev15 => ?_)
    have av15 := zz_lsr5 (by omega) ev15
    refine zz_lstore_n [some (.ref 1079), none, none, some (zl v15), none] zd_14_106_38 (by decide) rfl ?_
    refine zz_goto zd_14_106_39 ?_
    have g16 := zz_G.r G_S12 1079 34 0 200 rfl rfl
    refine zz_less (ls1 := [some (.ref 1079), none, none, some (zl v15)]) ⟨rfl, ⟨rfl, trivial⟩⟩ ?_
    exact k16 v15 S12 G_S12 F_S12 (by omega) (by omega) (by omega) (by omega)
theorem zi_sayCode_14_106 {g : mm_G} {l : Launch} (p0 : Int) (S0 : zz_S) (n : Nat) (hn : zz_end ≤ n) (G_S0 : zz_G S0) (hp0 : (-9223372036854775808) ≤ p0 ∧ p0 ≤ 9223372036854775807) (hq : S0 1079 34 ≤ 190) (hc : 0 ≤ p0 ∧ p0 < 1099511627776) : ∀ N : Nat, (∀ (x3 : Int) (S : zz_S), zz_G S → zz_fr [(1079, 34)] [1101] (fun _ _ => False) S0 S → (0 ≤ x3 ∧ x3 ≤ 1099511627775) → (S 1079 34 ≥ S0 1079 34) → ((S 1079 34 ≤ S0 1079 34 + 1 ∧ x3 < 1099511627776) ∨ (S 1079 34 ≤ S0 1079 34 + 2 ∧ x3 < 34359738368) ∨ (S 1079 34 ≤ S0 1079 34 + 3 ∧ x3 < 1073741824) ∨ (S 1079 34 ≤ S0 1079 34 + 4 ∧ x3 < 33554432) ∨ (S 1079 34 ≤ S0 1079 34 + 5 ∧ x3 < 1048576) ∨ (S 1079 34 ≤ S0 1079 34 + 6 ∧ x3 < 32768) ∨ (S 1079 34 ≤ S0 1079 34 + 7 ∧ x3 < 1024) ∨ (S 1079 34 ≤ S0 1079 34 + 8 ∧ x3 < 32) ∨ (S 1079 34 ≤ S0 1079 34 + 9 ∧ x3 < 1)) → x3.toNat < N → zz_E g l zy_sayCode_14_106 zr_sayCode_14_106 (zz_QV n (zp_sayCode_14_106 p0 S0)) S n 16 [some (.ref 1079), none, none, some (zl x3)] [] 0 0) := by
  intro N
  induction N with
  | zero => exact fun x3 S _ _ _ _ _ h => absurd h (Nat.not_lt_zero _)
  | succ N ih =>
    exact fun x3 S a b j0 j1 j2 hR => zb_sayCode_14_106_16 p0 S0 n hn G_S0 hp0 hq hc x3 S a b j0 j1 j2 _ rfl (fun x3 S a b j0 j1 j2 h => ih x3 S a b j0 j1 j2 (Nat.lt_of_lt_of_le h (Nat.le_of_lt_succ hR)))
theorem zc_sayCode_14_106 {g : mm_G} {l : Launch} (p0 : Int) (S0 : zz_S) (n : Nat) (hn : zz_end ≤ n) (G_S0 : zz_G S0) (hp0 : (-9223372036854775808) ≤ p0 ∧ p0 ≤ 9223372036854775807) (hq : S0 1079 34 ≤ 190) (hc : 0 ≤ p0 ∧ p0 < 1099511627776) : mm_Met g l zy_sayCode_14_106 zr_sayCode_14_106 [.ref 1079, zl p0] (zz_M S0 n) n (zz_QV n (zp_sayCode_14_106 p0 S0)) := by
  refine zz_enter (by decide) (Nat.le_of_ble_eq_true rfl) (zz_less (ls1 := [some (.ref 1079), some (zl p0), none]) ⟨rfl, ⟨rfl, trivial⟩⟩ ?_)
  have F_S0 : zz_fr [(1079, 34)] [1101] (fun _ _ => False) S0 S0 := zz_fr.refl
  have k16 : ∀ (x3 : Int) (S : zz_S), zz_G S → zz_fr [(1079, 34)] [1101] (fun _ _ => False) S0 S → (0 ≤ x3 ∧ x3 ≤ 1099511627775) → (S 1079 34 ≥ S0 1079 34) → ((S 1079 34 ≤ S0 1079 34 + 1 ∧ x3 < 1099511627776) ∨ (S 1079 34 ≤ S0 1079 34 + 2 ∧ x3 < 34359738368) ∨ (S 1079 34 ≤ S0 1079 34 + 3 ∧ x3 < 1073741824) ∨ (S 1079 34 ≤ S0 1079 34 + 4 ∧ x3 < 33554432) ∨ (S 1079 34 ≤ S0 1079 34 + 5 ∧ x3 < 1048576) ∨ (S 1079 34 ≤ S0 1079 34 + 6 ∧ x3 < 32768) ∨ (S 1079 34 ≤ S0 1079 34 + 7 ∧ x3 < 1024) ∨ (S 1079 34 ≤ S0 1079 34 + 8 ∧ x3 < 32) ∨ (S 1079 34 ≤ S0 1079 34 + 9 ∧ x3 < 1)) → zz_E g l zy_sayCode_14_106 zr_sayCode_14_106 (zz_QV n (zp_sayCode_14_106 p0 S0)) S n 16 [some (.ref 1079), none, none, some (zl x3)] [] 0 0 := fun x3 S a b j0 j1 j2 => (zi_sayCode_14_106 (g := g) (l := l) p0 S0 n hn G_S0 hp0 hq hc _) x3 S a b j0 j1 j2 (Nat.lt_succ_self _)
  refine zz_aload_n (x := 1079) rfl zd_14_106_0 ?_
  have g1 := zz_G.r G_S0 1079 34 0 200 rfl rfl
  refine zz_geti (z := S0 1079 34) zd_14_106_1 zf_Md_385 zT_1079 rfl (zz_ltn hn rfl) rfl ?_
  refine zz_if_le (by omega) zd_14_106_4 (fun c2 => ?_) (fun c2 => ?_)
  · refine zz_lload_n (x := p0) rfl zd_14_106_14 ?_
    refine zz_lstore_n [some (.ref 1079), some (zl p0), none, some (zl p0), none] zd_14_106_15 (by decide) rfl ?_
    refine zz_less (ls1 := [some (.ref 1079), none, none, some (zl p0)]) ⟨rfl, ⟨rfl, trivial⟩⟩ ?_
    exact k16 p0 S0 G_S0 F_S0 (by omega) (by omega) (by omega)
  · refine zz_aload_n (x := 1079) rfl zd_14_106_7 ?_
    refine zz_ldc2 (z := 32) zq_Md_327 (by decide) zd_14_106_8 ?_
    refine zz_callVV [zl 32] zd_14_106_11 zk_Md_388 zT_1079 (zz_ltn hn rfl) rfl rfl ⟨Nat.le_of_ble_eq_true rfl, Nat.le_of_ble_eq_true rfl⟩ ⟨rfl, rfl⟩ (Nat.zero_le _) (Nat.zero_le _) (zc_say_14_57 32 S0 n hn G_S0 (by omega) (by omega)) (fun S3 hP => ?_)
    obtain ⟨G_S3, fS3, o5⟩ := hP
    have F_S3 := zz_fr.trans F_S0 fS3 rfl zz_nv
    refine zz_lload_n (x := p0) rfl zd_14_106_14 ?_
    refine zz_lstore_n [some (.ref 1079), some (zl p0), none, some (zl p0), none] zd_14_106_15 (by decide) rfl ?_
    have g6 := zz_G.r G_S3 1079 34 0 200 rfl rfl
    refine zz_less (ls1 := [some (.ref 1079), none, none, some (zl p0)]) ⟨rfl, ⟨rfl, trivial⟩⟩ ?_
    exact k16 p0 S3 G_S3 F_S3 (by omega) (by omega) (by omega)
abbrev zy_sayCount_14_107 : mm_Y := (⟨"TensorForgeModel", "sayCount", "(I)V"⟩, prog_14_method_107_code, 2, none)
theorem zyw_sayCount_14_107 : mm_Yw zy_sayCount_14_107 1 := ⟨mm_tb_1 2268 (by decide +kernel) rfl, mm_tb_1 12 (by decide +kernel) rfl, ⟨by decide, by decide⟩, by decide +kernel⟩
theorem zd_14_107_0 : zz_D zy_sayCount_14_107 0 (.aload_n 0) 1 1 := ⟨by decide +kernel, rfl⟩
theorem zd_14_107_1 : zz_D zy_sayCount_14_107 1 (.ldc2_w 327) 3 4 := ⟨by decide +kernel, rfl⟩
theorem zd_14_107_4 : zz_D zy_sayCount_14_107 4 (.invokevirtual 388) 3 7 := ⟨by decide +kernel, rfl⟩
theorem zd_14_107_7 : zz_D zy_sayCount_14_107 7 (.aload_n 0) 1 8 := ⟨by decide +kernel, rfl⟩
theorem zd_14_107_8 : zz_D zy_sayCount_14_107 8 (.iload_n 1) 1 9 := ⟨by decide +kernel, rfl⟩
theorem zd_14_107_9 : zz_D zy_sayCount_14_107 9 (.invokevirtual 396) 3 12 := ⟨by decide +kernel, rfl⟩
theorem zd_14_107_12 : zz_D zy_sayCount_14_107 12 (.return_) 1 13 := ⟨by decide +kernel, rfl⟩
-- TensorForgeModel sayCount (I)V
abbrev zr_sayCount_14_107 : Room := { frames := 2, cells := 0, slots := 0, locals := 28 }
def zp_sayCount_14_107 (p0 : Int) (S0 : zz_S) : zz_S → Prop := fun S => zz_G S ∧ zz_fr [(1079, 34)] [1101] (fun _ _ => False) S0 S ∧ (S 1079 34 ≤ S0 1079 34 + 5) ∧ (S 1079 34 ≥ S0 1079 34)
theorem zc_sayCount_14_107 {g : mm_G} {l : Launch} (p0 : Int) (S0 : zz_S) (n : Nat) (hn : zz_end ≤ n) (G_S0 : zz_G S0) (hp0 : (-2147483648) ≤ p0 ∧ p0 ≤ 2147483647) (hq : S0 1079 34 ≤ 190) : mm_Met g l zy_sayCount_14_107 zr_sayCount_14_107 [.ref 1079, zi p0] (zz_M S0 n) n (zz_QV n (zp_sayCount_14_107 p0 S0)) := by
  refine zz_enter (by decide) (Nat.le_of_ble_eq_true rfl) (zz_less (ls1 := [some (.ref 1079), some (zi p0)]) ⟨rfl, ⟨rfl, trivial⟩⟩ ?_)
  have F_S0 : zz_fr [(1079, 34)] [1101] (fun _ _ => False) S0 S0 := zz_fr.refl
  refine zz_aload_n (x := 1079) rfl zd_14_107_0 ?_
  refine zz_ldc2 (z := 32) zq_Md_327 (by decide) zd_14_107_1 ?_
  have g1 := zz_G.r G_S0 1079 34 0 200 rfl rfl
  refine zz_callVV [zl 32] zd_14_107_4 zk_Md_388 zT_1079 (zz_ltn hn rfl) rfl rfl ⟨Nat.le_of_ble_eq_true rfl, Nat.le_of_ble_eq_true rfl⟩ ⟨rfl, rfl⟩ (Nat.zero_le _) (Nat.zero_le _) (zc_say_14_57 32 S0 n hn G_S0 (by omega) (by omega)) (fun S2 hP => ?_)
  obtain ⟨G_S2, fS2, o4⟩ := hP
  have F_S2 := zz_fr.trans F_S0 fS2 rfl zz_nv
  refine zz_aload_n (x := 1079) rfl zd_14_107_7 ?_
  refine zz_iload_n (x := p0) rfl zd_14_107_8 ?_
  have g5 := zz_G.r G_S2 1079 34 0 200 rfl rfl
  refine zz_callVV [zi p0] zd_14_107_9 zk_Md_396 zT_1079 (zz_ltn hn rfl) rfl rfl ⟨Nat.le_of_ble_eq_true rfl, Nat.le_of_ble_eq_true rfl⟩ ⟨rfl, rfl⟩ (Nat.zero_le _) (Nat.zero_le _) (zc_sayNumber_14_59 p0 S2 n hn G_S2 (by omega) (by omega)) (fun S6 hP => ?_)
  obtain ⟨G_S6, fS6, o8, o9⟩ := hP
  have F_S6 := zz_fr.trans F_S2 fS6 rfl zz_nv
  have g10 := zz_G.r G_S6 1079 34 0 200 rfl rfl
  exact zz_vret zd_14_107_12 rfl (Nat.zero_le _) (Nat.zero_le _) ⟨_, rfl, G_S6, F_S6, by omega, by omega⟩
abbrev zy_sayLayer_14_108 : mm_Y := (⟨"TensorForgeModel", "sayLayer", "(I)V"⟩, prog_14_method_108_code, 4, none)
theorem zyw_sayLayer_14_108 : mm_Yw zy_sayLayer_14_108 1 := ⟨mm_tb_1 2272 (by decide +kernel) rfl, mm_tb_1 12 (by decide +kernel) rfl, ⟨by decide, by decide⟩, by decide +kernel⟩
theorem zd_14_108_0 : zz_D zy_sayLayer_14_108 0 (.aload_n 0) 1 1 := ⟨by decide +kernel, rfl⟩
theorem zd_14_108_1 : zz_D zy_sayLayer_14_108 1 (.getfield 100) 3 4 := ⟨by decide +kernel, rfl⟩
theorem zd_14_108_4 : zz_D zy_sayLayer_14_108 4 (.iload_n 1) 1 5 := ⟨by decide +kernel, rfl⟩
theorem zd_14_108_5 : zz_D zy_sayLayer_14_108 5 (.iaload) 1 6 := ⟨by decide +kernel, rfl⟩
theorem zd_14_108_6 : zz_B zy_sayLayer_14_108 6 (Instr.ifCond .ne) 13 9 := ⟨7, by decide +kernel, rfl, rfl⟩
theorem zd_14_108_13 : zz_D zy_sayLayer_14_108 13 (.iconst 0) 1 14 := ⟨by decide +kernel, rfl⟩
theorem zd_14_108_14 : zz_D zy_sayLayer_14_108 14 (.istore_n 2) 1 15 := ⟨by decide +kernel, rfl⟩
theorem zd_14_108_15 : zz_D zy_sayLayer_14_108 15 (.aload_n 0) 1 16 := ⟨by decide +kernel, rfl⟩
theorem zd_14_108_16 : zz_D zy_sayLayer_14_108 16 (.getfield 100) 3 19 := ⟨by decide +kernel, rfl⟩
theorem zd_14_108_19 : zz_D zy_sayLayer_14_108 19 (.iload_n 1) 1 20 := ⟨by decide +kernel, rfl⟩
theorem zd_14_108_20 : zz_D zy_sayLayer_14_108 20 (.iaload) 1 21 := ⟨by decide +kernel, rfl⟩
theorem zd_14_108_21 : zz_D zy_sayLayer_14_108 21 (.iconst 2) 1 22 := ⟨by decide +kernel, rfl⟩
theorem zd_14_108_22 : zz_B zy_sayLayer_14_108 22 (Instr.if_icmp .ne) 29 25 := ⟨7, by decide +kernel, rfl, rfl⟩
theorem zd_14_108_29 : zz_D zy_sayLayer_14_108 29 (.iconst 0) 1 30 := ⟨by decide +kernel, rfl⟩
theorem zd_14_108_30 : zz_D zy_sayLayer_14_108 30 (.istore_n 3) 1 31 := ⟨by decide +kernel, rfl⟩
theorem zd_14_108_31 : zz_D zy_sayLayer_14_108 31 (.aload_n 0) 1 32 := ⟨by decide +kernel, rfl⟩
theorem zd_14_108_32 : zz_D zy_sayLayer_14_108 32 (.iload_n 2) 1 33 := ⟨by decide +kernel, rfl⟩
theorem zd_14_108_33 : zz_B zy_sayLayer_14_108 33 (Instr.ifCond .eq) 42 36 := ⟨9, by decide +kernel, rfl, rfl⟩
theorem zd_14_108_42 : zz_D zy_sayLayer_14_108 42 (.iload_n 3) 1 43 := ⟨by decide +kernel, rfl⟩
theorem zd_14_108_43 : zz_B zy_sayLayer_14_108 43 (Instr.ifCond .eq) 52 46 := ⟨9, by decide +kernel, rfl, rfl⟩
theorem zd_14_108_52 : zz_D zy_sayLayer_14_108 52 (.ldc2_w 536) 3 55 := ⟨by decide +kernel, rfl⟩
theorem zd_14_108_55 : zz_D zy_sayLayer_14_108 55 (.invokevirtual 604) 3 58 := ⟨by decide +kernel, rfl⟩
theorem zk_Md_604 : mm_Vl "TensorForgeModel" 604 11 1 zy_sayCode_14_106 := ⟨zyw_sayCode_14_106, (R_Md, F_Md, 69), rfl, mm_tb_1 2261 (by decide +kernel) rfl, mm_tb_1 2263 (by decide +kernel) rfl, mm_tb_s 152 (by decide +kernel) rfl⟩
theorem zd_14_108_58 : zz_D zy_sayLayer_14_108 58 (.aload_n 0) 1 59 := ⟨by decide +kernel, rfl⟩
theorem zd_14_108_59 : zz_D zy_sayLayer_14_108 59 (.aload_n 0) 1 60 := ⟨by decide +kernel, rfl⟩
theorem zd_14_108_60 : zz_D zy_sayLayer_14_108 60 (.getfield 103) 3 63 := ⟨by decide +kernel, rfl⟩
theorem zd_14_108_63 : zz_D zy_sayLayer_14_108 63 (.iload_n 1) 1 64 := ⟨by decide +kernel, rfl⟩
theorem zd_14_108_64 : zz_D zy_sayLayer_14_108 64 (.iaload) 1 65 := ⟨by decide +kernel, rfl⟩
theorem zd_14_108_65 : zz_D zy_sayLayer_14_108 65 (.invokevirtual 607) 3 68 := ⟨by decide +kernel, rfl⟩
theorem zk_Md_607 : mm_Vl "TensorForgeModel" 607 11 1 zy_sayCount_14_107 := ⟨zyw_sayCount_14_107, (R_Md, F_Md, 69), rfl, mm_tb_1 2265 (by decide +kernel) rfl, mm_tb_1 2267 (by decide +kernel) rfl, mm_tb_s 153 (by decide +kernel) rfl⟩
theorem zd_14_108_68 : zz_D zy_sayLayer_14_108 68 (.iload_n 3) 1 69 := ⟨by decide +kernel, rfl⟩
theorem zd_14_108_69 : zz_B zy_sayLayer_14_108 69 (Instr.ifCond .eq) 85 72 := ⟨16, by decide +kernel, rfl, rfl⟩
theorem zd_14_108_85 : zz_D zy_sayLayer_14_108 85 (.aload_n 0) 1 86 := ⟨by decide +kernel, rfl⟩
theorem zd_14_108_86 : zz_D zy_sayLayer_14_108 86 (.ldc2_w 165) 3 89 := ⟨by decide +kernel, rfl⟩
theorem zd_14_108_89 : zz_D zy_sayLayer_14_108 89 (.invokevirtual 604) 3 92 := ⟨by decide +kernel, rfl⟩
theorem zd_14_108_92 : zz_D zy_sayLayer_14_108 92 (.aload_n 0) 1 93 := ⟨by decide +kernel, rfl⟩
theorem zd_14_108_93 : zz_D zy_sayLayer_14_108 93 (.aload_n 0) 1 94 := ⟨by decide +kernel, rfl⟩
theorem zd_14_108_94 : zz_D zy_sayLayer_14_108 94 (.getfield 109) 3 97 := ⟨by decide +kernel, rfl⟩
theorem zd_14_108_97 : zz_D zy_sayLayer_14_108 97 (.iload_n 1) 1 98 := ⟨by decide +kernel, rfl⟩
theorem zd_14_108_98 : zz_D zy_sayLayer_14_108 98 (.iaload) 1 99 := ⟨by decide +kernel, rfl⟩
theorem zd_14_108_99 : zz_D zy_sayLayer_14_108 99 (.invokevirtual 607) 3 102 := ⟨by decide +kernel, rfl⟩
theorem zd_14_108_102 : zz_D zy_sayLayer_14_108 102 (.aload_n 0) 1 103 := ⟨by decide +kernel, rfl⟩
theorem zd_14_108_103 : zz_D zy_sayLayer_14_108 103 (.ldc2_w 167) 3 106 := ⟨by decide +kernel, rfl⟩
theorem zd_14_108_106 : zz_D zy_sayLayer_14_108 106 (.invokevirtual 604) 3 109 := ⟨by decide +kernel, rfl⟩
theorem zd_14_108_109 : zz_D zy_sayLayer_14_108 109 (.aload_n 0) 1 110 := ⟨by decide +kernel, rfl⟩
theorem zd_14_108_110 : zz_D zy_sayLayer_14_108 110 (.aload_n 0) 1 111 := ⟨by decide +kernel, rfl⟩
theorem zd_14_108_111 : zz_D zy_sayLayer_14_108 111 (.getfield 112) 3 114 := ⟨by decide +kernel, rfl⟩
theorem zd_14_108_114 : zz_D zy_sayLayer_14_108 114 (.iload_n 1) 1 115 := ⟨by decide +kernel, rfl⟩
theorem zd_14_108_115 : zz_D zy_sayLayer_14_108 115 (.iaload) 1 116 := ⟨by decide +kernel, rfl⟩
theorem zd_14_108_116 : zz_D zy_sayLayer_14_108 116 (.invokevirtual 607) 3 119 := ⟨by decide +kernel, rfl⟩
theorem zd_14_108_119 : zz_D zy_sayLayer_14_108 119 (.iload_n 2) 1 120 := ⟨by decide +kernel, rfl⟩
theorem zd_14_108_120 : zz_B zy_sayLayer_14_108 120 (Instr.ifCond .eq) 159 123 := ⟨39, by decide +kernel, rfl, rfl⟩
theorem zd_14_108_159 : zz_D zy_sayLayer_14_108 159 (.iload_n 3) 1 160 := ⟨by decide +kernel, rfl⟩
theorem zd_14_108_160 : zz_B zy_sayLayer_14_108 160 (Instr.ifCond .ne) 190 163 := ⟨30, by decide +kernel, rfl, rfl⟩
theorem zd_14_108_163 : zz_D zy_sayLayer_14_108 163 (.aload_n 0) 1 164 := ⟨by decide +kernel, rfl⟩
theorem zd_14_108_164 : zz_D zy_sayLayer_14_108 164 (.getfield 115) 3 167 := ⟨by decide +kernel, rfl⟩
theorem zd_14_108_167 : zz_D zy_sayLayer_14_108 167 (.iload_n 1) 1 168 := ⟨by decide +kernel, rfl⟩
theorem zd_14_108_168 : zz_D zy_sayLayer_14_108 168 (.iaload) 1 169 := ⟨by decide +kernel, rfl⟩
theorem zd_14_108_169 : zz_D zy_sayLayer_14_108 169 (.iconst 1) 1 170 := ⟨by decide +kernel, rfl⟩
theorem zd_14_108_170 : zz_B zy_sayLayer_14_108 170 (Instr.if_icmp .le) 190 173 := ⟨20, by decide +kernel, rfl, rfl⟩
theorem zd_14_108_190 : zz_D zy_sayLayer_14_108 190 (.iload_n 2) 1 191 := ⟨by decide +kernel, rfl⟩
theorem zd_14_108_191 : zz_B zy_sayLayer_14_108 191 (Instr.ifCond .eq) 220 194 := ⟨29, by decide +kernel, rfl, rfl⟩
theorem zd_14_108_220 : zz_D zy_sayLayer_14_108 220 (.aload_n 0) 1 221 := ⟨by decide +kernel, rfl⟩
theorem zd_14_108_221 : zz_D zy_sayLayer_14_108 221 (.getfield 121) 3 224 := ⟨by decide +kernel, rfl⟩
theorem zd_14_108_224 : zz_D zy_sayLayer_14_108 224 (.iload_n 1) 1 225 := ⟨by decide +kernel, rfl⟩
theorem zd_14_108_225 : zz_D zy_sayLayer_14_108 225 (.iaload) 1 226 := ⟨by decide +kernel, rfl⟩
theorem zd_14_108_226 : zz_D zy_sayLayer_14_108 226 (.bipush 16) 2 228 := ⟨by decide +kernel, rfl⟩
theorem zd_14_108_228 : zz_D zy_sayLayer_14_108 228 (.irem) 1 229 := ⟨by decide +kernel, rfl⟩
theorem zd_14_108_229 : zz_B zy_sayLayer_14_108 229 (Instr.ifCond .le) 252 232 := ⟨23, by decide +kernel, rfl, rfl⟩
theorem zd_14_108_252 : zz_D zy_sayLayer_14_108 252 (.aload_n 0) 1 253 := ⟨by decide +kernel, rfl⟩
theorem zd_14_108_253 : zz_D zy_sayLayer_14_108 253 (.getfield 121) 3 256 := ⟨by decide +kernel, rfl⟩
theorem zd_14_108_256 : zz_D zy_sayLayer_14_108 256 (.iload_n 1) 1 257 := ⟨by decide +kernel, rfl⟩
theorem zd_14_108_257 : zz_D zy_sayLayer_14_108 257 (.iaload) 1 258 := ⟨by decide +kernel, rfl⟩
theorem zd_14_108_258 : zz_D zy_sayLayer_14_108 258 (.bipush 15) 2 260 := ⟨by decide +kernel, rfl⟩
theorem zd_14_108_260 : zz_B zy_sayLayer_14_108 260 (Instr.if_icmp .le) 270 263 := ⟨10, by decide +kernel, rfl, rfl⟩
theorem zd_14_108_270 : zz_D zy_sayLayer_14_108 270 (.return_) 1 271 := ⟨by decide +kernel, rfl⟩
theorem zd_14_108_263 : zz_D zy_sayLayer_14_108 263 (.aload_n 0) 1 264 := ⟨by decide +kernel, rfl⟩
theorem zd_14_108_264 : zz_D zy_sayLayer_14_108 264 (.ldc2_w 546) 3 267 := ⟨by decide +kernel, rfl⟩
theorem zd_14_108_267 : zz_D zy_sayLayer_14_108 267 (.invokevirtual 604) 3 270 := ⟨by decide +kernel, rfl⟩
theorem zd_14_108_232 : zz_D zy_sayLayer_14_108 232 (.aload_n 0) 1 233 := ⟨by decide +kernel, rfl⟩
theorem zd_14_108_233 : zz_D zy_sayLayer_14_108 233 (.ldc2_w 544) 3 236 := ⟨by decide +kernel, rfl⟩
theorem zd_14_108_236 : zz_D zy_sayLayer_14_108 236 (.invokevirtual 604) 3 239 := ⟨by decide +kernel, rfl⟩
theorem zd_14_108_239 : zz_D zy_sayLayer_14_108 239 (.aload_n 0) 1 240 := ⟨by decide +kernel, rfl⟩
theorem zd_14_108_240 : zz_D zy_sayLayer_14_108 240 (.aload_n 0) 1 241 := ⟨by decide +kernel, rfl⟩
theorem zd_14_108_241 : zz_D zy_sayLayer_14_108 241 (.getfield 121) 3 244 := ⟨by decide +kernel, rfl⟩
theorem zd_14_108_244 : zz_D zy_sayLayer_14_108 244 (.iload_n 1) 1 245 := ⟨by decide +kernel, rfl⟩
theorem zd_14_108_245 : zz_D zy_sayLayer_14_108 245 (.iaload) 1 246 := ⟨by decide +kernel, rfl⟩
theorem zd_14_108_246 : zz_D zy_sayLayer_14_108 246 (.bipush 16) 2 248 := ⟨by decide +kernel, rfl⟩
theorem zd_14_108_248 : zz_D zy_sayLayer_14_108 248 (.irem) 1 249 := ⟨by decide +kernel, rfl⟩
theorem zd_14_108_249 : zz_D zy_sayLayer_14_108 249 (.invokevirtual 607) 3 252 := ⟨by decide +kernel, rfl⟩
theorem zd_14_108_173 : zz_D zy_sayLayer_14_108 173 (.aload_n 0) 1 174 := ⟨by decide +kernel, rfl⟩
theorem zd_14_108_174 : zz_D zy_sayLayer_14_108 174 (.ldc2_w 171) 3 177 := ⟨by decide +kernel, rfl⟩
theorem zd_14_108_177 : zz_D zy_sayLayer_14_108 177 (.invokevirtual 604) 3 180 := ⟨by decide +kernel, rfl⟩
theorem zd_14_108_180 : zz_D zy_sayLayer_14_108 180 (.aload_n 0) 1 181 := ⟨by decide +kernel, rfl⟩
theorem zd_14_108_181 : zz_D zy_sayLayer_14_108 181 (.aload_n 0) 1 182 := ⟨by decide +kernel, rfl⟩
theorem zd_14_108_182 : zz_D zy_sayLayer_14_108 182 (.getfield 115) 3 185 := ⟨by decide +kernel, rfl⟩
theorem zd_14_108_185 : zz_D zy_sayLayer_14_108 185 (.iload_n 1) 1 186 := ⟨by decide +kernel, rfl⟩
theorem zd_14_108_186 : zz_D zy_sayLayer_14_108 186 (.iaload) 1 187 := ⟨by decide +kernel, rfl⟩
theorem zd_14_108_187 : zz_D zy_sayLayer_14_108 187 (.invokevirtual 607) 3 190 := ⟨by decide +kernel, rfl⟩
theorem zd_14_108_25 : zz_D zy_sayLayer_14_108 25 (.iconst 1) 1 26 := ⟨by decide +kernel, rfl⟩
theorem zd_14_108_26 : zz_B zy_sayLayer_14_108 26 Instr.goto 30 29 := ⟨4, by decide +kernel, rfl, rfl⟩
theorem zd_14_108_46 : zz_D zy_sayLayer_14_108 46 (.ldc2_w 538) 3 49 := ⟨by decide +kernel, rfl⟩
theorem zd_14_108_49 : zz_B zy_sayLayer_14_108 49 Instr.goto 55 52 := ⟨6, by decide +kernel, rfl, rfl⟩
theorem zd_14_108_72 : zz_D zy_sayLayer_14_108 72 (.aload_n 0) 1 73 := ⟨by decide +kernel, rfl⟩
theorem zd_14_108_73 : zz_D zy_sayLayer_14_108 73 (.aload_n 0) 1 74 := ⟨by decide +kernel, rfl⟩
theorem zd_14_108_74 : zz_D zy_sayLayer_14_108 74 (.getfield 106) 3 77 := ⟨by decide +kernel, rfl⟩
theorem zd_14_108_77 : zz_D zy_sayLayer_14_108 77 (.iload_n 1) 1 78 := ⟨by decide +kernel, rfl⟩
theorem zd_14_108_78 : zz_D zy_sayLayer_14_108 78 (.iaload) 1 79 := ⟨by decide +kernel, rfl⟩
theorem zd_14_108_79 : zz_D zy_sayLayer_14_108 79 (.invokevirtual 607) 3 82 := ⟨by decide +kernel, rfl⟩
theorem zd_14_108_82 : zz_B zy_sayLayer_14_108 82 Instr.goto 119 85 := ⟨37, by decide +kernel, rfl, rfl⟩
theorem zd_14_108_9 : zz_D zy_sayLayer_14_108 9 (.iconst 1) 1 10 := ⟨by decide +kernel, rfl⟩
theorem zd_14_108_10 : zz_B zy_sayLayer_14_108 10 Instr.goto 14 13 := ⟨4, by decide +kernel, rfl, rfl⟩
theorem zd_14_108_36 : zz_D zy_sayLayer_14_108 36 (.ldc2_w 534) 3 39 := ⟨by decide +kernel, rfl⟩
theorem zd_14_108_39 : zz_B zy_sayLayer_14_108 39 Instr.goto 55 42 := ⟨16, by decide +kernel, rfl, rfl⟩
theorem zd_14_108_123 : zz_D zy_sayLayer_14_108 123 (.aload_n 0) 1 124 := ⟨by decide +kernel, rfl⟩
theorem zd_14_108_124 : zz_D zy_sayLayer_14_108 124 (.ldc2_w 540) 3 127 := ⟨by decide +kernel, rfl⟩
theorem zd_14_108_127 : zz_D zy_sayLayer_14_108 127 (.invokevirtual 604) 3 130 := ⟨by decide +kernel, rfl⟩
theorem zd_14_108_130 : zz_D zy_sayLayer_14_108 130 (.aload_n 0) 1 131 := ⟨by decide +kernel, rfl⟩
theorem zd_14_108_131 : zz_D zy_sayLayer_14_108 131 (.aload_n 0) 1 132 := ⟨by decide +kernel, rfl⟩
theorem zd_14_108_132 : zz_D zy_sayLayer_14_108 132 (.getfield 94) 3 135 := ⟨by decide +kernel, rfl⟩
theorem zd_14_108_135 : zz_D zy_sayLayer_14_108 135 (.iload_n 1) 1 136 := ⟨by decide +kernel, rfl⟩
theorem zd_14_108_136 : zz_D zy_sayLayer_14_108 136 (.iconst 1) 1 137 := ⟨by decide +kernel, rfl⟩
theorem zd_14_108_137 : zz_D zy_sayLayer_14_108 137 (.iadd) 1 138 := ⟨by decide +kernel, rfl⟩
theorem zd_14_108_138 : zz_D zy_sayLayer_14_108 138 (.iaload) 1 139 := ⟨by decide +kernel, rfl⟩
theorem zd_14_108_139 : zz_D zy_sayLayer_14_108 139 (.invokevirtual 607) 3 142 := ⟨by decide +kernel, rfl⟩
theorem zd_14_108_142 : zz_D zy_sayLayer_14_108 142 (.aload_n 0) 1 143 := ⟨by decide +kernel, rfl⟩
theorem zd_14_108_143 : zz_D zy_sayLayer_14_108 143 (.ldc2_w 163) 3 146 := ⟨by decide +kernel, rfl⟩
theorem zd_14_108_146 : zz_D zy_sayLayer_14_108 146 (.invokevirtual 604) 3 149 := ⟨by decide +kernel, rfl⟩
theorem zd_14_108_149 : zz_D zy_sayLayer_14_108 149 (.aload_n 0) 1 150 := ⟨by decide +kernel, rfl⟩
theorem zd_14_108_150 : zz_D zy_sayLayer_14_108 150 (.aload_n 0) 1 151 := ⟨by decide +kernel, rfl⟩
theorem zd_14_108_151 : zz_D zy_sayLayer_14_108 151 (.getfield 124) 3 154 := ⟨by decide +kernel, rfl⟩
theorem zd_14_108_154 : zz_D zy_sayLayer_14_108 154 (.iload_n 1) 1 155 := ⟨by decide +kernel, rfl⟩
theorem zd_14_108_155 : zz_D zy_sayLayer_14_108 155 (.iaload) 1 156 := ⟨by decide +kernel, rfl⟩
theorem zd_14_108_156 : zz_D zy_sayLayer_14_108 156 (.invokevirtual 607) 3 159 := ⟨by decide +kernel, rfl⟩
theorem zd_14_108_194 : zz_D zy_sayLayer_14_108 194 (.aload_n 0) 1 195 := ⟨by decide +kernel, rfl⟩
theorem zd_14_108_195 : zz_D zy_sayLayer_14_108 195 (.getfield 118) 3 198 := ⟨by decide +kernel, rfl⟩
theorem zd_14_108_198 : zz_D zy_sayLayer_14_108 198 (.iload_n 1) 1 199 := ⟨by decide +kernel, rfl⟩
theorem zd_14_108_199 : zz_D zy_sayLayer_14_108 199 (.iaload) 1 200 := ⟨by decide +kernel, rfl⟩
theorem zd_14_108_200 : zz_B zy_sayLayer_14_108 200 (Instr.ifCond .le) 220 203 := ⟨20, by decide +kernel, rfl, rfl⟩
theorem zd_14_108_203 : zz_D zy_sayLayer_14_108 203 (.aload_n 0) 1 204 := ⟨by decide +kernel, rfl⟩
theorem zd_14_108_204 : zz_D zy_sayLayer_14_108 204 (.ldc2_w 542) 3 207 := ⟨by decide +kernel, rfl⟩
theorem zd_14_108_207 : zz_D zy_sayLayer_14_108 207 (.invokevirtual 604) 3 210 := ⟨by decide +kernel, rfl⟩
theorem zd_14_108_210 : zz_D zy_sayLayer_14_108 210 (.aload_n 0) 1 211 := ⟨by decide +kernel, rfl⟩
theorem zd_14_108_211 : zz_D zy_sayLayer_14_108 211 (.aload_n 0) 1 212 := ⟨by decide +kernel, rfl⟩
theorem zd_14_108_212 : zz_D zy_sayLayer_14_108 212 (.getfield 118) 3 215 := ⟨by decide +kernel, rfl⟩
theorem zd_14_108_215 : zz_D zy_sayLayer_14_108 215 (.iload_n 1) 1 216 := ⟨by decide +kernel, rfl⟩
theorem zd_14_108_216 : zz_D zy_sayLayer_14_108 216 (.iaload) 1 217 := ⟨by decide +kernel, rfl⟩
theorem zd_14_108_217 : zz_D zy_sayLayer_14_108 217 (.invokevirtual 607) 3 220 := ⟨by decide +kernel, rfl⟩
