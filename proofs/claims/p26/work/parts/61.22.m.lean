-- TensorForgeModel network ()I
abbrev zr_network_14_105 : Room := { frames := 7, cells := 0, slots := 0, locals := 109 }
def zp_network_14_105  (S0 : zz_S) : Int → zz_S → Prop := fun r S => zz_G S ∧ zz_fr [(1079, 0), (1079, 30), (1079, 31), (1079, 32), (1079, 33), (1079, 36), (1079, 61), (1079, 64), (1079, 65), (1079, 66), (1102, 0), (1103, 0), (1104, 0), (1105, 0), (1105, 1), (1117, 0), (1118, 7)] [1102, 1103, 1104, 1105, 1106, 1107, 1108, 1109, 1110, 1111, 1112, 1113, 1114, 1117, 1118, 1119] (fun _ _ => False) S0 S ∧ ((-1) ≤ r ∧ r ≤ 1501) ∧ (1 ≤ S 1079 36) ∧ (r = (zn_nt (S0 1099) (S0 1079 28) 1502 0 0 0 zn_v0).1) ∧ (r = -1 → zn_V (zn_nt (S0 1099) (S0 1079 28) 1502 0 0 0 zn_v0).2 ∧ zn_M S (zn_nt (S0 1099) (S0 1079 28) 1502 0 0 0 zn_v0).2) ∧ (r ≠ -1 → ∀ v : zn_T, zn_V v → zn_M S0 v → zn_M S v) ∧ (zz_Hr S)
set_option maxHeartbeats 8000000 in
theorem zb_network_14_105_19 {g : mm_G} {l : Launch}  (S0 : zz_S) (n : Nat) (hn : zz_end ≤ n) (G_S0 : zz_G S0) (R_S0 : zz_Hr S0) (h1 : 1 ≤ S0 1079 36) (hN : ∀ w : Nat, 1 ≤ w → w ≤ 20 → S0 1100 w = zt_cd (zt_nw.getD w [])) (x1 : Int) (x2 : Int) (x3 : Int) (x4 : Int) (S : zz_S) (G_S : zz_G S) (F_S : zz_fr [(1079, 0), (1079, 30), (1079, 31), (1079, 32), (1079, 33), (1079, 36), (1079, 61), (1079, 64), (1079, 65), (1079, 66), (1102, 0), (1103, 0), (1104, 0), (1105, 0), (1105, 1), (1117, 0), (1118, 7)] [1102, 1103, 1104, 1105, 1106, 1107, 1108, 1109, 1110, 1111, 1112, 1113, 1114, 1117, 1118, 1119] (fun _ _ => False) S0 S) (i19_0 : 0 ≤ x1 ∧ x1 ≤ 1) (i19_1 : 0 ≤ x2 ∧ x2 ≤ 1501) (i19_2 : 0 ≤ x3 ∧ x3 ≤ 1501) (i19_3 : 0 ≤ x4 ∧ x4 ≤ 1) (i19_4 : x2 ≤ x3) (i19_5 : zz_kp S0 S) (i19_6 : S 1079 66 = S0 1079 36) (i19_7 : x1 = 1 → x4 = 1 → 1 ≤ S 1079 36) (i19_8 : (x4 = 1 → zn_MI (S0 1099) (S0 1079 28) x1 x2 x3 (S 1117) S (zn_nt (S0 1099) (S0 1079 28) 1502 0 0 0 zn_v0)) ∧ (x4 = 0 → (zn_nt (S0 1099) (S0 1079 28) 1502 0 0 0 zn_v0).1 = x2 - 1)) (i19_9 : x4 = 1 ∨ 1 ≤ x2) (i19_10 : zz_Hr S) (R : Nat) (hR : (51539607552 + (S0 1079 28 + 1 - x3).toNat) * 1099511627776 + 1099511627775 = R) (k35 : ∀ (x1 : Int) (x2 : Int) (x3 : Int) (x4 : Int) (x5 : Int) (S : zz_S), zz_G S → zz_fr [(1079, 0), (1079, 30), (1079, 31), (1079, 32), (1079, 33), (1079, 36), (1079, 61), (1079, 64), (1079, 65), (1079, 66), (1102, 0), (1103, 0), (1104, 0), (1105, 0), (1105, 1), (1117, 0), (1118, 7)] [1102, 1103, 1104, 1105, 1106, 1107, 1108, 1109, 1110, 1111, 1112, 1113, 1114, 1117, 1118, 1119] (fun _ _ => False) S0 S → (0 ≤ x1 ∧ x1 ≤ 1) → (0 ≤ x2 ∧ x2 ≤ 1501) → (0 ≤ x3 ∧ x3 ≤ 1500) → (0 ≤ x4 ∧ x4 ≤ 1) → (0 ≤ x5 ∧ x5 ≤ 1500) → (0 ≤ x3 ∧ x3 ≤ 1501) → (x2 ≤ x3) → (x4 = 1 ∨ 1 ≤ x2) → (x4 ≠ 0) → (x2 ≤ x3) → (x3 ≤ x5) → (x5 ≤ S0 1079 28) → (zz_kp S0 S) → (S 1079 66 = S0 1079 36) → (x1 = 1 → 1 ≤ S 1079 36) → (x4 = 1) → (zn_MI (S0 1099) (S0 1079 28) x1 x2 x3 (S 1117) S (zn_nt (S0 1099) (S0 1079 28) 1502 0 0 0 zn_v0)) → (zt_U 10 (S0 1099) (S0 1079 28) x5 = zt_U 10 (S0 1099) (S0 1079 28) x3) → (zz_Hr S) → (51539607552 + (S0 1079 28 + 1 - x3).toNat) * 1099511627776 + (34359738368 + (S0 1079 28 - x5).toNat) < R → zz_E g l zy_network_14_105 zr_network_14_105 (zz_QI n (zp_network_14_105  S0)) S n 35 [some (.ref 1079), some (zi x1), some (zi x2), some (zi x3), some (zi x4), some (zi x5)] [] 0 0) : zz_E g l zy_network_14_105 zr_network_14_105 (zz_QI n (zp_network_14_105  S0)) S n 19 [some (.ref 1079), some (zi x1), some (zi x2), some (zi x3), some (zi x4)] [] 0 0 := by
  have R_S := i19_10
  refine zz_iload_n (x := x3) rfl zd_14_105_19 ?_
  refine zz_aload_n (x := 1079) rfl zd_14_105_20 ?_
  have g12 := zz_G.r G_S0 1079 28 0 1500 rfl rfl
  refine zz_geti (z := S0 1079 28) zd_14_105_21 zf_Md_331 zT_1079 rfl (zz_ltn hn rfl) (zz_rc F_S rfl rfl (fun h => h) rfl) ?_
  refine zz_icmp_gt (by omega) (by omega) zd_14_105_24 (fun c13 => ?_) (fun c13 => ?_)
  · refine zz_aload_n (x := 1079) rfl zd_14_105_149 ?_
    refine zz_iconst zd_14_105_150 ?_
    refine zz_puti zd_14_105_151 zf_Md_187 zT_1079 rfl (zz_ltn hn rfl) (fun S14 qS14 => ?_)
    have G_S14 := zz_G.put G_S qS14 0 3 rfl (by omega)
    have F_S14 := zz_fr.puts F_S qS14 rfl
    have R_S14 : zz_Hr S14 := zz_Hr.p79 qS14 (by decide) R_S
    refine zz_iload (x := x4) rfl zd_14_105_154 ?_
    refine zz_if_eq (by omega) zd_14_105_156 (fun c15 => ?_) (fun c15 => ?_)
    · refine zz_aload_n (x := 1079) rfl zd_14_105_165 ?_
      refine zz_iconst zd_14_105_166 ?_
      have g16 := zz_G.r G_S 1079 66 0 11 rfl rfl
      have e17 : S14 1079 66 = S 1079 66 := (zz_ro qS14 (fun h => absurd h.2 (by decide)) rfl)
      refine zz_callVV [zi 1] zd_14_105_167 zk_Md_595 zT_1079 (zz_ltn hn rfl) rfl rfl ⟨Nat.le_of_ble_eq_true rfl, Nat.le_of_ble_eq_true rfl⟩ ⟨rfl, rfl⟩ (Nat.zero_le _) (Nat.zero_le _) (zc_keepNetwork_14_91_1  S14 n hn G_S14 ) (fun S18 hP => ?_)
      obtain ⟨G_S18, fS18, o20, o21, o22, o23, o24, o25, o26, o27, o28, o29, o30, o31, o32, o33⟩ := hP
      have F_S18 := zz_fr.trans F_S14 fS18 rfl zz_nv
      have kp34 : zz_kp S0 S14 := (zz_kp.same i19_5 (fun u => (zz_ro qS14 (fun h => absurd h.1 (by decide)) rfl)))
      have g35 := zz_G.r G_S0 1079 36 0 11 rfl rfl
      have R_S18 : zz_Hr S18 := zz_Hr.same R_S0 (by omega) (by omega) (fun u hu => (o21 u hu).trans (kp34.1 u hu)) (fun u hu => (o22 u hu).trans (kp34.2.1 u hu)) (fun u hu => (o23 u hu).trans (kp34.2.2.1 u hu)) (fun u hu => (o24 u hu).trans (kp34.2.2.2.1 u hu)) (fun u hu => (o25 u hu).trans (kp34.2.2.2.2.1 u hu)) (fun u hu => (o26 u hu).trans (kp34.2.2.2.2.2.1 u hu)) (fun u hu => (o27 u hu).trans (kp34.2.2.2.2.2.2.1 u hu)) (fun u hu => (o28 u hu).trans (kp34.2.2.2.2.2.2.2.1 u hu)) (fun u hu => (o29 u hu).trans (kp34.2.2.2.2.2.2.2.2.1 u hu)) (fun u hu => (o30 u hu).trans (kp34.2.2.2.2.2.2.2.2.2.1 u hu)) (fun u hu => (o31 u hu).trans (kp34.2.2.2.2.2.2.2.2.2.2.1 u hu)) (fun u hu => (o32 u hu).trans (kp34.2.2.2.2.2.2.2.2.2.2.2.1 u hu)) (fun u hu => (o33 u hu).trans (kp34.2.2.2.2.2.2.2.2.2.2.2.2 u hu))
      refine zz_iload (x := x4) rfl zd_14_105_170 ?_
      refine zz_if_eq (by omega) zd_14_105_172 (fun c36 => ?_) (fun c36 => ?_)
      · refine zz_iload_n (x := x2) rfl zd_14_105_179 ?_
        refine zz_iconst zd_14_105_180 ?_
        refine zz_isub zd_14_105_181 ?_
        have g37 := zz_G.r G_S18 1079 36 0 11 rfl rfl
        exact zz_iret zd_14_105_182 rfl (Nat.zero_le _) (Nat.zero_le _) ⟨_, _, rfl, G_S18, F_S18, by omega, by omega, (by have g9 := i19_8; rcases (by omega : x4 = 0 ∨ x4 = 1) with q | q; have y := g9.2 q; omega; have y := (zn_MIE (g9.1 q) (by omega) (by omega)).2 (by omega); omega), (fun h => by have g9 := i19_8; exfalso; rcases (by omega : x4 = 0 ∨ x4 = 1) with q | q; have y := g9.2 q; omega; omega), (fun _ v hV hM => by have kp9 : zz_kp S0 S14 := (zz_kp.same i19_5 (fun u => (zz_ro qS14 (fun h => absurd h.1 (by decide)) rfl))); exact zn_M.kept hM hV (by omega) (fun u hu => (o21 u hu).trans (kp9.1 u hu)) (fun u hu => (o22 u hu).trans (kp9.2.1 u hu)) (fun u hu => (o23 u hu).trans (kp9.2.2.1 u hu)) (fun u hu => (o24 u hu).trans (kp9.2.2.2.1 u hu)) (fun u hu => (o25 u hu).trans (kp9.2.2.2.2.1 u hu)) (fun u hu => (o26 u hu).trans (kp9.2.2.2.2.2.1 u hu)) (fun u hu => (o27 u hu).trans (kp9.2.2.2.2.2.2.1 u hu)) (fun u hu => (o28 u hu).trans (kp9.2.2.2.2.2.2.2.1 u hu)) (fun u hu => (o29 u hu).trans (kp9.2.2.2.2.2.2.2.2.1 u hu)) (fun u hu => (o30 u hu).trans (kp9.2.2.2.2.2.2.2.2.2.1 u hu)) (fun u hu => (o31 u hu).trans (kp9.2.2.2.2.2.2.2.2.2.2.1 u hu)) (fun u hu => (o32 u hu).trans (kp9.2.2.2.2.2.2.2.2.2.2.2.1 u hu)) (fun u hu => (o33 u hu).trans (kp9.2.2.2.2.2.2.2.2.2.2.2.2 u hu))), R_S18⟩
      · exfalso; omega
    · refine zz_iload_n (x := x1) rfl zd_14_105_159 ?_
      refine zz_if_eq (by omega) zd_14_105_160 (fun c38 => ?_) (fun c38 => ?_)
      · refine zz_aload_n (x := 1079) rfl zd_14_105_165 ?_
        refine zz_iconst zd_14_105_166 ?_
        have g39 := zz_G.r G_S 1079 66 0 11 rfl rfl
        have e40 : S14 1079 66 = S 1079 66 := (zz_ro qS14 (fun h => absurd h.2 (by decide)) rfl)
        refine zz_callVV [zi 1] zd_14_105_167 zk_Md_595 zT_1079 (zz_ltn hn rfl) rfl rfl ⟨Nat.le_of_ble_eq_true rfl, Nat.le_of_ble_eq_true rfl⟩ ⟨rfl, rfl⟩ (Nat.zero_le _) (Nat.zero_le _) (zc_keepNetwork_14_91_1  S14 n hn G_S14 ) (fun S41 hP => ?_)
        obtain ⟨G_S41, fS41, o43, o44, o45, o46, o47, o48, o49, o50, o51, o52, o53, o54, o55, o56⟩ := hP
        have F_S41 := zz_fr.trans F_S14 fS41 rfl zz_nv
        have kp57 : zz_kp S0 S14 := (zz_kp.same i19_5 (fun u => (zz_ro qS14 (fun h => absurd h.1 (by decide)) rfl)))
        have g58 := zz_G.r G_S0 1079 36 0 11 rfl rfl
        have R_S41 : zz_Hr S41 := zz_Hr.same R_S0 (by omega) (by omega) (fun u hu => (o44 u hu).trans (kp57.1 u hu)) (fun u hu => (o45 u hu).trans (kp57.2.1 u hu)) (fun u hu => (o46 u hu).trans (kp57.2.2.1 u hu)) (fun u hu => (o47 u hu).trans (kp57.2.2.2.1 u hu)) (fun u hu => (o48 u hu).trans (kp57.2.2.2.2.1 u hu)) (fun u hu => (o49 u hu).trans (kp57.2.2.2.2.2.1 u hu)) (fun u hu => (o50 u hu).trans (kp57.2.2.2.2.2.2.1 u hu)) (fun u hu => (o51 u hu).trans (kp57.2.2.2.2.2.2.2.1 u hu)) (fun u hu => (o52 u hu).trans (kp57.2.2.2.2.2.2.2.2.1 u hu)) (fun u hu => (o53 u hu).trans (kp57.2.2.2.2.2.2.2.2.2.1 u hu)) (fun u hu => (o54 u hu).trans (kp57.2.2.2.2.2.2.2.2.2.2.1 u hu)) (fun u hu => (o55 u hu).trans (kp57.2.2.2.2.2.2.2.2.2.2.2.1 u hu)) (fun u hu => (o56 u hu).trans (kp57.2.2.2.2.2.2.2.2.2.2.2.2 u hu))
        refine zz_iload (x := x4) rfl zd_14_105_170 ?_
        refine zz_if_eq (by omega) zd_14_105_172 (fun c59 => ?_) (fun c59 => ?_)
        · exfalso; omega
        · refine zz_iload_n (x := x2) rfl zd_14_105_175 ?_
          refine zz_goto zd_14_105_176 ?_
          have g60 := zz_G.r G_S41 1079 36 0 11 rfl rfl
          exact zz_iret zd_14_105_182 rfl (Nat.zero_le _) (Nat.zero_le _) ⟨_, _, rfl, G_S41, F_S41, by omega, by omega, (by have g9 := i19_8; rcases (by omega : x4 = 0 ∨ x4 = 1) with q | q; have y := g9.2 q; omega; have y := (zn_MIE (g9.1 q) (by omega) (by omega)).2 (by omega); omega), (fun h => by have g9 := i19_8; exfalso; rcases (by omega : x4 = 0 ∨ x4 = 1) with q | q; have y := g9.2 q; omega; omega), (fun _ v hV hM => by have kp9 : zz_kp S0 S14 := (zz_kp.same i19_5 (fun u => (zz_ro qS14 (fun h => absurd h.1 (by decide)) rfl))); exact zn_M.kept hM hV (by omega) (fun u hu => (o44 u hu).trans (kp9.1 u hu)) (fun u hu => (o45 u hu).trans (kp9.2.1 u hu)) (fun u hu => (o46 u hu).trans (kp9.2.2.1 u hu)) (fun u hu => (o47 u hu).trans (kp9.2.2.2.1 u hu)) (fun u hu => (o48 u hu).trans (kp9.2.2.2.2.1 u hu)) (fun u hu => (o49 u hu).trans (kp9.2.2.2.2.2.1 u hu)) (fun u hu => (o50 u hu).trans (kp9.2.2.2.2.2.2.1 u hu)) (fun u hu => (o51 u hu).trans (kp9.2.2.2.2.2.2.2.1 u hu)) (fun u hu => (o52 u hu).trans (kp9.2.2.2.2.2.2.2.2.1 u hu)) (fun u hu => (o53 u hu).trans (kp9.2.2.2.2.2.2.2.2.2.1 u hu)) (fun u hu => (o54 u hu).trans (kp9.2.2.2.2.2.2.2.2.2.2.1 u hu)) (fun u hu => (o55 u hu).trans (kp9.2.2.2.2.2.2.2.2.2.2.2.1 u hu)) (fun u hu => (o56 u hu).trans (kp9.2.2.2.2.2.2.2.2.2.2.2.2 u hu))), R_S41⟩
      · refine zz_iconst zd_14_105_163 ?_
        have g61 := zz_G.r G_S 1079 36 0 11 rfl rfl
        have e62 : S14 1079 36 = S 1079 36 := (zz_ro qS14 (fun h => absurd h.2 (by decide)) rfl)
        exact zz_iret zd_14_105_164 rfl (Nat.zero_le _) (Nat.zero_le _) ⟨_, _, rfl, G_S14, F_S14, by omega, by omega, (by have g9 := i19_8; have y9 := (zn_MIE (g9.1 (by omega)) (by omega) (by omega)).1 (by omega); omega), (fun _ => by have g9 := i19_8; have y9 := (zn_MIE (g9.1 (by omega)) (by omega) (by omega)).1 (by omega); exact ⟨y9.2.1, zn_M.fr y9.2.2 (zz_fr.put1 qS14) rfl rfl (fun a i h => by omega) (zz_ro qS14 (fun h => by omega) rfl)⟩), (fun h => absurd rfl h), R_S14⟩
  · refine zz_iload (x := x4) rfl zd_14_105_27 ?_
    refine zz_if_eq (by omega) zd_14_105_29 (fun c63 => ?_) (fun c63 => ?_)
    · refine zz_aload_n (x := 1079) rfl zd_14_105_149 ?_
      refine zz_iconst zd_14_105_150 ?_
      refine zz_puti zd_14_105_151 zf_Md_187 zT_1079 rfl (zz_ltn hn rfl) (fun S64 qS64 => ?_)
      have G_S64 := zz_G.put G_S qS64 0 3 rfl (by omega)
      have F_S64 := zz_fr.puts F_S qS64 rfl
      have R_S64 : zz_Hr S64 := zz_Hr.p79 qS64 (by decide) R_S
      refine zz_iload (x := x4) rfl zd_14_105_154 ?_
      refine zz_if_eq (by omega) zd_14_105_156 (fun c65 => ?_) (fun c65 => ?_)
      · refine zz_aload_n (x := 1079) rfl zd_14_105_165 ?_
        refine zz_iconst zd_14_105_166 ?_
        have g66 := zz_G.r G_S 1079 66 0 11 rfl rfl
        have e67 : S64 1079 66 = S 1079 66 := (zz_ro qS64 (fun h => absurd h.2 (by decide)) rfl)
        refine zz_callVV [zi 1] zd_14_105_167 zk_Md_595 zT_1079 (zz_ltn hn rfl) rfl rfl ⟨Nat.le_of_ble_eq_true rfl, Nat.le_of_ble_eq_true rfl⟩ ⟨rfl, rfl⟩ (Nat.zero_le _) (Nat.zero_le _) (zc_keepNetwork_14_91_1  S64 n hn G_S64 ) (fun S68 hP => ?_)
        obtain ⟨G_S68, fS68, o70, o71, o72, o73, o74, o75, o76, o77, o78, o79, o80, o81, o82, o83⟩ := hP
        have F_S68 := zz_fr.trans F_S64 fS68 rfl zz_nv
        have kp84 : zz_kp S0 S64 := (zz_kp.same i19_5 (fun u => (zz_ro qS64 (fun h => absurd h.1 (by decide)) rfl)))
        have g85 := zz_G.r G_S0 1079 36 0 11 rfl rfl
        have R_S68 : zz_Hr S68 := zz_Hr.same R_S0 (by omega) (by omega) (fun u hu => (o71 u hu).trans (kp84.1 u hu)) (fun u hu => (o72 u hu).trans (kp84.2.1 u hu)) (fun u hu => (o73 u hu).trans (kp84.2.2.1 u hu)) (fun u hu => (o74 u hu).trans (kp84.2.2.2.1 u hu)) (fun u hu => (o75 u hu).trans (kp84.2.2.2.2.1 u hu)) (fun u hu => (o76 u hu).trans (kp84.2.2.2.2.2.1 u hu)) (fun u hu => (o77 u hu).trans (kp84.2.2.2.2.2.2.1 u hu)) (fun u hu => (o78 u hu).trans (kp84.2.2.2.2.2.2.2.1 u hu)) (fun u hu => (o79 u hu).trans (kp84.2.2.2.2.2.2.2.2.1 u hu)) (fun u hu => (o80 u hu).trans (kp84.2.2.2.2.2.2.2.2.2.1 u hu)) (fun u hu => (o81 u hu).trans (kp84.2.2.2.2.2.2.2.2.2.2.1 u hu)) (fun u hu => (o82 u hu).trans (kp84.2.2.2.2.2.2.2.2.2.2.2.1 u hu)) (fun u hu => (o83 u hu).trans (kp84.2.2.2.2.2.2.2.2.2.2.2.2 u hu))
        refine zz_iload (x := x4) rfl zd_14_105_170 ?_
        refine zz_if_eq (by omega) zd_14_105_172 (fun c86 => ?_) (fun c86 => ?_)
        · refine zz_iload_n (x := x2) rfl zd_14_105_179 ?_
          refine zz_iconst zd_14_105_180 ?_
          refine zz_isub zd_14_105_181 ?_
          have g87 := zz_G.r G_S68 1079 36 0 11 rfl rfl
          exact zz_iret zd_14_105_182 rfl (Nat.zero_le _) (Nat.zero_le _) ⟨_, _, rfl, G_S68, F_S68, by omega, by omega, (by have g9 := i19_8; rcases (by omega : x4 = 0 ∨ x4 = 1) with q | q; have y := g9.2 q; omega; have y := (zn_MIE (g9.1 q) (by omega) (by omega)).2 (by omega); omega), (fun h => by have g9 := i19_8; exfalso; rcases (by omega : x4 = 0 ∨ x4 = 1) with q | q; have y := g9.2 q; omega; omega), (fun _ v hV hM => by have kp9 : zz_kp S0 S64 := (zz_kp.same i19_5 (fun u => (zz_ro qS64 (fun h => absurd h.1 (by decide)) rfl))); exact zn_M.kept hM hV (by omega) (fun u hu => (o71 u hu).trans (kp9.1 u hu)) (fun u hu => (o72 u hu).trans (kp9.2.1 u hu)) (fun u hu => (o73 u hu).trans (kp9.2.2.1 u hu)) (fun u hu => (o74 u hu).trans (kp9.2.2.2.1 u hu)) (fun u hu => (o75 u hu).trans (kp9.2.2.2.2.1 u hu)) (fun u hu => (o76 u hu).trans (kp9.2.2.2.2.2.1 u hu)) (fun u hu => (o77 u hu).trans (kp9.2.2.2.2.2.2.1 u hu)) (fun u hu => (o78 u hu).trans (kp9.2.2.2.2.2.2.2.1 u hu)) (fun u hu => (o79 u hu).trans (kp9.2.2.2.2.2.2.2.2.1 u hu)) (fun u hu => (o80 u hu).trans (kp9.2.2.2.2.2.2.2.2.2.1 u hu)) (fun u hu => (o81 u hu).trans (kp9.2.2.2.2.2.2.2.2.2.2.1 u hu)) (fun u hu => (o82 u hu).trans (kp9.2.2.2.2.2.2.2.2.2.2.2.1 u hu)) (fun u hu => (o83 u hu).trans (kp9.2.2.2.2.2.2.2.2.2.2.2.2 u hu))), R_S68⟩
        · exfalso; omega
      · exfalso; omega
    · refine zz_iload_n (x := x3) rfl zd_14_105_32 ?_
      refine zz_istore [some (.ref 1079), some (zi x1), some (zi x2), some (zi x3), some (zi x4), some (zi x3)] zd_14_105_33 (by decide) rfl ?_
      have g88 := zz_G.r G_S 1079 66 0 11 rfl rfl
      have g89 := zz_G.r G_S 1079 36 0 11 rfl rfl
      refine zz_less (ls1 := [some (.ref 1079), some (zi x1), some (zi x2), some (zi x3), some (zi x4), some (zi x3)]) ⟨rfl, ⟨rfl, ⟨rfl, ⟨rfl, ⟨rfl, ⟨rfl, trivial⟩⟩⟩⟩⟩⟩ ?_
      exact k35 x1 x2 x3 x4 x3 S G_S F_S (by omega) (by omega) (by omega) (by omega) (by omega) (by omega) (by omega) (by omega) (by omega) (by omega) (by omega) (by omega) i19_5 (by omega) (by omega) (by omega) (i19_8.1 (by omega)) (by exact rfl) R_S (by omega)
set_option maxHeartbeats 8000000 in
theorem zb_network_14_105_35 {g : mm_G} {l : Launch}  (S0 : zz_S) (n : Nat) (hn : zz_end ≤ n) (G_S0 : zz_G S0) (R_S0 : zz_Hr S0) (h1 : 1 ≤ S0 1079 36) (hN : ∀ w : Nat, 1 ≤ w → w ≤ 20 → S0 1100 w = zt_cd (zt_nw.getD w [])) (x1 : Int) (x2 : Int) (x3 : Int) (x4 : Int) (x5 : Int) (S : zz_S) (G_S : zz_G S) (F_S : zz_fr [(1079, 0), (1079, 30), (1079, 31), (1079, 32), (1079, 33), (1079, 36), (1079, 61), (1079, 64), (1079, 65), (1079, 66), (1102, 0), (1103, 0), (1104, 0), (1105, 0), (1105, 1), (1117, 0), (1118, 7)] [1102, 1103, 1104, 1105, 1106, 1107, 1108, 1109, 1110, 1111, 1112, 1113, 1114, 1117, 1118, 1119] (fun _ _ => False) S0 S) (i35_0 : 0 ≤ x1 ∧ x1 ≤ 1) (i35_1 : 0 ≤ x2 ∧ x2 ≤ 1501) (i35_2 : 0 ≤ x3 ∧ x3 ≤ 1500) (i35_3 : 0 ≤ x4 ∧ x4 ≤ 1) (i35_4 : 0 ≤ x5 ∧ x5 ≤ 1500) (i35_5 : 0 ≤ x3 ∧ x3 ≤ 1501) (i35_6 : x2 ≤ x3) (i35_7 : x4 = 1 ∨ 1 ≤ x2) (i35_8 : x4 ≠ 0) (i35_9 : x2 ≤ x3) (i35_10 : x3 ≤ x5) (i35_11 : x5 ≤ S0 1079 28) (i35_12 : zz_kp S0 S) (i35_13 : S 1079 66 = S0 1079 36) (i35_14 : x1 = 1 → 1 ≤ S 1079 36) (i35_15 : x4 = 1) (i35_16 : zn_MI (S0 1099) (S0 1079 28) x1 x2 x3 (S 1117) S (zn_nt (S0 1099) (S0 1079 28) 1502 0 0 0 zn_v0)) (i35_17 : zt_U 10 (S0 1099) (S0 1079 28) x5 = zt_U 10 (S0 1099) (S0 1079 28) x3) (i35_18 : zz_Hr S) (R : Nat) (hR : (51539607552 + (S0 1079 28 + 1 - x3).toNat) * 1099511627776 + (34359738368 + (S0 1079 28 - x5).toNat) = R) (k35 : ∀ (x1 : Int) (x2 : Int) (x3 : Int) (x4 : Int) (x5 : Int) (S : zz_S), zz_G S → zz_fr [(1079, 0), (1079, 30), (1079, 31), (1079, 32), (1079, 33), (1079, 36), (1079, 61), (1079, 64), (1079, 65), (1079, 66), (1102, 0), (1103, 0), (1104, 0), (1105, 0), (1105, 1), (1117, 0), (1118, 7)] [1102, 1103, 1104, 1105, 1106, 1107, 1108, 1109, 1110, 1111, 1112, 1113, 1114, 1117, 1118, 1119] (fun _ _ => False) S0 S → (0 ≤ x1 ∧ x1 ≤ 1) → (0 ≤ x2 ∧ x2 ≤ 1501) → (0 ≤ x3 ∧ x3 ≤ 1500) → (0 ≤ x4 ∧ x4 ≤ 1) → (0 ≤ x5 ∧ x5 ≤ 1500) → (0 ≤ x3 ∧ x3 ≤ 1501) → (x2 ≤ x3) → (x4 = 1 ∨ 1 ≤ x2) → (x4 ≠ 0) → (x2 ≤ x3) → (x3 ≤ x5) → (x5 ≤ S0 1079 28) → (zz_kp S0 S) → (S 1079 66 = S0 1079 36) → (x1 = 1 → 1 ≤ S 1079 36) → (x4 = 1) → (zn_MI (S0 1099) (S0 1079 28) x1 x2 x3 (S 1117) S (zn_nt (S0 1099) (S0 1079 28) 1502 0 0 0 zn_v0)) → (zt_U 10 (S0 1099) (S0 1079 28) x5 = zt_U 10 (S0 1099) (S0 1079 28) x3) → (zz_Hr S) → (51539607552 + (S0 1079 28 + 1 - x3).toNat) * 1099511627776 + (34359738368 + (S0 1079 28 - x5).toNat) < R → zz_E g l zy_network_14_105 zr_network_14_105 (zz_QI n (zp_network_14_105  S0)) S n 35 [some (.ref 1079), some (zi x1), some (zi x2), some (zi x3), some (zi x4), some (zi x5)] [] 0 0) (k67 : ∀ (x1 : Int) (x2 : Int) (x3 : Int) (x4 : Int) (x5 : Int) (S : zz_S), zz_G S → zz_fr [(1079, 0), (1079, 30), (1079, 31), (1079, 32), (1079, 33), (1079, 36), (1079, 61), (1079, 64), (1079, 65), (1079, 66), (1102, 0), (1103, 0), (1104, 0), (1105, 0), (1105, 1), (1117, 0), (1118, 7)] [1102, 1103, 1104, 1105, 1106, 1107, 1108, 1109, 1110, 1111, 1112, 1113, 1114, 1117, 1118, 1119] (fun _ _ => False) S0 S → (0 ≤ x1 ∧ x1 ≤ 1) → (0 ≤ x2 ∧ x2 ≤ 1501) → (0 ≤ x3 ∧ x3 ≤ 1500) → (0 ≤ x4 ∧ x4 ≤ 1) → (0 ≤ x5 ∧ x5 ≤ 1500) → (0 ≤ x3 ∧ x3 ≤ 1501) → (x2 ≤ x3) → (x3 ≤ x5) → (x4 = 1) → (x4 = 1 ∨ 1 ≤ x2) → (x4 ≠ 0) → (x5 ≤ S0 1079 28) → (x2 ≤ x3) → (x3 ≤ x5) → (x5 ≤ S0 1079 28) → (zz_kp S0 S) → (S 1079 66 = S0 1079 36) → (x1 = 1 → 1 ≤ S 1079 36) → (x4 = 1) → (zn_MI (S0 1099) (S0 1079 28) x1 x2 x3 (S 1117) S (zn_nt (S0 1099) (S0 1079 28) 1502 0 0 0 zn_v0)) → (x5 = zt_U 10 (S0 1099) (S0 1079 28) x3) → (zt_U 35 (S0 1099) x5 (S 1079 33) = zt_U 35 (S0 1099) x5 x3) → (x3 ≤ S 1079 33 ∧ S 1079 33 ≤ x5) → (zz_Hr S) → (51539607552 + (S0 1079 28 + 1 - x3).toNat) * 1099511627776 + (17179869184 + (x5 - S 1079 33).toNat) < R → zz_E g l zy_network_14_105 zr_network_14_105 (zz_QI n (zp_network_14_105  S0)) S n 67 [some (.ref 1079), some (zi x1), some (zi x2), some (zi x3), some (zi x4), some (zi x5)] [] 0 0) : zz_E g l zy_network_14_105 zr_network_14_105 (zz_QI n (zp_network_14_105  S0)) S n 35 [some (.ref 1079), some (zi x1), some (zi x2), some (zi x3), some (zi x4), some (zi x5)] [] 0 0 := by
  have R_S := i35_18
  refine zz_iload (x := x5) rfl zd_14_105_35 ?_
  refine zz_aload_n (x := 1079) rfl zd_14_105_37 ?_
  have g90 := zz_G.r G_S0 1079 28 0 1500 rfl rfl
  refine zz_geti (z := S0 1079 28) zd_14_105_38 zf_Md_331 zT_1079 rfl (zz_ltn hn rfl) (zz_rc F_S rfl rfl (fun h => h) rfl) ?_
  refine zz_icmp_ge (by omega) (by omega) zd_14_105_41 (fun c91 => ?_) (fun c91 => ?_)
  · refine zz_aload_n (x := 1079) rfl zd_14_105_62 ?_
    refine zz_iload_n (x := x3) rfl zd_14_105_63 ?_
    refine zz_puti zd_14_105_64 zf_Md_337 zT_1079 rfl (zz_ltn hn rfl) (fun S92 qS92 => ?_)
    have G_S92 := zz_G.put G_S qS92 0 1500 rfl (by omega)
    have F_S92 := zz_fr.puts F_S qS92 rfl
    have R_S92 : zz_Hr S92 := zz_Hr.p79 qS92 (by decide) R_S
    have g93 := zz_G.r G_S 1079 66 0 11 rfl rfl
    have e94 : S92 1079 66 = S 1079 66 := (zz_ro qS92 (fun h => absurd h.2 (by decide)) rfl)
    have g95 := zz_G.r G_S 1079 36 0 11 rfl rfl
    have e96 : S92 1079 36 = S 1079 36 := (zz_ro qS92 (fun h => absurd h.2 (by decide)) rfl)
    have e97 : S92 1079 33 = x3 := (zz_rs qS92)
    exact k67 x1 x2 x3 x4 x5 S92 G_S92 F_S92 (by omega) (by omega) (by omega) (by omega) (by omega) (by omega) (by omega) (by omega) (by omega) (by omega) (by omega) (by omega) (by omega) (by omega) (by omega) (zz_kp.same i35_12 (fun u => (zz_ro qS92 (fun h => absurd h.1 (by decide)) rfl))) (by omega) (by omega) (by omega) (i35_16.same (fun v h => (zn_M.fr h (zz_fr.put1 qS92) rfl rfl (fun a i h => by omega) (zz_ro qS92 (fun h => by omega) rfl))) (fun k => (zz_ro qS92 (fun h => by omega) rfl))) ((zt_U0 (by omega)).symm.trans i35_17) (by rw [show S92 1079 33 = x3 by omega]) (by omega) R_S92 (by omega)
  · refine zz_aload_n (x := 1079) rfl zd_14_105_44 ?_
    refine zz_getr (kd := 0) (z := 1099) zd_14_105_45 zf_Md_76 zT_1079 rfl (zz_ltn hn rfl) (zz_G.eq G_S 1079 27 1099 rfl rfl) (by decide) 1099 rfl ?_
    refine zz_iload (x := x5) rfl zd_14_105_48 ?_
    have g98 := zz_G.r G_S0 1099 x5.toNat 0 255 rfl rfl
    refine zz_iald (z := S0 1099 x5.toNat) zd_14_105_50 zT_1099 rfl (zz_ltn hn rfl) (by decide) (by omega) (zz_rc F_S (zz_nc1 rfl) rfl (fun h => h) rfl) ?_
    refine zz_bipush (by decide) zd_14_105_51 ?_
    refine zz_icmp_eq (by omega) (by omega) zd_14_105_53 (fun c99 => ?_) (fun c99 => ?_)
    · refine zz_aload_n (x := 1079) rfl zd_14_105_62 ?_
      refine zz_iload_n (x := x3) rfl zd_14_105_63 ?_
      refine zz_puti zd_14_105_64 zf_Md_337 zT_1079 rfl (zz_ltn hn rfl) (fun S100 qS100 => ?_)
      have G_S100 := zz_G.put G_S qS100 0 1500 rfl (by omega)
      have F_S100 := zz_fr.puts F_S qS100 rfl
      have R_S100 : zz_Hr S100 := zz_Hr.p79 qS100 (by decide) R_S
      have g101 := zz_G.r G_S 1079 66 0 11 rfl rfl
      have e102 : S100 1079 66 = S 1079 66 := (zz_ro qS100 (fun h => absurd h.2 (by decide)) rfl)
      have g103 := zz_G.r G_S 1079 36 0 11 rfl rfl
      have e104 : S100 1079 36 = S 1079 36 := (zz_ro qS100 (fun h => absurd h.2 (by decide)) rfl)
      have e105 : S100 1079 33 = x3 := (zz_rs qS100)
      exact k67 x1 x2 x3 x4 x5 S100 G_S100 F_S100 (by omega) (by omega) (by omega) (by omega) (by omega) (by omega) (by omega) (by omega) (by omega) (by omega) (by omega) (by omega) (by omega) (by omega) (by omega) (zz_kp.same i35_12 (fun u => (zz_ro qS100 (fun h => absurd h.1 (by decide)) rfl))) (by omega) (by omega) (by omega) (i35_16.same (fun v h => (zn_M.fr h (zz_fr.put1 qS100) rfl rfl (fun a i h => by omega) (zz_ro qS100 (fun h => by omega) rfl))) (fun k => (zz_ro qS100 (fun h => by omega) rfl))) ((zt_U0 (by omega)).symm.trans i35_17) (by rw [show S100 1079 33 = x3 by omega]) (by omega) R_S100 (by omega)
    · refine zz_iinc [some (.ref 1079), some (zi x1), some (zi x2), some (zi x3), some (zi x4), some (zi (x5 + 1))] zd_14_105_56 rfl rfl ?_
      refine zz_goto zd_14_105_59 ?_
      have g106 := zz_G.r G_S 1079 66 0 11 rfl rfl
      have g107 := zz_G.r G_S 1079 36 0 11 rfl rfl
      refine zz_less (ls1 := [some (.ref 1079), some (zi x1), some (zi x2), some (zi x3), some (zi x4), some (zi (x5 + 1))]) ⟨rfl, ⟨rfl, ⟨rfl, ⟨rfl, ⟨rfl, ⟨rfl, trivial⟩⟩⟩⟩⟩⟩ ?_
      exact k35 x1 x2 x3 x4 (x5 + 1) S G_S F_S (by omega) (by omega) (by omega) (by omega) (by omega) (by omega) (by omega) (by omega) (by omega) (by omega) (by omega) (by omega) i35_12 (by omega) (by omega) (by omega) i35_16 ((zt_US (by omega) (by omega)).trans i35_17) R_S (by omega)
set_option maxHeartbeats 8000000 in
theorem zb_network_14_105_67 {g : mm_G} {l : Launch}  (S0 : zz_S) (n : Nat) (hn : zz_end ≤ n) (G_S0 : zz_G S0) (R_S0 : zz_Hr S0) (h1 : 1 ≤ S0 1079 36) (hN : ∀ w : Nat, 1 ≤ w → w ≤ 20 → S0 1100 w = zt_cd (zt_nw.getD w [])) (x1 : Int) (x2 : Int) (x3 : Int) (x4 : Int) (x5 : Int) (S : zz_S) (G_S : zz_G S) (F_S : zz_fr [(1079, 0), (1079, 30), (1079, 31), (1079, 32), (1079, 33), (1079, 36), (1079, 61), (1079, 64), (1079, 65), (1079, 66), (1102, 0), (1103, 0), (1104, 0), (1105, 0), (1105, 1), (1117, 0), (1118, 7)] [1102, 1103, 1104, 1105, 1106, 1107, 1108, 1109, 1110, 1111, 1112, 1113, 1114, 1117, 1118, 1119] (fun _ _ => False) S0 S) (i67_0 : 0 ≤ x1 ∧ x1 ≤ 1) (i67_1 : 0 ≤ x2 ∧ x2 ≤ 1501) (i67_2 : 0 ≤ x3 ∧ x3 ≤ 1500) (i67_3 : 0 ≤ x4 ∧ x4 ≤ 1) (i67_4 : 0 ≤ x5 ∧ x5 ≤ 1500) (i67_5 : 0 ≤ x3 ∧ x3 ≤ 1501) (i67_6 : x2 ≤ x3) (i67_7 : x3 ≤ x5) (i67_8 : x4 = 1) (i67_9 : x4 = 1 ∨ 1 ≤ x2) (i67_10 : x4 ≠ 0) (i67_11 : x5 ≤ S0 1079 28) (i67_12 : x2 ≤ x3) (i67_13 : x3 ≤ x5) (i67_14 : x5 ≤ S0 1079 28) (i67_15 : zz_kp S0 S) (i67_16 : S 1079 66 = S0 1079 36) (i67_17 : x1 = 1 → 1 ≤ S 1079 36) (i67_18 : x4 = 1) (i67_19 : zn_MI (S0 1099) (S0 1079 28) x1 x2 x3 (S 1117) S (zn_nt (S0 1099) (S0 1079 28) 1502 0 0 0 zn_v0)) (i67_20 : x5 = zt_U 10 (S0 1099) (S0 1079 28) x3) (i67_21 : zt_U 35 (S0 1099) x5 (S 1079 33) = zt_U 35 (S0 1099) x5 x3) (i67_22 : x3 ≤ S 1079 33 ∧ S 1079 33 ≤ x5) (i67_23 : zz_Hr S) (R : Nat) (hR : (51539607552 + (S0 1079 28 + 1 - x3).toNat) * 1099511627776 + (17179869184 + (x5 - S 1079 33).toNat) = R) (k19 : ∀ (x1 : Int) (x2 : Int) (x3 : Int) (x4 : Int) (S : zz_S), zz_G S → zz_fr [(1079, 0), (1079, 30), (1079, 31), (1079, 32), (1079, 33), (1079, 36), (1079, 61), (1079, 64), (1079, 65), (1079, 66), (1102, 0), (1103, 0), (1104, 0), (1105, 0), (1105, 1), (1117, 0), (1118, 7)] [1102, 1103, 1104, 1105, 1106, 1107, 1108, 1109, 1110, 1111, 1112, 1113, 1114, 1117, 1118, 1119] (fun _ _ => False) S0 S → (0 ≤ x1 ∧ x1 ≤ 1) → (0 ≤ x2 ∧ x2 ≤ 1501) → (0 ≤ x3 ∧ x3 ≤ 1501) → (0 ≤ x4 ∧ x4 ≤ 1) → (x2 ≤ x3) → (zz_kp S0 S) → (S 1079 66 = S0 1079 36) → (x1 = 1 → x4 = 1 → 1 ≤ S 1079 36) → ((x4 = 1 → zn_MI (S0 1099) (S0 1079 28) x1 x2 x3 (S 1117) S (zn_nt (S0 1099) (S0 1079 28) 1502 0 0 0 zn_v0)) ∧ (x4 = 0 → (zn_nt (S0 1099) (S0 1079 28) 1502 0 0 0 zn_v0).1 = x2 - 1)) → (x4 = 1 ∨ 1 ≤ x2) → (zz_Hr S) → (51539607552 + (S0 1079 28 + 1 - x3).toNat) * 1099511627776 + 1099511627775 < R → zz_E g l zy_network_14_105 zr_network_14_105 (zz_QI n (zp_network_14_105  S0)) S n 19 [some (.ref 1079), some (zi x1), some (zi x2), some (zi x3), some (zi x4)] [] 0 0) (k67 : ∀ (x1 : Int) (x2 : Int) (x3 : Int) (x4 : Int) (x5 : Int) (S : zz_S), zz_G S → zz_fr [(1079, 0), (1079, 30), (1079, 31), (1079, 32), (1079, 33), (1079, 36), (1079, 61), (1079, 64), (1079, 65), (1079, 66), (1102, 0), (1103, 0), (1104, 0), (1105, 0), (1105, 1), (1117, 0), (1118, 7)] [1102, 1103, 1104, 1105, 1106, 1107, 1108, 1109, 1110, 1111, 1112, 1113, 1114, 1117, 1118, 1119] (fun _ _ => False) S0 S → (0 ≤ x1 ∧ x1 ≤ 1) → (0 ≤ x2 ∧ x2 ≤ 1501) → (0 ≤ x3 ∧ x3 ≤ 1500) → (0 ≤ x4 ∧ x4 ≤ 1) → (0 ≤ x5 ∧ x5 ≤ 1500) → (0 ≤ x3 ∧ x3 ≤ 1501) → (x2 ≤ x3) → (x3 ≤ x5) → (x4 = 1) → (x4 = 1 ∨ 1 ≤ x2) → (x4 ≠ 0) → (x5 ≤ S0 1079 28) → (x2 ≤ x3) → (x3 ≤ x5) → (x5 ≤ S0 1079 28) → (zz_kp S0 S) → (S 1079 66 = S0 1079 36) → (x1 = 1 → 1 ≤ S 1079 36) → (x4 = 1) → (zn_MI (S0 1099) (S0 1079 28) x1 x2 x3 (S 1117) S (zn_nt (S0 1099) (S0 1079 28) 1502 0 0 0 zn_v0)) → (x5 = zt_U 10 (S0 1099) (S0 1079 28) x3) → (zt_U 35 (S0 1099) x5 (S 1079 33) = zt_U 35 (S0 1099) x5 x3) → (x3 ≤ S 1079 33 ∧ S 1079 33 ≤ x5) → (zz_Hr S) → (51539607552 + (S0 1079 28 + 1 - x3).toNat) * 1099511627776 + (17179869184 + (x5 - S 1079 33).toNat) < R → zz_E g l zy_network_14_105 zr_network_14_105 (zz_QI n (zp_network_14_105  S0)) S n 67 [some (.ref 1079), some (zi x1), some (zi x2), some (zi x3), some (zi x4), some (zi x5)] [] 0 0) : zz_E g l zy_network_14_105 zr_network_14_105 (zz_QI n (zp_network_14_105  S0)) S n 67 [some (.ref 1079), some (zi x1), some (zi x2), some (zi x3), some (zi x4), some (zi x5)] [] 0 0 := by
  have R_S := i67_23
  refine zz_aload_n (x := 1079) rfl zd_14_105_67 ?_
  have g108 := zz_G.r G_S 1079 33 0 1500 rfl rfl
  refine zz_geti (z := S 1079 33) zd_14_105_68 zf_Md_337 zT_1079 rfl (zz_ltn hn rfl) rfl ?_
  refine zz_iload (x := x5) rfl zd_14_105_71 ?_
  refine zz_icmp_ge (by omega) (by omega) zd_14_105_73 (fun c109 => ?_) (fun c109 => ?_)
  · refine zz_aload_n (x := 1079) rfl zd_14_105_103 ?_
    refine zz_iload_n (x := x3) rfl zd_14_105_104 ?_
    refine zz_puti zd_14_105_105 zf_Md_334 zT_1079 rfl (zz_ltn hn rfl) (fun S110 qS110 => ?_)
    have G_S110 := zz_G.put G_S qS110 0 1500 rfl (by omega)
    have F_S110 := zz_fr.puts F_S qS110 rfl
    have R_S110 : zz_Hr S110 := zz_Hr.p79 qS110 (by decide) R_S
    refine zz_aload_n (x := 1079) rfl zd_14_105_108 ?_
    have e111 : S110 1079 32 = x3 := (zz_rs qS110)
    have e112 : S110 1079 33 = S 1079 33 := (zz_ro qS110 (fun h => absurd h.2 (by decide)) rfl)
    refine zz_callVV [] zd_14_105_109 zk_Md_526 zT_1079 (zz_ltn hn rfl) rfl rfl ⟨Nat.le_of_ble_eq_true rfl, Nat.le_of_ble_eq_true rfl⟩ ⟨rfl, rfl⟩ (Nat.zero_le _) (Nat.zero_le _) (zc_advanceNet_14_93  S110 n hn G_S110 (fun u h1 h2 => ((zz_ro qS110 (fun h => absurd h.1 (by decide)) (zz_rc F_S (zz_nc1 rfl) rfl (fun h => h) rfl))).trans (hN u h1 h2))) (fun S113 hP => ?_)
    obtain ⟨G_S113, fS113, o115, o116, o117, o118, o119, o120⟩ := hP
    rw [show S110 1079 32 = x3 from (zz_rs qS110)] at o115
    rw [show S110 1099 = S0 1099 from funext (fun u => (zz_ro qS110 (fun h => absurd h.1 (by decide)) (zz_rc F_S (zz_nc1 rfl) rfl (fun h => h) rfl))), show S110 1079 33 = S 1079 33 from (zz_ro qS110 (fun h => absurd h.2 (by decide)) rfl), show S110 1079 32 = x3 from (zz_rs qS110)] at o116
    rw [show S110 1099 = S0 1099 from funext (fun u => (zz_ro qS110 (fun h => absurd h.1 (by decide)) (zz_rc F_S (zz_nc1 rfl) rfl (fun h => h) rfl))), show S110 1079 33 = S 1079 33 from (zz_ro qS110 (fun h => absurd h.2 (by decide)) rfl), show S110 1079 32 = x3 from (zz_rs qS110)] at o117
    rw [show S110 1099 = S0 1099 from funext (fun u => (zz_ro qS110 (fun h => absurd h.1 (by decide)) (zz_rc F_S (zz_nc1 rfl) rfl (fun h => h) rfl))), show S110 1079 33 = S 1079 33 from (zz_ro qS110 (fun h => absurd h.2 (by decide)) rfl), show S110 1079 32 = x3 from (zz_rs qS110)] at o118
    rw [show S110 1099 = S0 1099 from funext (fun u => (zz_ro qS110 (fun h => absurd h.1 (by decide)) (zz_rc F_S (zz_nc1 rfl) rfl (fun h => h) rfl))), show S110 1079 33 = S 1079 33 from (zz_ro qS110 (fun h => absurd h.2 (by decide)) rfl), show S110 1079 32 = x3 from (zz_rs qS110)] at o119
    rw [show S110 1099 = S0 1099 from funext (fun u => (zz_ro qS110 (fun h => absurd h.1 (by decide)) (zz_rc F_S (zz_nc1 rfl) rfl (fun h => h) rfl))), show S110 1079 33 = S 1079 33 from (zz_ro qS110 (fun h => absurd h.2 (by decide)) rfl), show S110 1079 32 = x3 from (zz_rs qS110)] at o120
    have F_S113 := zz_fr.trans F_S110 fS113 rfl zz_nv
    have R_S113 : zz_Hr S113 := zz_Hr.fr fS113 rfl rfl (fun b j h => h.elim) R_S110
    refine zz_aload_n (x := 1079) rfl zd_14_105_112 ?_
    have g121 := zz_G.r G_S113 1079 30 0 102 rfl rfl
    refine zz_geti (z := S113 1079 30) zd_14_105_113 zf_Md_347 zT_1079 rfl (zz_ltn hn rfl) rfl ?_
    refine zz_if_eq (by omega) zd_14_105_116 (fun c122 => ?_) (fun c122 => ?_)
    · refine zz_iload (x := x5) rfl zd_14_105_138 ?_
      refine zz_iconst zd_14_105_140 ?_
      refine zz_iadd zd_14_105_141 ?_
      refine zz_istore_n [some (.ref 1079), some (zi x1), some (zi x2), some (zi (x5 + 1)), some (zi x4), some (zi x5)] zd_14_105_142 (by decide) rfl ?_
      refine zz_iinc [some (.ref 1079), some (zi x1), some (zi (x2 + 1)), some (zi (x5 + 1)), some (zi x4), some (zi x5)] zd_14_105_143 rfl rfl ?_
      refine zz_goto zd_14_105_146 ?_
      have g123 := zz_G.r G_S 1079 66 0 11 rfl rfl
      have e124 : S113 1079 66 = S 1079 66 := (zz_rc fS113 rfl rfl (fun h => h) (zz_ro qS110 (fun h => absurd h.2 (by decide)) rfl))
      have g125 := zz_G.r G_S 1079 36 0 11 rfl rfl
      have e126 : S113 1079 36 = S 1079 36 := (zz_rc fS113 rfl rfl (fun h => h) (zz_ro qS110 (fun h => absurd h.2 (by decide)) rfl))
      have g127 := zz_G.r G_S0 1079 28 0 1500 rfl rfl
      refine zz_less (ls1 := [some (.ref 1079), some (zi x1), some (zi (x2 + 1)), some (zi (x5 + 1)), some (zi x4)]) ⟨rfl, ⟨rfl, ⟨rfl, ⟨rfl, ⟨rfl, trivial⟩⟩⟩⟩⟩ ?_
      exact k19 x1 (x2 + 1) (x5 + 1) x4 S113 G_S113 F_S113 (by omega) (by omega) (by omega) (by omega) (by omega) (zz_kp.same i67_15 (fun u => (zz_rc fS113 (zz_nc1 rfl) rfl (fun h => h) (zz_ro qS110 (fun h => absurd h.1 (by decide)) rfl)))) (by omega) (by omega) (by have hc9 : S 1079 33 = zt_U 35 (S0 1099) x5 x3 := (zt_U0 (by omega)).symm.trans i67_21; have ub := (zt_Ub (c := 10) (f := (S0 1099)) (e := S0 1079 28) (p := x3) (by omega)).1; rw [← i67_20] at ub; have m9 := o120; (try rw [show S110 1079 32 = x3 by omega] at m9); have t9 := m9.1; have kq := zt_keq hc9 ub.1 (Int.le_refl x3) (by omega); have i9 := i67_19.same (fun v h => (zn_M.fr (zn_M.fr h (zz_fr.put1 qS110) rfl rfl (fun a i h => by omega) (zz_ro qS110 (fun h => by omega) rfl)) fS113 rfl rfl (fun a i h => by first | exact h.elim | omega) (fS113 1079 36 rfl rfl (fun h => by first | exact h | omega)))) (fun k => ((fS113 1117 k (zz_nc1 rfl) rfl (fun h => by first | exact h | omega)).trans (zz_ro qS110 (fun h => by omega) rfl))); exact ⟨fun _ => zn_MIB i9 (by omega) (by omega) i67_20 (by omega), fun h => by omega⟩) (by omega) R_S113 (by omega)
    · refine zz_iload_n (x := x1) rfl zd_14_105_119 ?_
      refine zz_if_eq (by omega) zd_14_105_120 (fun c128 => ?_) (fun c128 => ?_)
      · refine zz_aload_n (x := 1079) rfl zd_14_105_130 ?_
        have g129 := zz_G.r G_S113 1079 31 0 9999 rfl rfl
        have g130 := zz_G.r G_S113 1079 32 0 1500 rfl rfl
        have e131 : S113 1079 33 = S 1079 33 := (zz_rc fS113 rfl rfl (fun h => h) (zz_ro qS110 (fun h => absurd h.2 (by decide)) rfl))
        refine zz_callVI [] zd_14_105_131 zk_Md_601 zT_1079 (zz_ltn hn rfl) rfl rfl ⟨Nat.le_of_ble_eq_true rfl, Nat.le_of_ble_eq_true rfl⟩ ⟨rfl, rfl⟩ (Nat.zero_le _) (Nat.zero_le _) (zc_readInput_14_103  S113 n hn G_S113 R_S113 (fun u h1 h2 => ((zz_rc fS113 (zz_nc1 rfl) rfl (fun h => h) (zz_ro qS110 (fun h => absurd h.1 (by decide)) (zz_rc F_S (zz_nc1 rfl) rfl (fun h => h) rfl)))).trans (hN u h1 h2))) (fun v133 S132 hP => ?_)
        obtain ⟨G_S132, fS132, o134, o135, o136, o137⟩ := hP
        rw [show S113 1099 = S0 1099 from funext (fun u => (zz_rc fS113 (zz_nc1 rfl) rfl (fun h => h) (zz_ro qS110 (fun h => absurd h.1 (by decide)) (zz_rc F_S (zz_nc1 rfl) rfl (fun h => h) rfl)))), show S113 1079 33 = S 1079 33 from (zz_rc fS113 rfl rfl (fun h => h) (zz_ro qS110 (fun h => absurd h.2 (by decide)) rfl))] at o136
        have F_S132 := zz_fr.trans F_S113 fS132 rfl zz_nv
        have R_S132 : zz_Hr S132 := o137
        rcases (by omega : v133 = 0 ∨ v133 = 1) with rfl | rfl
        · refine zz_istore [some (.ref 1079), some (zi x1), some (zi x2), some (zi x3), some (zi 0), some (zi x5)] zd_14_105_134 (by decide) rfl ?_
          refine zz_iconst zd_14_105_136 ?_
          refine zz_istore_n [some (.ref 1079), some (zi 1), some (zi x2), some (zi x3), some (zi 0), some (zi x5)] zd_14_105_137 (by decide) rfl ?_
          refine zz_iload (x := x5) rfl zd_14_105_138 ?_
          refine zz_iconst zd_14_105_140 ?_
          refine zz_iadd zd_14_105_141 ?_
          refine zz_istore_n [some (.ref 1079), some (zi 1), some (zi x2), some (zi (x5 + 1)), some (zi 0), some (zi x5)] zd_14_105_142 (by decide) rfl ?_
          refine zz_iinc [some (.ref 1079), some (zi 1), some (zi (x2 + 1)), some (zi (x5 + 1)), some (zi 0), some (zi x5)] zd_14_105_143 rfl rfl ?_
          refine zz_goto zd_14_105_146 ?_
          have g138 := zz_G.r G_S 1079 66 0 11 rfl rfl
          have e139 : S132 1079 66 = S 1079 66 := (zz_rc fS132 rfl rfl (fun h => h) (zz_rc fS113 rfl rfl (fun h => h) (zz_ro qS110 (fun h => absurd h.2 (by decide)) rfl)))
          have g140 := zz_G.r G_S132 1079 36 0 11 rfl rfl
          have g141 := zz_G.r G_S0 1079 28 0 1500 rfl rfl
          refine zz_less (ls1 := [some (.ref 1079), some (zi 1), some (zi (x2 + 1)), some (zi (x5 + 1)), some (zi 0)]) ⟨rfl, ⟨rfl, ⟨rfl, ⟨rfl, ⟨rfl, trivial⟩⟩⟩⟩⟩ ?_
          exact k19 1 (x2 + 1) (x5 + 1) 0 S132 G_S132 F_S132 (by omega) (by omega) (by omega) (by omega) (by omega) (zz_kp.same i67_15 (fun u => (zz_rc fS132 (zz_nc1 rfl) rfl (fun h => h) (zz_rc fS113 (zz_nc1 rfl) rfl (fun h => h) (zz_ro qS110 (fun h => absurd h.1 (by decide)) rfl))))) (by omega) (by omega) (by have hc9 : S 1079 33 = zt_U 35 (S0 1099) x5 x3 := (zt_U0 (by omega)).symm.trans i67_21; have ub := (zt_Ub (c := 10) (f := (S0 1099)) (e := S0 1079 28) (p := x3) (by omega)).1; rw [← i67_20] at ub; have m9 := o120; (try rw [show S110 1079 32 = x3 by omega] at m9); have t9 := m9.1; have kq := zt_keq hc9 ub.1 (Int.le_refl x3) (by omega); have i9 := i67_19.same (fun v h => (zn_M.fr (zn_M.fr h (zz_fr.put1 qS110) rfl rfl (fun a i h => by omega) (zz_ro qS110 (fun h => by omega) rfl)) fS113 rfl rfl (fun a i h => by first | exact h.elim | omega) (fS113 1079 36 rfl rfl (fun h => by first | exact h | omega)))) (fun k => ((fS113 1117 k (zz_nc1 rfl) rfl (fun h => by first | exact h | omega)).trans (zz_ro qS110 (fun h => by omega) rfl))); rw [show x1 = 0 by omega] at i9; have z9 := zn_MII i9 (by omega) (by omega) i67_20 hc9 (by omega) (o136 x3 m9 (by omega)); exact ⟨fun h => absurd h (by decide), fun _ => by have y := z9.2 rfl; omega⟩) (by omega) R_S132 (by omega)
        · refine zz_istore [some (.ref 1079), some (zi x1), some (zi x2), some (zi x3), some (zi 1), some (zi x5)] zd_14_105_134 (by decide) rfl ?_
          refine zz_iconst zd_14_105_136 ?_
          refine zz_istore_n [some (.ref 1079), some (zi 1), some (zi x2), some (zi x3), some (zi 1), some (zi x5)] zd_14_105_137 (by decide) rfl ?_
          refine zz_iload (x := x5) rfl zd_14_105_138 ?_
          refine zz_iconst zd_14_105_140 ?_
          refine zz_iadd zd_14_105_141 ?_
          refine zz_istore_n [some (.ref 1079), some (zi 1), some (zi x2), some (zi (x5 + 1)), some (zi 1), some (zi x5)] zd_14_105_142 (by decide) rfl ?_
          refine zz_iinc [some (.ref 1079), some (zi 1), some (zi (x2 + 1)), some (zi (x5 + 1)), some (zi 1), some (zi x5)] zd_14_105_143 rfl rfl ?_
          refine zz_goto zd_14_105_146 ?_
          have g142 := zz_G.r G_S 1079 66 0 11 rfl rfl
          have e143 : S132 1079 66 = S 1079 66 := (zz_rc fS132 rfl rfl (fun h => h) (zz_rc fS113 rfl rfl (fun h => h) (zz_ro qS110 (fun h => absurd h.2 (by decide)) rfl)))
          have g144 := zz_G.r G_S132 1079 36 0 11 rfl rfl
          have g145 := zz_G.r G_S0 1079 28 0 1500 rfl rfl
          refine zz_less (ls1 := [some (.ref 1079), some (zi 1), some (zi (x2 + 1)), some (zi (x5 + 1)), some (zi 1)]) ⟨rfl, ⟨rfl, ⟨rfl, ⟨rfl, ⟨rfl, trivial⟩⟩⟩⟩⟩ ?_
          exact k19 1 (x2 + 1) (x5 + 1) 1 S132 G_S132 F_S132 (by omega) (by omega) (by omega) (by omega) (by omega) (zz_kp.same i67_15 (fun u => (zz_rc fS132 (zz_nc1 rfl) rfl (fun h => h) (zz_rc fS113 (zz_nc1 rfl) rfl (fun h => h) (zz_ro qS110 (fun h => absurd h.1 (by decide)) rfl))))) (by omega) (by omega) (by have hc9 : S 1079 33 = zt_U 35 (S0 1099) x5 x3 := (zt_U0 (by omega)).symm.trans i67_21; have ub := (zt_Ub (c := 10) (f := (S0 1099)) (e := S0 1079 28) (p := x3) (by omega)).1; rw [← i67_20] at ub; have m9 := o120; (try rw [show S110 1079 32 = x3 by omega] at m9); have t9 := m9.1; have kq := zt_keq hc9 ub.1 (Int.le_refl x3) (by omega); have i9 := i67_19.same (fun v h => (zn_M.fr (zn_M.fr h (zz_fr.put1 qS110) rfl rfl (fun a i h => by omega) (zz_ro qS110 (fun h => by omega) rfl)) fS113 rfl rfl (fun a i h => by first | exact h.elim | omega) (fS113 1079 36 rfl rfl (fun h => by first | exact h | omega)))) (fun k => ((fS113 1117 k (zz_nc1 rfl) rfl (fun h => by first | exact h | omega)).trans (zz_ro qS110 (fun h => by omega) rfl))); rw [show x1 = 0 by omega] at i9; have z9 := zn_MII i9 (by omega) (by omega) i67_20 hc9 (by omega) (o136 x3 m9 (by omega)); exact ⟨fun _ => z9.1 rfl, fun h => absurd h (by decide)⟩) (by omega) R_S132 (by omega)
      · refine zz_aload_n (x := 1079) rfl zd_14_105_123 ?_
        have g146 := zz_G.r G_S 1079 36 0 11 rfl rfl
        have e147 : S113 1079 36 = S 1079 36 := (zz_rc fS113 rfl rfl (fun h => h) (zz_ro qS110 (fun h => absurd h.2 (by decide)) rfl))
        have g148 := zz_G.r G_S113 1079 31 0 9999 rfl rfl
        have g149 := zz_G.r G_S113 1079 32 0 1500 rfl rfl
        have e150 : S113 1079 33 = S 1079 33 := (zz_rc fS113 rfl rfl (fun h => h) (zz_ro qS110 (fun h => absurd h.2 (by decide)) rfl))
        refine zz_callVI [] zd_14_105_124 zk_Md_598 zT_1079 (zz_ltn hn rfl) rfl rfl ⟨Nat.le_of_ble_eq_true rfl, Nat.le_of_ble_eq_true rfl⟩ ⟨rfl, rfl⟩ (Nat.zero_le _) (Nat.zero_le _) (zc_readLayer_14_104  S113 n hn G_S113 R_S113 (fun u h1 h2 => ((zz_rc fS113 (zz_nc1 rfl) rfl (fun h => h) (zz_ro qS110 (fun h => absurd h.1 (by decide)) (zz_rc F_S (zz_nc1 rfl) rfl (fun h => h) rfl)))).trans (hN u h1 h2))) (fun v152 S151 hP => ?_)
        obtain ⟨G_S151, fS151, o153, o154, o155, o156⟩ := hP
        rw [show S113 1079 36 = S 1079 36 from (zz_rc fS113 rfl rfl (fun h => h) (zz_ro qS110 (fun h => absurd h.2 (by decide)) rfl))] at o154
        rw [show S113 1099 = S0 1099 from funext (fun u => (zz_rc fS113 (zz_nc1 rfl) rfl (fun h => h) (zz_ro qS110 (fun h => absurd h.1 (by decide)) (zz_rc F_S (zz_nc1 rfl) rfl (fun h => h) rfl)))), show S113 1117 = S 1117 from funext (fun u => (zz_rc fS113 (zz_nc1 rfl) rfl (fun h => h) (zz_ro qS110 (fun h => absurd h.1 (by decide)) rfl))), show S113 1079 33 = S 1079 33 from (zz_rc fS113 rfl rfl (fun h => h) (zz_ro qS110 (fun h => absurd h.2 (by decide)) rfl))] at o155
        have F_S151 := zz_fr.trans F_S113 fS151 rfl zz_nv
        have R_S151 : zz_Hr S151 := o156
        rcases (by omega : v152 = 0 ∨ v152 = 1) with rfl | rfl
        · refine zz_goto zd_14_105_127 ?_
          refine zz_istore [some (.ref 1079), some (zi x1), some (zi x2), some (zi x3), some (zi 0), some (zi x5)] zd_14_105_134 (by decide) rfl ?_
          refine zz_iconst zd_14_105_136 ?_
          refine zz_istore_n [some (.ref 1079), some (zi 1), some (zi x2), some (zi x3), some (zi 0), some (zi x5)] zd_14_105_137 (by decide) rfl ?_
          refine zz_iload (x := x5) rfl zd_14_105_138 ?_
          refine zz_iconst zd_14_105_140 ?_
          refine zz_iadd zd_14_105_141 ?_
          refine zz_istore_n [some (.ref 1079), some (zi 1), some (zi x2), some (zi (x5 + 1)), some (zi 0), some (zi x5)] zd_14_105_142 (by decide) rfl ?_
          refine zz_iinc [some (.ref 1079), some (zi 1), some (zi (x2 + 1)), some (zi (x5 + 1)), some (zi 0), some (zi x5)] zd_14_105_143 rfl rfl ?_
          refine zz_goto zd_14_105_146 ?_
          have g157 := zz_G.r G_S 1079 66 0 11 rfl rfl
          have e158 : S151 1079 66 = S 1079 66 := (zz_rc fS151 rfl rfl (fun h => h) (zz_rc fS113 rfl rfl (fun h => h) (zz_ro qS110 (fun h => absurd h.2 (by decide)) rfl)))
          have g159 := zz_G.r G_S151 1079 36 0 11 rfl rfl
          have g160 := zz_G.r G_S0 1079 28 0 1500 rfl rfl
          refine zz_less (ls1 := [some (.ref 1079), some (zi 1), some (zi (x2 + 1)), some (zi (x5 + 1)), some (zi 0)]) ⟨rfl, ⟨rfl, ⟨rfl, ⟨rfl, ⟨rfl, trivial⟩⟩⟩⟩⟩ ?_
          exact k19 1 (x2 + 1) (x5 + 1) 0 S151 G_S151 F_S151 (by omega) (by omega) (by omega) (by omega) (by omega) (zz_kp.same i67_15 (fun u => (zz_rc fS151 (zz_nc1 rfl) rfl (fun h => h) (zz_rc fS113 (zz_nc1 rfl) rfl (fun h => h) (zz_ro qS110 (fun h => absurd h.1 (by decide)) rfl))))) (by omega) (by omega) (by have hc9 : S 1079 33 = zt_U 35 (S0 1099) x5 x3 := (zt_U0 (by omega)).symm.trans i67_21; have ub := (zt_Ub (c := 10) (f := (S0 1099)) (e := S0 1079 28) (p := x3) (by omega)).1; rw [← i67_20] at ub; have m9 := o120; (try rw [show S110 1079 32 = x3 by omega] at m9); have t9 := m9.1; have kq := zt_keq hc9 ub.1 (Int.le_refl x3) (by omega); have i9 := i67_19.same (fun v h => (zn_M.fr (zn_M.fr h (zz_fr.put1 qS110) rfl rfl (fun a i h => by omega) (zz_ro qS110 (fun h => by omega) rfl)) fS113 rfl rfl (fun a i h => by first | exact h.elim | omega) (fS113 1079 36 rfl rfl (fun h => by first | exact h | omega)))) (fun k => ((fS113 1117 k (zz_nc1 rfl) rfl (fun h => by first | exact h | omega)).trans (zz_ro qS110 (fun h => by omega) rfl))); rw [show x1 = 1 by omega] at i9; have n9_ := o155; (try rw [← (funext (fun k => ((fS113 1117 k (zz_nc1 rfl) rfl (fun h => by first | exact h | omega)).trans (zz_ro qS110 (fun h => by omega) rfl))) : S113 1117 = S 1117)] at n9_); have z9 := zn_MIL i9 (by omega) (by omega) i67_20 hc9 (by omega) (fun v hV hR hN => n9_ x3 v m9 (by omega) hV hR hN); exact ⟨fun h => absurd h (by decide), fun _ => by have y := z9.2 rfl; omega⟩) (by omega) R_S151 (by omega)
        · refine zz_goto zd_14_105_127 ?_
          refine zz_istore [some (.ref 1079), some (zi x1), some (zi x2), some (zi x3), some (zi 1), some (zi x5)] zd_14_105_134 (by decide) rfl ?_
          refine zz_iconst zd_14_105_136 ?_
          refine zz_istore_n [some (.ref 1079), some (zi 1), some (zi x2), some (zi x3), some (zi 1), some (zi x5)] zd_14_105_137 (by decide) rfl ?_
          refine zz_iload (x := x5) rfl zd_14_105_138 ?_
          refine zz_iconst zd_14_105_140 ?_
          refine zz_iadd zd_14_105_141 ?_
          refine zz_istore_n [some (.ref 1079), some (zi 1), some (zi x2), some (zi (x5 + 1)), some (zi 1), some (zi x5)] zd_14_105_142 (by decide) rfl ?_
          refine zz_iinc [some (.ref 1079), some (zi 1), some (zi (x2 + 1)), some (zi (x5 + 1)), some (zi 1), some (zi x5)] zd_14_105_143 rfl rfl ?_
          refine zz_goto zd_14_105_146 ?_
          have g161 := zz_G.r G_S 1079 66 0 11 rfl rfl
          have e162 : S151 1079 66 = S 1079 66 := (zz_rc fS151 rfl rfl (fun h => h) (zz_rc fS113 rfl rfl (fun h => h) (zz_ro qS110 (fun h => absurd h.2 (by decide)) rfl)))
          have g163 := zz_G.r G_S151 1079 36 0 11 rfl rfl
          have g164 := zz_G.r G_S0 1079 28 0 1500 rfl rfl
          refine zz_less (ls1 := [some (.ref 1079), some (zi 1), some (zi (x2 + 1)), some (zi (x5 + 1)), some (zi 1)]) ⟨rfl, ⟨rfl, ⟨rfl, ⟨rfl, ⟨rfl, trivial⟩⟩⟩⟩⟩ ?_
          exact k19 1 (x2 + 1) (x5 + 1) 1 S151 G_S151 F_S151 (by omega) (by omega) (by omega) (by omega) (by omega) (zz_kp.same i67_15 (fun u => (zz_rc fS151 (zz_nc1 rfl) rfl (fun h => h) (zz_rc fS113 (zz_nc1 rfl) rfl (fun h => h) (zz_ro qS110 (fun h => absurd h.1 (by decide)) rfl))))) (by omega) (by omega) (by have hc9 : S 1079 33 = zt_U 35 (S0 1099) x5 x3 := (zt_U0 (by omega)).symm.trans i67_21; have ub := (zt_Ub (c := 10) (f := (S0 1099)) (e := S0 1079 28) (p := x3) (by omega)).1; rw [← i67_20] at ub; have m9 := o120; (try rw [show S110 1079 32 = x3 by omega] at m9); have t9 := m9.1; have kq := zt_keq hc9 ub.1 (Int.le_refl x3) (by omega); have i9 := i67_19.same (fun v h => (zn_M.fr (zn_M.fr h (zz_fr.put1 qS110) rfl rfl (fun a i h => by omega) (zz_ro qS110 (fun h => by omega) rfl)) fS113 rfl rfl (fun a i h => by first | exact h.elim | omega) (fS113 1079 36 rfl rfl (fun h => by first | exact h | omega)))) (fun k => ((fS113 1117 k (zz_nc1 rfl) rfl (fun h => by first | exact h | omega)).trans (zz_ro qS110 (fun h => by omega) rfl))); rw [show x1 = 1 by omega] at i9; have n9_ := o155; (try rw [← (funext (fun k => ((fS113 1117 k (zz_nc1 rfl) rfl (fun h => by first | exact h | omega)).trans (zz_ro qS110 (fun h => by omega) rfl))) : S113 1117 = S 1117)] at n9_); have z9 := zn_MIL i9 (by omega) (by omega) i67_20 hc9 (by omega) (fun v hV hR hN => n9_ x3 v m9 (by omega) hV hR hN); exact ⟨fun _ => z9.1 rfl, fun h => absurd h (by decide)⟩) (by omega) R_S151 (by omega)
  · refine zz_aload_n (x := 1079) rfl zd_14_105_76 ?_
    refine zz_getr (kd := 0) (z := 1099) zd_14_105_77 zf_Md_76 zT_1079 rfl (zz_ltn hn rfl) (zz_G.eq G_S 1079 27 1099 rfl rfl) (by decide) 1099 rfl ?_
    refine zz_aload_n (x := 1079) rfl zd_14_105_80 ?_
    refine zz_geti (z := S 1079 33) zd_14_105_81 zf_Md_337 zT_1079 rfl (zz_ltn hn rfl) rfl ?_
    have g165 := zz_G.r G_S0 1099 ((S 1079 33).toNat) 0 255 rfl rfl
    refine zz_iald (z := S0 1099 ((S 1079 33).toNat)) zd_14_105_84 zT_1099 rfl (zz_ltn hn rfl) (by decide) (by omega) (zz_rc F_S (zz_nc1 rfl) rfl (fun h => h) rfl) ?_
    refine zz_bipush (by decide) zd_14_105_85 ?_
    refine zz_icmp_eq (by omega) (by omega) zd_14_105_87 (fun c166 => ?_) (fun c166 => ?_)
    · refine zz_aload_n (x := 1079) rfl zd_14_105_103 ?_
      refine zz_iload_n (x := x3) rfl zd_14_105_104 ?_
      refine zz_puti zd_14_105_105 zf_Md_334 zT_1079 rfl (zz_ltn hn rfl) (fun S167 qS167 => ?_)
      have G_S167 := zz_G.put G_S qS167 0 1500 rfl (by omega)
      have F_S167 := zz_fr.puts F_S qS167 rfl
      have R_S167 : zz_Hr S167 := zz_Hr.p79 qS167 (by decide) R_S
      refine zz_aload_n (x := 1079) rfl zd_14_105_108 ?_
      have e168 : S167 1079 32 = x3 := (zz_rs qS167)
      have e169 : S167 1079 33 = S 1079 33 := (zz_ro qS167 (fun h => absurd h.2 (by decide)) rfl)
      refine zz_callVV [] zd_14_105_109 zk_Md_526 zT_1079 (zz_ltn hn rfl) rfl rfl ⟨Nat.le_of_ble_eq_true rfl, Nat.le_of_ble_eq_true rfl⟩ ⟨rfl, rfl⟩ (Nat.zero_le _) (Nat.zero_le _) (zc_advanceNet_14_93  S167 n hn G_S167 (fun u h1 h2 => ((zz_ro qS167 (fun h => absurd h.1 (by decide)) (zz_rc F_S (zz_nc1 rfl) rfl (fun h => h) rfl))).trans (hN u h1 h2))) (fun S170 hP => ?_)
      obtain ⟨G_S170, fS170, o172, o173, o174, o175, o176, o177⟩ := hP
      rw [show S167 1079 32 = x3 from (zz_rs qS167)] at o172
      rw [show S167 1099 = S0 1099 from funext (fun u => (zz_ro qS167 (fun h => absurd h.1 (by decide)) (zz_rc F_S (zz_nc1 rfl) rfl (fun h => h) rfl))), show S167 1079 33 = S 1079 33 from (zz_ro qS167 (fun h => absurd h.2 (by decide)) rfl), show S167 1079 32 = x3 from (zz_rs qS167)] at o173
      rw [show S167 1099 = S0 1099 from funext (fun u => (zz_ro qS167 (fun h => absurd h.1 (by decide)) (zz_rc F_S (zz_nc1 rfl) rfl (fun h => h) rfl))), show S167 1079 33 = S 1079 33 from (zz_ro qS167 (fun h => absurd h.2 (by decide)) rfl), show S167 1079 32 = x3 from (zz_rs qS167)] at o174
      rw [show S167 1099 = S0 1099 from funext (fun u => (zz_ro qS167 (fun h => absurd h.1 (by decide)) (zz_rc F_S (zz_nc1 rfl) rfl (fun h => h) rfl))), show S167 1079 33 = S 1079 33 from (zz_ro qS167 (fun h => absurd h.2 (by decide)) rfl), show S167 1079 32 = x3 from (zz_rs qS167)] at o175
      rw [show S167 1099 = S0 1099 from funext (fun u => (zz_ro qS167 (fun h => absurd h.1 (by decide)) (zz_rc F_S (zz_nc1 rfl) rfl (fun h => h) rfl))), show S167 1079 33 = S 1079 33 from (zz_ro qS167 (fun h => absurd h.2 (by decide)) rfl), show S167 1079 32 = x3 from (zz_rs qS167)] at o176
      rw [show S167 1099 = S0 1099 from funext (fun u => (zz_ro qS167 (fun h => absurd h.1 (by decide)) (zz_rc F_S (zz_nc1 rfl) rfl (fun h => h) rfl))), show S167 1079 33 = S 1079 33 from (zz_ro qS167 (fun h => absurd h.2 (by decide)) rfl), show S167 1079 32 = x3 from (zz_rs qS167)] at o177
      have F_S170 := zz_fr.trans F_S167 fS170 rfl zz_nv
      have R_S170 : zz_Hr S170 := zz_Hr.fr fS170 rfl rfl (fun b j h => h.elim) R_S167
      refine zz_aload_n (x := 1079) rfl zd_14_105_112 ?_
      have g178 := zz_G.r G_S170 1079 30 0 102 rfl rfl
      refine zz_geti (z := S170 1079 30) zd_14_105_113 zf_Md_347 zT_1079 rfl (zz_ltn hn rfl) rfl ?_
      refine zz_if_eq (by omega) zd_14_105_116 (fun c179 => ?_) (fun c179 => ?_)
      · refine zz_iload (x := x5) rfl zd_14_105_138 ?_
        refine zz_iconst zd_14_105_140 ?_
        refine zz_iadd zd_14_105_141 ?_
        refine zz_istore_n [some (.ref 1079), some (zi x1), some (zi x2), some (zi (x5 + 1)), some (zi x4), some (zi x5)] zd_14_105_142 (by decide) rfl ?_
        refine zz_iinc [some (.ref 1079), some (zi x1), some (zi (x2 + 1)), some (zi (x5 + 1)), some (zi x4), some (zi x5)] zd_14_105_143 rfl rfl ?_
        refine zz_goto zd_14_105_146 ?_
        have g180 := zz_G.r G_S 1079 66 0 11 rfl rfl
        have e181 : S170 1079 66 = S 1079 66 := (zz_rc fS170 rfl rfl (fun h => h) (zz_ro qS167 (fun h => absurd h.2 (by decide)) rfl))
        have g182 := zz_G.r G_S 1079 36 0 11 rfl rfl
        have e183 : S170 1079 36 = S 1079 36 := (zz_rc fS170 rfl rfl (fun h => h) (zz_ro qS167 (fun h => absurd h.2 (by decide)) rfl))
        have g184 := zz_G.r G_S0 1079 28 0 1500 rfl rfl
        refine zz_less (ls1 := [some (.ref 1079), some (zi x1), some (zi (x2 + 1)), some (zi (x5 + 1)), some (zi x4)]) ⟨rfl, ⟨rfl, ⟨rfl, ⟨rfl, ⟨rfl, trivial⟩⟩⟩⟩⟩ ?_
        exact k19 x1 (x2 + 1) (x5 + 1) x4 S170 G_S170 F_S170 (by omega) (by omega) (by omega) (by omega) (by omega) (zz_kp.same i67_15 (fun u => (zz_rc fS170 (zz_nc1 rfl) rfl (fun h => h) (zz_ro qS167 (fun h => absurd h.1 (by decide)) rfl)))) (by omega) (by omega) (by have hc9 : S 1079 33 = zt_U 35 (S0 1099) x5 x3 := (zt_U0 (by omega)).symm.trans i67_21; have ub := (zt_Ub (c := 10) (f := (S0 1099)) (e := S0 1079 28) (p := x3) (by omega)).1; rw [← i67_20] at ub; have m9 := o177; (try rw [show S167 1079 32 = x3 by omega] at m9); have t9 := m9.1; have kq := zt_keq hc9 ub.1 (Int.le_refl x3) (by omega); have i9 := i67_19.same (fun v h => (zn_M.fr (zn_M.fr h (zz_fr.put1 qS167) rfl rfl (fun a i h => by omega) (zz_ro qS167 (fun h => by omega) rfl)) fS170 rfl rfl (fun a i h => by first | exact h.elim | omega) (fS170 1079 36 rfl rfl (fun h => by first | exact h | omega)))) (fun k => ((fS170 1117 k (zz_nc1 rfl) rfl (fun h => by first | exact h | omega)).trans (zz_ro qS167 (fun h => by omega) rfl))); exact ⟨fun _ => zn_MIB i9 (by omega) (by omega) i67_20 (by omega), fun h => by omega⟩) (by omega) R_S170 (by omega)
      · refine zz_iload_n (x := x1) rfl zd_14_105_119 ?_
        refine zz_if_eq (by omega) zd_14_105_120 (fun c185 => ?_) (fun c185 => ?_)
        · refine zz_aload_n (x := 1079) rfl zd_14_105_130 ?_
          have g186 := zz_G.r G_S170 1079 31 0 9999 rfl rfl
          have g187 := zz_G.r G_S170 1079 32 0 1500 rfl rfl
          have e188 : S170 1079 33 = S 1079 33 := (zz_rc fS170 rfl rfl (fun h => h) (zz_ro qS167 (fun h => absurd h.2 (by decide)) rfl))
          refine zz_callVI [] zd_14_105_131 zk_Md_601 zT_1079 (zz_ltn hn rfl) rfl rfl ⟨Nat.le_of_ble_eq_true rfl, Nat.le_of_ble_eq_true rfl⟩ ⟨rfl, rfl⟩ (Nat.zero_le _) (Nat.zero_le _) (zc_readInput_14_103  S170 n hn G_S170 R_S170 (fun u h1 h2 => ((zz_rc fS170 (zz_nc1 rfl) rfl (fun h => h) (zz_ro qS167 (fun h => absurd h.1 (by decide)) (zz_rc F_S (zz_nc1 rfl) rfl (fun h => h) rfl)))).trans (hN u h1 h2))) (fun v190 S189 hP => ?_)
          obtain ⟨G_S189, fS189, o191, o192, o193, o194⟩ := hP
          rw [show S170 1099 = S0 1099 from funext (fun u => (zz_rc fS170 (zz_nc1 rfl) rfl (fun h => h) (zz_ro qS167 (fun h => absurd h.1 (by decide)) (zz_rc F_S (zz_nc1 rfl) rfl (fun h => h) rfl)))), show S170 1079 33 = S 1079 33 from (zz_rc fS170 rfl rfl (fun h => h) (zz_ro qS167 (fun h => absurd h.2 (by decide)) rfl))] at o193
          have F_S189 := zz_fr.trans F_S170 fS189 rfl zz_nv
          have R_S189 : zz_Hr S189 := o194
          rcases (by omega : v190 = 0 ∨ v190 = 1) with rfl | rfl
          · refine zz_istore [some (.ref 1079), some (zi x1), some (zi x2), some (zi x3), some (zi 0), some (zi x5)] zd_14_105_134 (by decide) rfl ?_
            refine zz_iconst zd_14_105_136 ?_
            refine zz_istore_n [some (.ref 1079), some (zi 1), some (zi x2), some (zi x3), some (zi 0), some (zi x5)] zd_14_105_137 (by decide) rfl ?_
            refine zz_iload (x := x5) rfl zd_14_105_138 ?_
            refine zz_iconst zd_14_105_140 ?_
            refine zz_iadd zd_14_105_141 ?_
            refine zz_istore_n [some (.ref 1079), some (zi 1), some (zi x2), some (zi (x5 + 1)), some (zi 0), some (zi x5)] zd_14_105_142 (by decide) rfl ?_
            refine zz_iinc [some (.ref 1079), some (zi 1), some (zi (x2 + 1)), some (zi (x5 + 1)), some (zi 0), some (zi x5)] zd_14_105_143 rfl rfl ?_
            refine zz_goto zd_14_105_146 ?_
            have g195 := zz_G.r G_S 1079 66 0 11 rfl rfl
            have e196 : S189 1079 66 = S 1079 66 := (zz_rc fS189 rfl rfl (fun h => h) (zz_rc fS170 rfl rfl (fun h => h) (zz_ro qS167 (fun h => absurd h.2 (by decide)) rfl)))
            have g197 := zz_G.r G_S189 1079 36 0 11 rfl rfl
            have g198 := zz_G.r G_S0 1079 28 0 1500 rfl rfl
            refine zz_less (ls1 := [some (.ref 1079), some (zi 1), some (zi (x2 + 1)), some (zi (x5 + 1)), some (zi 0)]) ⟨rfl, ⟨rfl, ⟨rfl, ⟨rfl, ⟨rfl, trivial⟩⟩⟩⟩⟩ ?_
            exact k19 1 (x2 + 1) (x5 + 1) 0 S189 G_S189 F_S189 (by omega) (by omega) (by omega) (by omega) (by omega) (zz_kp.same i67_15 (fun u => (zz_rc fS189 (zz_nc1 rfl) rfl (fun h => h) (zz_rc fS170 (zz_nc1 rfl) rfl (fun h => h) (zz_ro qS167 (fun h => absurd h.1 (by decide)) rfl))))) (by omega) (by omega) (by have hc9 : S 1079 33 = zt_U 35 (S0 1099) x5 x3 := (zt_U0 (by omega)).symm.trans i67_21; have ub := (zt_Ub (c := 10) (f := (S0 1099)) (e := S0 1079 28) (p := x3) (by omega)).1; rw [← i67_20] at ub; have m9 := o177; (try rw [show S167 1079 32 = x3 by omega] at m9); have t9 := m9.1; have kq := zt_keq hc9 ub.1 (Int.le_refl x3) (by omega); have i9 := i67_19.same (fun v h => (zn_M.fr (zn_M.fr h (zz_fr.put1 qS167) rfl rfl (fun a i h => by omega) (zz_ro qS167 (fun h => by omega) rfl)) fS170 rfl rfl (fun a i h => by first | exact h.elim | omega) (fS170 1079 36 rfl rfl (fun h => by first | exact h | omega)))) (fun k => ((fS170 1117 k (zz_nc1 rfl) rfl (fun h => by first | exact h | omega)).trans (zz_ro qS167 (fun h => by omega) rfl))); rw [show x1 = 0 by omega] at i9; have z9 := zn_MII i9 (by omega) (by omega) i67_20 hc9 (by omega) (o193 x3 m9 (by omega)); exact ⟨fun h => absurd h (by decide), fun _ => by have y := z9.2 rfl; omega⟩) (by omega) R_S189 (by omega)
          · refine zz_istore [some (.ref 1079), some (zi x1), some (zi x2), some (zi x3), some (zi 1), some (zi x5)] zd_14_105_134 (by decide) rfl ?_
            refine zz_iconst zd_14_105_136 ?_
            refine zz_istore_n [some (.ref 1079), some (zi 1), some (zi x2), some (zi x3), some (zi 1), some (zi x5)] zd_14_105_137 (by decide) rfl ?_
            refine zz_iload (x := x5) rfl zd_14_105_138 ?_
            refine zz_iconst zd_14_105_140 ?_
            refine zz_iadd zd_14_105_141 ?_
            refine zz_istore_n [some (.ref 1079), some (zi 1), some (zi x2), some (zi (x5 + 1)), some (zi 1), some (zi x5)] zd_14_105_142 (by decide) rfl ?_
            refine zz_iinc [some (.ref 1079), some (zi 1), some (zi (x2 + 1)), some (zi (x5 + 1)), some (zi 1), some (zi x5)] zd_14_105_143 rfl rfl ?_
            refine zz_goto zd_14_105_146 ?_
            have g199 := zz_G.r G_S 1079 66 0 11 rfl rfl
            have e200 : S189 1079 66 = S 1079 66 := (zz_rc fS189 rfl rfl (fun h => h) (zz_rc fS170 rfl rfl (fun h => h) (zz_ro qS167 (fun h => absurd h.2 (by decide)) rfl)))
            have g201 := zz_G.r G_S189 1079 36 0 11 rfl rfl
            have g202 := zz_G.r G_S0 1079 28 0 1500 rfl rfl
            refine zz_less (ls1 := [some (.ref 1079), some (zi 1), some (zi (x2 + 1)), some (zi (x5 + 1)), some (zi 1)]) ⟨rfl, ⟨rfl, ⟨rfl, ⟨rfl, ⟨rfl, trivial⟩⟩⟩⟩⟩ ?_
            exact k19 1 (x2 + 1) (x5 + 1) 1 S189 G_S189 F_S189 (by omega) (by omega) (by omega) (by omega) (by omega) (zz_kp.same i67_15 (fun u => (zz_rc fS189 (zz_nc1 rfl) rfl (fun h => h) (zz_rc fS170 (zz_nc1 rfl) rfl (fun h => h) (zz_ro qS167 (fun h => absurd h.1 (by decide)) rfl))))) (by omega) (by omega) (by have hc9 : S 1079 33 = zt_U 35 (S0 1099) x5 x3 := (zt_U0 (by omega)).symm.trans i67_21; have ub := (zt_Ub (c := 10) (f := (S0 1099)) (e := S0 1079 28) (p := x3) (by omega)).1; rw [← i67_20] at ub; have m9 := o177; (try rw [show S167 1079 32 = x3 by omega] at m9); have t9 := m9.1; have kq := zt_keq hc9 ub.1 (Int.le_refl x3) (by omega); have i9 := i67_19.same (fun v h => (zn_M.fr (zn_M.fr h (zz_fr.put1 qS167) rfl rfl (fun a i h => by omega) (zz_ro qS167 (fun h => by omega) rfl)) fS170 rfl rfl (fun a i h => by first | exact h.elim | omega) (fS170 1079 36 rfl rfl (fun h => by first | exact h | omega)))) (fun k => ((fS170 1117 k (zz_nc1 rfl) rfl (fun h => by first | exact h | omega)).trans (zz_ro qS167 (fun h => by omega) rfl))); rw [show x1 = 0 by omega] at i9; have z9 := zn_MII i9 (by omega) (by omega) i67_20 hc9 (by omega) (o193 x3 m9 (by omega)); exact ⟨fun _ => z9.1 rfl, fun h => absurd h (by decide)⟩) (by omega) R_S189 (by omega)
        · refine zz_aload_n (x := 1079) rfl zd_14_105_123 ?_
          have g203 := zz_G.r G_S 1079 36 0 11 rfl rfl
          have e204 : S170 1079 36 = S 1079 36 := (zz_rc fS170 rfl rfl (fun h => h) (zz_ro qS167 (fun h => absurd h.2 (by decide)) rfl))
          have g205 := zz_G.r G_S170 1079 31 0 9999 rfl rfl
          have g206 := zz_G.r G_S170 1079 32 0 1500 rfl rfl
          have e207 : S170 1079 33 = S 1079 33 := (zz_rc fS170 rfl rfl (fun h => h) (zz_ro qS167 (fun h => absurd h.2 (by decide)) rfl))
          refine zz_callVI [] zd_14_105_124 zk_Md_598 zT_1079 (zz_ltn hn rfl) rfl rfl ⟨Nat.le_of_ble_eq_true rfl, Nat.le_of_ble_eq_true rfl⟩ ⟨rfl, rfl⟩ (Nat.zero_le _) (Nat.zero_le _) (zc_readLayer_14_104  S170 n hn G_S170 R_S170 (fun u h1 h2 => ((zz_rc fS170 (zz_nc1 rfl) rfl (fun h => h) (zz_ro qS167 (fun h => absurd h.1 (by decide)) (zz_rc F_S (zz_nc1 rfl) rfl (fun h => h) rfl)))).trans (hN u h1 h2))) (fun v209 S208 hP => ?_)
          obtain ⟨G_S208, fS208, o210, o211, o212, o213⟩ := hP
          rw [show S170 1079 36 = S 1079 36 from (zz_rc fS170 rfl rfl (fun h => h) (zz_ro qS167 (fun h => absurd h.2 (by decide)) rfl))] at o211
          rw [show S170 1099 = S0 1099 from funext (fun u => (zz_rc fS170 (zz_nc1 rfl) rfl (fun h => h) (zz_ro qS167 (fun h => absurd h.1 (by decide)) (zz_rc F_S (zz_nc1 rfl) rfl (fun h => h) rfl)))), show S170 1117 = S 1117 from funext (fun u => (zz_rc fS170 (zz_nc1 rfl) rfl (fun h => h) (zz_ro qS167 (fun h => absurd h.1 (by decide)) rfl))), show S170 1079 33 = S 1079 33 from (zz_rc fS170 rfl rfl (fun h => h) (zz_ro qS167 (fun h => absurd h.2 (by decide)) rfl))] at o212
          have F_S208 := zz_fr.trans F_S170 fS208 rfl zz_nv
          have R_S208 : zz_Hr S208 := o213
          rcases (by omega : v209 = 0 ∨ v209 = 1) with rfl | rfl
          · refine zz_goto zd_14_105_127 ?_
            refine zz_istore [some (.ref 1079), some (zi x1), some (zi x2), some (zi x3), some (zi 0), some (zi x5)] zd_14_105_134 (by decide) rfl ?_
            refine zz_iconst zd_14_105_136 ?_
            refine zz_istore_n [some (.ref 1079), some (zi 1), some (zi x2), some (zi x3), some (zi 0), some (zi x5)] zd_14_105_137 (by decide) rfl ?_
            refine zz_iload (x := x5) rfl zd_14_105_138 ?_
            refine zz_iconst zd_14_105_140 ?_
            refine zz_iadd zd_14_105_141 ?_
            refine zz_istore_n [some (.ref 1079), some (zi 1), some (zi x2), some (zi (x5 + 1)), some (zi 0), some (zi x5)] zd_14_105_142 (by decide) rfl ?_
            refine zz_iinc [some (.ref 1079), some (zi 1), some (zi (x2 + 1)), some (zi (x5 + 1)), some (zi 0), some (zi x5)] zd_14_105_143 rfl rfl ?_
            refine zz_goto zd_14_105_146 ?_
            have g214 := zz_G.r G_S 1079 66 0 11 rfl rfl
            have e215 : S208 1079 66 = S 1079 66 := (zz_rc fS208 rfl rfl (fun h => h) (zz_rc fS170 rfl rfl (fun h => h) (zz_ro qS167 (fun h => absurd h.2 (by decide)) rfl)))
            have g216 := zz_G.r G_S208 1079 36 0 11 rfl rfl
            have g217 := zz_G.r G_S0 1079 28 0 1500 rfl rfl
            refine zz_less (ls1 := [some (.ref 1079), some (zi 1), some (zi (x2 + 1)), some (zi (x5 + 1)), some (zi 0)]) ⟨rfl, ⟨rfl, ⟨rfl, ⟨rfl, ⟨rfl, trivial⟩⟩⟩⟩⟩ ?_
            exact k19 1 (x2 + 1) (x5 + 1) 0 S208 G_S208 F_S208 (by omega) (by omega) (by omega) (by omega) (by omega) (zz_kp.same i67_15 (fun u => (zz_rc fS208 (zz_nc1 rfl) rfl (fun h => h) (zz_rc fS170 (zz_nc1 rfl) rfl (fun h => h) (zz_ro qS167 (fun h => absurd h.1 (by decide)) rfl))))) (by omega) (by omega) (by have hc9 : S 1079 33 = zt_U 35 (S0 1099) x5 x3 := (zt_U0 (by omega)).symm.trans i67_21; have ub := (zt_Ub (c := 10) (f := (S0 1099)) (e := S0 1079 28) (p := x3) (by omega)).1; rw [← i67_20] at ub; have m9 := o177; (try rw [show S167 1079 32 = x3 by omega] at m9); have t9 := m9.1; have kq := zt_keq hc9 ub.1 (Int.le_refl x3) (by omega); have i9 := i67_19.same (fun v h => (zn_M.fr (zn_M.fr h (zz_fr.put1 qS167) rfl rfl (fun a i h => by omega) (zz_ro qS167 (fun h => by omega) rfl)) fS170 rfl rfl (fun a i h => by first | exact h.elim | omega) (fS170 1079 36 rfl rfl (fun h => by first | exact h | omega)))) (fun k => ((fS170 1117 k (zz_nc1 rfl) rfl (fun h => by first | exact h | omega)).trans (zz_ro qS167 (fun h => by omega) rfl))); rw [show x1 = 1 by omega] at i9; have n9_ := o212; (try rw [← (funext (fun k => ((fS170 1117 k (zz_nc1 rfl) rfl (fun h => by first | exact h | omega)).trans (zz_ro qS167 (fun h => by omega) rfl))) : S170 1117 = S 1117)] at n9_); have z9 := zn_MIL i9 (by omega) (by omega) i67_20 hc9 (by omega) (fun v hV hR hN => n9_ x3 v m9 (by omega) hV hR hN); exact ⟨fun h => absurd h (by decide), fun _ => by have y := z9.2 rfl; omega⟩) (by omega) R_S208 (by omega)
          · refine zz_goto zd_14_105_127 ?_
            refine zz_istore [some (.ref 1079), some (zi x1), some (zi x2), some (zi x3), some (zi 1), some (zi x5)] zd_14_105_134 (by decide) rfl ?_
            refine zz_iconst zd_14_105_136 ?_
            refine zz_istore_n [some (.ref 1079), some (zi 1), some (zi x2), some (zi x3), some (zi 1), some (zi x5)] zd_14_105_137 (by decide) rfl ?_
            refine zz_iload (x := x5) rfl zd_14_105_138 ?_
            refine zz_iconst zd_14_105_140 ?_
            refine zz_iadd zd_14_105_141 ?_
            refine zz_istore_n [some (.ref 1079), some (zi 1), some (zi x2), some (zi (x5 + 1)), some (zi 1), some (zi x5)] zd_14_105_142 (by decide) rfl ?_
            refine zz_iinc [some (.ref 1079), some (zi 1), some (zi (x2 + 1)), some (zi (x5 + 1)), some (zi 1), some (zi x5)] zd_14_105_143 rfl rfl ?_
            refine zz_goto zd_14_105_146 ?_
            have g218 := zz_G.r G_S 1079 66 0 11 rfl rfl
            have e219 : S208 1079 66 = S 1079 66 := (zz_rc fS208 rfl rfl (fun h => h) (zz_rc fS170 rfl rfl (fun h => h) (zz_ro qS167 (fun h => absurd h.2 (by decide)) rfl)))
            have g220 := zz_G.r G_S208 1079 36 0 11 rfl rfl
            have g221 := zz_G.r G_S0 1079 28 0 1500 rfl rfl
            refine zz_less (ls1 := [some (.ref 1079), some (zi 1), some (zi (x2 + 1)), some (zi (x5 + 1)), some (zi 1)]) ⟨rfl, ⟨rfl, ⟨rfl, ⟨rfl, ⟨rfl, trivial⟩⟩⟩⟩⟩ ?_
            exact k19 1 (x2 + 1) (x5 + 1) 1 S208 G_S208 F_S208 (by omega) (by omega) (by omega) (by omega) (by omega) (zz_kp.same i67_15 (fun u => (zz_rc fS208 (zz_nc1 rfl) rfl (fun h => h) (zz_rc fS170 (zz_nc1 rfl) rfl (fun h => h) (zz_ro qS167 (fun h => absurd h.1 (by decide)) rfl))))) (by omega) (by omega) (by have hc9 : S 1079 33 = zt_U 35 (S0 1099) x5 x3 := (zt_U0 (by omega)).symm.trans i67_21; have ub := (zt_Ub (c := 10) (f := (S0 1099)) (e := S0 1079 28) (p := x3) (by omega)).1; rw [← i67_20] at ub; have m9 := o177; (try rw [show S167 1079 32 = x3 by omega] at m9); have t9 := m9.1; have kq := zt_keq hc9 ub.1 (Int.le_refl x3) (by omega); have i9 := i67_19.same (fun v h => (zn_M.fr (zn_M.fr h (zz_fr.put1 qS167) rfl rfl (fun a i h => by omega) (zz_ro qS167 (fun h => by omega) rfl)) fS170 rfl rfl (fun a i h => by first | exact h.elim | omega) (fS170 1079 36 rfl rfl (fun h => by first | exact h | omega)))) (fun k => ((fS170 1117 k (zz_nc1 rfl) rfl (fun h => by first | exact h | omega)).trans (zz_ro qS167 (fun h => by omega) rfl))); rw [show x1 = 1 by omega] at i9; have n9_ := o212; (try rw [← (funext (fun k => ((fS170 1117 k (zz_nc1 rfl) rfl (fun h => by first | exact h | omega)).trans (zz_ro qS167 (fun h => by omega) rfl))) : S170 1117 = S 1117)] at n9_); have z9 := zn_MIL i9 (by omega) (by omega) i67_20 hc9 (by omega) (fun v hV hR hN => n9_ x3 v m9 (by omega) hV hR hN); exact ⟨fun _ => z9.1 rfl, fun h => absurd h (by decide)⟩) (by omega) R_S208 (by omega)
    · refine zz_aload_n (x := 1079) rfl zd_14_105_90 ?_
      refine zz_dup rfl zd_14_105_91 ?_
      refine zz_geti (z := S 1079 33) zd_14_105_92 zf_Md_337 zT_1079 rfl (zz_ltn hn rfl) rfl ?_
      refine zz_iconst zd_14_105_95 ?_
      refine zz_iadd zd_14_105_96 ?_
      refine zz_puti zd_14_105_97 zf_Md_337 zT_1079 rfl (zz_ltn hn rfl) (fun S222 qS222 => ?_)
      have G_S222 := zz_G.put G_S qS222 0 1500 rfl (by omega)
      have F_S222 := zz_fr.puts F_S qS222 rfl
      have R_S222 : zz_Hr S222 := zz_Hr.p79 qS222 (by decide) R_S
      refine zz_goto zd_14_105_100 ?_
      have g223 := zz_G.r G_S 1079 66 0 11 rfl rfl
      have e224 : S222 1079 66 = S 1079 66 := (zz_ro qS222 (fun h => absurd h.2 (by decide)) rfl)
      have g225 := zz_G.r G_S 1079 36 0 11 rfl rfl
      have e226 : S222 1079 36 = S 1079 36 := (zz_ro qS222 (fun h => absurd h.2 (by decide)) rfl)
      have e227 : S222 1079 33 = (S 1079 33) + 1 := (zz_rs qS222)
      have g228 := zz_G.r G_S0 1079 28 0 1500 rfl rfl
      exact k67 x1 x2 x3 x4 x5 S222 G_S222 F_S222 (by omega) (by omega) (by omega) (by omega) (by omega) (by omega) (by omega) (by omega) (by omega) (by omega) (by omega) (by omega) (by omega) (by omega) (by omega) (zz_kp.same i67_15 (fun u => (zz_ro qS222 (fun h => absurd h.1 (by decide)) rfl))) (by omega) (by omega) (by omega) (i67_19.same (fun v h => (zn_M.fr h (zz_fr.put1 qS222) rfl rfl (fun a i h => by omega) (zz_ro qS222 (fun h => by omega) rfl))) (fun k => (zz_ro qS222 (fun h => by omega) rfl))) i67_20 (by rw [show S222 1079 33 = S 1079 33 + 1 by omega, zt_US (by omega) (by omega)]; exact i67_21) (by omega) R_S222 (by omega)
theorem zi_network_14_105 {g : mm_G} {l : Launch}  (S0 : zz_S) (n : Nat) (hn : zz_end ≤ n) (G_S0 : zz_G S0) (R_S0 : zz_Hr S0) (h1 : 1 ≤ S0 1079 36) (hN : ∀ w : Nat, 1 ≤ w → w ≤ 20 → S0 1100 w = zt_cd (zt_nw.getD w [])) : ∀ N : Nat, (∀ (x1 : Int) (x2 : Int) (x3 : Int) (x4 : Int) (S : zz_S), zz_G S → zz_fr [(1079, 0), (1079, 30), (1079, 31), (1079, 32), (1079, 33), (1079, 36), (1079, 61), (1079, 64), (1079, 65), (1079, 66), (1102, 0), (1103, 0), (1104, 0), (1105, 0), (1105, 1), (1117, 0), (1118, 7)] [1102, 1103, 1104, 1105, 1106, 1107, 1108, 1109, 1110, 1111, 1112, 1113, 1114, 1117, 1118, 1119] (fun _ _ => False) S0 S → (0 ≤ x1 ∧ x1 ≤ 1) → (0 ≤ x2 ∧ x2 ≤ 1501) → (0 ≤ x3 ∧ x3 ≤ 1501) → (0 ≤ x4 ∧ x4 ≤ 1) → (x2 ≤ x3) → (zz_kp S0 S) → (S 1079 66 = S0 1079 36) → (x1 = 1 → x4 = 1 → 1 ≤ S 1079 36) → ((x4 = 1 → zn_MI (S0 1099) (S0 1079 28) x1 x2 x3 (S 1117) S (zn_nt (S0 1099) (S0 1079 28) 1502 0 0 0 zn_v0)) ∧ (x4 = 0 → (zn_nt (S0 1099) (S0 1079 28) 1502 0 0 0 zn_v0).1 = x2 - 1)) → (x4 = 1 ∨ 1 ≤ x2) → (zz_Hr S) → (51539607552 + (S0 1079 28 + 1 - x3).toNat) * 1099511627776 + 1099511627775 < N → zz_E g l zy_network_14_105 zr_network_14_105 (zz_QI n (zp_network_14_105  S0)) S n 19 [some (.ref 1079), some (zi x1), some (zi x2), some (zi x3), some (zi x4)] [] 0 0) ∧ (∀ (x1 : Int) (x2 : Int) (x3 : Int) (x4 : Int) (x5 : Int) (S : zz_S), zz_G S → zz_fr [(1079, 0), (1079, 30), (1079, 31), (1079, 32), (1079, 33), (1079, 36), (1079, 61), (1079, 64), (1079, 65), (1079, 66), (1102, 0), (1103, 0), (1104, 0), (1105, 0), (1105, 1), (1117, 0), (1118, 7)] [1102, 1103, 1104, 1105, 1106, 1107, 1108, 1109, 1110, 1111, 1112, 1113, 1114, 1117, 1118, 1119] (fun _ _ => False) S0 S → (0 ≤ x1 ∧ x1 ≤ 1) → (0 ≤ x2 ∧ x2 ≤ 1501) → (0 ≤ x3 ∧ x3 ≤ 1500) → (0 ≤ x4 ∧ x4 ≤ 1) → (0 ≤ x5 ∧ x5 ≤ 1500) → (0 ≤ x3 ∧ x3 ≤ 1501) → (x2 ≤ x3) → (x4 = 1 ∨ 1 ≤ x2) → (x4 ≠ 0) → (x2 ≤ x3) → (x3 ≤ x5) → (x5 ≤ S0 1079 28) → (zz_kp S0 S) → (S 1079 66 = S0 1079 36) → (x1 = 1 → 1 ≤ S 1079 36) → (x4 = 1) → (zn_MI (S0 1099) (S0 1079 28) x1 x2 x3 (S 1117) S (zn_nt (S0 1099) (S0 1079 28) 1502 0 0 0 zn_v0)) → (zt_U 10 (S0 1099) (S0 1079 28) x5 = zt_U 10 (S0 1099) (S0 1079 28) x3) → (zz_Hr S) → (51539607552 + (S0 1079 28 + 1 - x3).toNat) * 1099511627776 + (34359738368 + (S0 1079 28 - x5).toNat) < N → zz_E g l zy_network_14_105 zr_network_14_105 (zz_QI n (zp_network_14_105  S0)) S n 35 [some (.ref 1079), some (zi x1), some (zi x2), some (zi x3), some (zi x4), some (zi x5)] [] 0 0) ∧ (∀ (x1 : Int) (x2 : Int) (x3 : Int) (x4 : Int) (x5 : Int) (S : zz_S), zz_G S → zz_fr [(1079, 0), (1079, 30), (1079, 31), (1079, 32), (1079, 33), (1079, 36), (1079, 61), (1079, 64), (1079, 65), (1079, 66), (1102, 0), (1103, 0), (1104, 0), (1105, 0), (1105, 1), (1117, 0), (1118, 7)] [1102, 1103, 1104, 1105, 1106, 1107, 1108, 1109, 1110, 1111, 1112, 1113, 1114, 1117, 1118, 1119] (fun _ _ => False) S0 S → (0 ≤ x1 ∧ x1 ≤ 1) → (0 ≤ x2 ∧ x2 ≤ 1501) → (0 ≤ x3 ∧ x3 ≤ 1500) → (0 ≤ x4 ∧ x4 ≤ 1) → (0 ≤ x5 ∧ x5 ≤ 1500) → (0 ≤ x3 ∧ x3 ≤ 1501) → (x2 ≤ x3) → (x3 ≤ x5) → (x4 = 1) → (x4 = 1 ∨ 1 ≤ x2) → (x4 ≠ 0) → (x5 ≤ S0 1079 28) → (x2 ≤ x3) → (x3 ≤ x5) → (x5 ≤ S0 1079 28) → (zz_kp S0 S) → (S 1079 66 = S0 1079 36) → (x1 = 1 → 1 ≤ S 1079 36) → (x4 = 1) → (zn_MI (S0 1099) (S0 1079 28) x1 x2 x3 (S 1117) S (zn_nt (S0 1099) (S0 1079 28) 1502 0 0 0 zn_v0)) → (x5 = zt_U 10 (S0 1099) (S0 1079 28) x3) → (zt_U 35 (S0 1099) x5 (S 1079 33) = zt_U 35 (S0 1099) x5 x3) → (x3 ≤ S 1079 33 ∧ S 1079 33 ≤ x5) → (zz_Hr S) → (51539607552 + (S0 1079 28 + 1 - x3).toNat) * 1099511627776 + (17179869184 + (x5 - S 1079 33).toNat) < N → zz_E g l zy_network_14_105 zr_network_14_105 (zz_QI n (zp_network_14_105  S0)) S n 67 [some (.ref 1079), some (zi x1), some (zi x2), some (zi x3), some (zi x4), some (zi x5)] [] 0 0) := by
  intro N
  induction N with
  | zero => exact ⟨fun x1 x2 x3 x4 S _ _ _ _ _ _ _ _ _ _ _ _ _ h => absurd h (Nat.not_lt_zero _), fun x1 x2 x3 x4 x5 S _ _ _ _ _ _ _ _ _ _ _ _ _ _ _ _ _ _ _ _ _ h => absurd h (Nat.not_lt_zero _), fun x1 x2 x3 x4 x5 S _ _ _ _ _ _ _ _ _ _ _ _ _ _ _ _ _ _ _ _ _ _ _ _ _ _ h => absurd h (Nat.not_lt_zero _)⟩
  | succ N ih =>
    exact ⟨fun x1 x2 x3 x4 S a b j0 j1 j2 j3 j4 j5 j6 j7 j8 j9 j10 hR => zb_network_14_105_19  S0 n hn G_S0 R_S0 h1 hN x1 x2 x3 x4 S a b j0 j1 j2 j3 j4 j5 j6 j7 j8 j9 j10 _ rfl (fun x1 x2 x3 x4 x5 S a b j0 j1 j2 j3 j4 j5 j6 j7 j8 j9 j10 j11 j12 j13 j14 j15 j16 j17 j18 h => ih.2.1 x1 x2 x3 x4 x5 S a b j0 j1 j2 j3 j4 j5 j6 j7 j8 j9 j10 j11 j12 j13 j14 j15 j16 j17 j18 (Nat.lt_of_lt_of_le h (Nat.le_of_lt_succ hR))),
      fun x1 x2 x3 x4 x5 S a b j0 j1 j2 j3 j4 j5 j6 j7 j8 j9 j10 j11 j12 j13 j14 j15 j16 j17 j18 hR => zb_network_14_105_35  S0 n hn G_S0 R_S0 h1 hN x1 x2 x3 x4 x5 S a b j0 j1 j2 j3 j4 j5 j6 j7 j8 j9 j10 j11 j12 j13 j14 j15 j16 j17 j18 _ rfl (fun x1 x2 x3 x4 x5 S a b j0 j1 j2 j3 j4 j5 j6 j7 j8 j9 j10 j11 j12 j13 j14 j15 j16 j17 j18 h => ih.2.1 x1 x2 x3 x4 x5 S a b j0 j1 j2 j3 j4 j5 j6 j7 j8 j9 j10 j11 j12 j13 j14 j15 j16 j17 j18 (Nat.lt_of_lt_of_le h (Nat.le_of_lt_succ hR))) (fun x1 x2 x3 x4 x5 S a b j0 j1 j2 j3 j4 j5 j6 j7 j8 j9 j10 j11 j12 j13 j14 j15 j16 j17 j18 j19 j20 j21 j22 j23 h => ih.2.2 x1 x2 x3 x4 x5 S a b j0 j1 j2 j3 j4 j5 j6 j7 j8 j9 j10 j11 j12 j13 j14 j15 j16 j17 j18 j19 j20 j21 j22 j23 (Nat.lt_of_lt_of_le h (Nat.le_of_lt_succ hR))),
      fun x1 x2 x3 x4 x5 S a b j0 j1 j2 j3 j4 j5 j6 j7 j8 j9 j10 j11 j12 j13 j14 j15 j16 j17 j18 j19 j20 j21 j22 j23 hR => zb_network_14_105_67  S0 n hn G_S0 R_S0 h1 hN x1 x2 x3 x4 x5 S a b j0 j1 j2 j3 j4 j5 j6 j7 j8 j9 j10 j11 j12 j13 j14 j15 j16 j17 j18 j19 j20 j21 j22 j23 _ rfl (fun x1 x2 x3 x4 S a b j0 j1 j2 j3 j4 j5 j6 j7 j8 j9 j10 h => ih.1 x1 x2 x3 x4 S a b j0 j1 j2 j3 j4 j5 j6 j7 j8 j9 j10 (Nat.lt_of_lt_of_le h (Nat.le_of_lt_succ hR))) (fun x1 x2 x3 x4 x5 S a b j0 j1 j2 j3 j4 j5 j6 j7 j8 j9 j10 j11 j12 j13 j14 j15 j16 j17 j18 j19 j20 j21 j22 j23 h => ih.2.2 x1 x2 x3 x4 x5 S a b j0 j1 j2 j3 j4 j5 j6 j7 j8 j9 j10 j11 j12 j13 j14 j15 j16 j17 j18 j19 j20 j21 j22 j23 (Nat.lt_of_lt_of_le h (Nat.le_of_lt_succ hR)))⟩
set_option maxHeartbeats 8000000 in
theorem zc_network_14_105 {g : mm_G} {l : Launch}  (S0 : zz_S) (n : Nat) (hn : zz_end ≤ n) (G_S0 : zz_G S0) (R_S0 : zz_Hr S0) (h1 : 1 ≤ S0 1079 36) (hN : ∀ w : Nat, 1 ≤ w → w ≤ 20 → S0 1100 w = zt_cd (zt_nw.getD w [])) : mm_Met g l zy_network_14_105 zr_network_14_105 [.ref 1079] (zz_M S0 n) n (zz_QI n (zp_network_14_105  S0)) := by
  refine zz_enter (by decide) (Nat.le_of_ble_eq_true rfl) (zz_less (ls1 := [some (.ref 1079)]) ⟨rfl, trivial⟩ ?_)
  have F_S0 : zz_fr [(1079, 0), (1079, 30), (1079, 31), (1079, 32), (1079, 33), (1079, 36), (1079, 61), (1079, 64), (1079, 65), (1079, 66), (1102, 0), (1103, 0), (1104, 0), (1105, 0), (1105, 1), (1117, 0), (1118, 7)] [1102, 1103, 1104, 1105, 1106, 1107, 1108, 1109, 1110, 1111, 1112, 1113, 1114, 1117, 1118, 1119] (fun _ _ => False) S0 S0 := zz_fr.refl
  have k19 : ∀ (x1 : Int) (x2 : Int) (x3 : Int) (x4 : Int) (S : zz_S), zz_G S → zz_fr [(1079, 0), (1079, 30), (1079, 31), (1079, 32), (1079, 33), (1079, 36), (1079, 61), (1079, 64), (1079, 65), (1079, 66), (1102, 0), (1103, 0), (1104, 0), (1105, 0), (1105, 1), (1117, 0), (1118, 7)] [1102, 1103, 1104, 1105, 1106, 1107, 1108, 1109, 1110, 1111, 1112, 1113, 1114, 1117, 1118, 1119] (fun _ _ => False) S0 S → (0 ≤ x1 ∧ x1 ≤ 1) → (0 ≤ x2 ∧ x2 ≤ 1501) → (0 ≤ x3 ∧ x3 ≤ 1501) → (0 ≤ x4 ∧ x4 ≤ 1) → (x2 ≤ x3) → (zz_kp S0 S) → (S 1079 66 = S0 1079 36) → (x1 = 1 → x4 = 1 → 1 ≤ S 1079 36) → ((x4 = 1 → zn_MI (S0 1099) (S0 1079 28) x1 x2 x3 (S 1117) S (zn_nt (S0 1099) (S0 1079 28) 1502 0 0 0 zn_v0)) ∧ (x4 = 0 → (zn_nt (S0 1099) (S0 1079 28) 1502 0 0 0 zn_v0).1 = x2 - 1)) → (x4 = 1 ∨ 1 ≤ x2) → (zz_Hr S) → zz_E g l zy_network_14_105 zr_network_14_105 (zz_QI n (zp_network_14_105  S0)) S n 19 [some (.ref 1079), some (zi x1), some (zi x2), some (zi x3), some (zi x4)] [] 0 0 := fun x1 x2 x3 x4 S a b j0 j1 j2 j3 j4 j5 j6 j7 j8 j9 j10 => (zi_network_14_105 (g := g) (l := l)  S0 n hn G_S0 R_S0 h1 hN _).1 x1 x2 x3 x4 S a b j0 j1 j2 j3 j4 j5 j6 j7 j8 j9 j10 (Nat.lt_succ_self _)
  refine zz_aload_n (x := 1079) rfl zd_14_105_0 ?_
  refine zz_iconst zd_14_105_1 ?_
  refine zz_puti zd_14_105_2 zf_Md_187 zT_1079 rfl (zz_ltn hn rfl) (fun S1 qS1 => ?_)
  have G_S1 := zz_G.put G_S0 qS1 0 3 rfl (by omega)
  have F_S1 := zz_fr.puts F_S0 qS1 rfl
  have R_S1 : zz_Hr S1 := zz_Hr.p79 qS1 (by decide) R_S0
  refine zz_aload_n (x := 1079) rfl zd_14_105_5 ?_
  refine zz_iconst zd_14_105_6 ?_
  have g2 := zz_G.r G_S0 1079 36 0 11 rfl rfl
  have e3 : S1 1079 36 = S0 1079 36 := (zz_ro qS1 (fun h => absurd h.2 (by decide)) rfl)
  refine zz_callVV [zi 0] zd_14_105_7 zk_Md_595 zT_1079 (zz_ltn hn rfl) rfl rfl ⟨Nat.le_of_ble_eq_true rfl, Nat.le_of_ble_eq_true rfl⟩ ⟨rfl, rfl⟩ (Nat.zero_le _) (Nat.zero_le _) (zc_keepNetwork_14_91_0  S1 n hn G_S1 ) (fun S4 hP => ?_)
  obtain ⟨G_S4, fS4, o6, o7, o8⟩ := hP
  have F_S4 := zz_fr.trans F_S1 fS4 rfl zz_nv
  have R_S4 : zz_Hr S4 := o8 R_S1
  refine zz_iconst zd_14_105_10 ?_
  refine zz_istore_n [some (.ref 1079), some (zi 0)] zd_14_105_11 (by decide) rfl ?_
  refine zz_iconst zd_14_105_12 ?_
  refine zz_istore_n [some (.ref 1079), some (zi 0), some (zi 0)] zd_14_105_13 (by decide) rfl ?_
  refine zz_iconst zd_14_105_14 ?_
  refine zz_istore_n [some (.ref 1079), some (zi 0), some (zi 0), some (zi 0)] zd_14_105_15 (by decide) rfl ?_
  refine zz_iconst zd_14_105_16 ?_
  refine zz_istore [some (.ref 1079), some (zi 0), some (zi 0), some (zi 0), some (zi 1)] zd_14_105_17 (by decide) rfl ?_
  have g9 := zz_G.r G_S4 1079 66 0 11 rfl rfl
  have g10 := zz_G.r G_S4 1079 36 0 11 rfl rfl
  have g11 := zz_G.r G_S0 1079 28 0 1500 rfl rfl
  refine zz_less (ls1 := [some (.ref 1079), some (zi 0), some (zi 0), some (zi 0), some (zi 1)]) ⟨rfl, ⟨rfl, ⟨rfl, ⟨rfl, ⟨rfl, trivial⟩⟩⟩⟩⟩ ?_
  exact k19 0 0 0 1 S4 G_S4 F_S4 (by omega) (by omega) (by omega) (by omega) (by omega) (zz_kp.from o6 (fun a u x y => zz_ro qS1 (fun h => by omega) rfl)) (by omega) (by omega) ⟨fun _ => zn_MI0, fun h => absurd h (by decide)⟩ (by omega) R_S4
abbrev zy_sayCode_14_106 : mm_Y := (⟨"TensorForgeModel", "sayCode", "(J)V"⟩, prog_14_method_106_code, 5, none)
theorem zyw_sayCode_14_106 : mm_Yw zy_sayCode_14_106 1 := ⟨mm_tb_1 2264 (by decide +kernel) rfl, mm_tb_1 12 (by decide +kernel) rfl, ⟨by decide, by decide⟩, by decide +kernel⟩
theorem zg_14_106_0 : zq_at zy_sayCode_14_106.2.1 0 42 ∧ zq_at zy_sayCode_14_106.2.1 1 180 ∧ zq_at zy_sayCode_14_106.2.1 2 1 ∧ zq_at zy_sayCode_14_106.2.1 3 129 ∧ zq_at zy_sayCode_14_106.2.1 4 158 ∧ zq_at zy_sayCode_14_106.2.1 5 0 ∧ zq_at zy_sayCode_14_106.2.1 6 10 ∧ zq_at zy_sayCode_14_106.2.1 14 31 ∧ zq_at zy_sayCode_14_106.2.1 15 66 ∧ zq_at zy_sayCode_14_106.2.1 7 42 ∧ zq_at zy_sayCode_14_106.2.1 8 20 ∧ zq_at zy_sayCode_14_106.2.1 9 1 ∧ zq_at zy_sayCode_14_106.2.1 10 71 ∧ zq_at zy_sayCode_14_106.2.1 11 182 ∧ zq_at zy_sayCode_14_106.2.1 12 1 ∧ zq_at zy_sayCode_14_106.2.1 13 132 ∧ zq_at zy_sayCode_14_106.2.1 16 33 ∧ zq_at zy_sayCode_14_106.2.1 17 9 ∧ zq_at zy_sayCode_14_106.2.1 18 148 ∧ zq_at zy_sayCode_14_106.2.1 19 158 ∧ zq_at zy_sayCode_14_106.2.1 20 0 ∧ zq_at zy_sayCode_14_106.2.1 21 23 ∧ zq_at zy_sayCode_14_106.2.1 42 177 ∧ zq_at zy_sayCode_14_106.2.1 22 42 := by decide +kernel
theorem zd_14_106_0 : zz_D zy_sayCode_14_106 0 (.aload_n 0) 1 1 := ⟨zq_42 zg_14_106_0.1, rfl⟩
theorem zd_14_106_1 : zz_D zy_sayCode_14_106 1 (.getfield 385) 3 4 := ⟨zq_180 zg_14_106_0.2.1 zg_14_106_0.2.2.1 zg_14_106_0.2.2.2.1 rfl, rfl⟩
theorem zd_14_106_4 : zz_B zy_sayCode_14_106 4 (Instr.ifCond .le) 14 7 := ⟨10, zq_158 zg_14_106_0.2.2.2.2.1 zg_14_106_0.2.2.2.2.2.1 zg_14_106_0.2.2.2.2.2.2.1 (by decide), rfl, rfl⟩
theorem zd_14_106_14 : zz_D zy_sayCode_14_106 14 (.lload_n 1) 1 15 := ⟨zq_31 zg_14_106_0.2.2.2.2.2.2.2.1, rfl⟩
theorem zd_14_106_15 : zz_D zy_sayCode_14_106 15 (.lstore_n 3) 1 16 := ⟨zq_66 zg_14_106_0.2.2.2.2.2.2.2.2.1, rfl⟩
theorem zd_14_106_7 : zz_D zy_sayCode_14_106 7 (.aload_n 0) 1 8 := ⟨zq_42 zg_14_106_0.2.2.2.2.2.2.2.2.2.1, rfl⟩
theorem zd_14_106_8 : zz_D zy_sayCode_14_106 8 (.ldc2_w 327) 3 11 := ⟨zq_20 zg_14_106_0.2.2.2.2.2.2.2.2.2.2.1 zg_14_106_0.2.2.2.2.2.2.2.2.2.2.2.1 zg_14_106_0.2.2.2.2.2.2.2.2.2.2.2.2.1 rfl, rfl⟩
theorem zd_14_106_11 : zz_D zy_sayCode_14_106 11 (.invokevirtual 388) 3 14 := ⟨zq_182 zg_14_106_0.2.2.2.2.2.2.2.2.2.2.2.2.2.1 zg_14_106_0.2.2.2.2.2.2.2.2.2.2.2.2.2.2.1 zg_14_106_0.2.2.2.2.2.2.2.2.2.2.2.2.2.2.2.1 rfl, rfl⟩
theorem zd_14_106_16 : zz_D zy_sayCode_14_106 16 (.lload_n 3) 1 17 := ⟨zq_33 zg_14_106_0.2.2.2.2.2.2.2.2.2.2.2.2.2.2.2.2.1, rfl⟩
theorem zd_14_106_17 : zz_D zy_sayCode_14_106 17 (.lconst 0) 1 18 := ⟨zq_9 zg_14_106_0.2.2.2.2.2.2.2.2.2.2.2.2.2.2.2.2.2.1, rfl⟩
theorem zd_14_106_18 : zz_D zy_sayCode_14_106 18 (.lcmp) 1 19 := ⟨zq_148 zg_14_106_0.2.2.2.2.2.2.2.2.2.2.2.2.2.2.2.2.2.2.1, rfl⟩
theorem zd_14_106_19 : zz_B zy_sayCode_14_106 19 (Instr.ifCond .le) 42 22 := ⟨23, zq_158 zg_14_106_0.2.2.2.2.2.2.2.2.2.2.2.2.2.2.2.2.2.2.2.1 zg_14_106_0.2.2.2.2.2.2.2.2.2.2.2.2.2.2.2.2.2.2.2.2.1 zg_14_106_0.2.2.2.2.2.2.2.2.2.2.2.2.2.2.2.2.2.2.2.2.2.1 (by decide), rfl, rfl⟩
theorem zd_14_106_42 : zz_D zy_sayCode_14_106 42 (.return_) 1 43 := ⟨zq_177 zg_14_106_0.2.2.2.2.2.2.2.2.2.2.2.2.2.2.2.2.2.2.2.2.2.2.1, rfl⟩
theorem zd_14_106_22 : zz_D zy_sayCode_14_106 22 (.aload_n 0) 1 23 := ⟨zq_42 zg_14_106_0.2.2.2.2.2.2.2.2.2.2.2.2.2.2.2.2.2.2.2.2.2.2.2, rfl⟩
theorem zg_14_106_23 : zq_at zy_sayCode_14_106.2.1 23 20 ∧ zq_at zy_sayCode_14_106.2.1 24 1 ∧ zq_at zy_sayCode_14_106.2.1 25 135 ∧ zq_at zy_sayCode_14_106.2.1 26 33 ∧ zq_at zy_sayCode_14_106.2.1 27 20 ∧ zq_at zy_sayCode_14_106.2.1 28 1 ∧ zq_at zy_sayCode_14_106.2.1 29 101 ∧ zq_at zy_sayCode_14_106.2.1 30 127 ∧ zq_at zy_sayCode_14_106.2.1 31 97 ∧ zq_at zy_sayCode_14_106.2.1 32 182 ∧ zq_at zy_sayCode_14_106.2.1 33 1 ∧ zq_at zy_sayCode_14_106.2.1 34 132 ∧ zq_at zy_sayCode_14_106.2.1 35 33 ∧ zq_at zy_sayCode_14_106.2.1 36 8 ∧ zq_at zy_sayCode_14_106.2.1 37 123 ∧ zq_at zy_sayCode_14_106.2.1 38 66 ∧ zq_at zy_sayCode_14_106.2.1 39 167 ∧ zq_at zy_sayCode_14_106.2.1 40 255 ∧ zq_at zy_sayCode_14_106.2.1 41 233 := by decide +kernel
theorem zd_14_106_23 : zz_D zy_sayCode_14_106 23 (.ldc2_w 391) 3 26 := ⟨zq_20 zg_14_106_23.1 zg_14_106_23.2.1 zg_14_106_23.2.2.1 rfl, rfl⟩
theorem zd_14_106_26 : zz_D zy_sayCode_14_106 26 (.lload_n 3) 1 27 := ⟨zq_33 zg_14_106_23.2.2.2.1, rfl⟩
theorem zd_14_106_27 : zz_D zy_sayCode_14_106 27 (.ldc2_w 357) 3 30 := ⟨zq_20 zg_14_106_23.2.2.2.2.1 zg_14_106_23.2.2.2.2.2.1 zg_14_106_23.2.2.2.2.2.2.1 rfl, rfl⟩
theorem zd_14_106_30 : zz_D zy_sayCode_14_106 30 (.land) 1 31 := ⟨zq_127 zg_14_106_23.2.2.2.2.2.2.2.1, rfl⟩
theorem zd_14_106_31 : zz_D zy_sayCode_14_106 31 (.ladd) 1 32 := ⟨zq_97 zg_14_106_23.2.2.2.2.2.2.2.2.1, rfl⟩
theorem zd_14_106_32 : zz_D zy_sayCode_14_106 32 (.invokevirtual 388) 3 35 := ⟨zq_182 zg_14_106_23.2.2.2.2.2.2.2.2.2.1 zg_14_106_23.2.2.2.2.2.2.2.2.2.2.1 zg_14_106_23.2.2.2.2.2.2.2.2.2.2.2.1 rfl, rfl⟩
theorem zd_14_106_35 : zz_D zy_sayCode_14_106 35 (.lload_n 3) 1 36 := ⟨zq_33 zg_14_106_23.2.2.2.2.2.2.2.2.2.2.2.2.1, rfl⟩
theorem zd_14_106_36 : zz_D zy_sayCode_14_106 36 (.iconst 5) 1 37 := ⟨zq_8 zg_14_106_23.2.2.2.2.2.2.2.2.2.2.2.2.2.1, rfl⟩
theorem zd_14_106_37 : zz_D zy_sayCode_14_106 37 (.lshr) 1 38 := ⟨zq_123 zg_14_106_23.2.2.2.2.2.2.2.2.2.2.2.2.2.2.1, rfl⟩
theorem zd_14_106_38 : zz_D zy_sayCode_14_106 38 (.lstore_n 3) 1 39 := ⟨zq_66 zg_14_106_23.2.2.2.2.2.2.2.2.2.2.2.2.2.2.2.1, rfl⟩
theorem zd_14_106_39 : zz_B zy_sayCode_14_106 39 Instr.goto 16 42 := ⟨(-23), zq_167 zg_14_106_23.2.2.2.2.2.2.2.2.2.2.2.2.2.2.2.2.1 zg_14_106_23.2.2.2.2.2.2.2.2.2.2.2.2.2.2.2.2.2.1 zg_14_106_23.2.2.2.2.2.2.2.2.2.2.2.2.2.2.2.2.2.2 (by decide), rfl, rfl⟩
