/-! Frames, cells by number, and helpers. By program (wip/zz/gen42.py). -/
def zz_fr (sl : List (Nat × Nat)) (cl : List Nat) (V : Nat → Nat → Prop) (S S1 : zz_S) : Prop := ∀ a i, sl.contains (a, i) = false → cl.contains a = false → ¬ V a i → S1 a i = S a i
theorem zz_fr.refl {sl : List (Nat × Nat)} {cl : List Nat} {V : Nat → Nat → Prop} {S : zz_S} : zz_fr sl cl V S S := fun _ _ _ _ _ => rfl
theorem zz_fr.puts {sl : List (Nat × Nat)} {cl : List Nat} {V : Nat → Nat → Prop} {S0 S S1 : zz_S} {a i : Nat} {z : Int} (h : zz_fr sl cl V S0 S) (e : S1 = zz_st S a i z) (hm : sl.contains (a, i) = true) : zz_fr sl cl V S0 S1 := by
  intro b j h1 h2 h3
  rw [e, zz_st_n (fun q => by rw [q.1, q.2, hm] at h1; cases h1)]
  exact h b j h1 h2 h3
theorem zz_fr.putc {sl : List (Nat × Nat)} {cl : List Nat} {V : Nat → Nat → Prop} {S0 S S1 : zz_S} {a i : Nat} {z : Int} (h : zz_fr sl cl V S0 S) (e : S1 = zz_st S a i z) (hm : cl.contains a = true) : zz_fr sl cl V S0 S1 := by
  intro b j h1 h2 h3
  rw [e, zz_st_n (fun q => by rw [q.1, hm] at h2; cases h2)]
  exact h b j h1 h2 h3
theorem zz_fr.putv {sl : List (Nat × Nat)} {cl : List Nat} {V : Nat → Nat → Prop} {S0 S S1 : zz_S} {a i : Nat} {z : Int} (h : zz_fr sl cl V S0 S) (e : S1 = zz_st S a i z) (hm : V a i) : zz_fr sl cl V S0 S1 := by
  intro b j h1 h2 h3
  rw [e, zz_st_n (fun q => h3 (by rw [q.1, q.2]; exact hm))]
  exact h b j h1 h2 h3
def zz_sb (sl' : List (Nat × Nat)) (cl' : List Nat) (sl : List (Nat × Nat)) (cl : List Nat) : Bool := sl'.all (fun p => sl.contains p || cl.contains p.1) && cl'.all (fun a => cl.contains a)
theorem zz_fr.trans {sl sl' : List (Nat × Nat)} {cl cl' : List Nat} {V V' : Nat → Nat → Prop} {S0 S S1 : zz_S} (h : zz_fr sl cl V S0 S) (h1 : zz_fr sl' cl' V' S S1) (hs : zz_sb sl' cl' sl cl = true) (hv : ∀ a i, V' a i → sl.contains (a, i) = true ∨ cl.contains a = true ∨ V a i) : zz_fr sl cl V S0 S1 := by
  simp only [zz_sb, Bool.and_eq_true, List.all_eq_true, Bool.or_eq_true] at hs
  intro a i q1 q2 q3
  refine (h1 a i ?_ ?_ ?_).trans (h a i q1 q2 q3)
  · cases e : sl'.contains (a, i) with
    | false => rfl
    | true =>
      have := hs.1 (a, i) (by simpa using e)
      rw [q1, q2] at this
      simp at this
  · cases e : cl'.contains a with
    | false => rfl
    | true =>
      have := hs.2 a (by simpa using e)
      rw [q2] at this
      cases this
  · intro z
    rcases hv a i z with w | w | w
    · rw [q1] at w; cases w
    · rw [q2] at w; cases w
    · exact q3 w
theorem zz_fr.eq {S S1 : zz_S} (h : zz_fr [] [] (fun _ _ => False) S S1) : S = S1 := by
  funext a i
  exact (h a i rfl rfl (fun h => h)).symm
theorem zz_nv {V : Nat → Nat → Prop} {sl : List (Nat × Nat)} {cl : List Nat} : ∀ a i, (fun (_ _ : Nat) => False) a i → sl.contains (a, i) = true ∨ cl.contains a = true ∨ V a i := fun _ _ h => h.elim
theorem zz_rs {S S1 : zz_S} {a i : Nat} {z : Int} (e : S1 = zz_st S a i z) : S1 a i = z := by rw [e, zz_st_s]
theorem zz_ro {S S1 : zz_S} {a i b j : Nat} {z v : Int} (e : S1 = zz_st S a i z) (h : ¬ (b = a ∧ j = i)) (hv : S b j = v) : S1 b j = v := by rw [e, zz_st_n h, hv]
theorem zz_rc {sl : List (Nat × Nat)} {cl : List Nat} {V : Nat → Nat → Prop} {S S1 : zz_S} {a i : Nat} {v : Int} (f : zz_fr sl cl V S S1) (h1 : sl.contains (a, i) = false) (h2 : cl.contains a = false) (h3 : ¬ V a i) (hv : S a i = v) : S1 a i = v := (f a i h1 h2 h3).trans hv
theorem zz_nc1 {sl : List (Nat × Nat)} {a i : Nat} (h : sl.all (fun p => !(p.1 == a)) = true) : sl.contains (a, i) = false := by
  cases e : sl.contains (a, i) with
  | false => rfl
  | true =>
    have := List.all_eq_true.mp h (a, i) (by simpa using e)
    simp at this
theorem zz_ltn {a n : Nat} (h : zz_end ≤ n) (e : Nat.blt a zz_end = true) : a < n := Nat.lt_of_lt_of_le (Nat.blt_eq.mp e) h
theorem zz_G.eq {S : zz_S} (h : zz_G S) (a i : Nat) (c : Int) (e : zz_rg a i = (c, c)) (ha : Nat.ble 1000 a = true) : S a i = c := by
  have := h.at a i c c e (Nat.le_of_ble_eq_true ha)
  omega
theorem zz_G.r {S : zz_S} (h : zz_G S) (a i : Nat) (lo hi : Int) (e : zz_rg a i = (lo, hi)) (ha : Nat.ble 1000 a = true) : lo ≤ S a i ∧ S a i ≤ hi := h.at a i lo hi e (Nat.le_of_ble_eq_true ha)
section ZH
variable {g : mm_G} {l : Launch} {Y : mm_Y} {rm : Room} {Q : mm_O → Prop} {pc pc1 : Nat} {ls : List (Option Value)} {st : List Value} {S : zz_S} {n k j : Nat}
theorem zz_nme {e : Int} (kk : ∀ w : Int, w = e → zz_E g l Y rm Q S n pc ls (zi w :: st) k j) : zz_E g l Y rm Q S n pc ls (zi e :: st) k j := kk e rfl
theorem zz_nmel {e : Int} (kk : ∀ w : Int, w = e → zz_E g l Y rm Q S n pc ls (zl w :: st) k j) : zz_E g l Y rm Q S n pc ls (zl e :: st) k j := kk e rfl
theorem zz_iincN {i : Nat} {c x : Int} (ls1 : Int → List (Option Value)) (hd : zz_D Y pc (.iinc i c) 3 pc1) (hg : mm_lg ls i = some (zi x)) (hl : ∀ v, mm_st1 ls i (zi v) = ls1 v) (kk : ∀ v : Int, (-2147483648 ≤ v ∧ v ≤ 2147483647) → (-2147483648 ≤ x + c ∧ x + c ≤ 2147483647 → v = x + c) → zz_E g l Y rm Q S n pc1 (ls1 v) st k j) : zz_E g l Y rm Q S n pc ls st k j := by
  have h := kk (Int32.ofInt (x + c)).toInt (zz_r32 _) (fun h => zz_t32 h)
  refine zz_iinc (ls1 (Int32.ofInt (x + c)).toInt) hd hg ?_ h
  rw [← hl]
  unfold zi
  rw [zz_bm32]
theorem zz_pc {pc2 : Nat} (e : pc = pc2) (kk : zz_E g l Y rm Q S n pc2 ls st k j) : zz_E g l Y rm Q S n pc ls st k j := e ▸ kk
theorem zz_mmax {index : Nat} {x y : Int} (hx : -2147483648 ≤ x ∧ x ≤ 2147483647) (hy : -2147483648 ≤ y ∧ y ≤ 2147483647) (hd : zz_D Y pc (.invokestatic index) 3 pc1) (hw : Cond.methodLink Y.1.cls index Lib.Math.max.name ∈ mm_tb ∧ Cond.static Lib.Math.max.name ∈ mm_tb ∧ Cond.initialized "java/lang/Math" ∈ mm_tb ∧ Cond.code Lib.Math.max.name Lib.Math.max.code 2 (some .int) ∈ mm_tb) (hroom : 1 ≤ rm.frames ∧ (st.map fun v => v.category).sum + 13 ≤ rm.locals) (hk : k ≤ rm.cells) (hj : j ≤ rm.slots) (kk : ∀ v : Int, ((x < y ∧ v = y) ∨ (y ≤ x ∧ v = x)) → zz_E g l Y rm Q S n pc1 ls (zi v :: st) k j) : zz_E g l Y rm Q S n pc ls (zi y :: zi x :: st) k j := by
  refine mm_mmax hd.1 hw hroom hk hj (zz_rw hd.2 ?_)
  by_cases h : x < y
  · rw [if_pos ((zz_lt32 hx hy).mpr h)]; exact kk y (Or.inl ⟨h, rfl⟩)
  · rw [if_neg (fun q => h ((zz_lt32 hx hy).mp q))]; exact kk x (Or.inr ⟨Int.not_lt.mp h, rfl⟩)
theorem zz_mmin {index : Nat} {x y : Int} (hx : -2147483648 ≤ x ∧ x ≤ 2147483647) (hy : -2147483648 ≤ y ∧ y ≤ 2147483647) (hd : zz_D Y pc (.invokestatic index) 3 pc1) (hw : Cond.methodLink Y.1.cls index Lib.Math.min.name ∈ mm_tb ∧ Cond.static Lib.Math.min.name ∈ mm_tb ∧ Cond.initialized "java/lang/Math" ∈ mm_tb ∧ Cond.code Lib.Math.min.name Lib.Math.min.code 2 (some .int) ∈ mm_tb) (hroom : 1 ≤ rm.frames ∧ (st.map fun v => v.category).sum + 13 ≤ rm.locals) (hk : k ≤ rm.cells) (hj : j ≤ rm.slots) (kk : ∀ v : Int, ((y < x ∧ v = y) ∨ (x ≤ y ∧ v = x)) → zz_E g l Y rm Q S n pc1 ls (zi v :: st) k j) : zz_E g l Y rm Q S n pc ls (zi y :: zi x :: st) k j := by
  refine mm_mmin hd.1 hw hroom hk hj (zz_rw hd.2 ?_)
  by_cases h : y < x
  · rw [if_pos ((zz_lt32 hy hx).mpr h)]; exact kk y (Or.inl ⟨h, rfl⟩)
  · rw [if_neg (fun q => h ((zz_lt32 hy hx).mp q))]; exact kk x (Or.inr ⟨Int.not_lt.mp h, rfl⟩)
theorem zz_lt64 {a b : Int} (ha : -9223372036854775808 ≤ a ∧ a ≤ 9223372036854775807) (hb : -9223372036854775808 ≤ b ∧ b ≤ 9223372036854775807) : Int64.ofInt a < Int64.ofInt b ↔ a < b := by
  rw [Int64.lt_iff_toInt_lt, zz_t64 ha, zz_t64 hb]
theorem zz_mmaxl {index : Nat} {x y : Int} (hx : -9223372036854775808 ≤ x ∧ x ≤ 9223372036854775807) (hy : -9223372036854775808 ≤ y ∧ y ≤ 9223372036854775807) (hd : zz_D Y pc (.invokestatic index) 3 pc1) (hw : Cond.methodLink Y.1.cls index Lib.MathLoose.max_long.x ∈ mm_tb ∧ Cond.static Lib.MathLoose.max_long.x ∈ mm_tb ∧ Cond.initialized "java/lang/Math" ∈ mm_tb ∧ Cond.code Lib.MathLoose.max_long.x Lib.MathLoose.max_long.code 4 (some .long) ∈ mm_tb) (hroom : 1 ≤ rm.frames ∧ (st.map fun v => v.category).sum + 15 ≤ rm.locals) (hk : k ≤ rm.cells) (hj : j ≤ rm.slots) (kk : ∀ v : Int, ((y < x ∧ v = x) ∨ (x ≤ y ∧ v = y)) → zz_E g l Y rm Q S n pc1 ls (zl v :: st) k j) : zz_E g l Y rm Q S n pc ls (zl y :: zl x :: st) k j := by
  refine mm_mmaxl hd.1 hw hroom hk hj (zz_rw hd.2 ?_)
  by_cases h : y < x
  · rw [if_pos ((zz_lt64 hy hx).mpr h)]; exact kk x (Or.inl ⟨h, rfl⟩)
  · rw [if_neg (fun q => h ((zz_lt64 hy hx).mp q))]; exact kk y (Or.inr ⟨Int.not_lt.mp h, rfl⟩)
theorem zz_mminl {index : Nat} {x y : Int} (hx : -9223372036854775808 ≤ x ∧ x ≤ 9223372036854775807) (hy : -9223372036854775808 ≤ y ∧ y ≤ 9223372036854775807) (hd : zz_D Y pc (.invokestatic index) 3 pc1) (hw : Cond.methodLink Y.1.cls index Lib.MathLoose.min_long.x ∈ mm_tb ∧ Cond.static Lib.MathLoose.min_long.x ∈ mm_tb ∧ Cond.initialized "java/lang/Math" ∈ mm_tb ∧ Cond.code Lib.MathLoose.min_long.x Lib.MathLoose.min_long.code 4 (some .long) ∈ mm_tb) (hroom : 1 ≤ rm.frames ∧ (st.map fun v => v.category).sum + 15 ≤ rm.locals) (hk : k ≤ rm.cells) (hj : j ≤ rm.slots) (kk : ∀ v : Int, ((y < x ∧ v = y) ∨ (x ≤ y ∧ v = x)) → zz_E g l Y rm Q S n pc1 ls (zl v :: st) k j) : zz_E g l Y rm Q S n pc ls (zl y :: zl x :: st) k j := by
  refine mm_mminl hd.1 hw hroom hk hj (zz_rw hd.2 ?_)
  by_cases h : y < x
  · rw [if_pos ((zz_lt64 hy hx).mpr h)]; exact kk y (Or.inl ⟨h, rfl⟩)
  · rw [if_neg (fun q => h ((zz_lt64 hy hx).mp q))]; exact kk x (Or.inr ⟨Int.not_lt.mp h, rfl⟩)
end ZH
theorem zT_1000 : zz_T 1000 = some (.inl (0, [2, 2, 2, 2, 2, 2, 2, 3, 3, 4, 4, 0])) := rfl
theorem zT_1001 : zz_T 1001 = some (.inl (1, [2, 0])) := rfl
theorem zT_1002 : zz_T 1002 = some (.inr (0, 12, 6)) := rfl
theorem zT_1003 : zz_T 1003 = some (.inl (2, [0, 0, 0, 0, 0, 0, 0, 0, 0, 0, 0, 0, 0, 0, 0])) := rfl
theorem zT_1004 : zz_T 1004 = some (.inl (2, [0, 0, 0, 0, 0, 0, 0, 0, 0, 0, 0, 0, 0, 0, 0])) := rfl
theorem zT_1005 : zz_T 1005 = some (.inl (2, [0, 0, 0, 0, 0, 0, 0, 0, 0, 0, 0, 0, 0, 0, 0])) := rfl
theorem zT_1006 : zz_T 1006 = some (.inl (2, [0, 0, 0, 0, 0, 0, 0, 0, 0, 0, 0, 0, 0, 0, 0])) := rfl
theorem zT_1007 : zz_T 1007 = some (.inl (2, [0, 0, 0, 0, 0, 0, 0, 0, 0, 0, 0, 0, 0, 0, 0])) := rfl
theorem zT_1008 : zz_T 1008 = some (.inl (2, [0, 0, 0, 0, 0, 0, 0, 0, 0, 0, 0, 0, 0, 0, 0])) := rfl
theorem zT_1009 : zz_T 1009 = some (.inl (2, [0, 0, 0, 0, 0, 0, 0, 0, 0, 0, 0, 0, 0, 0, 0])) := rfl
theorem zT_1010 : zz_T 1010 = some (.inl (2, [0, 0, 0, 0, 0, 0, 0, 0, 0, 0, 0, 0, 0, 0, 0])) := rfl
theorem zT_1011 : zz_T 1011 = some (.inl (2, [0, 0, 0, 0, 0, 0, 0, 0, 0, 0, 0, 0, 0, 0, 0])) := rfl
theorem zT_1012 : zz_T 1012 = some (.inl (2, [0, 0, 0, 0, 0, 0, 0, 0, 0, 0, 0, 0, 0, 0, 0])) := rfl
theorem zT_1013 : zz_T 1013 = some (.inl (2, [0, 0, 0, 0, 0, 0, 0, 0, 0, 0, 0, 0, 0, 0, 0])) := rfl
theorem zT_1014 : zz_T 1014 = some (.inl (2, [0, 0, 0, 0, 0, 0, 0, 0, 0, 0, 0, 0, 0, 0, 0])) := rfl
theorem zT_1015 : zz_T 1015 = some (.inl (1, [2, 0])) := rfl
theorem zT_1016 : zz_T 1016 = some (.inr (0, 12, 6)) := rfl
theorem zT_1017 : zz_T 1017 = some (.inl (2, [0, 0, 0, 0, 0, 0, 0, 0, 0, 0, 0, 0, 0, 0, 0])) := rfl
theorem zT_1018 : zz_T 1018 = some (.inl (2, [0, 0, 0, 0, 0, 0, 0, 0, 0, 0, 0, 0, 0, 0, 0])) := rfl
theorem zT_1019 : zz_T 1019 = some (.inl (2, [0, 0, 0, 0, 0, 0, 0, 0, 0, 0, 0, 0, 0, 0, 0])) := rfl
theorem zT_1020 : zz_T 1020 = some (.inl (2, [0, 0, 0, 0, 0, 0, 0, 0, 0, 0, 0, 0, 0, 0, 0])) := rfl
theorem zT_1021 : zz_T 1021 = some (.inl (2, [0, 0, 0, 0, 0, 0, 0, 0, 0, 0, 0, 0, 0, 0, 0])) := rfl
theorem zT_1022 : zz_T 1022 = some (.inl (2, [0, 0, 0, 0, 0, 0, 0, 0, 0, 0, 0, 0, 0, 0, 0])) := rfl
theorem zT_1023 : zz_T 1023 = some (.inl (2, [0, 0, 0, 0, 0, 0, 0, 0, 0, 0, 0, 0, 0, 0, 0])) := rfl
theorem zT_1024 : zz_T 1024 = some (.inl (2, [0, 0, 0, 0, 0, 0, 0, 0, 0, 0, 0, 0, 0, 0, 0])) := rfl
theorem zT_1025 : zz_T 1025 = some (.inl (2, [0, 0, 0, 0, 0, 0, 0, 0, 0, 0, 0, 0, 0, 0, 0])) := rfl
theorem zT_1026 : zz_T 1026 = some (.inl (2, [0, 0, 0, 0, 0, 0, 0, 0, 0, 0, 0, 0, 0, 0, 0])) := rfl
theorem zT_1027 : zz_T 1027 = some (.inl (2, [0, 0, 0, 0, 0, 0, 0, 0, 0, 0, 0, 0, 0, 0, 0])) := rfl
theorem zT_1028 : zz_T 1028 = some (.inl (2, [0, 0, 0, 0, 0, 0, 0, 0, 0, 0, 0, 0, 0, 0, 0])) := rfl
theorem zT_1029 : zz_T 1029 = some (.inr (1, 600, 1)) := rfl
theorem zT_1030 : zz_T 1030 = some (.inr (1, 600, 1)) := rfl
theorem zT_1031 : zz_T 1031 = some (.inl (3, [2, 2, 2, 2, 2, 5, 0, 0, 0, 0, 0, 0, 0, 0])) := rfl
theorem zT_1032 : zz_T 1032 = some (.inr (2, 4096, 0)) := rfl
theorem zT_1033 : zz_T 1033 = some (.inr (2, 512, 0)) := rfl
theorem zT_1034 : zz_T 1034 = some (.inr (2, 512, 0)) := rfl
theorem zT_1035 : zz_T 1035 = some (.inr (3, 256, 0)) := rfl
theorem zT_1036 : zz_T 1036 = some (.inr (2, 256, 0)) := rfl
theorem zT_1037 : zz_T 1037 = some (.inl (4, [2, 2, 2, 2])) := rfl
theorem zT_1038 : zz_T 1038 = some (.inr (3, 5, 0)) := rfl
theorem zT_1039 : zz_T 1039 = some (.inr (3, 5, 0)) := rfl
theorem zT_1040 : zz_T 1040 = some (.inr (3, 5, 0)) := rfl
theorem zT_1041 : zz_T 1041 = some (.inr (3, 5, 0)) := rfl
theorem zT_1042 : zz_T 1042 = some (.inl (5, [2, 2, 2, 2, 2, 2, 2, 2, 5, 0])) := rfl
theorem zT_1043 : zz_T 1043 = some (.inr (3, 10, 0)) := rfl
theorem zT_1044 : zz_T 1044 = some (.inr (1, 600, 1)) := rfl
theorem zT_1045 : zz_T 1045 = some (.inr (3, 600, 0)) := rfl
theorem zT_1046 : zz_T 1046 = some (.inr (3, 600, 0)) := rfl
theorem zT_1047 : zz_T 1047 = some (.inr (3, 3, 0)) := rfl
theorem zT_1048 : zz_T 1048 = some (.inr (3, 3, 0)) := rfl
theorem zT_1049 : zz_T 1049 = some (.inr (4, 3, 5)) := rfl
theorem zT_1050 : zz_T 1050 = some (.inl (4, [2, 2, 2, 2])) := rfl
theorem zT_1051 : zz_T 1051 = some (.inr (3, 5, 0)) := rfl
theorem zT_1052 : zz_T 1052 = some (.inr (3, 5, 0)) := rfl
theorem zT_1053 : zz_T 1053 = some (.inr (3, 5, 0)) := rfl
theorem zT_1054 : zz_T 1054 = some (.inr (3, 5, 0)) := rfl
theorem zT_1055 : zz_T 1055 = some (.inl (4, [2, 2, 2, 2])) := rfl
theorem zT_1056 : zz_T 1056 = some (.inr (3, 5, 0)) := rfl
theorem zT_1057 : zz_T 1057 = some (.inr (3, 5, 0)) := rfl
theorem zT_1058 : zz_T 1058 = some (.inr (3, 5, 0)) := rfl
theorem zT_1059 : zz_T 1059 = some (.inr (3, 5, 0)) := rfl
theorem zT_1060 : zz_T 1060 = some (.inl (4, [2, 2, 2, 2])) := rfl
theorem zT_1061 : zz_T 1061 = some (.inr (3, 5, 0)) := rfl
theorem zT_1062 : zz_T 1062 = some (.inr (3, 5, 0)) := rfl
theorem zT_1063 : zz_T 1063 = some (.inr (3, 5, 0)) := rfl
theorem zT_1064 : zz_T 1064 = some (.inr (3, 5, 0)) := rfl
theorem zT_1065 : zz_T 1065 = some (.inl (4, [2, 2, 2, 2])) := rfl
theorem zT_1066 : zz_T 1066 = some (.inr (3, 5, 0)) := rfl
theorem zT_1067 : zz_T 1067 = some (.inr (3, 5, 0)) := rfl
theorem zT_1068 : zz_T 1068 = some (.inr (3, 5, 0)) := rfl
theorem zT_1069 : zz_T 1069 = some (.inr (3, 5, 0)) := rfl
theorem zT_1070 : zz_T 1070 = some (.inl (6, [2, 0, 0, 0, 0, 0, 0])) := rfl
theorem zT_1071 : zz_T 1071 = some (.inr (5, 1500, 0)) := rfl
theorem zT_1072 : zz_T 1072 = some (.inl (7, [2, 0, 1, 0])) := rfl
theorem zT_1073 : zz_T 1073 = some (.inl (8, [2, 3, 2, 2, 0, 0, 0, 0, 0])) := rfl
theorem zT_1074 : zz_T 1074 = some (.inr (3, 11, 0)) := rfl
theorem zT_1075 : zz_T 1075 = some (.inr (3, 11, 0)) := rfl
theorem zT_1076 : zz_T 1076 = some (.inl (9, [4, 0, 0, 6, 6, 6, 0, 0, 0, 0, 0, 0, 0, 0, 0, 0, 0])) := rfl
theorem zT_1077 : zz_T 1077 = some (.inl (10, [2, 0])) := rfl
theorem zT_1078 : zz_T 1078 = some (.inr (5, 128, 0)) := rfl
theorem zT_1079 : zz_T 1079 = some (.inl (11, [0, 0, 2, 2, 2, 2, 2, 0, 2, 2, 0, 2, 2, 2, 0, 0, 0, 2, 2, 0, 2, 2, 2, 2, 2, 2, 2, 2, 0, 2, 0, 0, 0, 0, 0, 2, 0, 2, 2, 2, 2, 2, 2, 2, 2, 2, 2, 2, 2, 2, 0, 0, 0, 0, 0, 0, 0, 0, 2, 2, 0, 1, 2, 2, 1, 0, 0, 2, 2])) := rfl
theorem zT_1080 : zz_T 1080 = some (.inr (3, 4096, 0)) := rfl
theorem zT_1081 : zz_T 1081 = some (.inr (3, 512, 0)) := rfl
theorem zT_1082 : zz_T 1082 = some (.inr (3, 512, 0)) := rfl
theorem zT_1083 : zz_T 1083 = some (.inr (3, 256, 0)) := rfl
theorem zT_1084 : zz_T 1084 = some (.inr (3, 256, 0)) := rfl
theorem zT_1085 : zz_T 1085 = some (.inr (1, 601, 1)) := rfl
theorem zT_1086 : zz_T 1086 = some (.inr (1, 601, 1)) := rfl
theorem zT_1087 : zz_T 1087 = some (.inr (3, 12, 0)) := rfl
theorem zT_1088 : zz_T 1088 = some (.inr (3, 10, 0)) := rfl
theorem zT_1089 : zz_T 1089 = some (.inr (3, 10, 0)) := rfl
theorem zT_1090 : zz_T 1090 = some (.inr (3, 3, 0)) := rfl
theorem zT_1091 : zz_T 1091 = some (.inr (3, 4, 0)) := rfl
theorem zT_1092 : zz_T 1092 = some (.inr (3, 601, 0)) := rfl
theorem zT_1093 : zz_T 1093 = some (.inr (3, 601, 0)) := rfl
theorem zT_1094 : zz_T 1094 = some (.inr (3, 601, 0)) := rfl
theorem zT_1095 : zz_T 1095 = some (.inr (6, 601, 0)) := rfl
theorem zT_1096 : zz_T 1096 = some (.inr (3, 601, 0)) := rfl
theorem zT_1097 : zz_T 1097 = some (.inr (3, 3, 0)) := rfl
theorem zT_1098 : zz_T 1098 = some (.inr (3, 3, 0)) := rfl
theorem zT_1099 : zz_T 1099 = some (.inr (3, 1500, 0)) := rfl
theorem zT_1100 : zz_T 1100 = some (.inr (1, 24, 1)) := rfl
theorem zT_1101 : zz_T 1101 = some (.inr (3, 200, 0)) := rfl
theorem zT_1102 : zz_T 1102 = some (.inr (3, 11, 0)) := rfl
theorem zT_1103 : zz_T 1103 = some (.inr (3, 11, 0)) := rfl
theorem zT_1104 : zz_T 1104 = some (.inr (3, 11, 0)) := rfl
theorem zT_1105 : zz_T 1105 = some (.inr (3, 12, 0)) := rfl
theorem zT_1106 : zz_T 1106 = some (.inr (3, 10, 0)) := rfl
theorem zT_1107 : zz_T 1107 = some (.inr (3, 10, 0)) := rfl
theorem zT_1108 : zz_T 1108 = some (.inr (3, 10, 0)) := rfl
theorem zT_1109 : zz_T 1109 = some (.inr (3, 10, 0)) := rfl
theorem zT_1110 : zz_T 1110 = some (.inr (3, 10, 0)) := rfl
theorem zT_1111 : zz_T 1111 = some (.inr (3, 10, 0)) := rfl
theorem zT_1112 : zz_T 1112 = some (.inr (3, 10, 0)) := rfl
theorem zT_1113 : zz_T 1113 = some (.inr (3, 10, 0)) := rfl
theorem zT_1114 : zz_T 1114 = some (.inr (3, 10, 0)) := rfl
theorem zT_1115 : zz_T 1115 = some (.inr (3, 10, 0)) := rfl
theorem zT_1116 : zz_T 1116 = some (.inr (3, 10, 0)) := rfl
theorem zT_1117 : zz_T 1117 = some (.inr (1, 11, 1)) := rfl
theorem zT_1118 : zz_T 1118 = some (.inr (3, 8, 0)) := rfl
theorem zT_1119 : zz_T 1119 = some (.inr (3, 147, 0)) := rfl
theorem zT_1120 : zz_T 1120 = some (.inr (3, 12, 0)) := rfl
theorem zT_1121 : zz_T 1121 = some (.inr (1, 1, 1)) := rfl
theorem zT_k3 {z : Int} (h : 0 ≤ z ∧ z ≤ 1) : zz_T (zz_rf 3 z) = some (.inl (1, [2, 0])) := by
  have : z = 0 ∨ z = 1 := by omega
  rcases this with rfl | rfl <;> rfl
theorem zN_k3 {z : Int} {n : Nat} (hn : zz_end ≤ n) (h : 0 ≤ z ∧ z ≤ 1) : zz_rf 3 z < n := by
  have : z = 0 ∨ z = 1 := by omega
  refine Nat.lt_of_lt_of_le ?_ hn
  rcases this with rfl | rfl <;> decide
theorem zT_k3a {z : Int} (h : 0 ≤ z ∧ z ≤ 1) : zz_T (zz_rf 3 z + 1) = some (.inr (0, 12, 6)) := by
  have : z = 0 ∨ z = 1 := by omega
  rcases this with rfl | rfl <;> rfl
theorem zN_k3a {z : Int} {n : Nat} (hn : zz_end ≤ n) (h : 0 ≤ z ∧ z ≤ 1) : (zz_rf 3 z + 1) < n := by
  have : z = 0 ∨ z = 1 := by omega
  refine Nat.lt_of_lt_of_le ?_ hn
  rcases this with rfl | rfl <;> decide
theorem zT_k4 {z : Int} (h : 0 ≤ z ∧ z ≤ 1) : zz_T (zz_rf 4 z) = some (.inr (1, 600, 1)) := by
  have : z = 0 ∨ z = 1 := by omega
  rcases this with rfl | rfl <;> rfl
theorem zN_k4 {z : Int} {n : Nat} (hn : zz_end ≤ n) (h : 0 ≤ z ∧ z ≤ 1) : zz_rf 4 z < n := by
  have : z = 0 ∨ z = 1 := by omega
  refine Nat.lt_of_lt_of_le ?_ hn
  rcases this with rfl | rfl <;> decide
theorem zT_k5 {z : Int} (h : 0 ≤ z ∧ z ≤ 4) : zz_T (zz_rf 5 z) = some (.inl (4, [2, 2, 2, 2])) := by
  have : z = 0 ∨ z = 1 ∨ z = 2 ∨ z = 3 ∨ z = 4 := by omega
  rcases this with rfl | rfl | rfl | rfl | rfl <;> rfl
theorem zN_k5 {z : Int} {n : Nat} (hn : zz_end ≤ n) (h : 0 ≤ z ∧ z ≤ 4) : zz_rf 5 z < n := by
  have : z = 0 ∨ z = 1 ∨ z = 2 ∨ z = 3 ∨ z = 4 := by omega
  refine Nat.lt_of_lt_of_le ?_ hn
  rcases this with rfl | rfl | rfl | rfl | rfl <;> decide
theorem zT_k5a1 {z : Int} (h : 0 ≤ z ∧ z ≤ 4) : zz_T (zz_rf 5 z + 1) = some (.inr (3, 5, 0)) := by
  have : z = 0 ∨ z = 1 ∨ z = 2 ∨ z = 3 ∨ z = 4 := by omega
  rcases this with rfl | rfl | rfl | rfl | rfl <;> rfl
theorem zN_k5a1 {z : Int} {n : Nat} (hn : zz_end ≤ n) (h : 0 ≤ z ∧ z ≤ 4) : (zz_rf 5 z + 1) < n := by
  have : z = 0 ∨ z = 1 ∨ z = 2 ∨ z = 3 ∨ z = 4 := by omega
  refine Nat.lt_of_lt_of_le ?_ hn
  rcases this with rfl | rfl | rfl | rfl | rfl <;> decide
theorem zT_k5a2 {z : Int} (h : 0 ≤ z ∧ z ≤ 4) : zz_T (zz_rf 5 z + 2) = some (.inr (3, 5, 0)) := by
  have : z = 0 ∨ z = 1 ∨ z = 2 ∨ z = 3 ∨ z = 4 := by omega
  rcases this with rfl | rfl | rfl | rfl | rfl <;> rfl
theorem zN_k5a2 {z : Int} {n : Nat} (hn : zz_end ≤ n) (h : 0 ≤ z ∧ z ≤ 4) : (zz_rf 5 z + 2) < n := by
  have : z = 0 ∨ z = 1 ∨ z = 2 ∨ z = 3 ∨ z = 4 := by omega
  refine Nat.lt_of_lt_of_le ?_ hn
  rcases this with rfl | rfl | rfl | rfl | rfl <;> decide
theorem zT_k5a3 {z : Int} (h : 0 ≤ z ∧ z ≤ 4) : zz_T (zz_rf 5 z + 3) = some (.inr (3, 5, 0)) := by
  have : z = 0 ∨ z = 1 ∨ z = 2 ∨ z = 3 ∨ z = 4 := by omega
  rcases this with rfl | rfl | rfl | rfl | rfl <;> rfl
theorem zN_k5a3 {z : Int} {n : Nat} (hn : zz_end ≤ n) (h : 0 ≤ z ∧ z ≤ 4) : (zz_rf 5 z + 3) < n := by
  have : z = 0 ∨ z = 1 ∨ z = 2 ∨ z = 3 ∨ z = 4 := by omega
  refine Nat.lt_of_lt_of_le ?_ hn
  rcases this with rfl | rfl | rfl | rfl | rfl <;> decide
theorem zT_k5a4 {z : Int} (h : 0 ≤ z ∧ z ≤ 4) : zz_T (zz_rf 5 z + 4) = some (.inr (3, 5, 0)) := by
  have : z = 0 ∨ z = 1 ∨ z = 2 ∨ z = 3 ∨ z = 4 := by omega
  rcases this with rfl | rfl | rfl | rfl | rfl <;> rfl
theorem zN_k5a4 {z : Int} {n : Nat} (hn : zz_end ≤ n) (h : 0 ≤ z ∧ z ≤ 4) : (zz_rf 5 z + 4) < n := by
  have : z = 0 ∨ z = 1 ∨ z = 2 ∨ z = 3 ∨ z = 4 := by omega
  refine Nat.lt_of_lt_of_le ?_ hn
  rcases this with rfl | rfl | rfl | rfl | rfl <;> decide
theorem zT_k6 {z : Int} (h : 0 ≤ z ∧ z ≤ 23) : zz_T (zz_rf 6 z) = some (.inl (2, [0, 0, 0, 0, 0, 0, 0, 0, 0, 0, 0, 0, 0, 0, 0])) := by
  have : z = 0 ∨ z = 1 ∨ z = 2 ∨ z = 3 ∨ z = 4 ∨ z = 5 ∨ z = 6 ∨ z = 7 ∨ z = 8 ∨ z = 9 ∨ z = 10 ∨ z = 11 ∨ z = 12 ∨ z = 13 ∨ z = 14 ∨ z = 15 ∨ z = 16 ∨ z = 17 ∨ z = 18 ∨ z = 19 ∨ z = 20 ∨ z = 21 ∨ z = 22 ∨ z = 23 := by omega
  rcases this with rfl | rfl | rfl | rfl | rfl | rfl | rfl | rfl | rfl | rfl | rfl | rfl | rfl | rfl | rfl | rfl | rfl | rfl | rfl | rfl | rfl | rfl | rfl | rfl <;> rfl
theorem zN_k6 {z : Int} {n : Nat} (hn : zz_end ≤ n) (h : 0 ≤ z ∧ z ≤ 23) : zz_rf 6 z < n := by
  have : z = 0 ∨ z = 1 ∨ z = 2 ∨ z = 3 ∨ z = 4 ∨ z = 5 ∨ z = 6 ∨ z = 7 ∨ z = 8 ∨ z = 9 ∨ z = 10 ∨ z = 11 ∨ z = 12 ∨ z = 13 ∨ z = 14 ∨ z = 15 ∨ z = 16 ∨ z = 17 ∨ z = 18 ∨ z = 19 ∨ z = 20 ∨ z = 21 ∨ z = 22 ∨ z = 23 := by omega
  refine Nat.lt_of_lt_of_le ?_ hn
  rcases this with rfl | rfl | rfl | rfl | rfl | rfl | rfl | rfl | rfl | rfl | rfl | rfl | rfl | rfl | rfl | rfl | rfl | rfl | rfl | rfl | rfl | rfl | rfl | rfl <;> decide
theorem zz_band64 {x y v : Int} (hx : -9223372036854775808 ≤ x ∧ x ≤ 9223372036854775807) (hy : -9223372036854775808 ≤ y ∧ y ≤ 9223372036854775807) (e : v = (Int64.ofInt x &&& Int64.ofInt y).toInt) : (0 ≤ x → 0 ≤ v ∧ v ≤ x) ∧ (0 ≤ y → 0 ≤ v ∧ v ≤ y) := by
  have key : ∀ x y : Int64, 0 ≤ x.toInt → 0 ≤ (x &&& y).toInt ∧ (x &&& y).toInt ≤ x.toInt := by
    intro x y h
    have h1 : x.toBitVec.toInt = x.toInt := rfl
    have h2 : (x &&& y).toInt = (x.toBitVec &&& y.toBitVec).toInt := by rw [← Int64.toInt_toBitVec, Int64.toBitVec_and]
    have hm : x.toBitVec.msb = false := by
      rw [BitVec.msb_eq_toInt]
      simpa [h1] using h
    have hm2 : (x.toBitVec &&& y.toBitVec).msb = false := by rw [BitVec.msb_and, hm]; rfl
    rw [h2, ← h1, BitVec.toInt_eq_toNat_of_msb hm2, BitVec.toInt_eq_toNat_of_msb hm, BitVec.toNat_and]
    have := @Nat.and_le_left x.toBitVec.toNat y.toBitVec.toNat
    omega
  subst e
  refine ⟨fun h => ?_, fun h => ?_⟩
  · have := key (Int64.ofInt x) (Int64.ofInt y) (by rw [zz_t64 hx]; exact h)
    rw [zz_t64 hx] at this
    exact this
  · have := key (Int64.ofInt y) (Int64.ofInt x) (by rw [zz_t64 hy]; exact h)
    rw [zz_t64 hy, Int64.and_comm] at this
    exact this
theorem zz_lsr5 {x v : Int} (hx : 0 ≤ x ∧ x ≤ 9223372036854775807) (e : v = (Int64.ofInt x >>> ((Int32.ofInt 5).toInt64 &&& 63)).toInt) : v = x / 32 := by
  have h5 : (Int32.ofInt 5).toInt64 &&& 63 = 5 := by decide
  rw [h5] at e
  rw [e, ← Int64.toInt_toBitVec, Int64.toBitVec_shiftRight]
  have h6 : (BitVec.smod (Int64.toBitVec 5) 64).toNat = 5 := by decide
  rw [BitVec.sshiftRight', h6, BitVec.toInt_sshiftRight, Int64.toInt_toBitVec, zz_t64 (by omega)]
  exact Int.shiftRight_eq_div_pow x 5
theorem zz_sl1 {b v : Int} (hb : 0 ≤ b ∧ b ≤ 12) (e : v = (Int64.ofInt 1 <<< ((Int32.ofInt b).toInt64 &&& 63)).toInt) : (b = 0 ∧ v = 1) ∨ (b = 1 ∧ v = 2) ∨ (b = 2 ∧ v = 4) ∨ (b = 3 ∧ v = 8) ∨ (b = 4 ∧ v = 16) ∨ (b = 5 ∧ v = 32) ∨ (b = 6 ∧ v = 64) ∨ (b = 7 ∧ v = 128) ∨ (b = 8 ∧ v = 256) ∨ (b = 9 ∧ v = 512) ∨ (b = 10 ∧ v = 1024) ∨ (b = 11 ∧ v = 2048) ∨ (b = 12 ∧ v = 4096) := by
  have : b = 0 ∨ b = 1 ∨ b = 2 ∨ b = 3 ∨ b = 4 ∨ b = 5 ∨ b = 6 ∨ b = 7 ∨ b = 8 ∨ b = 9 ∨ b = 10 ∨ b = 11 ∨ b = 12 := by omega
  subst e
  rcases this with rfl | rfl | rfl | rfl | rfl | rfl | rfl | rfl | rfl | rfl | rfl | rfl | rfl <;> decide
theorem zz_mulb {a b : Int} (A B C : Int) (ha : 0 ≤ a ∧ a ≤ A) (hb : 0 ≤ b ∧ b ≤ B) (hC : A * B = C) : 0 ≤ a * b ∧ a * b ≤ C := by
  refine ⟨Int.mul_nonneg ha.1 hb.1, ?_⟩
  rw [← hC]
  exact Int.mul_le_mul ha.2 hb.2 hb.1 (Int.le_trans ha.1 ha.2)
theorem zz_rf3 {z : Int} (h : 0 ≤ z ∧ z ≤ 1) : (zz_rf 3 z : Int) = 1001 + 14 * z := by
  have : z = 0 ∨ z = 1 := by omega
  rcases this with rfl | rfl <;> rfl
theorem zz_rf6 {z : Int} (h : 0 ≤ z ∧ z ≤ 23) : (z < 12 ∧ (zz_rf 6 z : Int) = 1003 + z) ∨ (12 ≤ z ∧ (zz_rf 6 z : Int) = 1005 + z) := by
  by_cases q : z < 12
  · have e : zz_rf 6 z = 1003 + z.toNat := if_pos q
    exact Or.inl ⟨q, by rw [e]; omega⟩
  · have e : zz_rf 6 z = 1005 + z.toNat := if_neg q
    exact Or.inr ⟨by omega, by rw [e]; omega⟩
theorem zz_rf5 {z : Int} (h : 0 ≤ z ∧ z ≤ 4) : (z = 4 ∧ (zz_rf 5 z : Int) = 1037) ∨ (z < 4 ∧ (zz_rf 5 z : Int) = 1050 + 5 * z) := by
  by_cases q : z = 4
  · have e : zz_rf 5 z = 1037 := if_pos q
    exact Or.inl ⟨q, by rw [e]; rfl⟩
  · have e : zz_rf 5 z = 1050 + 5 * z.toNat := if_neg q
    exact Or.inr ⟨by omega, by rw [e]; omega⟩
