/-! Rows over whole numbers and the state of cells. By program (wip/zz/gen41.py). -/
def zz_rg32 (z : Int) : Prop := -2147483648 ≤ z ∧ z ≤ 2147483647
def zz_rg64 (z : Int) : Prop := -9223372036854775808 ≤ z ∧ z ≤ 9223372036854775807
theorem zz_t32 {z : Int} (h : -2147483648 ≤ z ∧ z ≤ 2147483647) : (Int32.ofInt z).toInt = z := Int32.toInt_ofInt_of_le (by omega) (by omega)
theorem zz_t64 {z : Int} (h : -9223372036854775808 ≤ z ∧ z ≤ 9223372036854775807) : (Int64.ofInt z).toInt = z := Int64.toInt_ofInt_of_le (by omega) (by omega)
theorem zz_r32 (x : Int32) : -2147483648 ≤ x.toInt ∧ x.toInt ≤ 2147483647 := by
  have h1 := x.le_toInt
  have h2 := x.toInt_lt
  omega
theorem zz_r64 (x : Int64) : -9223372036854775808 ≤ x.toInt ∧ x.toInt ≤ 9223372036854775807 := by
  have h1 := x.le_toInt
  have h2 := x.toInt_lt
  omega
theorem zz_lt32 {a b : Int} (ha : -2147483648 ≤ a ∧ a ≤ 2147483647) (hb : -2147483648 ≤ b ∧ b ≤ 2147483647) : Int32.ofInt a < Int32.ofInt b ↔ a < b := by
  rw [Int32.lt_iff_toInt_lt, zz_t32 ha, zz_t32 hb]
theorem zz_le32 {a b : Int} (ha : -2147483648 ≤ a ∧ a ≤ 2147483647) (hb : -2147483648 ≤ b ∧ b ≤ 2147483647) : Int32.ofInt a ≤ Int32.ofInt b ↔ a ≤ b := by
  rw [Int32.le_iff_toInt_le, zz_t32 ha, zz_t32 hb]
theorem zz_eq32 {a b : Int} (ha : -2147483648 ≤ a ∧ a ≤ 2147483647) (hb : -2147483648 ≤ b ∧ b ≤ 2147483647) : Int32.ofInt a = Int32.ofInt b ↔ a = b := by
  rw [← Int32.toInt_inj, zz_t32 ha, zz_t32 hb]
theorem zz_bm32 (z : Int) : Int32.ofInt (Int32.ofInt z).toInt = Int32.ofInt z := Int32.ofInt_toInt _
theorem zz_nm32 (x : Int32) : x = Int32.ofInt x.toInt := (Int32.ofInt_toInt x).symm
theorem zz_nm64 (x : Int64) : x = Int64.ofInt x.toInt := (Int64.ofInt_toInt x).symm
def zz_fv (kd : Nat) (z : Int) : Value := match kd with
  | 0 => zi z
  | 1 => zl z
  | kd => if z < 0 then .null else .ref (zz_rf kd z)
def zz_av (N kd : Nat) (f : Nat → Int) : vp_A := match kd with
  | 0 => (N, .inl (fun i => Int32.ofInt (f i)))
  | 1 => (N, .inr (.inl (fun i => Int64.ofInt (f i))))
  | kd => (N, .inr (.inr (.inr (.inr (fun i => if f i < 0 then none else some (zz_rf kd (f i)))))))
def zz_fs (ks : List Nat) (f : Nat → Int) : List Value := ks.mapIdx (fun i kd => zz_fv kd (f i))
def zz_en (L : zz_L) (f : Nat → Int) : mm_E := match L with
  | .inl (ci, ks) => .inr (ci, zz_fs ks f)
  | .inr (t, N, kd) => .inl (t, zz_av N kd f)
def zz_M (S : zz_S) (n : Nat) : mm_M := fun a => if a < n then (zz_T a).map (fun L => zz_en L (S a)) else none
def zz_st (S : zz_S) (a i : Nat) (z : Int) : zz_S := fun b j => if b = a ∧ j = i then z else S b j
theorem zz_st_s {S : zz_S} {a i : Nat} {z : Int} : zz_st S a i z a i = z := by simp [zz_st]
theorem zz_st_n {S : zz_S} {a i b j : Nat} {z : Int} (h : ¬ (b = a ∧ j = i)) : zz_st S a i z b j = S b j := by simp only [zz_st, if_neg h]
theorem zz_M_at {S : zz_S} {n a : Nat} {L : zz_L} (hn : a < n) (hT : zz_T a = some L) : zz_M S n a = some (zz_en L (S a)) := by
  simp only [zz_M, if_pos hn, hT, Option.map_some]
theorem zz_M_st {S : zz_S} {n a i : Nat} {z : Int} {L : zz_L} (hn : a < n) (hT : zz_T a = some L) : zz_M (zz_st S a i z) n = mm_up (zz_M S n) a (zz_en L (zz_st S a i z a)) := by
  funext b
  by_cases h : b = a
  · subst h
    rw [mm_up_s, zz_M_at hn hT]
  · rw [mm_up_n h]
    simp only [zz_M]
    split
    · congr 1
      funext L
      congr 1
      funext j
      exact zz_st_n (fun q => h q.1)
    · rfl
theorem zz_fs_at {ks : List Nat} {f : Nat → Int} {i kd : Nat} (h : ks[i]? = some kd) : (zz_fs ks f)[i]? = some (zz_fv kd (f i)) := by
  simp only [zz_fs, List.getElem?_mapIdx, h, Option.map_some]
theorem zz_fs_len {ks : List Nat} {f : Nat → Int} : (zz_fs ks f).length = ks.length := by simp [zz_fs]
theorem zz_fs_set {ks : List Nat} {S : zz_S} {a i kd : Nat} {z : Int} (h : ks[i]? = some kd) : zz_fs ks (zz_st S a i z a) = (zz_fs ks (S a)).set i (zz_fv kd z) := by
  apply List.ext_getElem?
  intro q
  rw [List.getElem?_set]
  simp only [zz_fs, List.getElem?_mapIdx, List.length_mapIdx]
  by_cases hq : i = q
  · subst hq
    have hl : i < ks.length := by
      rcases Nat.lt_or_ge i ks.length with z | z
      · exact z
      · rw [List.getElem?_eq_none z] at h; cases h
    rw [if_pos rfl, if_pos hl, h]
    simp [zz_st]
  · rw [if_neg hq]
    have : ¬ q = i := fun z => hq z.symm
    simp only [zz_st, true_and, if_neg this]
/-- ranges -/
def zz_G (S : zz_S) : Prop := ∀ a i, 1000 ≤ a → (zz_rg a i).1 ≤ S a i ∧ S a i ≤ (zz_rg a i).2
theorem zz_G.at {S : zz_S} (h : zz_G S) (a i : Nat) (lo hi : Int) (e : zz_rg a i = (lo, hi)) (ha : 1000 ≤ a) : lo ≤ S a i ∧ S a i ≤ hi := by
  have := h a i ha
  rw [e] at this
  exact this
theorem zz_G.put {S S1 : zz_S} (h : zz_G S) {a i : Nat} {z : Int} (e : S1 = zz_st S a i z) (lo hi : Int) (er : zz_rg a i = (lo, hi)) (hz : lo ≤ z ∧ z ≤ hi) : zz_G S1 := by
  intro b j hb
  rw [e]
  by_cases q : b = a ∧ j = i
  · obtain ⟨rfl, rfl⟩ := q
    rw [zz_st_s, er]
    exact hz
  · rw [zz_st_n q]
    exact h b j hb
def zz_D (Y : mm_Y) (pc : Nat) (ins : Instr) (len pc1 : Nat) : Prop := decode Y.2.1 pc = .ok (ins, len) ∧ pc + len = pc1
def zz_B (Y : mm_Y) (pc : Nat) (mk : Int → Instr) (tgt pc1 : Nat) : Prop := ∃ off : Int, decode Y.2.1 pc = .ok (mk off, 3) ∧ (pc : Int) + off = (tgt : Int) ∧ pc + 3 = pc1
def zz_E (g : mm_G) (l : Launch) (Y : mm_Y) (rm : Room) (Q : mm_O → Prop) (S : zz_S) (n pc : Nat) (ls : List (Option Value)) (st : List Value) (k j : Nat) : Prop := mm_Ev g l Y rm Q pc ls st (zz_M S n) n k j
section ZZ
variable {g : mm_G} {l : Launch} {Y : mm_Y} {rm : Room} {Q : mm_O → Prop} {pc pc1 : Nat} {ls : List (Option Value)} {st : List Value} {S : zz_S} {n k j : Nat}
theorem zz_rw {M : mm_M} {p0 : Nat} (e : p0 = pc1) (h : mm_Ev g l Y rm Q pc1 ls st M n k j) : mm_Ev g l Y rm Q p0 ls st M n k j := e ▸ h
theorem zz_iconst {z : Int} (hd : zz_D Y pc (.iconst z) 1 pc1) (kk : zz_E g l Y rm Q S n pc1 ls (zi z :: st) k j) : zz_E g l Y rm Q S n pc ls st k j :=
  mm_iconst rfl hd.1 (zz_rw hd.2 kk)
theorem zz_b8 {z : Int} (h : -128 ≤ z ∧ z < 128) : (Int8.ofInt z).toInt32 = Int32.ofInt z := by
  rw [← Int32.ofInt_int8ToInt, Int8.toInt_ofInt_of_le (by omega) (by omega)]
theorem zz_b16 {z : Int} (h : -32768 ≤ z ∧ z < 32768) : (Int16.ofInt z).toInt32 = Int32.ofInt z := by
  rw [← Int32.ofInt_int16ToInt, Int16.toInt_ofInt_of_le (by omega) (by omega)]
theorem zz_bipush {z : Int} (hz : -128 ≤ z ∧ z < 128) (hd : zz_D Y pc (.bipush z) 2 pc1) (kk : zz_E g l Y rm Q S n pc1 ls (zi z :: st) k j) : zz_E g l Y rm Q S n pc ls st k j :=
  mm_bipush (zz_b8 hz) hd.1 (zz_rw hd.2 kk)
theorem zz_sipush {z : Int} (hz : -32768 ≤ z ∧ z < 32768) (hd : zz_D Y pc (.sipush z) 3 pc1) (kk : zz_E g l Y rm Q S n pc1 ls (zi z :: st) k j) : zz_E g l Y rm Q S n pc ls st k j :=
  mm_sipush (zz_b16 hz) hd.1 (zz_rw hd.2 kk)
theorem zz_lconst {q : Fin 2} {z : Int} (hz : Int64.ofNat (q : Nat) = Int64.ofInt z) (hd : zz_D Y pc (.lconst q) 1 pc1) (kk : zz_E g l Y rm Q S n pc1 ls (zl z :: st) k j) : zz_E g l Y rm Q S n pc ls st k j :=
  mm_lconst hz hd.1 (zz_rw hd.2 kk)
theorem zz_ldc {index : Nat} {z : Int} {v : Int32} (hw : Cond.constant Y.1.cls index v ∈ mm_tb) (hz : v = Int32.ofInt z) (hd : zz_D Y pc (.ldc index) 2 pc1) (kk : zz_E g l Y rm Q S n pc1 ls (zi z :: st) k j) : zz_E g l Y rm Q S n pc ls st k j :=
  mm_ldc hd.1 hw (zz_rw hd.2 (by subst hz; exact kk))
theorem zz_ldc2 {index : Nat} {z : Int} {v : Int64} (hw : Cond.constantLong Y.1.cls index v ∈ mm_tb) (hz : v = Int64.ofInt z) (hd : zz_D Y pc (.ldc2_w index) 3 pc1) (kk : zz_E g l Y rm Q S n pc1 ls (zl z :: st) k j) : zz_E g l Y rm Q S n pc ls st k j :=
  mm_ldc2 hd.1 hw (zz_rw hd.2 (by subst hz; exact kk))
theorem zz_ldcs {index t : Nat} (hw : (Y.1.cls, index, t) ∈ mm_strs) (ht : t < 900) (hd : zz_D Y pc (.ldc index) 2 pc1) (kk : zz_E g l Y rm Q S n pc1 ls (.ref (100 + t) :: st) k j) : zz_E g l Y rm Q S n pc ls st k j :=
  mm_ldcs hd.1 hw ht (zz_rw hd.2 kk)
theorem zz_iload_n {q : Fin 4} {x : Int} (hv : mm_lg ls (q : Nat) = some (zi x)) (hd : zz_D Y pc (.iload_n q) 1 pc1) (kk : zz_E g l Y rm Q S n pc1 ls (zi x :: st) k j) : zz_E g l Y rm Q S n pc ls st k j :=
  mm_iload_n hv hd.1 (zz_rw hd.2 kk)
theorem zz_iload {i : Nat} {x : Int} (hv : mm_lg ls i = some (zi x)) (hd : zz_D Y pc (.iload i) 2 pc1) (kk : zz_E g l Y rm Q S n pc1 ls (zi x :: st) k j) : zz_E g l Y rm Q S n pc ls st k j :=
  mm_iload hv hd.1 (zz_rw hd.2 kk)
theorem zz_istore_n {q : Fin 4} {x : Int} (ls1 : List (Option Value)) (hd : zz_D Y pc (.istore_n q) 1 pc1) (hn : (q : Nat) < Y.2.2.1) (hl : mm_st1 ls (q : Nat) (zi x) = ls1) (kk : zz_E g l Y rm Q S n pc1 ls1 st k j) : zz_E g l Y rm Q S n pc ls (zi x :: st) k j :=
  mm_istore_n hd.1 hn hl (zz_rw hd.2 kk)
theorem zz_istore {i : Nat} {x : Int} (ls1 : List (Option Value)) (hd : zz_D Y pc (.istore i) 2 pc1) (hn : i < Y.2.2.1) (hl : mm_st1 ls i (zi x) = ls1) (kk : zz_E g l Y rm Q S n pc1 ls1 st k j) : zz_E g l Y rm Q S n pc ls (zi x :: st) k j :=
  mm_istore hd.1 hn hl (zz_rw hd.2 kk)
theorem zz_lload_n {q : Fin 4} {x : Int} (hv : mm_lg ls (q : Nat) = some (zl x)) (hd : zz_D Y pc (.lload_n q) 1 pc1) (kk : zz_E g l Y rm Q S n pc1 ls (zl x :: st) k j) : zz_E g l Y rm Q S n pc ls st k j :=
  mm_lload_n hv hd.1 (zz_rw hd.2 kk)
theorem zz_lload {i : Nat} {x : Int} (hv : mm_lg ls i = some (zl x)) (hd : zz_D Y pc (.lload i) 2 pc1) (kk : zz_E g l Y rm Q S n pc1 ls (zl x :: st) k j) : zz_E g l Y rm Q S n pc ls st k j :=
  mm_lload hv hd.1 (zz_rw hd.2 kk)
theorem zz_lstore_n {q : Fin 4} {x : Int} (ls1 : List (Option Value)) (hd : zz_D Y pc (.lstore_n q) 1 pc1) (hn : (q : Nat) + 1 < Y.2.2.1) (hl : mm_st2 ls (q : Nat) (zl x) = ls1) (kk : zz_E g l Y rm Q S n pc1 ls1 st k j) : zz_E g l Y rm Q S n pc ls (zl x :: st) k j :=
  mm_lstore_n hd.1 hn hl (zz_rw hd.2 kk)
theorem zz_lstore {i : Nat} {x : Int} (ls1 : List (Option Value)) (hd : zz_D Y pc (.lstore i) 2 pc1) (hn : i + 1 < Y.2.2.1) (hl : mm_st2 ls i (zl x) = ls1) (kk : zz_E g l Y rm Q S n pc1 ls1 st k j) : zz_E g l Y rm Q S n pc ls (zl x :: st) k j :=
  mm_lstore hd.1 hn hl (zz_rw hd.2 kk)
theorem zz_aload_n {q : Fin 4} {x : Nat} (hv : mm_lg ls (q : Nat) = some (.ref x)) (hd : zz_D Y pc (.aload_n q) 1 pc1) (kk : zz_E g l Y rm Q S n pc1 ls (.ref x :: st) k j) : zz_E g l Y rm Q S n pc ls st k j :=
  mm_aload_n hv hd.1 (zz_rw hd.2 kk)
theorem zz_aload {i : Nat} {x : Nat} (hv : mm_lg ls i = some (.ref x)) (hd : zz_D Y pc (.aload i) 2 pc1) (kk : zz_E g l Y rm Q S n pc1 ls (.ref x :: st) k j) : zz_E g l Y rm Q S n pc ls st k j :=
  mm_aload hv hd.1 (zz_rw hd.2 kk)
theorem zz_astore_n {q : Fin 4} {x : Nat} (ls1 : List (Option Value)) (hd : zz_D Y pc (.astore_n q) 1 pc1) (hn : (q : Nat) < Y.2.2.1) (hl : mm_st1 ls (q : Nat) (.ref x) = ls1) (kk : zz_E g l Y rm Q S n pc1 ls1 st k j) : zz_E g l Y rm Q S n pc ls (.ref x :: st) k j :=
  mm_astore_n hd.1 hn hl (zz_rw hd.2 kk)
theorem zz_astore {i : Nat} {x : Nat} (ls1 : List (Option Value)) (hd : zz_D Y pc (.astore i) 2 pc1) (hn : i < Y.2.2.1) (hl : mm_st1 ls i (.ref x) = ls1) (kk : zz_E g l Y rm Q S n pc1 ls1 st k j) : zz_E g l Y rm Q S n pc ls (.ref x :: st) k j :=
  mm_astore hd.1 hn hl (zz_rw hd.2 kk)
theorem zz_iinc {i : Nat} {c x : Int} (ls1 : List (Option Value)) (hd : zz_D Y pc (.iinc i c) 3 pc1) (hg : mm_lg ls i = some (zi x)) (hl : mm_st1 ls i (zi (x + c)) = ls1) (kk : zz_E g l Y rm Q S n pc1 ls1 st k j) : zz_E g l Y rm Q S n pc ls st k j :=
  mm_iinc hd.1 hg (Int32.ofInt_add x c).symm hl (zz_rw hd.2 kk)
theorem zz_iadd {x y : Int} (hd : zz_D Y pc .iadd 1 pc1) (kk : zz_E g l Y rm Q S n pc1 ls (zi (x + y) :: st) k j) : zz_E g l Y rm Q S n pc ls (zi y :: zi x :: st) k j :=
  mm_iadd hd.1 (zz_rw hd.2 (by rw [← Int32.ofInt_add]; exact kk))
theorem zz_ladd {x y : Int} (hd : zz_D Y pc .ladd 1 pc1) (kk : zz_E g l Y rm Q S n pc1 ls (zl (x + y) :: st) k j) : zz_E g l Y rm Q S n pc ls (zl y :: zl x :: st) k j :=
  mm_ladd hd.1 (zz_rw hd.2 (by rw [← Int64.ofInt_add]; exact kk))
theorem zz_isub {x y : Int} (hd : zz_D Y pc .isub 1 pc1) (kk : zz_E g l Y rm Q S n pc1 ls (zi (x - y) :: st) k j) : zz_E g l Y rm Q S n pc ls (zi y :: zi x :: st) k j :=
  mm_isub hd.1 (zz_rw hd.2 (by rw [← Int32.ofInt_sub]; exact kk))
theorem zz_lsub {x y : Int} (hd : zz_D Y pc .lsub 1 pc1) (kk : zz_E g l Y rm Q S n pc1 ls (zl (x - y) :: st) k j) : zz_E g l Y rm Q S n pc ls (zl y :: zl x :: st) k j :=
  mm_lsub hd.1 (zz_rw hd.2 (by rw [← Int64.ofInt_sub]; exact kk))
theorem zz_imul {x y : Int} (hd : zz_D Y pc .imul 1 pc1) (kk : zz_E g l Y rm Q S n pc1 ls (zi (x * y) :: st) k j) : zz_E g l Y rm Q S n pc ls (zi y :: zi x :: st) k j :=
  mm_imul hd.1 (zz_rw hd.2 (by rw [← Int32.ofInt_mul]; exact kk))
theorem zz_lmul {x y : Int} (hd : zz_D Y pc .lmul 1 pc1) (kk : zz_E g l Y rm Q S n pc1 ls (zl (x * y) :: st) k j) : zz_E g l Y rm Q S n pc ls (zl y :: zl x :: st) k j :=
  mm_lmul hd.1 (zz_rw hd.2 (by rw [← Int64.ofInt_mul]; exact kk))
theorem zz_ineg {x : Int} (hd : zz_D Y pc .ineg 1 pc1) (kk : zz_E g l Y rm Q S n pc1 ls (zi (-x) :: st) k j) : zz_E g l Y rm Q S n pc ls (zi x :: st) k j :=
  mm_ineg hd.1 (zz_rw hd.2 (by rw [← Int32.ofInt_neg]; exact kk))
theorem zz_nrm {e : Int} (kk : ∀ v : Int, (-2147483648 ≤ v ∧ v ≤ 2147483647) → (-2147483648 ≤ e ∧ e ≤ 2147483647 → v = e) → zz_E g l Y rm Q S n pc ls (zi v :: st) k j) : zz_E g l Y rm Q S n pc ls (zi e :: st) k j := by
  have h := kk (Int32.ofInt e).toInt (zz_r32 _) (fun h => zz_t32 h)
  unfold zi at h
  rw [zz_bm32] at h
  exact h
theorem zz_nrml {e : Int} (kk : ∀ v : Int, (-9223372036854775808 ≤ v ∧ v ≤ 9223372036854775807) → (-9223372036854775808 ≤ e ∧ e ≤ 9223372036854775807 → v = e) → zz_E g l Y rm Q S n pc ls (zl v :: st) k j) : zz_E g l Y rm Q S n pc ls (zl e :: st) k j := by
  have h := kk (Int64.ofInt e).toInt (zz_r64 _) (fun h => zz_t64 h)
  unfold zl at h
  rw [Int64.ofInt_toInt] at h
  exact h
theorem zz_eqv {e v : Int} (h : e = v) (kk : zz_E g l Y rm Q S n pc ls (zi v :: st) k j) : zz_E g l Y rm Q S n pc ls (zi e :: st) k j := h ▸ kk
theorem zz_div32 {x y : Int} (hx : -2147483648 ≤ x ∧ x ≤ 2147483647) (hy : 0 < y ∧ y ≤ 2147483647) : Int32.ofInt x / Int32.ofInt y = Int32.ofInt (x.tdiv y) := by
  apply Int32.toInt_inj.mp
  have hb : Int32.ofInt y ≠ -1 := fun h => by
    have h2 := congrArg Int32.toInt h
    rw [zz_t32 (by omega)] at h2
    have : (-1 : Int32).toInt = -1 := by decide
    omega
  rw [Int32.toInt_div_of_ne_right _ _ hb, zz_t32 hx, zz_t32 (by omega)]
  have h1 := Int.tdiv_le_self (a := x) 
  rw [zz_t32]
  have h3 := Int.natAbs_tdiv_le_natAbs x y
  have h4 : (x.tdiv y).natAbs ≤ x.natAbs := h3
  by_cases h0 : 0 ≤ x
  · have := Int.tdiv_nonneg h0 (Int.le_of_lt hy.1)
    omega
  · have := Int.tdiv_nonneg (by omega : 0 ≤ -x) (Int.le_of_lt hy.1)
    rw [Int.neg_tdiv] at this
    omega
theorem zz_ne0 {y : Int} (hy : 0 < y ∧ y ≤ 2147483647) : ¬ Int32.ofInt y = 0 := fun h => by
  have h2 := congrArg Int32.toInt h
  rw [zz_t32 (by omega)] at h2
  have : (0 : Int32).toInt = 0 := by decide
  omega
theorem zz_idiv {x y : Int} (hx : -2147483648 ≤ x ∧ x ≤ 2147483647) (hy : 0 < y ∧ y ≤ 2147483647) (hd : zz_D Y pc .idiv 1 pc1) (kk : ∀ v : Int, (-2147483648 ≤ v ∧ v ≤ 2147483647) → v = x.tdiv y → (0 ≤ x → v = x / y) → (x ≤ 0 → v = -((-x) / y)) → zz_E g l Y rm Q S n pc1 ls (zi v :: st) k j) : zz_E g l Y rm Q S n pc ls (zi y :: zi x :: st) k j := by
  refine mm_idiv (zz_ne0 hy) hd.1 (zz_rw hd.2 ?_)
  rw [zz_div32 hx hy]
  refine kk (x.tdiv y) ?_ rfl (fun h => Int.tdiv_eq_ediv_of_nonneg h) (fun h => ?_)
  · have h3 := Int.natAbs_tdiv_le_natAbs x y
    by_cases h0 : 0 ≤ x
    · have := Int.tdiv_nonneg h0 (Int.le_of_lt hy.1)
      omega
    · have := Int.tdiv_nonneg (by omega : 0 ≤ -x) (Int.le_of_lt hy.1)
      rw [Int.neg_tdiv] at this
      omega
  · rw [← Int.tdiv_eq_ediv_of_nonneg (by omega : 0 ≤ -x), Int.neg_tdiv, Int.neg_neg]
theorem zz_irem {x y : Int} (hx : -2147483648 ≤ x ∧ x ≤ 2147483647) (hy : 0 < y ∧ y ≤ 2147483647) (hd : zz_D Y pc .irem 1 pc1) (kk : ∀ v : Int, (-y < v ∧ v < y) → v = x.tmod y → (0 ≤ x → v = x % y) → (x ≤ 0 → v = -((-x) % y)) → zz_E g l Y rm Q S n pc1 ls (zi v :: st) k j) : zz_E g l Y rm Q S n pc ls (zi y :: zi x :: st) k j := by
  refine mm_irem (zz_ne0 hy) hd.1 (zz_rw hd.2 ?_)
  rw [zz_div32 hx hy, ← Int32.ofInt_mul, ← Int32.ofInt_sub]
  have e : x - x.tdiv y * y = x.tmod y := by
    have := Int.tdiv_mul_add_tmod x y
    omega
  rw [e]
  have hneg : x ≤ 0 → x.tmod y = -((-x) % y) := fun h => by
    rw [← Int.tmod_eq_emod_of_nonneg (by omega : 0 ≤ -x), Int.neg_tmod, Int.neg_neg]
  refine kk (x.tmod y) ?_ rfl (fun h => Int.tmod_eq_emod_of_nonneg h) hneg
  rcases Int.le_total 0 x with h | h
  · rw [Int.tmod_eq_emod_of_nonneg h]
    have h1 := Int.emod_nonneg x (by omega : y ≠ 0)
    have h2 := Int.emod_lt_of_pos x hy.1
    omega
  · rw [hneg h]
    have h1 := Int.emod_nonneg (-x) (by omega : y ≠ 0)
    have h2 := Int.emod_lt_of_pos (-x) hy.1
    omega
theorem zz_and32 (x y : Int32) : (0 ≤ x.toInt → 0 ≤ (x &&& y).toInt ∧ (x &&& y).toInt ≤ x.toInt) ∧ (0 ≤ y.toInt → 0 ≤ (x &&& y).toInt ∧ (x &&& y).toInt ≤ y.toInt) := by
  have key : ∀ x y : Int32, 0 ≤ x.toInt → 0 ≤ (x &&& y).toInt ∧ (x &&& y).toInt ≤ x.toInt := by
    intro x y h
    have h1 : x.toBitVec.toInt = x.toInt := rfl
    have h2 : (x &&& y).toInt = (x.toBitVec &&& y.toBitVec).toInt := by rw [← Int32.toInt_toBitVec, Int32.toBitVec_and]
    have hm : x.toBitVec.msb = false := by
      rw [BitVec.msb_eq_toInt]
      simpa [h1] using h
    have hm2 : (x.toBitVec &&& y.toBitVec).msb = false := by rw [BitVec.msb_and, hm]; rfl
    rw [h2, ← h1, BitVec.toInt_eq_toNat_of_msb hm2, BitVec.toInt_eq_toNat_of_msb hm, BitVec.toNat_and]
    have := @Nat.and_le_left x.toBitVec.toNat y.toBitVec.toNat
    omega
  refine ⟨key x y, fun h => ?_⟩
  have := key y x h
  rw [Int32.and_comm y x] at this
  exact this
theorem zz_or32 (x y : Int32) : (0 ≤ x.toInt → 0 ≤ y.toInt → 0 ≤ (x ||| y).toInt) := by
  intro hx hy
  have h1 : x.toBitVec.toInt = x.toInt := rfl
  have h1y : y.toBitVec.toInt = y.toInt := rfl
  have h2 : (x ||| y).toInt = (x.toBitVec ||| y.toBitVec).toInt := by rw [← Int32.toInt_toBitVec, Int32.toBitVec_or]
  have hm : x.toBitVec.msb = false := by rw [BitVec.msb_eq_toInt]; simpa [h1] using hx
  have hmy : y.toBitVec.msb = false := by rw [BitVec.msb_eq_toInt]; simpa [h1y] using hy
  have hm2 : (x.toBitVec ||| y.toBitVec).msb = false := by rw [BitVec.msb_or, hm, hmy]; rfl
  rw [h2, BitVec.toInt_eq_toNat_of_msb hm2]
  omega
theorem zz_iand {x y : Int} (hx : -2147483648 ≤ x ∧ x ≤ 2147483647) (hy : -2147483648 ≤ y ∧ y ≤ 2147483647) (hd : zz_D Y pc .iand 1 pc1) (kk : ∀ v : Int, (-2147483648 ≤ v ∧ v ≤ 2147483647) → (0 ≤ x → 0 ≤ v ∧ v ≤ x) → (0 ≤ y → 0 ≤ v ∧ v ≤ y) → v = (Int32.ofInt x &&& Int32.ofInt y).toInt → zz_E g l Y rm Q S n pc1 ls (zi v :: st) k j) : zz_E g l Y rm Q S n pc ls (zi y :: zi x :: st) k j := by
  refine mm_iand hd.1 (zz_rw hd.2 ?_)
  have h := zz_and32 (Int32.ofInt x) (Int32.ofInt y)
  rw [zz_t32 hx, zz_t32 hy] at h
  rw [zz_nm32 (Int32.ofInt x &&& Int32.ofInt y)]
  exact kk _ (zz_r32 _) h.1 h.2 rfl
theorem zz_ior {x y : Int} (hx : -2147483648 ≤ x ∧ x ≤ 2147483647) (hy : -2147483648 ≤ y ∧ y ≤ 2147483647) (hd : zz_D Y pc .ior 1 pc1) (kk : ∀ v : Int, (-2147483648 ≤ v ∧ v ≤ 2147483647) → (0 ≤ x → 0 ≤ y → 0 ≤ v) → v = (Int32.ofInt x ||| Int32.ofInt y).toInt → zz_E g l Y rm Q S n pc1 ls (zi v :: st) k j) : zz_E g l Y rm Q S n pc ls (zi y :: zi x :: st) k j := by
  refine mm_ior hd.1 (zz_rw hd.2 ?_)
  have h := zz_or32 (Int32.ofInt x) (Int32.ofInt y)
  rw [zz_t32 hx, zz_t32 hy] at h
  rw [zz_nm32 (Int32.ofInt x ||| Int32.ofInt y)]
  exact kk _ (zz_r32 _) h rfl
theorem zz_ixor {x y : Int} (hd : zz_D Y pc .ixor 1 pc1) (kk : ∀ v : Int, (-2147483648 ≤ v ∧ v ≤ 2147483647) → v = (Int32.ofInt x ^^^ Int32.ofInt y).toInt → zz_E g l Y rm Q S n pc1 ls (zi v :: st) k j) : zz_E g l Y rm Q S n pc ls (zi y :: zi x :: st) k j := by
  refine mm_ixor hd.1 (zz_rw hd.2 ?_)
  rw [zz_nm32 (Int32.ofInt x ^^^ Int32.ofInt y)]
  exact kk _ (zz_r32 _) rfl
theorem zz_ishl {x y : Int} (hd : zz_D Y pc .ishl 1 pc1) (kk : ∀ v : Int, (-2147483648 ≤ v ∧ v ≤ 2147483647) → v = (Int32.ofInt x <<< (Int32.ofInt y &&& 31)).toInt → zz_E g l Y rm Q S n pc1 ls (zi v :: st) k j) : zz_E g l Y rm Q S n pc ls (zi y :: zi x :: st) k j := by
  refine mm_ishl hd.1 (zz_rw hd.2 ?_)
  rw [zz_nm32 (Int32.ofInt x <<< (Int32.ofInt y &&& 31))]
  exact kk _ (zz_r32 _) rfl
theorem zz_ishr {x y : Int} (hd : zz_D Y pc .ishr 1 pc1) (kk : ∀ v : Int, (-2147483648 ≤ v ∧ v ≤ 2147483647) → v = (Int32.ofInt x >>> (Int32.ofInt y &&& 31)).toInt → zz_E g l Y rm Q S n pc1 ls (zi v :: st) k j) : zz_E g l Y rm Q S n pc ls (zi y :: zi x :: st) k j := by
  refine mm_ishr hd.1 (zz_rw hd.2 ?_)
  rw [zz_nm32 (Int32.ofInt x >>> (Int32.ofInt y &&& 31))]
  exact kk _ (zz_r32 _) rfl
theorem zz_iushr {x y : Int} (hd : zz_D Y pc .iushr 1 pc1) (kk : ∀ v : Int, (-2147483648 ≤ v ∧ v ≤ 2147483647) → v = (((Int32.ofInt x).toUInt32 >>> ((Int32.ofInt y).toUInt32 &&& Int32.toUInt32 31)).toInt32).toInt → zz_E g l Y rm Q S n pc1 ls (zi v :: st) k j) : zz_E g l Y rm Q S n pc ls (zi y :: zi x :: st) k j := by
  refine mm_iushr rfl hd.1 (zz_rw hd.2 ?_)
  rw [zz_nm32 (((Int32.ofInt x).toUInt32 >>> ((Int32.ofInt y).toUInt32 &&& Int32.toUInt32 31)).toInt32)]
  exact kk _ (zz_r32 _) rfl
theorem zz_land {x y : Int} (hd : zz_D Y pc .land 1 pc1) (kk : ∀ v : Int, (-9223372036854775808 ≤ v ∧ v ≤ 9223372036854775807) → v = (Int64.ofInt x &&& Int64.ofInt y).toInt → zz_E g l Y rm Q S n pc1 ls (zl v :: st) k j) : zz_E g l Y rm Q S n pc ls (zl y :: zl x :: st) k j := by
  refine mm_land hd.1 (zz_rw hd.2 ?_)
  rw [zz_nm64 (Int64.ofInt x &&& Int64.ofInt y)]
  exact kk _ (zz_r64 _) rfl
theorem zz_lor {x y : Int} (hd : zz_D Y pc .lor 1 pc1) (kk : ∀ v : Int, (-9223372036854775808 ≤ v ∧ v ≤ 9223372036854775807) → v = (Int64.ofInt x ||| Int64.ofInt y).toInt → zz_E g l Y rm Q S n pc1 ls (zl v :: st) k j) : zz_E g l Y rm Q S n pc ls (zl y :: zl x :: st) k j := by
  refine mm_lor hd.1 (zz_rw hd.2 ?_)
  rw [zz_nm64 (Int64.ofInt x ||| Int64.ofInt y)]
  exact kk _ (zz_r64 _) rfl
theorem zz_lxor {x y : Int} (hd : zz_D Y pc .lxor 1 pc1) (kk : ∀ v : Int, (-9223372036854775808 ≤ v ∧ v ≤ 9223372036854775807) → v = (Int64.ofInt x ^^^ Int64.ofInt y).toInt → zz_E g l Y rm Q S n pc1 ls (zl v :: st) k j) : zz_E g l Y rm Q S n pc ls (zl y :: zl x :: st) k j := by
  refine mm_lxor hd.1 (zz_rw hd.2 ?_)
  rw [zz_nm64 (Int64.ofInt x ^^^ Int64.ofInt y)]
  exact kk _ (zz_r64 _) rfl
theorem zz_lshl {x y : Int} (hd : zz_D Y pc .lshl 1 pc1) (kk : ∀ v : Int, (-9223372036854775808 ≤ v ∧ v ≤ 9223372036854775807) → v = (Int64.ofInt x <<< ((Int32.ofInt y).toInt64 &&& 63)).toInt → zz_E g l Y rm Q S n pc1 ls (zl v :: st) k j) : zz_E g l Y rm Q S n pc ls (zi y :: zl x :: st) k j := by
  refine mm_lshl rfl hd.1 (zz_rw hd.2 ?_)
  rw [zz_nm64 (Int64.ofInt x <<< ((Int32.ofInt y).toInt64 &&& 63))]
  exact kk _ (zz_r64 _) rfl
theorem zz_lshr {x y : Int} (hd : zz_D Y pc .lshr 1 pc1) (kk : ∀ v : Int, (-9223372036854775808 ≤ v ∧ v ≤ 9223372036854775807) → v = (Int64.ofInt x >>> ((Int32.ofInt y).toInt64 &&& 63)).toInt → zz_E g l Y rm Q S n pc1 ls (zl v :: st) k j) : zz_E g l Y rm Q S n pc ls (zi y :: zl x :: st) k j := by
  refine mm_lshr rfl hd.1 (zz_rw hd.2 ?_)
  rw [zz_nm64 (Int64.ofInt x >>> ((Int32.ofInt y).toInt64 &&& 63))]
  exact kk _ (zz_r64 _) rfl
theorem zz_lushr {x y : Int} (hd : zz_D Y pc .lushr 1 pc1) (kk : ∀ v : Int, (-9223372036854775808 ≤ v ∧ v ≤ 9223372036854775807) → v = (((Int64.ofInt x).toUInt64 >>> ((Int32.ofInt y).toInt64.toUInt64 &&& Int64.toUInt64 63)).toInt64).toInt → zz_E g l Y rm Q S n pc1 ls (zl v :: st) k j) : zz_E g l Y rm Q S n pc ls (zi y :: zl x :: st) k j := by
  refine mm_lushr rfl hd.1 (zz_rw hd.2 ?_)
  rw [zz_nm64 (((Int64.ofInt x).toUInt64 >>> ((Int32.ofInt y).toInt64.toUInt64 &&& Int64.toUInt64 63)).toInt64)]
  exact kk _ (zz_r64 _) rfl
theorem zz_i2l {x : Int} (hx : -2147483648 ≤ x ∧ x ≤ 2147483647) (hd : zz_D Y pc .i2l 1 pc1) (kk : zz_E g l Y rm Q S n pc1 ls (zl x :: st) k j) : zz_E g l Y rm Q S n pc ls (zi x :: st) k j := by
  refine mm_i2l (v := Int64.ofInt x) ?_ hd.1 (zz_rw hd.2 kk)
  apply Int64.toInt_inj.mp
  rw [Int32.toInt_toInt64, zz_t32 hx, zz_t64 (by omega)]
theorem zz_l2i {x : Int} (hx : -9223372036854775808 ≤ x ∧ x ≤ 9223372036854775807) (hd : zz_D Y pc .l2i 1 pc1) (kk : ∀ v : Int, (-2147483648 ≤ v ∧ v ≤ 2147483647) → (-2147483648 ≤ x ∧ x ≤ 2147483647 → v = x) → v = (Int64.ofInt x).toInt32.toInt → zz_E g l Y rm Q S n pc1 ls (zi v :: st) k j) : zz_E g l Y rm Q S n pc ls (zl x :: st) k j := by
  refine mm_l2i rfl hd.1 (zz_rw hd.2 ?_)
  rw [zz_nm32 (Int64.ofInt x).toInt32]
  refine kk _ (zz_r32 _) (fun h => ?_) rfl
  rw [Int64.toInt_toInt32, zz_t64 hx]
  exact Int.bmod_eq_of_le (by omega) (by omega)
theorem zz_i2b {x : Int} (hd : zz_D Y pc .i2b 1 pc1) (kk : ∀ v : Int, (-128 ≤ v ∧ v ≤ 127) → zz_E g l Y rm Q S n pc1 ls (zi v :: st) k j) : zz_E g l Y rm Q S n pc ls (zi x :: st) k j := by
  refine mm_i2b rfl hd.1 (zz_rw hd.2 ?_)
  rw [zz_nm32 (Int32.ofInt x).toInt8.toInt32]
  refine kk _ ?_
  rw [Int8.toInt_toInt32]
  have h1 := (Int32.ofInt x).toInt8.le_toInt
  have h2 := (Int32.ofInt x).toInt8.toInt_lt
  omega
theorem zz_i2c {x : Int} (hx : 0 ≤ x ∧ x ≤ 65535) (hd : zz_D Y pc .i2c 1 pc1) (kk : zz_E g l Y rm Q S n pc1 ls (zi x :: st) k j) : zz_E g l Y rm Q S n pc ls (zi x :: st) k j := by
  refine mm_i2c (v := Int32.ofInt x) ?_ hd.1 (zz_rw hd.2 kk)
  obtain ⟨m, rfl⟩ := Int.eq_ofNat_of_zero_le hx.1
  have hm : m ≤ 65535 := by omega
  apply Int32.toBitVec_inj.mp
  apply BitVec.eq_of_toNat_eq
  simp only [UInt32.toBitVec_toInt32, UInt32.toBitVec_mod, Int32.toBitVec_toUInt32, Int32.toBitVec_ofInt, BitVec.toNat_umod, BitVec.toNat_ofInt]
  have : (65536 : UInt32).toBitVec.toNat = 65536 := by decide
  rw [this]
  omega
theorem zz_dup {v : Value} (hv : v.category = 1) (hd : zz_D Y pc .dup 1 pc1) (kk : zz_E g l Y rm Q S n pc1 ls (v :: v :: st) k j) : zz_E g l Y rm Q S n pc ls (v :: st) k j :=
  mm_dup hv hd.1 (zz_rw hd.2 kk)
theorem zz_pop {v : Value} (hv : v.category = 1) (hd : zz_D Y pc .pop 1 pc1) (kk : zz_E g l Y rm Q S n pc1 ls st k j) : zz_E g l Y rm Q S n pc ls (v :: st) k j :=
  mm_pop hv hd.1 (zz_rw hd.2 kk)
theorem zz_dup_x1 {v w : Value} (hv : v.category = 1) (hw : w.category = 1) (hd : zz_D Y pc .dup_x1 1 pc1) (kk : zz_E g l Y rm Q S n pc1 ls (v :: w :: v :: st) k j) : zz_E g l Y rm Q S n pc ls (v :: w :: st) k j :=
  mm_dup_x1 hv hw hd.1 (zz_rw hd.2 kk)
theorem zz_dup_x2 {v w u : Value} (hv : v.category = 1) (hw : w.category = 1) (hu : u.category = 1) (hd : zz_D Y pc .dup_x2 1 pc1) (kk : zz_E g l Y rm Q S n pc1 ls (v :: w :: u :: v :: st) k j) : zz_E g l Y rm Q S n pc ls (v :: w :: u :: st) k j :=
  mm_dup_x2 hv hw hu hd.1 (zz_rw hd.2 kk)
theorem zz_dup2_11 {v w : Value} (hv : v.category = 1) (hw : w.category = 1) (hd : zz_D Y pc .dup2 1 pc1) (kk : zz_E g l Y rm Q S n pc1 ls (v :: w :: v :: w :: st) k j) : zz_E g l Y rm Q S n pc ls (v :: w :: st) k j :=
  mm_dup2_11 hv hw hd.1 (zz_rw hd.2 kk)
theorem zz_dup2_2 {v : Value} (hv : v.category = 2) (hd : zz_D Y pc .dup2 1 pc1) (kk : zz_E g l Y rm Q S n pc1 ls (v :: v :: st) k j) : zz_E g l Y rm Q S n pc ls (v :: st) k j :=
  mm_dup2_2 hv hd.1 (zz_rw hd.2 kk)
theorem zz_pop2_2 {v : Value} (hv : v.category = 2) (hd : zz_D Y pc .pop2 1 pc1) (kk : zz_E g l Y rm Q S n pc1 ls st k j) : zz_E g l Y rm Q S n pc ls (v :: st) k j :=
  mm_pop2_2 hv hd.1 (zz_rw hd.2 kk)
theorem zz_dup2_x1_2 {v w : Value} (hv : v.category = 2) (hw : w.category = 1) (hd : zz_D Y pc .dup2_x1 1 pc1) (kk : zz_E g l Y rm Q S n pc1 ls (v :: w :: v :: st) k j) : zz_E g l Y rm Q S n pc ls (v :: w :: st) k j :=
  mm_dup2_x1_2 hv hw hd.1 (zz_rw hd.2 kk)
theorem zz_dup2_x2_2 {v w u : Value} (hv : v.category = 2) (hw : w.category = 1) (hu : u.category = 1) (hd : zz_D Y pc .dup2_x2 1 pc1) (kk : zz_E g l Y rm Q S n pc1 ls (v :: w :: u :: v :: st) k j) : zz_E g l Y rm Q S n pc ls (v :: w :: u :: st) k j :=
  mm_dup2_x2_2 hv hw hu hd.1 (zz_rw hd.2 kk)
theorem zz_cmp {x y : Int} (hx : -9223372036854775808 ≤ x ∧ x ≤ 9223372036854775807) (hy : -9223372036854775808 ≤ y ∧ y ≤ 9223372036854775807) : ∃ v : Int, lg_cmp (Int64.ofInt x) (Int64.ofInt y) = Int32.ofInt v ∧ ((x < y ∧ v = -1) ∨ (x = y ∧ v = 0) ∨ (y < x ∧ v = 1)) := by
  have h1 : Int64.ofInt x < Int64.ofInt y ↔ x < y := by rw [Int64.lt_iff_toInt_lt, zz_t64 hx, zz_t64 hy]
  have h3 : Int64.ofInt y < Int64.ofInt x ↔ y < x := by rw [Int64.lt_iff_toInt_lt, zz_t64 hx, zz_t64 hy]
  have h2 : Int64.ofInt x = Int64.ofInt y ↔ x = y := by rw [← Int64.toInt_inj, zz_t64 hx, zz_t64 hy]
  unfold lg_cmp
  rcases Int.lt_trichotomy x y with h | h | h
  · refine ⟨-1, ?_, Or.inl ⟨h, rfl⟩⟩
    have q3 : ¬ Int64.ofInt y < Int64.ofInt x := fun z => by have := h3.mp z; omega
    have q1 := h1.mpr h
    have q2 : ¬ Int64.ofInt x = Int64.ofInt y := fun z => by have := h2.mp z; omega
    simp [q1, q2, q3]
  · refine ⟨0, ?_, Or.inr (Or.inl ⟨h, rfl⟩)⟩
    subst h
    simp
  · refine ⟨1, ?_, Or.inr (Or.inr ⟨h, rfl⟩)⟩
    have q3 := h3.mpr h
    have q1 : ¬ Int64.ofInt x < Int64.ofInt y := fun z => by have := h1.mp z; omega
    have q2 : ¬ Int64.ofInt x = Int64.ofInt y := fun z => by have := h2.mp z; omega
    simp [q1, q2, q3]
theorem zz_lcmp {x y : Int} (hx : -9223372036854775808 ≤ x ∧ x ≤ 9223372036854775807) (hy : -9223372036854775808 ≤ y ∧ y ≤ 9223372036854775807) (hd : zz_D Y pc .lcmp 1 pc1) (kk : ∀ v : Int, ((x < y ∧ v = -1) ∨ (x = y ∧ v = 0) ∨ (y < x ∧ v = 1)) → zz_E g l Y rm Q S n pc1 ls (zi v :: st) k j) : zz_E g l Y rm Q S n pc ls (zl y :: zl x :: st) k j := by
  refine mm_lcmp hd.1 (zz_rw hd.2 ?_)
  obtain ⟨v, h1, h2⟩ := zz_cmp hx hy
  rw [h1]
  exact kk v h2
theorem zz_icmp_eq {x y : Int} {tgt : Nat} (hx : -2147483648 ≤ x ∧ x ≤ 2147483647) (hy : -2147483648 ≤ y ∧ y ≤ 2147483647) (hd : zz_B Y pc (Instr.if_icmp .eq) tgt pc1) (kt : x = y → zz_E g l Y rm Q S n tgt ls st k j) (kf : x ≠ y → zz_E g l Y rm Q S n pc1 ls st k j) : zz_E g l Y rm Q S n pc ls (zi y :: zi x :: st) k j := by
  obtain ⟨off, hd, ht, he⟩ := hd
  exact mm_icmp_eq hd ht (fun h => kt ((zz_eq32 hx hy).mp h)) (fun h => (zz_rw he (kf (fun q => h ((zz_eq32 hx hy).mpr q)))))
theorem zz_if_eq {x : Int} {tgt : Nat} (hx : -2147483648 ≤ x ∧ x ≤ 2147483647) (hd : zz_B Y pc (Instr.ifCond .eq) tgt pc1) (kt : x = 0 → zz_E g l Y rm Q S n tgt ls st k j) (kf : x ≠ 0 → zz_E g l Y rm Q S n pc1 ls st k j) : zz_E g l Y rm Q S n pc ls (zi x :: st) k j := by
  obtain ⟨off, hd, ht, he⟩ := hd
  have hy : -2147483648 ≤ (0 : Int) ∧ (0 : Int) ≤ 2147483647 := by omega
  have e0 : (0 : Int32) = Int32.ofInt 0 := rfl
  exact mm_if_eq hd ht (fun h => kt ((zz_eq32 hx hy).mp h)) (fun h => (zz_rw he (kf (fun q => h ((zz_eq32 hx hy).mpr q)))))
theorem zz_icmp_ne {x y : Int} {tgt : Nat} (hx : -2147483648 ≤ x ∧ x ≤ 2147483647) (hy : -2147483648 ≤ y ∧ y ≤ 2147483647) (hd : zz_B Y pc (Instr.if_icmp .ne) tgt pc1) (kt : x ≠ y → zz_E g l Y rm Q S n tgt ls st k j) (kf : x = y → zz_E g l Y rm Q S n pc1 ls st k j) : zz_E g l Y rm Q S n pc ls (zi y :: zi x :: st) k j := by
  obtain ⟨off, hd, ht, he⟩ := hd
  exact mm_icmp_ne hd ht (fun h => kt (fun q => h ((zz_eq32 hx hy).mpr q))) (fun h => (zz_rw he (kf ((zz_eq32 hx hy).mp h))))
theorem zz_if_ne {x : Int} {tgt : Nat} (hx : -2147483648 ≤ x ∧ x ≤ 2147483647) (hd : zz_B Y pc (Instr.ifCond .ne) tgt pc1) (kt : x ≠ 0 → zz_E g l Y rm Q S n tgt ls st k j) (kf : x = 0 → zz_E g l Y rm Q S n pc1 ls st k j) : zz_E g l Y rm Q S n pc ls (zi x :: st) k j := by
  obtain ⟨off, hd, ht, he⟩ := hd
  have hy : -2147483648 ≤ (0 : Int) ∧ (0 : Int) ≤ 2147483647 := by omega
  have e0 : (0 : Int32) = Int32.ofInt 0 := rfl
  exact mm_if_ne hd ht (fun h => kt (fun q => h ((zz_eq32 hx hy).mpr q))) (fun h => (zz_rw he (kf ((zz_eq32 hx hy).mp h))))
theorem zz_icmp_lt {x y : Int} {tgt : Nat} (hx : -2147483648 ≤ x ∧ x ≤ 2147483647) (hy : -2147483648 ≤ y ∧ y ≤ 2147483647) (hd : zz_B Y pc (Instr.if_icmp .lt) tgt pc1) (kt : x < y → zz_E g l Y rm Q S n tgt ls st k j) (kf : y ≤ x → zz_E g l Y rm Q S n pc1 ls st k j) : zz_E g l Y rm Q S n pc ls (zi y :: zi x :: st) k j := by
  obtain ⟨off, hd, ht, he⟩ := hd
  exact mm_icmp_lt hd ht (fun h => kt ((zz_lt32 hx hy).mp h)) (fun h => (zz_rw he (kf (by have := mt (zz_lt32 hx hy).mpr h; omega))))
theorem zz_if_lt {x : Int} {tgt : Nat} (hx : -2147483648 ≤ x ∧ x ≤ 2147483647) (hd : zz_B Y pc (Instr.ifCond .lt) tgt pc1) (kt : x < 0 → zz_E g l Y rm Q S n tgt ls st k j) (kf : 0 ≤ x → zz_E g l Y rm Q S n pc1 ls st k j) : zz_E g l Y rm Q S n pc ls (zi x :: st) k j := by
  obtain ⟨off, hd, ht, he⟩ := hd
  have hy : -2147483648 ≤ (0 : Int) ∧ (0 : Int) ≤ 2147483647 := by omega
  have e0 : (0 : Int32) = Int32.ofInt 0 := rfl
  exact mm_if_lt hd ht (fun h => kt ((zz_lt32 hx hy).mp h)) (fun h => (zz_rw he (kf (by have := mt (zz_lt32 hx hy).mpr h; omega))))
theorem zz_icmp_ge {x y : Int} {tgt : Nat} (hx : -2147483648 ≤ x ∧ x ≤ 2147483647) (hy : -2147483648 ≤ y ∧ y ≤ 2147483647) (hd : zz_B Y pc (Instr.if_icmp .ge) tgt pc1) (kt : y ≤ x → zz_E g l Y rm Q S n tgt ls st k j) (kf : x < y → zz_E g l Y rm Q S n pc1 ls st k j) : zz_E g l Y rm Q S n pc ls (zi y :: zi x :: st) k j := by
  obtain ⟨off, hd, ht, he⟩ := hd
  exact mm_icmp_ge hd ht (fun h => kt ((zz_le32 hy hx).mp h)) (fun h => (zz_rw he (kf (by have := mt (zz_le32 hy hx).mpr h; omega))))
theorem zz_if_ge {x : Int} {tgt : Nat} (hx : -2147483648 ≤ x ∧ x ≤ 2147483647) (hd : zz_B Y pc (Instr.ifCond .ge) tgt pc1) (kt : 0 ≤ x → zz_E g l Y rm Q S n tgt ls st k j) (kf : x < 0 → zz_E g l Y rm Q S n pc1 ls st k j) : zz_E g l Y rm Q S n pc ls (zi x :: st) k j := by
  obtain ⟨off, hd, ht, he⟩ := hd
  have hy : -2147483648 ≤ (0 : Int) ∧ (0 : Int) ≤ 2147483647 := by omega
  have e0 : (0 : Int32) = Int32.ofInt 0 := rfl
  exact mm_if_ge hd ht (fun h => kt ((zz_le32 hy hx).mp h)) (fun h => (zz_rw he (kf (by have := mt (zz_le32 hy hx).mpr h; omega))))
theorem zz_icmp_gt {x y : Int} {tgt : Nat} (hx : -2147483648 ≤ x ∧ x ≤ 2147483647) (hy : -2147483648 ≤ y ∧ y ≤ 2147483647) (hd : zz_B Y pc (Instr.if_icmp .gt) tgt pc1) (kt : y < x → zz_E g l Y rm Q S n tgt ls st k j) (kf : x ≤ y → zz_E g l Y rm Q S n pc1 ls st k j) : zz_E g l Y rm Q S n pc ls (zi y :: zi x :: st) k j := by
  obtain ⟨off, hd, ht, he⟩ := hd
  exact mm_icmp_gt hd ht (fun h => kt ((zz_lt32 hy hx).mp h)) (fun h => (zz_rw he (kf (by have := mt (zz_lt32 hy hx).mpr h; omega))))
theorem zz_if_gt {x : Int} {tgt : Nat} (hx : -2147483648 ≤ x ∧ x ≤ 2147483647) (hd : zz_B Y pc (Instr.ifCond .gt) tgt pc1) (kt : 0 < x → zz_E g l Y rm Q S n tgt ls st k j) (kf : x ≤ 0 → zz_E g l Y rm Q S n pc1 ls st k j) : zz_E g l Y rm Q S n pc ls (zi x :: st) k j := by
  obtain ⟨off, hd, ht, he⟩ := hd
  have hy : -2147483648 ≤ (0 : Int) ∧ (0 : Int) ≤ 2147483647 := by omega
  have e0 : (0 : Int32) = Int32.ofInt 0 := rfl
  exact mm_if_gt hd ht (fun h => kt ((zz_lt32 hy hx).mp h)) (fun h => (zz_rw he (kf (by have := mt (zz_lt32 hy hx).mpr h; omega))))
theorem zz_icmp_le {x y : Int} {tgt : Nat} (hx : -2147483648 ≤ x ∧ x ≤ 2147483647) (hy : -2147483648 ≤ y ∧ y ≤ 2147483647) (hd : zz_B Y pc (Instr.if_icmp .le) tgt pc1) (kt : x ≤ y → zz_E g l Y rm Q S n tgt ls st k j) (kf : y < x → zz_E g l Y rm Q S n pc1 ls st k j) : zz_E g l Y rm Q S n pc ls (zi y :: zi x :: st) k j := by
  obtain ⟨off, hd, ht, he⟩ := hd
  exact mm_icmp_le hd ht (fun h => kt ((zz_le32 hx hy).mp h)) (fun h => (zz_rw he (kf (by have := mt (zz_le32 hx hy).mpr h; omega))))
theorem zz_if_le {x : Int} {tgt : Nat} (hx : -2147483648 ≤ x ∧ x ≤ 2147483647) (hd : zz_B Y pc (Instr.ifCond .le) tgt pc1) (kt : x ≤ 0 → zz_E g l Y rm Q S n tgt ls st k j) (kf : 0 < x → zz_E g l Y rm Q S n pc1 ls st k j) : zz_E g l Y rm Q S n pc ls (zi x :: st) k j := by
  obtain ⟨off, hd, ht, he⟩ := hd
  have hy : -2147483648 ≤ (0 : Int) ∧ (0 : Int) ≤ 2147483647 := by omega
  have e0 : (0 : Int32) = Int32.ofInt 0 := rfl
  exact mm_if_le hd ht (fun h => kt ((zz_le32 hx hy).mp h)) (fun h => (zz_rw he (kf (by have := mt (zz_le32 hx hy).mpr h; omega))))
theorem zz_goto {tgt : Nat} (hd : zz_B Y pc Instr.goto tgt pc1) (kk : zz_E g l Y rm Q S n tgt ls st k j) : zz_E g l Y rm Q S n pc ls st k j := by
  obtain ⟨off, hd, ht, he⟩ := hd
  exact mm_goto hd ht kk
def zz_W (Y : mm_Y) (pc : Nat) (dflt lo hi : Int) (offs : Array Int) : Prop := ∃ len, decode Y.2.1 pc = .ok (.tableswitch dflt lo hi offs, len)
theorem zz_swIn {dflt lo hi : Int} {offs : Array Int} {tgt : Nat} {x : Int} (c off : Int) (hx : x = c) (hc : -2147483648 ≤ c ∧ c ≤ 2147483647 ∧ lo ≤ c ∧ c ≤ hi) (hd : zz_W Y pc dflt lo hi offs) (ho : offs[(c - lo).toNat]? = some off) (ht : (pc : Int) + off = (tgt : Int)) (kk : zz_E g l Y rm Q S n tgt ls st k j) : zz_E g l Y rm Q S n pc ls (zi x :: st) k j := by
  subst hx
  obtain ⟨len, hd⟩ := hd
  have e := zz_t32 (z := x) (by omega)
  exact mm_tableIn hd (by rw [e]; omega) (by rw [e]; omega) (by rw [e]; exact ho) ht kk
theorem zz_swOut {dflt lo hi : Int} {offs : Array Int} {tgt : Nat} {x : Int} (hx : -2147483648 ≤ x ∧ x ≤ 2147483647) (ho : x < lo ∨ hi < x) (hd : zz_W Y pc dflt lo hi offs) (ht : (pc : Int) + dflt = (tgt : Int)) (kk : zz_E g l Y rm Q S n tgt ls st k j) : zz_E g l Y rm Q S n pc ls (zi x :: st) k j := by
  obtain ⟨len, hd⟩ := hd
  exact mm_tableOut hd (by rw [zz_t32 hx]; exact ho) ht kk
theorem zz_lsw {dflt off : Int} {ps : Array (Int × Int)} {tgt : Nat} {x : Int} (hx : -2147483648 ≤ x ∧ x ≤ 2147483647) (hd : ∃ len, decode Y.2.1 pc = .ok (.lookupswitch dflt ps, len)) (hp : (ps.toList.zip (ps.toList.drop 1)).all (fun (a, next) => a.1 < next.1) = true) (ho : Op.lookupswitch.offset ps.toList dflt x = off) (ht : (pc : Int) + off = (tgt : Int)) (kk : zz_E g l Y rm Q S n tgt ls st k j) : zz_E g l Y rm Q S n pc ls (zi x :: st) k j := by
  obtain ⟨len, hd⟩ := hd
  exact mm_lookup hd hp (by rw [zz_t32 hx]; exact ho) ht kk
theorem zz_iret {v : Int} (hd : zz_D Y pc .ireturn 1 pc1) (hr : Y.2.2.2 = some .int) (hk : k ≤ rm.cells) (hj : j ≤ rm.slots) (hQ : Q (.inl (some (zi v)), zz_M S n, n)) : zz_E g l Y rm Q S n pc ls [zi v] k j := mm_iret hd.1 hr hk hj hQ
theorem zz_zret {v : Int} (hd : zz_D Y pc .ireturn 1 pc1) (hr : Y.2.2.2 = some .boolean) (hv : 0 ≤ v ∧ v ≤ 1) (hk : k ≤ rm.cells) (hj : j ≤ rm.slots) (hQ : Q (.inl (some (zi v)), zz_M S n, n)) : zz_E g l Y rm Q S n pc ls [zi v] k j := by
  refine mm_zret hd.1 hr ?_ hk hj hQ
  have : v = 0 ∨ v = 1 := by omega
  rcases this with rfl | rfl <;> decide
theorem zz_bret {v : Int} (hd : zz_D Y pc .ireturn 1 pc1) (hr : Y.2.2.2 = some .byte) (hv : -128 ≤ v ∧ v ≤ 127) (hk : k ≤ rm.cells) (hj : j ≤ rm.slots) (hQ : Q (.inl (some (zi v)), zz_M S n, n)) : zz_E g l Y rm Q S n pc ls [zi v] k j := by
  refine mm_zret hd.1 hr ?_ hk hj hQ
  have h : narrow .byte (.int (Int32.ofInt v)) = .int ((Int32.ofInt v).toInt8.toInt32) := rfl
  rw [h]
  congr 1
  apply Int32.toInt_inj.mp
  rw [Int8.toInt_toInt32, Int32.toInt_toInt8, zz_t32 (by omega)]
  exact Int.bmod_eq_of_le (by omega) (by omega)
theorem zz_lret {v : Int} (hd : zz_D Y pc .lreturn 1 pc1) (hr : Y.2.2.2 = some .long) (hk : k ≤ rm.cells) (hj : j ≤ rm.slots) (hQ : Q (.inl (some (zl v)), zz_M S n, n)) : zz_E g l Y rm Q S n pc ls [zl v] k j := mm_lret hd.1 hr hk hj hQ
theorem zz_vret (hd : zz_D Y pc .return_ 1 pc1) (hr : Y.2.2.2 = none) (hk : k ≤ rm.cells) (hj : j ≤ rm.slots) (hQ : Q (.inl none, zz_M S n, n)) : zz_E g l Y rm Q S n pc ls [] k j := mm_vret hd.1 hr hk hj hQ
theorem zz_aret {a : Nat} {C : String} (hd : zz_D Y pc .areturn 1 pc1) (hr : Y.2.2.2 = some (.object C)) (hk : k ≤ rm.cells) (hj : j ≤ rm.slots) (hQ : Q (.inl (some (.ref a)), zz_M S n, n)) : zz_E g l Y rm Q S n pc ls [.ref a] k j := mm_aret hd.1 hr hk hj hQ
theorem zz_geti {a kf index ci : Nat} {ks : List Nat} {ty : FieldType} {fin : Bool} {z : Int} (hd : zz_D Y pc (.getfield index) 3 pc1) (hF : mm_Fl Y.1.cls index ci kf ty fin) (hT : zz_T a = some (.inl (ci, ks))) (hk : ks[kf]? = some 0) (hn : a < n) (hz : S a kf = z) (kk : zz_E g l Y rm Q S n pc1 ls (zi z :: st) k j) : zz_E g l Y rm Q S n pc ls (.ref a :: st) k j := by
  subst hz
  exact mm_get hd.1 hF (zz_M_at hn hT) (zz_fs_at hk) (zz_rw hd.2 kk)
theorem zz_getl {a kf index ci : Nat} {ks : List Nat} {ty : FieldType} {fin : Bool} {z : Int} (hd : zz_D Y pc (.getfield index) 3 pc1) (hF : mm_Fl Y.1.cls index ci kf ty fin) (hT : zz_T a = some (.inl (ci, ks))) (hk : ks[kf]? = some 1) (hn : a < n) (hz : S a kf = z) (kk : zz_E g l Y rm Q S n pc1 ls (zl z :: st) k j) : zz_E g l Y rm Q S n pc ls (.ref a :: st) k j := by
  subst hz
  exact mm_get hd.1 hF (zz_M_at hn hT) (zz_fs_at hk) (zz_rw hd.2 kk)
theorem zz_getr {a kf index ci kd : Nat} {ks : List Nat} {ty : FieldType} {fin : Bool} {z : Int} (hd : zz_D Y pc (.getfield index) 3 pc1) (hF : mm_Fl Y.1.cls index ci kf ty fin) (hT : zz_T a = some (.inl (ci, ks))) (hk : ks[kf]? = some (kd + 2)) (hn : a < n) (hz : S a kf = z) (h0 : 0 ≤ z) (x : Nat) (hx : zz_rf (kd + 2) z = x) (kk : zz_E g l Y rm Q S n pc1 ls (.ref x :: st) k j) : zz_E g l Y rm Q S n pc ls (.ref a :: st) k j := by
  subst hz
  subst hx
  refine mm_get hd.1 hF (zz_M_at hn hT) (v := .ref (zz_rf (kd + 2) (S a kf))) ?_ (zz_rw hd.2 kk)
  rw [zz_fs_at hk]
  simp only [zz_fv, if_neg (Int.not_lt.mpr h0)]
theorem zz_puti {a kf index ci : Nat} {ks : List Nat} {z : Int} (hd : zz_D Y pc (.putfield index) 3 pc1) (hF : mm_Fl Y.1.cls index ci kf .int false) (hT : zz_T a = some (.inl (ci, ks))) (hk : ks[kf]? = some 0) (hn : a < n) (kk : ∀ S1 : zz_S, S1 = zz_st S a kf z → zz_E g l Y rm Q S1 n pc1 ls st k j) : zz_E g l Y rm Q S n pc ls (zi z :: .ref a :: st) k j := by
  refine mm_put hd.1 hF (zz_M_at hn hT) (by rw [zz_fs_len]; exact (List.getElem?_eq_some_iff.mp hk).1) rfl rfl (fun M1 e => zz_rw hd.2 ?_)
  have h := kk _ rfl
  unfold zz_E at h
  rw [zz_M_st hn hT] at h
  rw [e]
  simp only [zz_en, zz_fs_set hk, zz_fv] at h
  exact h
theorem zz_putz {a kf index ci : Nat} {ks : List Nat} {z : Int} (hd : zz_D Y pc (.putfield index) 3 pc1) (hF : mm_Fl Y.1.cls index ci kf .boolean false) (hT : zz_T a = some (.inl (ci, ks))) (hk : ks[kf]? = some 0) (hn : a < n) (hv : 0 ≤ z ∧ z ≤ 1) (kk : ∀ S1 : zz_S, S1 = zz_st S a kf z → zz_E g l Y rm Q S1 n pc1 ls st k j) : zz_E g l Y rm Q S n pc ls (zi z :: .ref a :: st) k j := by
  have hN : narrow .boolean (mm_tr g (zi z)) = mm_tr g (zi z) := by
    have : z = 0 ∨ z = 1 := by omega
    rcases this with rfl | rfl <;> rfl
  have hT9 : fits .boolean (mm_tr g (zi z)) = true := by
    have : z = 0 ∨ z = 1 := by omega
    rcases this with rfl | rfl <;> rfl
  refine mm_put hd.1 hF (zz_M_at hn hT) (by rw [zz_fs_len]; exact (List.getElem?_eq_some_iff.mp hk).1) hN hT9 (fun M1 e => zz_rw hd.2 ?_)
  have h := kk _ rfl
  unfold zz_E at h
  rw [zz_M_st hn hT] at h
  rw [e]
  simp only [zz_en, zz_fs_set hk, zz_fv] at h
  exact h
theorem zz_putl {a kf index ci : Nat} {ks : List Nat} {z : Int} (hd : zz_D Y pc (.putfield index) 3 pc1) (hF : mm_Fl Y.1.cls index ci kf .long false) (hT : zz_T a = some (.inl (ci, ks))) (hk : ks[kf]? = some 1) (hn : a < n) (kk : ∀ S1 : zz_S, S1 = zz_st S a kf z → zz_E g l Y rm Q S1 n pc1 ls st k j) : zz_E g l Y rm Q S n pc ls (zl z :: .ref a :: st) k j := by
  refine mm_put hd.1 hF (zz_M_at hn hT) (by rw [zz_fs_len]; exact (List.getElem?_eq_some_iff.mp hk).1) rfl rfl (fun M1 e => zz_rw hd.2 ?_)
  have h := kk _ rfl
  unfold zz_E at h
  rw [zz_M_st hn hT] at h
  rw [e]
  simp only [zz_en, zz_fs_set hk, zz_fv] at h
  exact h
theorem zz_putr {a kf index ci kd x : Nat} {ks : List Nat} {ty : FieldType} (z : Int) (hd : zz_D Y pc (.putfield index) 3 pc1) (hF : mm_Fl Y.1.cls index ci kf ty false) (hT : zz_T a = some (.inl (ci, ks))) (hk : ks[kf]? = some (kd + 2)) (hn : a < n) (h0 : 0 ≤ z) (hx : zz_rf (kd + 2) z = x) (hna : ∀ v, narrow ty (.ref v) = .ref v) (hfi : ∀ v, fits ty (.ref v) = true) (kk : ∀ S1 : zz_S, S1 = zz_st S a kf z → zz_E g l Y rm Q S1 n pc1 ls st k j) : zz_E g l Y rm Q S n pc ls (.ref x :: .ref a :: st) k j := by
  refine mm_put hd.1 hF (zz_M_at hn hT) (by rw [zz_fs_len]; exact (List.getElem?_eq_some_iff.mp hk).1) (hna _) (hfi _) (fun M1 e => zz_rw hd.2 ?_)
  have h := kk _ rfl
  unfold zz_E at h
  rw [zz_M_st hn hT] at h
  rw [e]
  simp only [zz_en, zz_fs_set hk, zz_fv, if_neg (Int.not_lt.mpr h0), hx] at h
  exact h
theorem zz_in {i : Int} {N : Nat} (h : 0 ≤ i ∧ i < N) (hN : N ≤ 2147483647) : vp_in (Int32.ofInt i) N := by
  rw [vp_in_iff, zz_t32 (by omega)]
  exact h
theorem zz_nc {i : Int} {N : Nat} (h : 0 ≤ i ∧ i < N) (hN : N ≤ 2147483647) : (Int32.ofInt i).toNatClampNeg = i.toNat := by
  rw [← Int32.toNat_toInt, zz_t32 (by omega)]
theorem zz_updI {S : zz_S} {a i : Nat} {z : Int} : upd (fun q => Int32.ofInt (S a q)) i (Int32.ofInt z) = fun q => Int32.ofInt (zz_st S a i z a q) := by
  funext q
  simp only [upd, zz_st]
  by_cases h : q = i
  · simp [h]
  · simp [h]
theorem zz_updL {S : zz_S} {a i : Nat} {z : Int} : vp_updL (fun q => Int64.ofInt (S a q)) i (Int64.ofInt z) = fun q => Int64.ofInt (zz_st S a i z a q) := by
  funext q
  simp only [vp_updL, zz_st]
  by_cases h : q = i
  · simp [h]
  · simp [h]
theorem zz_iald {a t N : Nat} {i z : Int} (hd : zz_D Y pc .iaload 1 pc1) (hT : zz_T a = some (.inr (t, N, 0))) (ht : mm_ty[t]? = some .int) (hn : a < n) (hN : N ≤ 2147483647) (hi : 0 ≤ i ∧ i < N) (hz : S a i.toNat = z) (kk : zz_E g l Y rm Q S n pc1 ls (zi z :: st) k j) : zz_E g l Y rm Q S n pc ls (zi i :: .ref a :: st) k j := by
  subst hz
  refine mm_iald hd.1 (zz_M_at hn hT) ht (zz_in hi hN) (zz_rw hd.2 ?_)
  rw [zz_nc hi hN]
  exact kk
theorem zz_bald {a t N : Nat} {i z : Int} (hd : zz_D Y pc .baload 1 pc1) (hT : zz_T a = some (.inr (t, N, 0))) (ht : mm_ty[t]? = some .byte) (hn : a < n) (hN : N ≤ 2147483647) (hi : 0 ≤ i ∧ i < N) (hz : S a i.toNat = z) (kk : zz_E g l Y rm Q S n pc1 ls (zi z :: st) k j) : zz_E g l Y rm Q S n pc ls (zi i :: .ref a :: st) k j := by
  subst hz
  refine mm_bald hd.1 (zz_M_at hn hT) ht (zz_in hi hN) (zz_rw hd.2 ?_)
  rw [zz_nc hi hN]
  exact kk
theorem zz_zald {a t N : Nat} {i z : Int} (hd : zz_D Y pc .baload 1 pc1) (hT : zz_T a = some (.inr (t, N, 0))) (ht : mm_ty[t]? = some .boolean) (hn : a < n) (hN : N ≤ 2147483647) (hi : 0 ≤ i ∧ i < N) (hz : S a i.toNat = z) (kk : zz_E g l Y rm Q S n pc1 ls (zi z :: st) k j) : zz_E g l Y rm Q S n pc ls (zi i :: .ref a :: st) k j := by
  subst hz
  refine mm_zald hd.1 (zz_M_at hn hT) ht (zz_in hi hN) (zz_rw hd.2 ?_)
  rw [zz_nc hi hN]
  exact kk
theorem zz_cald {a t N : Nat} {i z : Int} (hd : zz_D Y pc .caload 1 pc1) (hT : zz_T a = some (.inr (t, N, 0))) (ht : mm_ty[t]? = some .char) (hn : a < n) (hN : N ≤ 2147483647) (hi : 0 ≤ i ∧ i < N) (hz : S a i.toNat = z) (kk : zz_E g l Y rm Q S n pc1 ls (zi z :: st) k j) : zz_E g l Y rm Q S n pc ls (zi i :: .ref a :: st) k j := by
  subst hz
  refine mm_cald hd.1 (zz_M_at hn hT) ht (zz_in hi hN) (zz_rw hd.2 ?_)
  rw [zz_nc hi hN]
  exact kk
theorem zz_lald {a t N : Nat} {i z : Int} (hd : zz_D Y pc .laload 1 pc1) (hT : zz_T a = some (.inr (t, N, 1))) (ht : mm_ty[t]? = some .long) (hn : a < n) (hN : N ≤ 2147483647) (hi : 0 ≤ i ∧ i < N) (hz : S a i.toNat = z) (kk : zz_E g l Y rm Q S n pc1 ls (zl z :: st) k j) : zz_E g l Y rm Q S n pc ls (zi i :: .ref a :: st) k j := by
  subst hz
  refine mm_lald hd.1 (zz_M_at hn hT) ht (zz_in hi hN) (zz_rw hd.2 ?_)
  rw [zz_nc hi hN]
  exact kk
theorem zz_aald {a t N kd : Nat} {C : String} {i z : Int} (hd : zz_D Y pc .aaload 1 pc1) (hT : zz_T a = some (.inr (t, N, kd + 2))) (ht : mm_ty[t]? = some (.object C)) (hn : a < n) (hN : N ≤ 2147483647) (hi : 0 ≤ i ∧ i < N) (hz : S a i.toNat = z) (h0 : 0 ≤ z) (x : Nat) (hx : zz_rf (kd + 2) z = x) (kk : zz_E g l Y rm Q S n pc1 ls (.ref x :: st) k j) : zz_E g l Y rm Q S n pc ls (zi i :: .ref a :: st) k j := by
  subst hz
  subst hx
  refine mm_aald hd.1 (zz_M_at hn hT) ht (zz_in hi hN) (x := zz_rf (kd + 2) (S a i.toNat)) ?_ (zz_rw hd.2 kk)
  rw [zz_nc hi hN, if_neg (Int.not_lt.mpr h0)]
theorem zz_alen {a t N kd : Nat} {ty : FieldType} (hd : zz_D Y pc .arraylength 1 pc1) (hT : zz_T a = some (.inr (t, N, kd))) (ht : mm_ty[t]? = some ty) (hn : a < n) (kk : zz_E g l Y rm Q S n pc1 ls (zi (N : Int) :: st) k j) : zz_E g l Y rm Q S n pc ls (.ref a :: st) k j := by
  refine mm_alen hd.1 (x := zz_av N kd (S a)) (zz_M_at hn hT) ht (v := Int32.ofInt (N : Int)) ?_ (zz_rw hd.2 kk)
  have : (zz_av N kd (S a)).1 = N := by
    match kd with
    | 0 => rfl
    | 1 => rfl
    | kd + 2 => rfl
  rw [this, Int32.ofInt_eq_ofNat]
theorem zz_iast {a t N : Nat} {i z : Int} (hd : zz_D Y pc .iastore 1 pc1) (hT : zz_T a = some (.inr (t, N, 0))) (ht : mm_ty[t]? = some .int) (hn : a < n) (hN : N ≤ 2147483647) (hi : 0 ≤ i ∧ i < N) (kk : ∀ S1 : zz_S, S1 = zz_st S a i.toNat z → zz_E g l Y rm Q S1 n pc1 ls st k j) : zz_E g l Y rm Q S n pc ls (zi z :: zi i :: .ref a :: st) k j := by
  refine mm_iast hd.1 (zz_M_at hn hT) ht (zz_in hi hN) (fun M1 e => zz_rw hd.2 ?_)
  rw [zz_nc hi hN, zz_updI] at e
  have h := kk _ rfl
  unfold zz_E at h
  rw [zz_M_st hn hT] at h
  rw [e]
  exact h
theorem zz_nar_byte {z : Int} (hv : -128 ≤ z ∧ z ≤ 127) : vp_nar .byte (Int32.ofInt z) = Int32.ofInt z := by
  have h : vp_nar .byte (Int32.ofInt z) = (Int32.ofInt z).toInt8.toInt32 := rfl
  rw [h]
  apply Int32.toInt_inj.mp
  rw [Int8.toInt_toInt32, Int32.toInt_toInt8, zz_t32 (by omega)]
  exact Int.bmod_eq_of_le (by omega) (by omega)
theorem zz_bast {a t N : Nat} {i z : Int} (hd : zz_D Y pc .bastore 1 pc1) (hT : zz_T a = some (.inr (t, N, 0))) (ht : mm_ty[t]? = some .byte) (hn : a < n) (hN : N ≤ 2147483647) (hi : 0 ≤ i ∧ i < N) (hv : -128 ≤ z ∧ z ≤ 127) (kk : ∀ S1 : zz_S, S1 = zz_st S a i.toNat z → zz_E g l Y rm Q S1 n pc1 ls st k j) : zz_E g l Y rm Q S n pc ls (zi z :: zi i :: .ref a :: st) k j := by
  refine mm_bast hd.1 (zz_M_at hn hT) ht (zz_in hi hN) (fun M1 e => zz_rw hd.2 ?_)
  rw [zz_nar_byte hv] at e
  rw [zz_nc hi hN, zz_updI] at e
  have h := kk _ rfl
  unfold zz_E at h
  rw [zz_M_st hn hT] at h
  rw [e]
  exact h
theorem zz_nar_boolean {z : Int} (hv : 0 ≤ z ∧ z ≤ 1) : vp_nar .boolean (Int32.ofInt z) = Int32.ofInt z := by
  have : z = 0 ∨ z = 1 := by omega
  rcases this with rfl | rfl <;> decide
theorem zz_zast {a t N : Nat} {i z : Int} (hd : zz_D Y pc .bastore 1 pc1) (hT : zz_T a = some (.inr (t, N, 0))) (ht : mm_ty[t]? = some .boolean) (hn : a < n) (hN : N ≤ 2147483647) (hi : 0 ≤ i ∧ i < N) (hv : 0 ≤ z ∧ z ≤ 1) (kk : ∀ S1 : zz_S, S1 = zz_st S a i.toNat z → zz_E g l Y rm Q S1 n pc1 ls st k j) : zz_E g l Y rm Q S n pc ls (zi z :: zi i :: .ref a :: st) k j := by
  refine mm_zast hd.1 (zz_M_at hn hT) ht (zz_in hi hN) (fun M1 e => zz_rw hd.2 ?_)
  rw [zz_nar_boolean hv] at e
  rw [zz_nc hi hN, zz_updI] at e
  have h := kk _ rfl
  unfold zz_E at h
  rw [zz_M_st hn hT] at h
  rw [e]
  exact h
theorem zz_nar_char {z : Int} (hv : 0 ≤ z ∧ z ≤ 65535) : vp_nar .char (Int32.ofInt z) = Int32.ofInt z := by
  have h : vp_nar .char (Int32.ofInt z) = ((Int32.ofInt z).toUInt32 % 65536).toInt32 := rfl
  rw [h]
  obtain ⟨m, rfl⟩ := Int.eq_ofNat_of_zero_le hv.1
  have hm : m ≤ 65535 := by omega
  apply Int32.toBitVec_inj.mp
  apply BitVec.eq_of_toNat_eq
  simp only [UInt32.toBitVec_toInt32, UInt32.toBitVec_mod, Int32.toBitVec_toUInt32, Int32.toBitVec_ofInt, BitVec.toNat_umod, BitVec.toNat_ofInt]
  have : (65536 : UInt32).toBitVec.toNat = 65536 := by decide
  rw [this]
  omega
theorem zz_cast {a t N : Nat} {i z : Int} (hd : zz_D Y pc .castore 1 pc1) (hT : zz_T a = some (.inr (t, N, 0))) (ht : mm_ty[t]? = some .char) (hn : a < n) (hN : N ≤ 2147483647) (hi : 0 ≤ i ∧ i < N) (hv : 0 ≤ z ∧ z ≤ 65535) (kk : ∀ S1 : zz_S, S1 = zz_st S a i.toNat z → zz_E g l Y rm Q S1 n pc1 ls st k j) : zz_E g l Y rm Q S n pc ls (zi z :: zi i :: .ref a :: st) k j := by
  refine mm_cast hd.1 (zz_M_at hn hT) ht (zz_in hi hN) (fun M1 e => zz_rw hd.2 ?_)
  rw [zz_nar_char hv] at e
  rw [zz_nc hi hN, zz_updI] at e
  have h := kk _ rfl
  unfold zz_E at h
  rw [zz_M_st hn hT] at h
  rw [e]
  exact h
theorem zz_last {a t N : Nat} {i z : Int} (hd : zz_D Y pc .lastore 1 pc1) (hT : zz_T a = some (.inr (t, N, 1))) (ht : mm_ty[t]? = some .long) (hn : a < n) (hN : N ≤ 2147483647) (hi : 0 ≤ i ∧ i < N) (kk : ∀ S1 : zz_S, S1 = zz_st S a i.toNat z → zz_E g l Y rm Q S1 n pc1 ls st k j) : zz_E g l Y rm Q S n pc ls (zl z :: zi i :: .ref a :: st) k j := by
  refine mm_last hd.1 (zz_M_at hn hT) ht (zz_in hi hN) (fun M1 e => zz_rw hd.2 ?_)
  rw [zz_nc hi hN, zz_updL] at e
  have h := kk _ rfl
  unfold zz_E at h
  rw [zz_M_st hn hT] at h
  rw [e]
  exact h
theorem zz_gets {q0 index : Nat} {q : String × String × List Int32} (hd : zz_D Y pc (.getstatic index) 3 pc1) (hq : mm_sta[q0]? = some q) (h0 : q0 < 1000) (hl : Cond.fieldLink Y.1.cls index q.1 q.2.1 "[I" ∈ mm_tb) (kk : zz_E g l Y rm Q S n pc1 ls (.ref q0 :: st) k j) : zz_E g l Y rm Q S n pc ls st k j := mm_gets hd.1 hq h0 hl (zz_rw hd.2 kk)
theorem zz_tiald {q0 N : Nat} {q : String × String × List Int32} {i : Int} (z : Int) (hd : zz_D Y pc .iaload 1 pc1) (hq : mm_sta[q0]? = some q) (h0 : q0 < 1000) (hl : q.2.2.length = N) (hN : N ≤ 2147483647) (hi : 0 ≤ i ∧ i < N) (hz : q.2.2.getD i.toNat 0 = Int32.ofInt z) (kk : zz_E g l Y rm Q S n pc1 ls (zi z :: st) k j) : zz_E g l Y rm Q S n pc ls (zi i :: .ref q0 :: st) k j := by
  refine mm_tiald hd.1 hq h0 (by rw [hl]; exact zz_in hi hN) (zz_rw hd.2 ?_)
  rw [zz_nc hi hN, hz]
  exact kk
theorem zz_less {ls1 : List (Option Value)} (h : mm_sub ls1 ls) (kk : zz_E g l Y rm Q S n pc ls1 st k j) : zz_E g l Y rm Q S n pc ls st k j := mm_less h kk
theorem zz_enter {as : List Value} (hy : plainName Y.1.cls = true) (hfit : (lg_sl (as.map (mm_tr g))).length ≤ Y.2.2.1) (h : zz_E g l Y rm Q S n 0 (mm_ent as) [] 0 0) : mm_Met g l Y rm as (zz_M S n) n Q := mm_enter hy hfit h
end ZZ
/-- ends of methods -/
def zz_QI (n : Nat) (P : Int → zz_S → Prop) : mm_O → Prop := fun u => ∃ v S1, u = (.inl (some (zi v)), zz_M S1 n, n) ∧ P v S1
def zz_QJ (n : Nat) (P : Int → zz_S → Prop) : mm_O → Prop := fun u => ∃ v S1, u = (.inl (some (zl v)), zz_M S1 n, n) ∧ P v S1
def zz_QA (n : Nat) (P : Nat → zz_S → Prop) : mm_O → Prop := fun u => ∃ v S1, u = (.inl (some (.ref v)), zz_M S1 n, n) ∧ P v S1
def zz_QV (n : Nat) (P : zz_S → Prop) : mm_O → Prop := fun u => ∃ S1, u = (.inl none, zz_M S1 n, n) ∧ P S1
section ZC
variable {g : mm_G} {l : Launch} {Y : mm_Y} {rm : Room} {Q : mm_O → Prop} {pc pc1 : Nat} {ls : List (Option Value)} {st : List Value} {S : zz_S} {n k j : Nat}
theorem zz_callVI {Z : mm_Y} {rz : Room} {P : Int → zz_S → Prop} {a ci index np : Nat} {ks : List Nat} {stk : List Value} (as : List Value) (hd : zz_D Y pc (.invokevirtual index) 3 pc1) (hZ : mm_Vl Y.1.cls index ci np Z) (hT : zz_T a = some (.inl (ci, ks))) (hn : a < n) (hst : stk = as.reverse ++ .ref a :: st) (hlen : as.length = np) (hroom : rz.frames + 1 ≤ rm.frames ∧ (st.map fun v => v.category).sum + (Z.2.2.1 + 11) + rz.locals ≤ rm.locals) (hz : rz.cells = 0 ∧ rz.slots = 0) (hk : k ≤ rm.cells) (hj : j ≤ rm.slots) (hM : mm_Met g l Z rz (.ref a :: as) (zz_M S n) n (zz_QI n P)) (kr : ∀ (v : Int) (S1 : zz_S), P v S1 → zz_E g l Y rm Q S1 n pc1 ls (zi v :: st) k j) : zz_E g l Y rm Q S n pc ls stk k j := by
  subst hst
  refine mm_callV hd.1 hZ hM (zz_M_at hn hT) hlen hroom (by omega) (by omega) (fun v M1 n1 hQ => ?_) (fun i M1 n1 hQ => ?_)
  · obtain ⟨v1, S1, e, hP⟩ := hQ
    cases e
    rw [hz.1, hz.2]
    exact zz_rw hd.2 (kr v1 S1 hP)
  · obtain ⟨v1, S1, e, hP⟩ := hQ
    cases e
theorem zz_callSI {Z : mm_Y} {rz : Room} {P : Int → zz_S → Prop} {index np : Nat} {stk : List Value} (as : List Value) (hd : zz_D Y pc (.invokestatic index) 3 pc1) (hZ : mm_Sl Y.1.cls index np Z) (hst : stk = as.reverse ++ st) (hlen : as.length = np) (hroom : rz.frames + 1 ≤ rm.frames ∧ (st.map fun v => v.category).sum + (Z.2.2.1 + 11) + rz.locals ≤ rm.locals) (hz : rz.cells = 0 ∧ rz.slots = 0) (hk : k ≤ rm.cells) (hj : j ≤ rm.slots) (hM : mm_Met g l Z rz (as) (zz_M S n) n (zz_QI n P)) (kr : ∀ (v : Int) (S1 : zz_S), P v S1 → zz_E g l Y rm Q S1 n pc1 ls (zi v :: st) k j) : zz_E g l Y rm Q S n pc ls stk k j := by
  subst hst
  refine mm_callS hd.1 hZ hM hlen hroom (by omega) (by omega) (fun v M1 n1 hQ => ?_) (fun i M1 n1 hQ => ?_)
  · obtain ⟨v1, S1, e, hP⟩ := hQ
    cases e
    rw [hz.1, hz.2]
    exact zz_rw hd.2 (kr v1 S1 hP)
  · obtain ⟨v1, S1, e, hP⟩ := hQ
    cases e
theorem zz_callVJ {Z : mm_Y} {rz : Room} {P : Int → zz_S → Prop} {a ci index np : Nat} {ks : List Nat} {stk : List Value} (as : List Value) (hd : zz_D Y pc (.invokevirtual index) 3 pc1) (hZ : mm_Vl Y.1.cls index ci np Z) (hT : zz_T a = some (.inl (ci, ks))) (hn : a < n) (hst : stk = as.reverse ++ .ref a :: st) (hlen : as.length = np) (hroom : rz.frames + 1 ≤ rm.frames ∧ (st.map fun v => v.category).sum + (Z.2.2.1 + 11) + rz.locals ≤ rm.locals) (hz : rz.cells = 0 ∧ rz.slots = 0) (hk : k ≤ rm.cells) (hj : j ≤ rm.slots) (hM : mm_Met g l Z rz (.ref a :: as) (zz_M S n) n (zz_QJ n P)) (kr : ∀ (v : Int) (S1 : zz_S), P v S1 → zz_E g l Y rm Q S1 n pc1 ls (zl v :: st) k j) : zz_E g l Y rm Q S n pc ls stk k j := by
  subst hst
  refine mm_callV hd.1 hZ hM (zz_M_at hn hT) hlen hroom (by omega) (by omega) (fun v M1 n1 hQ => ?_) (fun i M1 n1 hQ => ?_)
  · obtain ⟨v1, S1, e, hP⟩ := hQ
    cases e
    rw [hz.1, hz.2]
    exact zz_rw hd.2 (kr v1 S1 hP)
  · obtain ⟨v1, S1, e, hP⟩ := hQ
    cases e
theorem zz_callSJ {Z : mm_Y} {rz : Room} {P : Int → zz_S → Prop} {index np : Nat} {stk : List Value} (as : List Value) (hd : zz_D Y pc (.invokestatic index) 3 pc1) (hZ : mm_Sl Y.1.cls index np Z) (hst : stk = as.reverse ++ st) (hlen : as.length = np) (hroom : rz.frames + 1 ≤ rm.frames ∧ (st.map fun v => v.category).sum + (Z.2.2.1 + 11) + rz.locals ≤ rm.locals) (hz : rz.cells = 0 ∧ rz.slots = 0) (hk : k ≤ rm.cells) (hj : j ≤ rm.slots) (hM : mm_Met g l Z rz (as) (zz_M S n) n (zz_QJ n P)) (kr : ∀ (v : Int) (S1 : zz_S), P v S1 → zz_E g l Y rm Q S1 n pc1 ls (zl v :: st) k j) : zz_E g l Y rm Q S n pc ls stk k j := by
  subst hst
  refine mm_callS hd.1 hZ hM hlen hroom (by omega) (by omega) (fun v M1 n1 hQ => ?_) (fun i M1 n1 hQ => ?_)
  · obtain ⟨v1, S1, e, hP⟩ := hQ
    cases e
    rw [hz.1, hz.2]
    exact zz_rw hd.2 (kr v1 S1 hP)
  · obtain ⟨v1, S1, e, hP⟩ := hQ
    cases e
theorem zz_callVA {Z : mm_Y} {rz : Room} {P : Nat → zz_S → Prop} {a ci index np : Nat} {ks : List Nat} {stk : List Value} (as : List Value) (hd : zz_D Y pc (.invokevirtual index) 3 pc1) (hZ : mm_Vl Y.1.cls index ci np Z) (hT : zz_T a = some (.inl (ci, ks))) (hn : a < n) (hst : stk = as.reverse ++ .ref a :: st) (hlen : as.length = np) (hroom : rz.frames + 1 ≤ rm.frames ∧ (st.map fun v => v.category).sum + (Z.2.2.1 + 11) + rz.locals ≤ rm.locals) (hz : rz.cells = 0 ∧ rz.slots = 0) (hk : k ≤ rm.cells) (hj : j ≤ rm.slots) (hM : mm_Met g l Z rz (.ref a :: as) (zz_M S n) n (zz_QA n P)) (kr : ∀ (v : Nat) (S1 : zz_S), P v S1 → zz_E g l Y rm Q S1 n pc1 ls (.ref v :: st) k j) : zz_E g l Y rm Q S n pc ls stk k j := by
  subst hst
  refine mm_callV hd.1 hZ hM (zz_M_at hn hT) hlen hroom (by omega) (by omega) (fun v M1 n1 hQ => ?_) (fun i M1 n1 hQ => ?_)
  · obtain ⟨v1, S1, e, hP⟩ := hQ
    cases e
    rw [hz.1, hz.2]
    exact zz_rw hd.2 (kr v1 S1 hP)
  · obtain ⟨v1, S1, e, hP⟩ := hQ
    cases e
theorem zz_callSA {Z : mm_Y} {rz : Room} {P : Nat → zz_S → Prop} {index np : Nat} {stk : List Value} (as : List Value) (hd : zz_D Y pc (.invokestatic index) 3 pc1) (hZ : mm_Sl Y.1.cls index np Z) (hst : stk = as.reverse ++ st) (hlen : as.length = np) (hroom : rz.frames + 1 ≤ rm.frames ∧ (st.map fun v => v.category).sum + (Z.2.2.1 + 11) + rz.locals ≤ rm.locals) (hz : rz.cells = 0 ∧ rz.slots = 0) (hk : k ≤ rm.cells) (hj : j ≤ rm.slots) (hM : mm_Met g l Z rz (as) (zz_M S n) n (zz_QA n P)) (kr : ∀ (v : Nat) (S1 : zz_S), P v S1 → zz_E g l Y rm Q S1 n pc1 ls (.ref v :: st) k j) : zz_E g l Y rm Q S n pc ls stk k j := by
  subst hst
  refine mm_callS hd.1 hZ hM hlen hroom (by omega) (by omega) (fun v M1 n1 hQ => ?_) (fun i M1 n1 hQ => ?_)
  · obtain ⟨v1, S1, e, hP⟩ := hQ
    cases e
    rw [hz.1, hz.2]
    exact zz_rw hd.2 (kr v1 S1 hP)
  · obtain ⟨v1, S1, e, hP⟩ := hQ
    cases e
theorem zz_callVV {Z : mm_Y} {rz : Room} {P : zz_S → Prop} {a ci index np : Nat} {ks : List Nat} {stk : List Value} (as : List Value) (hd : zz_D Y pc (.invokevirtual index) 3 pc1) (hZ : mm_Vl Y.1.cls index ci np Z) (hT : zz_T a = some (.inl (ci, ks))) (hn : a < n) (hst : stk = as.reverse ++ .ref a :: st) (hlen : as.length = np) (hroom : rz.frames + 1 ≤ rm.frames ∧ (st.map fun v => v.category).sum + (Z.2.2.1 + 11) + rz.locals ≤ rm.locals) (hz : rz.cells = 0 ∧ rz.slots = 0) (hk : k ≤ rm.cells) (hj : j ≤ rm.slots) (hM : mm_Met g l Z rz (.ref a :: as) (zz_M S n) n (zz_QV n P)) (kr : ∀ (S1 : zz_S), P S1 → zz_E g l Y rm Q S1 n pc1 ls (st) k j) : zz_E g l Y rm Q S n pc ls stk k j := by
  subst hst
  refine mm_callV hd.1 hZ hM (zz_M_at hn hT) hlen hroom (by omega) (by omega) (fun v M1 n1 hQ => ?_) (fun i M1 n1 hQ => ?_)
  · obtain ⟨S1, e, hP⟩ := hQ
    cases e
    rw [hz.1, hz.2]
    exact zz_rw hd.2 (kr S1 hP)
  · obtain ⟨S1, e, hP⟩ := hQ
    cases e
theorem zz_callSV {Z : mm_Y} {rz : Room} {P : zz_S → Prop} {index np : Nat} {stk : List Value} (as : List Value) (hd : zz_D Y pc (.invokestatic index) 3 pc1) (hZ : mm_Sl Y.1.cls index np Z) (hst : stk = as.reverse ++ st) (hlen : as.length = np) (hroom : rz.frames + 1 ≤ rm.frames ∧ (st.map fun v => v.category).sum + (Z.2.2.1 + 11) + rz.locals ≤ rm.locals) (hz : rz.cells = 0 ∧ rz.slots = 0) (hk : k ≤ rm.cells) (hj : j ≤ rm.slots) (hM : mm_Met g l Z rz (as) (zz_M S n) n (zz_QV n P)) (kr : ∀ (S1 : zz_S), P S1 → zz_E g l Y rm Q S1 n pc1 ls (st) k j) : zz_E g l Y rm Q S n pc ls stk k j := by
  subst hst
  refine mm_callS hd.1 hZ hM hlen hroom (by omega) (by omega) (fun v M1 n1 hQ => ?_) (fun i M1 n1 hQ => ?_)
  · obtain ⟨S1, e, hP⟩ := hQ
    cases e
    rw [hz.1, hz.2]
    exact zz_rw hd.2 (kr S1 hP)
  · obtain ⟨S1, e, hP⟩ := hQ
    cases e
theorem zz_callCV {Z : mm_Y} {rz : Room} {P : zz_S → Prop} {a index np : Nat} {stk : List Value} (as : List Value) (hd : zz_D Y pc (.invokespecial index) 3 pc1) (hZ : mm_Il Y.1.cls index np Z) (hst : stk = as.reverse ++ .ref a :: st) (hlen : as.length = np) (hroom : rz.frames + 1 ≤ rm.frames ∧ (st.map fun v => v.category).sum + (Z.2.2.1 + 11) + rz.locals ≤ rm.locals) (hz : rz.cells = 0 ∧ rz.slots = 0) (hk : k ≤ rm.cells) (hj : j ≤ rm.slots) (hM : mm_Met g l Z rz (.ref a :: as) (zz_M S n) n (zz_QV n P)) (kr : ∀ (S1 : zz_S), P S1 → zz_E g l Y rm Q S1 n pc1 ls (st) k j) : zz_E g l Y rm Q S n pc ls stk k j := by
  subst hst
  refine mm_callI hd.1 hZ hM hlen hroom (by omega) (by omega) (fun v M1 n1 hQ => ?_) (fun i M1 n1 hQ => ?_)
  · obtain ⟨S1, e, hP⟩ := hQ
    cases e
    rw [hz.1, hz.2]
    exact zz_rw hd.2 (kr S1 hP)
  · obtain ⟨S1, e, hP⟩ := hQ
    cases e
end ZC
