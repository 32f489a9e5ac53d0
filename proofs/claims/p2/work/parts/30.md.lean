/-! The reference: its one object and its arrays, as a state. By program (wip/model.py). -/
abbrev md_V : Type := Int32 ⊕ (Int64 ⊕ ((Nat → Int32) ⊕ (Nat → Int64)))
abbrev md_S : Type := Nat → md_V
def md_kd (k : Nat) : Nat := match k with
  | 2 => 2
  | 3 => 2
  | 4 => 2
  | 5 => 2
  | 6 => 2
  | 8 => 3
  | 9 => 3
  | 11 => 2
  | 12 => 2
  | 13 => 2
  | 17 => 2
  | 18 => 2
  | 20 => 2
  | 21 => 2
  | 22 => 2
  | 23 => 4
  | 24 => 2
  | 25 => 2
  | 26 => 2
  | 27 => 2
  | 29 => 3
  | 35 => 2
  | 37 => 2
  | 38 => 2
  | 39 => 2
  | 40 => 2
  | 41 => 2
  | 42 => 2
  | 43 => 2
  | 44 => 2
  | 45 => 2
  | 46 => 2
  | 47 => 2
  | 48 => 2
  | 49 => 2
  | 58 => 2
  | 59 => 2
  | 61 => 1
  | 62 => 3
  | 63 => 2
  | 64 => 1
  | 67 => 2
  | 68 => 2
  | _ => 0
def md_ln (k : Nat) : Nat := match k with
  | 2 => 4096
  | 3 => 512
  | 4 => 512
  | 5 => 256
  | 6 => 256
  | 8 => 601
  | 9 => 601
  | 11 => 12
  | 12 => 10
  | 13 => 10
  | 17 => 3
  | 18 => 4
  | 20 => 601
  | 21 => 601
  | 22 => 601
  | 23 => 601
  | 24 => 601
  | 25 => 3
  | 26 => 3
  | 27 => 1500
  | 29 => 24
  | 35 => 200
  | 37 => 11
  | 38 => 11
  | 39 => 11
  | 40 => 12
  | 41 => 10
  | 42 => 10
  | 43 => 10
  | 44 => 10
  | 45 => 10
  | 46 => 10
  | 47 => 10
  | 48 => 10
  | 49 => 10
  | 58 => 10
  | 59 => 10
  | 62 => 11
  | 63 => 8
  | 67 => 147
  | 68 => 12
  | _ => 0
def md_of (k : Nat) : Nat := match k with
  | 2 => 1
  | 3 => 2
  | 4 => 3
  | 5 => 4
  | 6 => 5
  | 8 => 6
  | 9 => 7
  | 11 => 8
  | 12 => 9
  | 13 => 10
  | 17 => 11
  | 18 => 12
  | 20 => 13
  | 21 => 14
  | 22 => 15
  | 23 => 16
  | 24 => 17
  | 25 => 18
  | 26 => 19
  | 27 => 20
  | 29 => 21
  | 35 => 22
  | 37 => 23
  | 38 => 24
  | 39 => 25
  | 40 => 26
  | 41 => 27
  | 42 => 28
  | 43 => 29
  | 44 => 30
  | 45 => 31
  | 46 => 32
  | 47 => 33
  | 48 => 34
  | 49 => 35
  | 58 => 36
  | 59 => 37
  | 62 => 38
  | 63 => 39
  | 67 => 40
  | 68 => 41
  | _ => 0
def md_i (s : md_S) (k : Nat) : Int32 := match s k with
  | .inl x => x
  | _ => 0
def md_l (s : md_S) (k : Nat) : Int64 := match s k with
  | .inr (.inl x) => x
  | _ => 0
def md_a (s : md_S) (k : Nat) : Nat → Int32 := match s k with
  | .inr (.inr (.inl f)) => f
  | _ => fun _ => 0
def md_b (s : md_S) (k : Nat) : Nat → Int64 := match s k with
  | .inr (.inr (.inr f)) => f
  | _ => fun _ => 0
def md_si (s : md_S) (k : Nat) (x : Int32) : md_S := fun q => if q = k then .inl x else s q
def md_sl (s : md_S) (k : Nat) (x : Int64) : md_S := fun q => if q = k then .inr (.inl x) else s q
def md_sa (s : md_S) (k : Nat) (f : Nat → Int32) : md_S := fun q => if q = k then .inr (.inr (.inl f)) else s q
def md_sb (s : md_S) (k : Nat) (f : Nat → Int64) : md_S := fun q => if q = k then .inr (.inr (.inr f)) else s q
def md_fv (b : Nat) (s : md_S) (k : Nat) : Value := match md_kd k with
  | 0 => .int (md_i s k)
  | 1 => .long (md_l s k)
  | _ => .ref (b + md_of k)
def md_av (s : md_S) (k : Nat) : mm_E := match md_kd k with
  | 2 => .inl (3, md_ln k, .inl (md_a s k))
  | 3 => .inl (1, md_ln k, .inr (.inl (md_b s k)))
  | _ => .inl (6, md_ln k, .inl (md_a s k))
/-- the cells hold the state s: the object at b, its arrays behind it -/
def md_H (b : Nat) (s : md_S) (M : mm_M) : Prop := M b = some (.inr (11, (List.range 69).map (md_fv b s))) ∧ ∀ k, k < 69 → 2 ≤ md_kd k → M (b + md_of k) = some (md_av s k)
theorem md_of_pos : ∀ k, k < 69 → 2 ≤ md_kd k → 0 < md_of k := by decide +kernel
theorem md_of_inj : ∀ k, k < 69 → ∀ q, q < 69 → 2 ≤ md_kd k → 2 ≤ md_kd q → md_of k = md_of q → k = q := by decide +kernel
theorem md_set_list {α : Type} (f f1 : Nat → α) (k N : Nat) (h : ∀ q, q ≠ k → f1 q = f q) : ((List.range N).map f).set k (f1 k) = (List.range N).map f1 := by
  apply List.ext_getElem?
  intro i
  rw [List.getElem?_set]
  by_cases hik : k = i
  · subst hik
    rw [if_pos rfl]
    by_cases hk : k < N
    · rw [if_pos (by simpa using hk)]
      simp [hk]
    · rw [if_neg (by simpa using hk)]
      simp [hk]
  · rw [if_neg hik]
    simp only [List.getElem?_map]
    cases hr : (List.range N)[i]? with
    | none => rfl
    | some q =>
      have hq : q = i := by
        have := List.getElem?_eq_some_iff.mp hr
        obtain ⟨h1, h2⟩ := this
        simp at h2
        exact h2.symm
      simp [hq, h i (fun z => hik z.symm)]
theorem md_i_ne {s : md_S} {k q : Nat} {x : Int32} (h : q ≠ k) : md_si s k x q = s q := by simp [md_si, h]
theorem md_l_ne {s : md_S} {k q : Nat} {x : Int64} (h : q ≠ k) : md_sl s k x q = s q := by simp [md_sl, h]
theorem md_a_ne {s : md_S} {k q : Nat} {f : Nat → Int32} (h : q ≠ k) : md_sa s k f q = s q := by simp [md_sa, h]
theorem md_b_ne {s : md_S} {k q : Nat} {f : Nat → Int64} (h : q ≠ k) : md_sb s k f q = s q := by simp [md_sb, h]
theorem md_ii {s : md_S} {k : Nat} {x : Int32} : md_i (md_si s k x) k = x := by simp [md_i, md_si]
theorem md_ll {s : md_S} {k : Nat} {x : Int64} : md_l (md_sl s k x) k = x := by simp [md_l, md_sl]
theorem md_aa {s : md_S} {k : Nat} {f : Nat → Int32} : md_a (md_sa s k f) k = f := by simp [md_a, md_sa]
theorem md_bb {s : md_S} {k : Nat} {f : Nat → Int64} : md_b (md_sb s k f) k = f := by simp [md_b, md_sb]
theorem md_H.put {b : Nat} {s s1 : md_S} {M : mm_M} (h : md_H b s M) (k : Nat) (hk : k < 69) (hkd : md_kd k < 2) (hs : ∀ q, q ≠ k → s1 q = s q) : md_H b s1 (mm_up M b (.inr (11, ((List.range 69).map (md_fv b s)).set k (md_fv b s1 k)))) := by
  have hfv : ∀ q, q ≠ k → md_fv b s1 q = md_fv b s q := fun q hq => by simp only [md_fv, md_i, md_l, hs q hq]
  refine ⟨?_, fun q hq h2 => ?_⟩
  · rw [mm_up_s, md_set_list _ _ _ _ hfv]
  · have h0 := md_of_pos q hq h2
    have hqk : q ≠ k := fun z => by subst z; omega
    rw [mm_up_n (by omega), h.2 q hq h2]
    simp only [md_av, md_a, md_b, hs q hqk]
theorem md_H.store {b : Nat} {s s1 : md_S} {M : mm_M} (h : md_H b s M) (k : Nat) (hk : k < 69) (hkd : 2 ≤ md_kd k) (hs : ∀ q, q ≠ k → s1 q = s q) : md_H b s1 (mm_up M (b + md_of k) (md_av s1 k)) := by
  have h0 := md_of_pos k hk hkd
  refine ⟨?_, fun q hq h2 => ?_⟩
  · rw [mm_up_n (by omega), h.1]
    congr 3
    apply List.map_congr_left
    intro q hq
    by_cases z : q = k
    · subst z
      have : ∀ y, 2 ≤ y → ∀ (s : md_S), (match y with | 0 => Value.int (md_i s q) | 1 => Value.long (md_l s q) | _ => Value.ref (b + md_of q)) = Value.ref (b + md_of q) := by
        intro y hy s
        match y, hy with
        | y + 2, _ => rfl
      simp only [md_fv]
      rw [this _ hkd, this _ hkd]
    · simp only [md_fv, md_i, md_l, hs q z]
  · by_cases z : q = k
    · subst z
      rw [mm_up_s]
    · have hne : b + md_of q ≠ b + md_of k := fun e => z (md_of_inj q hq k hk h2 hkd (by omega))
      rw [mm_up_n hne, h.2 q hq h2]
      simp only [md_av, md_a, md_b, hs q z]
