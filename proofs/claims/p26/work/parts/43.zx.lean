/-! Throws, and calls of methods that may throw. By program (wip/zz/gen43.py). -/
theorem zz_T_none {a : Nat} (h : zz_end ≤ a) : zz_T a = none := by
  have hl : zz_tab.length = 122 := rfl
  have h' : 1122 ≤ a := h
  unfold zz_T
  rw [if_neg (by omega)]
  exact List.getElem?_eq_none (by omega)
theorem zz_M_n {S : zz_S} {n : Nat} (hn : zz_end ≤ n) : zz_M S (n + 1) = zz_M S n := by
  funext a
  unfold zz_M
  by_cases h : a < n
  · rw [if_pos h, if_pos (by omega)]
  · rw [if_neg h]
    by_cases h2 : a < n + 1
    · rw [if_pos h2, zz_T_none (Nat.le_trans hn (Nat.not_lt.mp h))]; rfl
    · rw [if_neg h2]
def zz_XI (n : Nat) (P : Int → zz_S → Prop) (X : Nat → zz_S → Prop) : mm_O → Prop := fun u => (∃ v S1, u = (.inl (some (zi v)), zz_M S1 n, n) ∧ P v S1) ∨ (∃ i S1, u = (.inr i, zz_M S1 (n + 1), n + 1) ∧ X i S1)
def zz_XJ (n : Nat) (P : Int → zz_S → Prop) (X : Nat → zz_S → Prop) : mm_O → Prop := fun u => (∃ v S1, u = (.inl (some (zl v)), zz_M S1 n, n) ∧ P v S1) ∨ (∃ i S1, u = (.inr i, zz_M S1 (n + 1), n + 1) ∧ X i S1)
def zz_XV (n : Nat) (P : zz_S → Prop) (X : Nat → zz_S → Prop) : mm_O → Prop := fun u => (∃ S1, u = (.inl none, zz_M S1 n, n) ∧ P S1) ∨ (∃ i S1, u = (.inr i, zz_M S1 (n + 1), n + 1) ∧ X i S1)
def zz_Thr (Y : mm_Y) (pc ix is ic : Nat) : Prop := decode Y.2.1 pc = .ok (.new ix, 3) ∧ decode Y.2.1 (pc + 3) = .ok (.dup, 1) ∧ decode Y.2.1 (pc + 3 + 1) = .ok (.ldc is, 2) ∧ decode Y.2.1 (pc + 3 + 1 + 2) = .ok (.invokespecial ic, 3) ∧ decode Y.2.1 (pc + 3 + 1 + 2 + 3) = .ok (.athrow, 1)
def zz_ThrW (Y : mm_Y) (pc ix is ic : Nat) : Prop := decode Y.2.1 pc = .ok (.new ix, 3) ∧ decode Y.2.1 (pc + 3) = .ok (.dup, 1) ∧ decode Y.2.1 (pc + 3 + 1) = .ok (.ldc_w is, 3) ∧ decode Y.2.1 (pc + 3 + 1 + 3) = .ok (.invokespecial ic, 3) ∧ decode Y.2.1 (pc + 3 + 1 + 3 + 3) = .ok (.athrow, 1)
section ZX
variable {g : mm_G} {l : Launch} {Y : mm_Y} {rm : Room} {Q : mm_O → Prop} {pc pc1 : Nat} {ls : List (Option Value)} {st : List Value} {S : zz_S} {n k j : Nat}
theorem zz_throw {ix is ic i np : Nat} (hfl : l.flags = flags0) (hn : zz_end ≤ n) (hd : zz_Thr Y pc ix is ic) (hY : mm_Yw Y np) (hXl : mm_Xl Y.1.cls ix is ic i) (hk : k + 1 ≤ rm.cells) (hj : j + 6 ≤ rm.slots) (hroom : 5 < rm.frames ∧ (st.map fun v => v.category).sum + 82 ≤ rm.locals) (hQ : Q (.inr i, zz_M S (n + 1), n + 1)) : zz_E g l Y rm Q S n pc ls st k j :=
  mm_throw hfl hd.1 hd.2.1 hd.2.2.1 hd.2.2.2.1 hd.2.2.2.2 hY hXl hk hj hroom (by rw [← zz_M_n hn]; exact hQ)
theorem zz_throwW {ix is ic i np : Nat} (hfl : l.flags = flags0) (hn : zz_end ≤ n) (hd : zz_ThrW Y pc ix is ic) (hY : mm_Yw Y np) (hXl : mm_Xl Y.1.cls ix is ic i) (hk : k + 1 ≤ rm.cells) (hj : j + 6 ≤ rm.slots) (hroom : 5 < rm.frames ∧ (st.map fun v => v.category).sum + 82 ≤ rm.locals) (hQ : Q (.inr i, zz_M S (n + 1), n + 1)) : zz_E g l Y rm Q S n pc ls st k j :=
  mm_throwW hfl hd.1 hd.2.1 hd.2.2.1 hd.2.2.2.1 hd.2.2.2.2 hY hXl hk hj hroom (by rw [← zz_M_n hn]; exact hQ)
theorem zz_callVXI {Z : mm_Y} {rz : Room} {P : Int → zz_S → Prop} {X : Nat → zz_S → Prop} {a ci index np nq : Nat} {ks : List Nat} {stk : List Value} (as : List Value) (hd : zz_D Y pc (.invokevirtual index) 3 pc1) (hZ : mm_Vl Y.1.cls index ci np Z) (hT : zz_T a = some (.inl (ci, ks))) (hn : a < n) (hst : stk = as.reverse ++ .ref a :: st) (hlen : as.length = np) (hroom : rz.frames + 1 ≤ rm.frames ∧ (st.map fun v => v.category).sum + (Z.2.2.1 + 11) + rz.locals ≤ rm.locals) (hk : k + rz.cells ≤ rm.cells) (hj : j + rz.slots ≤ rm.slots) (hM : mm_Met g l Z rz (.ref a :: as) (zz_M S n) n (zz_XI n P X)) (hY : mm_Yw Y nq) (kx : ∀ i S1, X i S1 → Q (.inr i, zz_M S1 (n + 1), n + 1)) (kr : ∀ (v : Int) (S1 : zz_S), P v S1 → zz_E g l Y rm Q S1 n pc1 ls (zi v :: st) (k + rz.cells) (j + rz.slots)) : zz_E g l Y rm Q S n pc ls stk k j := by
  subst hst
  refine mm_callV hd.1 hZ hM (zz_M_at hn hT) hlen hroom hk hj (fun v M1 n1 hQ => ?_) (fun i M1 n1 hQ => ?_)
  · rcases hQ with ⟨v1, S1, e, hP⟩ | ⟨i, S1, e, hX⟩
    · cases e
      exact zz_rw hd.2 (kr v1 S1 hP)
    · cases e
  · rcases hQ with ⟨v1, S1, e, hP⟩ | ⟨i, S1, e, hX⟩
    · cases e
    · cases e
      exact mm_out hY hk hj (kx _ _ hX)
theorem zz_callVXJ {Z : mm_Y} {rz : Room} {P : Int → zz_S → Prop} {X : Nat → zz_S → Prop} {a ci index np nq : Nat} {ks : List Nat} {stk : List Value} (as : List Value) (hd : zz_D Y pc (.invokevirtual index) 3 pc1) (hZ : mm_Vl Y.1.cls index ci np Z) (hT : zz_T a = some (.inl (ci, ks))) (hn : a < n) (hst : stk = as.reverse ++ .ref a :: st) (hlen : as.length = np) (hroom : rz.frames + 1 ≤ rm.frames ∧ (st.map fun v => v.category).sum + (Z.2.2.1 + 11) + rz.locals ≤ rm.locals) (hk : k + rz.cells ≤ rm.cells) (hj : j + rz.slots ≤ rm.slots) (hM : mm_Met g l Z rz (.ref a :: as) (zz_M S n) n (zz_XJ n P X)) (hY : mm_Yw Y nq) (kx : ∀ i S1, X i S1 → Q (.inr i, zz_M S1 (n + 1), n + 1)) (kr : ∀ (v : Int) (S1 : zz_S), P v S1 → zz_E g l Y rm Q S1 n pc1 ls (zl v :: st) (k + rz.cells) (j + rz.slots)) : zz_E g l Y rm Q S n pc ls stk k j := by
  subst hst
  refine mm_callV hd.1 hZ hM (zz_M_at hn hT) hlen hroom hk hj (fun v M1 n1 hQ => ?_) (fun i M1 n1 hQ => ?_)
  · rcases hQ with ⟨v1, S1, e, hP⟩ | ⟨i, S1, e, hX⟩
    · cases e
      exact zz_rw hd.2 (kr v1 S1 hP)
    · cases e
  · rcases hQ with ⟨v1, S1, e, hP⟩ | ⟨i, S1, e, hX⟩
    · cases e
    · cases e
      exact mm_out hY hk hj (kx _ _ hX)
theorem zz_callVXV {Z : mm_Y} {rz : Room} {P : zz_S → Prop} {X : Nat → zz_S → Prop} {a ci index np nq : Nat} {ks : List Nat} {stk : List Value} (as : List Value) (hd : zz_D Y pc (.invokevirtual index) 3 pc1) (hZ : mm_Vl Y.1.cls index ci np Z) (hT : zz_T a = some (.inl (ci, ks))) (hn : a < n) (hst : stk = as.reverse ++ .ref a :: st) (hlen : as.length = np) (hroom : rz.frames + 1 ≤ rm.frames ∧ (st.map fun v => v.category).sum + (Z.2.2.1 + 11) + rz.locals ≤ rm.locals) (hk : k + rz.cells ≤ rm.cells) (hj : j + rz.slots ≤ rm.slots) (hM : mm_Met g l Z rz (.ref a :: as) (zz_M S n) n (zz_XV n P X)) (hY : mm_Yw Y nq) (kx : ∀ i S1, X i S1 → Q (.inr i, zz_M S1 (n + 1), n + 1)) (kr : ∀ (S1 : zz_S), P S1 → zz_E g l Y rm Q S1 n pc1 ls (st) (k + rz.cells) (j + rz.slots)) : zz_E g l Y rm Q S n pc ls stk k j := by
  subst hst
  refine mm_callV hd.1 hZ hM (zz_M_at hn hT) hlen hroom hk hj (fun v M1 n1 hQ => ?_) (fun i M1 n1 hQ => ?_)
  · rcases hQ with ⟨S1, e, hP⟩ | ⟨i, S1, e, hX⟩
    · cases e
      exact zz_rw hd.2 (kr S1 hP)
    · cases e
  · rcases hQ with ⟨S1, e, hP⟩ | ⟨i, S1, e, hX⟩
    · cases e
    · cases e
      exact mm_out hY hk hj (kx _ _ hX)
end ZX
