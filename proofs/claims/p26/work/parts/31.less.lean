/-- fewer locals known -/
def mm_sub : List (Option Value) → List (Option Value) → Prop
  | [], _ => True
  | none :: l, [] => mm_sub l []
  | none :: l, _ :: r => mm_sub l r
  | some _ :: _, [] => False
  | some v :: l, x :: r => x = some v ∧ mm_sub l r
theorem mm_sub_lg : ∀ (l r : List (Option Value)), mm_sub l r → ∀ (i : Nat) (v : Value), mm_lg l i = some v → mm_lg r i = some v
  | [], _, _, i, v, h => by cases h
  | none :: l, [], hs, i, v, h => by
    cases i with
    | zero => cases h
    | succ i => have := mm_sub_lg l [] hs i v h; cases this
  | none :: l, x :: r, hs, i, v, h => by
    cases i with
    | zero => cases h
    | succ i => exact mm_sub_lg l r hs i v h
  | some w :: l, [], hs, i, v, h => by cases hs
  | some w :: l, x :: r, hs, i, v, h => by
    obtain ⟨h1, h2⟩ := hs
    cases i with
    | zero => rw [h1]; exact h
    | succ i => exact mm_sub_lg l r h2 i v h
section MMLESS
variable {g : mm_G} {l : Launch} {Y : mm_Y} {rm : Room} {Q : mm_O → Prop} {pc : Nat} {ls : List (Option Value)} {st : List Value} {M : mm_M} {n k j : Nat}
theorem mm_less {ls1 : List (Option Value)} (h : mm_sub ls1 ls) (kk : mm_Ev g l Y rm Q pc ls1 st M n k j) : mm_Ev g l Y rm Q pc ls st M n k j :=
  fun p e s m args below meth c H locs lsM hC hH hS hL => kk p e s m args below meth c H locs lsM hC hH hS (hL.less (mm_sub_lg _ _ h))
theorem mm_pc {pc1 : Nat} (h : pc = pc1) (kk : mm_Ev g l Y rm Q pc1 ls st M n k j) : mm_Ev g l Y rm Q pc ls st M n k j := h ▸ kk
end MMLESS
