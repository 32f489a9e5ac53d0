/-! Families of cells: networks (3), words (4), reaches (5), layers (6). By program (wip/zz/gen44.py). -/
theorem zM_k3 {cl : List Nat} {z : Int} (h : 0 ≤ z ∧ z ≤ 1) (e : [1001, 1015].all (fun a => cl.contains a) = true) : cl.contains (zz_rf 3 z) = true := by
  have : z = 0 ∨ z = 1 := by omega
  have q := List.all_eq_true.mp e
  rcases this with rfl | rfl <;> exact q _ (by decide)
theorem zQ_k3 {cl : List Nat} {z : Int} (h : 0 ≤ z ∧ z ≤ 1) (e : [1001, 1015].all (fun a => !cl.contains a) = true) : cl.contains (zz_rf 3 z) = false := by
  have : z = 0 ∨ z = 1 := by omega
  have q := List.all_eq_true.mp e
  rcases this with rfl | rfl <;> exact (Bool.not_eq_true' _).mp (q _ (by decide))
theorem zP_k3 {sl : List (Nat × Nat)} {i : Nat} {z : Int} (h : 0 ≤ z ∧ z ≤ 1) (e : sl.all (fun p => ![1001, 1015].contains p.1) = true) : sl.contains (zz_rf 3 z, i) = false := by
  have : z = 0 ∨ z = 1 := by omega
  cases w : sl.contains (zz_rf 3 z, i) with
  | false => rfl
  | true =>
    have q := List.all_eq_true.mp e (zz_rf 3 z, i) (by simpa using w)
    rcases this with rfl | rfl <;> exact absurd (show false = true from q) (by decide)
theorem zB_k3 {z : Int} (h : 0 ≤ z ∧ z ≤ 1) : Nat.ble 1000 (zz_rf 3 z) = true := by
  have : z = 0 ∨ z = 1 := by omega
  rcases this with rfl | rfl <;> rfl
theorem zR_k3_1 {z : Int} (h : 0 ≤ z ∧ z ≤ 1) : zz_rg (zz_rf 3 z) 1 = (1, 11) := by
  have : z = 0 ∨ z = 1 := by omega
  rcases this with rfl | rfl <;> rfl
theorem zM_k3a {cl : List Nat} {z : Int} (h : 0 ≤ z ∧ z ≤ 1) (e : [1002, 1016].all (fun a => cl.contains a) = true) : cl.contains (zz_rf 3 z + 1) = true := by
  have : z = 0 ∨ z = 1 := by omega
  have q := List.all_eq_true.mp e
  rcases this with rfl | rfl <;> exact q _ (by decide)
theorem zQ_k3a {cl : List Nat} {z : Int} (h : 0 ≤ z ∧ z ≤ 1) (e : [1002, 1016].all (fun a => !cl.contains a) = true) : cl.contains (zz_rf 3 z + 1) = false := by
  have : z = 0 ∨ z = 1 := by omega
  have q := List.all_eq_true.mp e
  rcases this with rfl | rfl <;> exact (Bool.not_eq_true' _).mp (q _ (by decide))
theorem zP_k3a {sl : List (Nat × Nat)} {i : Nat} {z : Int} (h : 0 ≤ z ∧ z ≤ 1) (e : sl.all (fun p => ![1002, 1016].contains p.1) = true) : sl.contains (zz_rf 3 z + 1, i) = false := by
  have : z = 0 ∨ z = 1 := by omega
  cases w : sl.contains (zz_rf 3 z + 1, i) with
  | false => rfl
  | true =>
    have q := List.all_eq_true.mp e (zz_rf 3 z + 1, i) (by simpa using w)
    rcases this with rfl | rfl <;> exact absurd (show false = true from q) (by decide)
theorem zB_k3a {z : Int} (h : 0 ≤ z ∧ z ≤ 1) : Nat.ble 1000 (zz_rf 3 z + 1) = true := by
  have : z = 0 ∨ z = 1 := by omega
  rcases this with rfl | rfl <;> rfl
theorem zM_k4 {cl : List Nat} {z : Int} (h : 0 ≤ z ∧ z ≤ 1) (e : [1029, 1030].all (fun a => cl.contains a) = true) : cl.contains (zz_rf 4 z) = true := by
  have : z = 0 ∨ z = 1 := by omega
  have q := List.all_eq_true.mp e
  rcases this with rfl | rfl <;> exact q _ (by decide)
theorem zQ_k4 {cl : List Nat} {z : Int} (h : 0 ≤ z ∧ z ≤ 1) (e : [1029, 1030].all (fun a => !cl.contains a) = true) : cl.contains (zz_rf 4 z) = false := by
  have : z = 0 ∨ z = 1 := by omega
  have q := List.all_eq_true.mp e
  rcases this with rfl | rfl <;> exact (Bool.not_eq_true' _).mp (q _ (by decide))
theorem zP_k4 {sl : List (Nat × Nat)} {i : Nat} {z : Int} (h : 0 ≤ z ∧ z ≤ 1) (e : sl.all (fun p => ![1029, 1030].contains p.1) = true) : sl.contains (zz_rf 4 z, i) = false := by
  have : z = 0 ∨ z = 1 := by omega
  cases w : sl.contains (zz_rf 4 z, i) with
  | false => rfl
  | true =>
    have q := List.all_eq_true.mp e (zz_rf 4 z, i) (by simpa using w)
    rcases this with rfl | rfl <;> exact absurd (show false = true from q) (by decide)
theorem zB_k4 {z : Int} (h : 0 ≤ z ∧ z ≤ 1) : Nat.ble 1000 (zz_rf 4 z) = true := by
  have : z = 0 ∨ z = 1 := by omega
  rcases this with rfl | rfl <;> rfl
theorem zR_k4 {i : Nat} {z : Int} (h : 0 ≤ z ∧ z ≤ 1) : zz_rg (zz_rf 4 z) i = (-9223372036854775808, 9223372036854775807) := by
  have : z = 0 ∨ z = 1 := by omega
  rcases this with rfl | rfl <;> rfl
theorem zM_k5 {cl : List Nat} {z : Int} (h : 0 ≤ z ∧ z ≤ 4) (e : [1050, 1055, 1060, 1065, 1037].all (fun a => cl.contains a) = true) : cl.contains (zz_rf 5 z) = true := by
  have : z = 0 ∨ z = 1 ∨ z = 2 ∨ z = 3 ∨ z = 4 := by omega
  have q := List.all_eq_true.mp e
  rcases this with rfl | rfl | rfl | rfl | rfl <;> exact q _ (by decide)
theorem zQ_k5 {cl : List Nat} {z : Int} (h : 0 ≤ z ∧ z ≤ 4) (e : [1050, 1055, 1060, 1065, 1037].all (fun a => !cl.contains a) = true) : cl.contains (zz_rf 5 z) = false := by
  have : z = 0 ∨ z = 1 ∨ z = 2 ∨ z = 3 ∨ z = 4 := by omega
  have q := List.all_eq_true.mp e
  rcases this with rfl | rfl | rfl | rfl | rfl <;> exact (Bool.not_eq_true' _).mp (q _ (by decide))
theorem zP_k5 {sl : List (Nat × Nat)} {i : Nat} {z : Int} (h : 0 ≤ z ∧ z ≤ 4) (e : sl.all (fun p => ![1050, 1055, 1060, 1065, 1037].contains p.1) = true) : sl.contains (zz_rf 5 z, i) = false := by
  have : z = 0 ∨ z = 1 ∨ z = 2 ∨ z = 3 ∨ z = 4 := by omega
  cases w : sl.contains (zz_rf 5 z, i) with
  | false => rfl
  | true =>
    have q := List.all_eq_true.mp e (zz_rf 5 z, i) (by simpa using w)
    rcases this with rfl | rfl | rfl | rfl | rfl <;> exact absurd (show false = true from q) (by decide)
theorem zB_k5 {z : Int} (h : 0 ≤ z ∧ z ≤ 4) : Nat.ble 1000 (zz_rf 5 z) = true := by
  have : z = 0 ∨ z = 1 ∨ z = 2 ∨ z = 3 ∨ z = 4 := by omega
  rcases this with rfl | rfl | rfl | rfl | rfl <;> rfl
theorem zM_k5a1 {cl : List Nat} {z : Int} (h : 0 ≤ z ∧ z ≤ 4) (e : [1051, 1056, 1061, 1066, 1038].all (fun a => cl.contains a) = true) : cl.contains (zz_rf 5 z + 1) = true := by
  have : z = 0 ∨ z = 1 ∨ z = 2 ∨ z = 3 ∨ z = 4 := by omega
  have q := List.all_eq_true.mp e
  rcases this with rfl | rfl | rfl | rfl | rfl <;> exact q _ (by decide)
theorem zQ_k5a1 {cl : List Nat} {z : Int} (h : 0 ≤ z ∧ z ≤ 4) (e : [1051, 1056, 1061, 1066, 1038].all (fun a => !cl.contains a) = true) : cl.contains (zz_rf 5 z + 1) = false := by
  have : z = 0 ∨ z = 1 ∨ z = 2 ∨ z = 3 ∨ z = 4 := by omega
  have q := List.all_eq_true.mp e
  rcases this with rfl | rfl | rfl | rfl | rfl <;> exact (Bool.not_eq_true' _).mp (q _ (by decide))
theorem zP_k5a1 {sl : List (Nat × Nat)} {i : Nat} {z : Int} (h : 0 ≤ z ∧ z ≤ 4) (e : sl.all (fun p => ![1051, 1056, 1061, 1066, 1038].contains p.1) = true) : sl.contains (zz_rf 5 z + 1, i) = false := by
  have : z = 0 ∨ z = 1 ∨ z = 2 ∨ z = 3 ∨ z = 4 := by omega
  cases w : sl.contains (zz_rf 5 z + 1, i) with
  | false => rfl
  | true =>
    have q := List.all_eq_true.mp e (zz_rf 5 z + 1, i) (by simpa using w)
    rcases this with rfl | rfl | rfl | rfl | rfl <;> exact absurd (show false = true from q) (by decide)
theorem zB_k5a1 {z : Int} (h : 0 ≤ z ∧ z ≤ 4) : Nat.ble 1000 (zz_rf 5 z + 1) = true := by
  have : z = 0 ∨ z = 1 ∨ z = 2 ∨ z = 3 ∨ z = 4 := by omega
  rcases this with rfl | rfl | rfl | rfl | rfl <;> rfl
theorem zR_k5a1 {i : Nat} {z : Int} (h : 0 ≤ z ∧ z ≤ 4) : zz_rg (zz_rf 5 z + 1) i = (-2147483648, 2147483647) := by
  have : z = 0 ∨ z = 1 ∨ z = 2 ∨ z = 3 ∨ z = 4 := by omega
  rcases this with rfl | rfl | rfl | rfl | rfl <;> rfl
theorem zM_k5a2 {cl : List Nat} {z : Int} (h : 0 ≤ z ∧ z ≤ 4) (e : [1052, 1057, 1062, 1067, 1039].all (fun a => cl.contains a) = true) : cl.contains (zz_rf 5 z + 2) = true := by
  have : z = 0 ∨ z = 1 ∨ z = 2 ∨ z = 3 ∨ z = 4 := by omega
  have q := List.all_eq_true.mp e
  rcases this with rfl | rfl | rfl | rfl | rfl <;> exact q _ (by decide)
theorem zQ_k5a2 {cl : List Nat} {z : Int} (h : 0 ≤ z ∧ z ≤ 4) (e : [1052, 1057, 1062, 1067, 1039].all (fun a => !cl.contains a) = true) : cl.contains (zz_rf 5 z + 2) = false := by
  have : z = 0 ∨ z = 1 ∨ z = 2 ∨ z = 3 ∨ z = 4 := by omega
  have q := List.all_eq_true.mp e
  rcases this with rfl | rfl | rfl | rfl | rfl <;> exact (Bool.not_eq_true' _).mp (q _ (by decide))
theorem zP_k5a2 {sl : List (Nat × Nat)} {i : Nat} {z : Int} (h : 0 ≤ z ∧ z ≤ 4) (e : sl.all (fun p => ![1052, 1057, 1062, 1067, 1039].contains p.1) = true) : sl.contains (zz_rf 5 z + 2, i) = false := by
  have : z = 0 ∨ z = 1 ∨ z = 2 ∨ z = 3 ∨ z = 4 := by omega
  cases w : sl.contains (zz_rf 5 z + 2, i) with
  | false => rfl
  | true =>
    have q := List.all_eq_true.mp e (zz_rf 5 z + 2, i) (by simpa using w)
    rcases this with rfl | rfl | rfl | rfl | rfl <;> exact absurd (show false = true from q) (by decide)
theorem zB_k5a2 {z : Int} (h : 0 ≤ z ∧ z ≤ 4) : Nat.ble 1000 (zz_rf 5 z + 2) = true := by
  have : z = 0 ∨ z = 1 ∨ z = 2 ∨ z = 3 ∨ z = 4 := by omega
  rcases this with rfl | rfl | rfl | rfl | rfl <;> rfl
theorem zR_k5a2 {i : Nat} {z : Int} (h : 0 ≤ z ∧ z ≤ 4) : zz_rg (zz_rf 5 z + 2) i = (-2147483648, 2147483647) := by
  have : z = 0 ∨ z = 1 ∨ z = 2 ∨ z = 3 ∨ z = 4 := by omega
  rcases this with rfl | rfl | rfl | rfl | rfl <;> rfl
theorem zM_k5a3 {cl : List Nat} {z : Int} (h : 0 ≤ z ∧ z ≤ 4) (e : [1053, 1058, 1063, 1068, 1040].all (fun a => cl.contains a) = true) : cl.contains (zz_rf 5 z + 3) = true := by
  have : z = 0 ∨ z = 1 ∨ z = 2 ∨ z = 3 ∨ z = 4 := by omega
  have q := List.all_eq_true.mp e
  rcases this with rfl | rfl | rfl | rfl | rfl <;> exact q _ (by decide)
theorem zQ_k5a3 {cl : List Nat} {z : Int} (h : 0 ≤ z ∧ z ≤ 4) (e : [1053, 1058, 1063, 1068, 1040].all (fun a => !cl.contains a) = true) : cl.contains (zz_rf 5 z + 3) = false := by
  have : z = 0 ∨ z = 1 ∨ z = 2 ∨ z = 3 ∨ z = 4 := by omega
  have q := List.all_eq_true.mp e
  rcases this with rfl | rfl | rfl | rfl | rfl <;> exact (Bool.not_eq_true' _).mp (q _ (by decide))
theorem zP_k5a3 {sl : List (Nat × Nat)} {i : Nat} {z : Int} (h : 0 ≤ z ∧ z ≤ 4) (e : sl.all (fun p => ![1053, 1058, 1063, 1068, 1040].contains p.1) = true) : sl.contains (zz_rf 5 z + 3, i) = false := by
  have : z = 0 ∨ z = 1 ∨ z = 2 ∨ z = 3 ∨ z = 4 := by omega
  cases w : sl.contains (zz_rf 5 z + 3, i) with
  | false => rfl
  | true =>
    have q := List.all_eq_true.mp e (zz_rf 5 z + 3, i) (by simpa using w)
    rcases this with rfl | rfl | rfl | rfl | rfl <;> exact absurd (show false = true from q) (by decide)
theorem zB_k5a3 {z : Int} (h : 0 ≤ z ∧ z ≤ 4) : Nat.ble 1000 (zz_rf 5 z + 3) = true := by
  have : z = 0 ∨ z = 1 ∨ z = 2 ∨ z = 3 ∨ z = 4 := by omega
  rcases this with rfl | rfl | rfl | rfl | rfl <;> rfl
theorem zR_k5a3 {i : Nat} {z : Int} (h : 0 ≤ z ∧ z ≤ 4) : zz_rg (zz_rf 5 z + 3) i = (-2147483648, 2147483647) := by
  have : z = 0 ∨ z = 1 ∨ z = 2 ∨ z = 3 ∨ z = 4 := by omega
  rcases this with rfl | rfl | rfl | rfl | rfl <;> rfl
theorem zM_k5a4 {cl : List Nat} {z : Int} (h : 0 ≤ z ∧ z ≤ 4) (e : [1054, 1059, 1064, 1069, 1041].all (fun a => cl.contains a) = true) : cl.contains (zz_rf 5 z + 4) = true := by
  have : z = 0 ∨ z = 1 ∨ z = 2 ∨ z = 3 ∨ z = 4 := by omega
  have q := List.all_eq_true.mp e
  rcases this with rfl | rfl | rfl | rfl | rfl <;> exact q _ (by decide)
theorem zQ_k5a4 {cl : List Nat} {z : Int} (h : 0 ≤ z ∧ z ≤ 4) (e : [1054, 1059, 1064, 1069, 1041].all (fun a => !cl.contains a) = true) : cl.contains (zz_rf 5 z + 4) = false := by
  have : z = 0 ∨ z = 1 ∨ z = 2 ∨ z = 3 ∨ z = 4 := by omega
  have q := List.all_eq_true.mp e
  rcases this with rfl | rfl | rfl | rfl | rfl <;> exact (Bool.not_eq_true' _).mp (q _ (by decide))
theorem zP_k5a4 {sl : List (Nat × Nat)} {i : Nat} {z : Int} (h : 0 ≤ z ∧ z ≤ 4) (e : sl.all (fun p => ![1054, 1059, 1064, 1069, 1041].contains p.1) = true) : sl.contains (zz_rf 5 z + 4, i) = false := by
  have : z = 0 ∨ z = 1 ∨ z = 2 ∨ z = 3 ∨ z = 4 := by omega
  cases w : sl.contains (zz_rf 5 z + 4, i) with
  | false => rfl
  | true =>
    have q := List.all_eq_true.mp e (zz_rf 5 z + 4, i) (by simpa using w)
    rcases this with rfl | rfl | rfl | rfl | rfl <;> exact absurd (show false = true from q) (by decide)
theorem zB_k5a4 {z : Int} (h : 0 ≤ z ∧ z ≤ 4) : Nat.ble 1000 (zz_rf 5 z + 4) = true := by
  have : z = 0 ∨ z = 1 ∨ z = 2 ∨ z = 3 ∨ z = 4 := by omega
  rcases this with rfl | rfl | rfl | rfl | rfl <;> rfl
theorem zR_k5a4 {i : Nat} {z : Int} (h : 0 ≤ z ∧ z ≤ 4) : zz_rg (zz_rf 5 z + 4) i = (-2147483648, 2147483647) := by
  have : z = 0 ∨ z = 1 ∨ z = 2 ∨ z = 3 ∨ z = 4 := by omega
  rcases this with rfl | rfl | rfl | rfl | rfl <;> rfl
theorem zM_k6 {cl : List Nat} {z : Int} (h : 0 ≤ z ∧ z ≤ 23) (e : [1003, 1004, 1005, 1006, 1007, 1008, 1009, 1010, 1011, 1012, 1013, 1014, 1017, 1018, 1019, 1020, 1021, 1022, 1023, 1024, 1025, 1026, 1027, 1028].all (fun a => cl.contains a) = true) : cl.contains (zz_rf 6 z) = true := by
  have : z = 0 ∨ z = 1 ∨ z = 2 ∨ z = 3 ∨ z = 4 ∨ z = 5 ∨ z = 6 ∨ z = 7 ∨ z = 8 ∨ z = 9 ∨ z = 10 ∨ z = 11 ∨ z = 12 ∨ z = 13 ∨ z = 14 ∨ z = 15 ∨ z = 16 ∨ z = 17 ∨ z = 18 ∨ z = 19 ∨ z = 20 ∨ z = 21 ∨ z = 22 ∨ z = 23 := by omega
  have q := List.all_eq_true.mp e
  rcases this with rfl | rfl | rfl | rfl | rfl | rfl | rfl | rfl | rfl | rfl | rfl | rfl | rfl | rfl | rfl | rfl | rfl | rfl | rfl | rfl | rfl | rfl | rfl | rfl <;> exact q _ (by decide)
theorem zQ_k6 {cl : List Nat} {z : Int} (h : 0 ≤ z ∧ z ≤ 23) (e : [1003, 1004, 1005, 1006, 1007, 1008, 1009, 1010, 1011, 1012, 1013, 1014, 1017, 1018, 1019, 1020, 1021, 1022, 1023, 1024, 1025, 1026, 1027, 1028].all (fun a => !cl.contains a) = true) : cl.contains (zz_rf 6 z) = false := by
  have : z = 0 ∨ z = 1 ∨ z = 2 ∨ z = 3 ∨ z = 4 ∨ z = 5 ∨ z = 6 ∨ z = 7 ∨ z = 8 ∨ z = 9 ∨ z = 10 ∨ z = 11 ∨ z = 12 ∨ z = 13 ∨ z = 14 ∨ z = 15 ∨ z = 16 ∨ z = 17 ∨ z = 18 ∨ z = 19 ∨ z = 20 ∨ z = 21 ∨ z = 22 ∨ z = 23 := by omega
  have q := List.all_eq_true.mp e
  rcases this with rfl | rfl | rfl | rfl | rfl | rfl | rfl | rfl | rfl | rfl | rfl | rfl | rfl | rfl | rfl | rfl | rfl | rfl | rfl | rfl | rfl | rfl | rfl | rfl <;> exact (Bool.not_eq_true' _).mp (q _ (by decide))
theorem zP_k6 {sl : List (Nat × Nat)} {i : Nat} {z : Int} (h : 0 ≤ z ∧ z ≤ 23) (e : sl.all (fun p => ![1003, 1004, 1005, 1006, 1007, 1008, 1009, 1010, 1011, 1012, 1013, 1014, 1017, 1018, 1019, 1020, 1021, 1022, 1023, 1024, 1025, 1026, 1027, 1028].contains p.1) = true) : sl.contains (zz_rf 6 z, i) = false := by
  have : z = 0 ∨ z = 1 ∨ z = 2 ∨ z = 3 ∨ z = 4 ∨ z = 5 ∨ z = 6 ∨ z = 7 ∨ z = 8 ∨ z = 9 ∨ z = 10 ∨ z = 11 ∨ z = 12 ∨ z = 13 ∨ z = 14 ∨ z = 15 ∨ z = 16 ∨ z = 17 ∨ z = 18 ∨ z = 19 ∨ z = 20 ∨ z = 21 ∨ z = 22 ∨ z = 23 := by omega
  cases w : sl.contains (zz_rf 6 z, i) with
  | false => rfl
  | true =>
    have q := List.all_eq_true.mp e (zz_rf 6 z, i) (by simpa using w)
    rcases this with rfl | rfl | rfl | rfl | rfl | rfl | rfl | rfl | rfl | rfl | rfl | rfl | rfl | rfl | rfl | rfl | rfl | rfl | rfl | rfl | rfl | rfl | rfl | rfl <;> exact absurd (show false = true from q) (by decide)
theorem zB_k6 {z : Int} (h : 0 ≤ z ∧ z ≤ 23) : Nat.ble 1000 (zz_rf 6 z) = true := by
  have : z = 0 ∨ z = 1 ∨ z = 2 ∨ z = 3 ∨ z = 4 ∨ z = 5 ∨ z = 6 ∨ z = 7 ∨ z = 8 ∨ z = 9 ∨ z = 10 ∨ z = 11 ∨ z = 12 ∨ z = 13 ∨ z = 14 ∨ z = 15 ∨ z = 16 ∨ z = 17 ∨ z = 18 ∨ z = 19 ∨ z = 20 ∨ z = 21 ∨ z = 22 ∨ z = 23 := by omega
  rcases this with rfl | rfl | rfl | rfl | rfl | rfl | rfl | rfl | rfl | rfl | rfl | rfl | rfl | rfl | rfl | rfl | rfl | rfl | rfl | rfl | rfl | rfl | rfl | rfl <;> rfl
theorem zR_k6_0 {z : Int} (h : 0 ≤ z ∧ z ≤ 23) : zz_rg (zz_rf 6 z) 0 = (-2147483648, 2147483647) := by
  have : z = 0 ∨ z = 1 ∨ z = 2 ∨ z = 3 ∨ z = 4 ∨ z = 5 ∨ z = 6 ∨ z = 7 ∨ z = 8 ∨ z = 9 ∨ z = 10 ∨ z = 11 ∨ z = 12 ∨ z = 13 ∨ z = 14 ∨ z = 15 ∨ z = 16 ∨ z = 17 ∨ z = 18 ∨ z = 19 ∨ z = 20 ∨ z = 21 ∨ z = 22 ∨ z = 23 := by omega
  rcases this with rfl | rfl | rfl | rfl | rfl | rfl | rfl | rfl | rfl | rfl | rfl | rfl | rfl | rfl | rfl | rfl | rfl | rfl | rfl | rfl | rfl | rfl | rfl | rfl <;> rfl
theorem zR_k6_1 {z : Int} (h : 0 ≤ z ∧ z ≤ 23) : zz_rg (zz_rf 6 z) 1 = (-2147483648, 2147483647) := by
  have : z = 0 ∨ z = 1 ∨ z = 2 ∨ z = 3 ∨ z = 4 ∨ z = 5 ∨ z = 6 ∨ z = 7 ∨ z = 8 ∨ z = 9 ∨ z = 10 ∨ z = 11 ∨ z = 12 ∨ z = 13 ∨ z = 14 ∨ z = 15 ∨ z = 16 ∨ z = 17 ∨ z = 18 ∨ z = 19 ∨ z = 20 ∨ z = 21 ∨ z = 22 ∨ z = 23 := by omega
  rcases this with rfl | rfl | rfl | rfl | rfl | rfl | rfl | rfl | rfl | rfl | rfl | rfl | rfl | rfl | rfl | rfl | rfl | rfl | rfl | rfl | rfl | rfl | rfl | rfl <;> rfl
theorem zR_k6_2 {z : Int} (h : 0 ≤ z ∧ z ≤ 23) : zz_rg (zz_rf 6 z) 2 = (-2147483648, 2147483647) := by
  have : z = 0 ∨ z = 1 ∨ z = 2 ∨ z = 3 ∨ z = 4 ∨ z = 5 ∨ z = 6 ∨ z = 7 ∨ z = 8 ∨ z = 9 ∨ z = 10 ∨ z = 11 ∨ z = 12 ∨ z = 13 ∨ z = 14 ∨ z = 15 ∨ z = 16 ∨ z = 17 ∨ z = 18 ∨ z = 19 ∨ z = 20 ∨ z = 21 ∨ z = 22 ∨ z = 23 := by omega
  rcases this with rfl | rfl | rfl | rfl | rfl | rfl | rfl | rfl | rfl | rfl | rfl | rfl | rfl | rfl | rfl | rfl | rfl | rfl | rfl | rfl | rfl | rfl | rfl | rfl <;> rfl
theorem zR_k6_3 {z : Int} (h : 0 ≤ z ∧ z ≤ 23) : zz_rg (zz_rf 6 z) 3 = (-2147483648, 2147483647) := by
  have : z = 0 ∨ z = 1 ∨ z = 2 ∨ z = 3 ∨ z = 4 ∨ z = 5 ∨ z = 6 ∨ z = 7 ∨ z = 8 ∨ z = 9 ∨ z = 10 ∨ z = 11 ∨ z = 12 ∨ z = 13 ∨ z = 14 ∨ z = 15 ∨ z = 16 ∨ z = 17 ∨ z = 18 ∨ z = 19 ∨ z = 20 ∨ z = 21 ∨ z = 22 ∨ z = 23 := by omega
  rcases this with rfl | rfl | rfl | rfl | rfl | rfl | rfl | rfl | rfl | rfl | rfl | rfl | rfl | rfl | rfl | rfl | rfl | rfl | rfl | rfl | rfl | rfl | rfl | rfl <;> rfl
theorem zR_k6_4 {z : Int} (h : 0 ≤ z ∧ z ≤ 23) : zz_rg (zz_rf 6 z) 4 = (-2147483648, 2147483647) := by
  have : z = 0 ∨ z = 1 ∨ z = 2 ∨ z = 3 ∨ z = 4 ∨ z = 5 ∨ z = 6 ∨ z = 7 ∨ z = 8 ∨ z = 9 ∨ z = 10 ∨ z = 11 ∨ z = 12 ∨ z = 13 ∨ z = 14 ∨ z = 15 ∨ z = 16 ∨ z = 17 ∨ z = 18 ∨ z = 19 ∨ z = 20 ∨ z = 21 ∨ z = 22 ∨ z = 23 := by omega
  rcases this with rfl | rfl | rfl | rfl | rfl | rfl | rfl | rfl | rfl | rfl | rfl | rfl | rfl | rfl | rfl | rfl | rfl | rfl | rfl | rfl | rfl | rfl | rfl | rfl <;> rfl
theorem zR_k6_5 {z : Int} (h : 0 ≤ z ∧ z ≤ 23) : zz_rg (zz_rf 6 z) 5 = (-2147483648, 2147483647) := by
  have : z = 0 ∨ z = 1 ∨ z = 2 ∨ z = 3 ∨ z = 4 ∨ z = 5 ∨ z = 6 ∨ z = 7 ∨ z = 8 ∨ z = 9 ∨ z = 10 ∨ z = 11 ∨ z = 12 ∨ z = 13 ∨ z = 14 ∨ z = 15 ∨ z = 16 ∨ z = 17 ∨ z = 18 ∨ z = 19 ∨ z = 20 ∨ z = 21 ∨ z = 22 ∨ z = 23 := by omega
  rcases this with rfl | rfl | rfl | rfl | rfl | rfl | rfl | rfl | rfl | rfl | rfl | rfl | rfl | rfl | rfl | rfl | rfl | rfl | rfl | rfl | rfl | rfl | rfl | rfl <;> rfl
theorem zR_k6_6 {z : Int} (h : 0 ≤ z ∧ z ≤ 23) : zz_rg (zz_rf 6 z) 6 = (-2147483648, 2147483647) := by
  have : z = 0 ∨ z = 1 ∨ z = 2 ∨ z = 3 ∨ z = 4 ∨ z = 5 ∨ z = 6 ∨ z = 7 ∨ z = 8 ∨ z = 9 ∨ z = 10 ∨ z = 11 ∨ z = 12 ∨ z = 13 ∨ z = 14 ∨ z = 15 ∨ z = 16 ∨ z = 17 ∨ z = 18 ∨ z = 19 ∨ z = 20 ∨ z = 21 ∨ z = 22 ∨ z = 23 := by omega
  rcases this with rfl | rfl | rfl | rfl | rfl | rfl | rfl | rfl | rfl | rfl | rfl | rfl | rfl | rfl | rfl | rfl | rfl | rfl | rfl | rfl | rfl | rfl | rfl | rfl <;> rfl
theorem zR_k6_7 {z : Int} (h : 0 ≤ z ∧ z ≤ 23) : zz_rg (zz_rf 6 z) 7 = (-2147483648, 2147483647) := by
  have : z = 0 ∨ z = 1 ∨ z = 2 ∨ z = 3 ∨ z = 4 ∨ z = 5 ∨ z = 6 ∨ z = 7 ∨ z = 8 ∨ z = 9 ∨ z = 10 ∨ z = 11 ∨ z = 12 ∨ z = 13 ∨ z = 14 ∨ z = 15 ∨ z = 16 ∨ z = 17 ∨ z = 18 ∨ z = 19 ∨ z = 20 ∨ z = 21 ∨ z = 22 ∨ z = 23 := by omega
  rcases this with rfl | rfl | rfl | rfl | rfl | rfl | rfl | rfl | rfl | rfl | rfl | rfl | rfl | rfl | rfl | rfl | rfl | rfl | rfl | rfl | rfl | rfl | rfl | rfl <;> rfl
theorem zR_k6_8 {z : Int} (h : 0 ≤ z ∧ z ≤ 23) : zz_rg (zz_rf 6 z) 8 = (0, 1) := by
  have : z = 0 ∨ z = 1 ∨ z = 2 ∨ z = 3 ∨ z = 4 ∨ z = 5 ∨ z = 6 ∨ z = 7 ∨ z = 8 ∨ z = 9 ∨ z = 10 ∨ z = 11 ∨ z = 12 ∨ z = 13 ∨ z = 14 ∨ z = 15 ∨ z = 16 ∨ z = 17 ∨ z = 18 ∨ z = 19 ∨ z = 20 ∨ z = 21 ∨ z = 22 ∨ z = 23 := by omega
  rcases this with rfl | rfl | rfl | rfl | rfl | rfl | rfl | rfl | rfl | rfl | rfl | rfl | rfl | rfl | rfl | rfl | rfl | rfl | rfl | rfl | rfl | rfl | rfl | rfl <;> rfl
theorem zR_k6_9 {z : Int} (h : 0 ≤ z ∧ z ≤ 23) : zz_rg (zz_rf 6 z) 9 = (-2147483648, 2147483647) := by
  have : z = 0 ∨ z = 1 ∨ z = 2 ∨ z = 3 ∨ z = 4 ∨ z = 5 ∨ z = 6 ∨ z = 7 ∨ z = 8 ∨ z = 9 ∨ z = 10 ∨ z = 11 ∨ z = 12 ∨ z = 13 ∨ z = 14 ∨ z = 15 ∨ z = 16 ∨ z = 17 ∨ z = 18 ∨ z = 19 ∨ z = 20 ∨ z = 21 ∨ z = 22 ∨ z = 23 := by omega
  rcases this with rfl | rfl | rfl | rfl | rfl | rfl | rfl | rfl | rfl | rfl | rfl | rfl | rfl | rfl | rfl | rfl | rfl | rfl | rfl | rfl | rfl | rfl | rfl | rfl <;> rfl
theorem zR_k6_10 {z : Int} (h : 0 ≤ z ∧ z ≤ 23) : zz_rg (zz_rf 6 z) 10 = (-2147483648, 2147483647) := by
  have : z = 0 ∨ z = 1 ∨ z = 2 ∨ z = 3 ∨ z = 4 ∨ z = 5 ∨ z = 6 ∨ z = 7 ∨ z = 8 ∨ z = 9 ∨ z = 10 ∨ z = 11 ∨ z = 12 ∨ z = 13 ∨ z = 14 ∨ z = 15 ∨ z = 16 ∨ z = 17 ∨ z = 18 ∨ z = 19 ∨ z = 20 ∨ z = 21 ∨ z = 22 ∨ z = 23 := by omega
  rcases this with rfl | rfl | rfl | rfl | rfl | rfl | rfl | rfl | rfl | rfl | rfl | rfl | rfl | rfl | rfl | rfl | rfl | rfl | rfl | rfl | rfl | rfl | rfl | rfl <;> rfl
theorem zR_k6_11 {z : Int} (h : 0 ≤ z ∧ z ≤ 23) : zz_rg (zz_rf 6 z) 11 = (-2147483648, 2147483647) := by
  have : z = 0 ∨ z = 1 ∨ z = 2 ∨ z = 3 ∨ z = 4 ∨ z = 5 ∨ z = 6 ∨ z = 7 ∨ z = 8 ∨ z = 9 ∨ z = 10 ∨ z = 11 ∨ z = 12 ∨ z = 13 ∨ z = 14 ∨ z = 15 ∨ z = 16 ∨ z = 17 ∨ z = 18 ∨ z = 19 ∨ z = 20 ∨ z = 21 ∨ z = 22 ∨ z = 23 := by omega
  rcases this with rfl | rfl | rfl | rfl | rfl | rfl | rfl | rfl | rfl | rfl | rfl | rfl | rfl | rfl | rfl | rfl | rfl | rfl | rfl | rfl | rfl | rfl | rfl | rfl <;> rfl
theorem zR_k6_12 {z : Int} (h : 0 ≤ z ∧ z ≤ 23) : zz_rg (zz_rf 6 z) 12 = (-2147483648, 2147483647) := by
  have : z = 0 ∨ z = 1 ∨ z = 2 ∨ z = 3 ∨ z = 4 ∨ z = 5 ∨ z = 6 ∨ z = 7 ∨ z = 8 ∨ z = 9 ∨ z = 10 ∨ z = 11 ∨ z = 12 ∨ z = 13 ∨ z = 14 ∨ z = 15 ∨ z = 16 ∨ z = 17 ∨ z = 18 ∨ z = 19 ∨ z = 20 ∨ z = 21 ∨ z = 22 ∨ z = 23 := by omega
  rcases this with rfl | rfl | rfl | rfl | rfl | rfl | rfl | rfl | rfl | rfl | rfl | rfl | rfl | rfl | rfl | rfl | rfl | rfl | rfl | rfl | rfl | rfl | rfl | rfl <;> rfl
theorem zR_k6_13 {z : Int} (h : 0 ≤ z ∧ z ≤ 23) : zz_rg (zz_rf 6 z) 13 = (-2147483648, 2147483647) := by
  have : z = 0 ∨ z = 1 ∨ z = 2 ∨ z = 3 ∨ z = 4 ∨ z = 5 ∨ z = 6 ∨ z = 7 ∨ z = 8 ∨ z = 9 ∨ z = 10 ∨ z = 11 ∨ z = 12 ∨ z = 13 ∨ z = 14 ∨ z = 15 ∨ z = 16 ∨ z = 17 ∨ z = 18 ∨ z = 19 ∨ z = 20 ∨ z = 21 ∨ z = 22 ∨ z = 23 := by omega
  rcases this with rfl | rfl | rfl | rfl | rfl | rfl | rfl | rfl | rfl | rfl | rfl | rfl | rfl | rfl | rfl | rfl | rfl | rfl | rfl | rfl | rfl | rfl | rfl | rfl <;> rfl
theorem zR_k6_14 {z : Int} (h : 0 ≤ z ∧ z ≤ 23) : zz_rg (zz_rf 6 z) 14 = (-2147483648, 2147483647) := by
  have : z = 0 ∨ z = 1 ∨ z = 2 ∨ z = 3 ∨ z = 4 ∨ z = 5 ∨ z = 6 ∨ z = 7 ∨ z = 8 ∨ z = 9 ∨ z = 10 ∨ z = 11 ∨ z = 12 ∨ z = 13 ∨ z = 14 ∨ z = 15 ∨ z = 16 ∨ z = 17 ∨ z = 18 ∨ z = 19 ∨ z = 20 ∨ z = 21 ∨ z = 22 ∨ z = 23 := by omega
  rcases this with rfl | rfl | rfl | rfl | rfl | rfl | rfl | rfl | rfl | rfl | rfl | rfl | rfl | rfl | rfl | rfl | rfl | rfl | rfl | rfl | rfl | rfl | rfl | rfl <;> rfl
theorem zz_rf4 {z : Int} (h : 0 ≤ z ∧ z ≤ 1) : (zz_rf 4 z : Int) = 1029 + z := by
  have : z = 0 ∨ z = 1 := by omega
  rcases this with rfl | rfl <;> rfl
theorem zE_k3a {S : zz_S} {z : Int} (G : zz_G S) (h : 0 ≤ z ∧ z ≤ 1) : S (zz_rf 3 z) 0 = (((zz_rf 3 z + 1 : Nat)) : Int) := by
  have : z = 0 ∨ z = 1 := by omega
  rcases this with rfl | rfl
  · exact zz_G.eq G 1001 0 1002 rfl rfl
  · exact zz_G.eq G 1015 0 1016 rfl rfl
theorem zE_lay {S : zz_S} {z i : Int} (G : zz_G S) (h : 0 ≤ z ∧ z ≤ 1) (hi : 0 ≤ i ∧ i ≤ 11) : S (zz_rf 3 z + 1) i.toNat = 12 * z + i := by
  have : z = 0 ∨ z = 1 := by omega
  rcases this with rfl | rfl
  · have := zz_G.r G 1002 i.toNat (0 + (i.toNat : Int)) (0 + (i.toNat : Int)) rfl rfl
    show S 1002 i.toNat = 12 * 0 + i
    omega
  · have := zz_G.r G 1016 i.toNat (12 + (i.toNat : Int)) (12 + (i.toNat : Int)) rfl rfl
    show S 1016 i.toNat = 12 * 1 + i
    omega
theorem zE_k5a1 {S : zz_S} {z : Int} (G : zz_G S) (h : 0 ≤ z ∧ z ≤ 4) : S (zz_rf 5 z) 0 = (((zz_rf 5 z + 1 : Nat)) : Int) := by
  have : z = 0 ∨ z = 1 ∨ z = 2 ∨ z = 3 ∨ z = 4 := by omega
  rcases this with rfl | rfl | rfl | rfl | rfl
  · exact zz_G.eq G 1050 0 1051 rfl rfl
  · exact zz_G.eq G 1055 0 1056 rfl rfl
  · exact zz_G.eq G 1060 0 1061 rfl rfl
  · exact zz_G.eq G 1065 0 1066 rfl rfl
  · exact zz_G.eq G 1037 0 1038 rfl rfl
theorem zE_k5a2 {S : zz_S} {z : Int} (G : zz_G S) (h : 0 ≤ z ∧ z ≤ 4) : S (zz_rf 5 z) 1 = (((zz_rf 5 z + 2 : Nat)) : Int) := by
  have : z = 0 ∨ z = 1 ∨ z = 2 ∨ z = 3 ∨ z = 4 := by omega
  rcases this with rfl | rfl | rfl | rfl | rfl
  · exact zz_G.eq G 1050 1 1052 rfl rfl
  · exact zz_G.eq G 1055 1 1057 rfl rfl
  · exact zz_G.eq G 1060 1 1062 rfl rfl
  · exact zz_G.eq G 1065 1 1067 rfl rfl
  · exact zz_G.eq G 1037 1 1039 rfl rfl
theorem zE_k5a3 {S : zz_S} {z : Int} (G : zz_G S) (h : 0 ≤ z ∧ z ≤ 4) : S (zz_rf 5 z) 2 = (((zz_rf 5 z + 3 : Nat)) : Int) := by
  have : z = 0 ∨ z = 1 ∨ z = 2 ∨ z = 3 ∨ z = 4 := by omega
  rcases this with rfl | rfl | rfl | rfl | rfl
  · exact zz_G.eq G 1050 2 1053 rfl rfl
  · exact zz_G.eq G 1055 2 1058 rfl rfl
  · exact zz_G.eq G 1060 2 1063 rfl rfl
  · exact zz_G.eq G 1065 2 1068 rfl rfl
  · exact zz_G.eq G 1037 2 1040 rfl rfl
theorem zE_k5a4 {S : zz_S} {z : Int} (G : zz_G S) (h : 0 ≤ z ∧ z ≤ 4) : S (zz_rf 5 z) 3 = (((zz_rf 5 z + 4 : Nat)) : Int) := by
  have : z = 0 ∨ z = 1 ∨ z = 2 ∨ z = 3 ∨ z = 4 := by omega
  rcases this with rfl | rfl | rfl | rfl | rfl
  · exact zz_G.eq G 1050 3 1054 rfl rfl
  · exact zz_G.eq G 1055 3 1059 rfl rfl
  · exact zz_G.eq G 1060 3 1064 rfl rfl
  · exact zz_G.eq G 1065 3 1069 rfl rfl
  · exact zz_G.eq G 1037 3 1041 rfl rfl
