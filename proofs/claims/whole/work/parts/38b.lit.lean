theorem v0_ltT {a : Nat} (h : a < 0) : (nI a < (0 : Int32)) = True := eq_true (nI_lt h (by decide))
theorem v0_ltF {a : Nat} (h : 0 ≤ a) (ha : a < 2 ^ 31) : (nI a < (0 : Int32)) = False := eq_false (nI_nlt (b := 0) h ha)
theorem v0_gtT {a : Nat} (h : 0 < a) (ha : a < 2 ^ 31) : ((0 : Int32) < nI a) = True := eq_true (nI_lt (a := 0) h ha)
theorem v0_gtF {a : Nat} (h : a ≤ 0) : ((0 : Int32) < nI a) = False := eq_false (nI_nlt (a := 0) h (by decide))
theorem v0_leT {a : Nat} (h : a ≤ 0) : (nI a ≤ (0 : Int32)) = True := eq_true (nI_le (b := 0) h (by decide))
theorem v0_leF {a : Nat} (h : 0 < a) (ha : a < 2 ^ 31) : (nI a ≤ (0 : Int32)) = False := eq_false (nI_ge (a := 0) h ha)
theorem v0_geT {a : Nat} (h : 0 ≤ a) (ha : a < 2 ^ 31) : ((0 : Int32) ≤ nI a) = True := eq_true (nI_le (a := 0) h ha)
theorem v0_geF {a : Nat} (h : a < 0) : ((0 : Int32) ≤ nI a) = False := eq_false (nI_ge (b := 0) h (by decide))
theorem v0_eqT {a : Nat} (h : a = 0) : (nI a = (0 : Int32)) = True := eq_true (congrArg nI h)
theorem v0_eqF {a : Nat} (h : a ≠ 0) (ha : a < 2 ^ 31) : (nI a = (0 : Int32)) = False := eq_false (fun e => h ((nI_eq (b := 0) ha (by decide)).mp e))
theorem v0_add (a : Nat) : nI a + (0 : Int32) = nI (a + 0) := nI_add a 0
theorem v0_dda (a : Nat) : (0 : Int32) + nI a = nI (0 + a) := nI_add 0 a
theorem v0_mul (a : Nat) : nI a * (0 : Int32) = nI (a * 0) := pk_mul a 0
theorem v0_lum (a : Nat) : (0 : Int32) * nI a = nI (0 * a) := pk_mul 0 a
theorem v0_sub {a : Nat} (h : 0 ≤ a) : nI a - (0 : Int32) = nI (a - 0) := nI_sub h
theorem v0_bad {n : Nat} (h : 0 < n) (hn : n < 2 ^ 31) : am_bad (0 : Int32) n = False := eq_false (nI_in (c := 0) h hn)
theorem v0_cl : ((0 : Int32)).toNatClampNeg = 0 := by decide +kernel
theorem v1_ltT {a : Nat} (h : a < 1) : (nI a < (1 : Int32)) = True := eq_true (nI_lt h (by decide))
theorem v1_ltF {a : Nat} (h : 1 ≤ a) (ha : a < 2 ^ 31) : (nI a < (1 : Int32)) = False := eq_false (nI_nlt (b := 1) h ha)
theorem v1_gtT {a : Nat} (h : 1 < a) (ha : a < 2 ^ 31) : ((1 : Int32) < nI a) = True := eq_true (nI_lt (a := 1) h ha)
theorem v1_gtF {a : Nat} (h : a ≤ 1) : ((1 : Int32) < nI a) = False := eq_false (nI_nlt (a := 1) h (by decide))
theorem v1_leT {a : Nat} (h : a ≤ 1) : (nI a ≤ (1 : Int32)) = True := eq_true (nI_le (b := 1) h (by decide))
theorem v1_leF {a : Nat} (h : 1 < a) (ha : a < 2 ^ 31) : (nI a ≤ (1 : Int32)) = False := eq_false (nI_ge (a := 1) h ha)
theorem v1_geT {a : Nat} (h : 1 ≤ a) (ha : a < 2 ^ 31) : ((1 : Int32) ≤ nI a) = True := eq_true (nI_le (a := 1) h ha)
theorem v1_geF {a : Nat} (h : a < 1) : ((1 : Int32) ≤ nI a) = False := eq_false (nI_ge (b := 1) h (by decide))
theorem v1_eqT {a : Nat} (h : a = 1) : (nI a = (1 : Int32)) = True := eq_true (congrArg nI h)
theorem v1_eqF {a : Nat} (h : a ≠ 1) (ha : a < 2 ^ 31) : (nI a = (1 : Int32)) = False := eq_false (fun e => h ((nI_eq (b := 1) ha (by decide)).mp e))
theorem v1_add (a : Nat) : nI a + (1 : Int32) = nI (a + 1) := nI_add a 1
theorem v1_dda (a : Nat) : (1 : Int32) + nI a = nI (1 + a) := nI_add 1 a
theorem v1_mul (a : Nat) : nI a * (1 : Int32) = nI (a * 1) := pk_mul a 1
theorem v1_lum (a : Nat) : (1 : Int32) * nI a = nI (1 * a) := pk_mul 1 a
theorem v1_sub {a : Nat} (h : 1 ≤ a) : nI a - (1 : Int32) = nI (a - 1) := nI_sub h
theorem v1_bad {n : Nat} (h : 1 < n) (hn : n < 2 ^ 31) : am_bad (1 : Int32) n = False := eq_false (nI_in (c := 1) h hn)
theorem v1_cl : ((1 : Int32)).toNatClampNeg = 1 := by decide +kernel
theorem v2_ltT {a : Nat} (h : a < 2) : (nI a < (2 : Int32)) = True := eq_true (nI_lt h (by decide))
theorem v2_ltF {a : Nat} (h : 2 ≤ a) (ha : a < 2 ^ 31) : (nI a < (2 : Int32)) = False := eq_false (nI_nlt (b := 2) h ha)
theorem v2_gtT {a : Nat} (h : 2 < a) (ha : a < 2 ^ 31) : ((2 : Int32) < nI a) = True := eq_true (nI_lt (a := 2) h ha)
theorem v2_gtF {a : Nat} (h : a ≤ 2) : ((2 : Int32) < nI a) = False := eq_false (nI_nlt (a := 2) h (by decide))
theorem v2_leT {a : Nat} (h : a ≤ 2) : (nI a ≤ (2 : Int32)) = True := eq_true (nI_le (b := 2) h (by decide))
theorem v2_leF {a : Nat} (h : 2 < a) (ha : a < 2 ^ 31) : (nI a ≤ (2 : Int32)) = False := eq_false (nI_ge (a := 2) h ha)
theorem v2_geT {a : Nat} (h : 2 ≤ a) (ha : a < 2 ^ 31) : ((2 : Int32) ≤ nI a) = True := eq_true (nI_le (a := 2) h ha)
theorem v2_geF {a : Nat} (h : a < 2) : ((2 : Int32) ≤ nI a) = False := eq_false (nI_ge (b := 2) h (by decide))
theorem v2_eqT {a : Nat} (h : a = 2) : (nI a = (2 : Int32)) = True := eq_true (congrArg nI h)
theorem v2_eqF {a : Nat} (h : a ≠ 2) (ha : a < 2 ^ 31) : (nI a = (2 : Int32)) = False := eq_false (fun e => h ((nI_eq (b := 2) ha (by decide)).mp e))
theorem v2_add (a : Nat) : nI a + (2 : Int32) = nI (a + 2) := nI_add a 2
theorem v2_dda (a : Nat) : (2 : Int32) + nI a = nI (2 + a) := nI_add 2 a
theorem v2_mul (a : Nat) : nI a * (2 : Int32) = nI (a * 2) := pk_mul a 2
theorem v2_lum (a : Nat) : (2 : Int32) * nI a = nI (2 * a) := pk_mul 2 a
theorem v2_sub {a : Nat} (h : 2 ≤ a) : nI a - (2 : Int32) = nI (a - 2) := nI_sub h
theorem v2_bad {n : Nat} (h : 2 < n) (hn : n < 2 ^ 31) : am_bad (2 : Int32) n = False := eq_false (nI_in (c := 2) h hn)
theorem v2_cl : ((2 : Int32)).toNatClampNeg = 2 := by decide +kernel
theorem v3_ltT {a : Nat} (h : a < 3) : (nI a < (3 : Int32)) = True := eq_true (nI_lt h (by decide))
theorem v3_ltF {a : Nat} (h : 3 ≤ a) (ha : a < 2 ^ 31) : (nI a < (3 : Int32)) = False := eq_false (nI_nlt (b := 3) h ha)
theorem v3_gtT {a : Nat} (h : 3 < a) (ha : a < 2 ^ 31) : ((3 : Int32) < nI a) = True := eq_true (nI_lt (a := 3) h ha)
theorem v3_gtF {a : Nat} (h : a ≤ 3) : ((3 : Int32) < nI a) = False := eq_false (nI_nlt (a := 3) h (by decide))
theorem v3_leT {a : Nat} (h : a ≤ 3) : (nI a ≤ (3 : Int32)) = True := eq_true (nI_le (b := 3) h (by decide))
theorem v3_leF {a : Nat} (h : 3 < a) (ha : a < 2 ^ 31) : (nI a ≤ (3 : Int32)) = False := eq_false (nI_ge (a := 3) h ha)
theorem v3_geT {a : Nat} (h : 3 ≤ a) (ha : a < 2 ^ 31) : ((3 : Int32) ≤ nI a) = True := eq_true (nI_le (a := 3) h ha)
theorem v3_geF {a : Nat} (h : a < 3) : ((3 : Int32) ≤ nI a) = False := eq_false (nI_ge (b := 3) h (by decide))
theorem v3_eqT {a : Nat} (h : a = 3) : (nI a = (3 : Int32)) = True := eq_true (congrArg nI h)
theorem v3_eqF {a : Nat} (h : a ≠ 3) (ha : a < 2 ^ 31) : (nI a = (3 : Int32)) = False := eq_false (fun e => h ((nI_eq (b := 3) ha (by decide)).mp e))
theorem v3_add (a : Nat) : nI a + (3 : Int32) = nI (a + 3) := nI_add a 3
theorem v3_dda (a : Nat) : (3 : Int32) + nI a = nI (3 + a) := nI_add 3 a
theorem v3_mul (a : Nat) : nI a * (3 : Int32) = nI (a * 3) := pk_mul a 3
theorem v3_lum (a : Nat) : (3 : Int32) * nI a = nI (3 * a) := pk_mul 3 a
theorem v3_sub {a : Nat} (h : 3 ≤ a) : nI a - (3 : Int32) = nI (a - 3) := nI_sub h
theorem v3_bad {n : Nat} (h : 3 < n) (hn : n < 2 ^ 31) : am_bad (3 : Int32) n = False := eq_false (nI_in (c := 3) h hn)
theorem v3_cl : ((3 : Int32)).toNatClampNeg = 3 := by decide +kernel
theorem v4_ltT {a : Nat} (h : a < 4) : (nI a < (4 : Int32)) = True := eq_true (nI_lt h (by decide))
theorem v4_ltF {a : Nat} (h : 4 ≤ a) (ha : a < 2 ^ 31) : (nI a < (4 : Int32)) = False := eq_false (nI_nlt (b := 4) h ha)
theorem v4_gtT {a : Nat} (h : 4 < a) (ha : a < 2 ^ 31) : ((4 : Int32) < nI a) = True := eq_true (nI_lt (a := 4) h ha)
theorem v4_gtF {a : Nat} (h : a ≤ 4) : ((4 : Int32) < nI a) = False := eq_false (nI_nlt (a := 4) h (by decide))
theorem v4_leT {a : Nat} (h : a ≤ 4) : (nI a ≤ (4 : Int32)) = True := eq_true (nI_le (b := 4) h (by decide))
theorem v4_leF {a : Nat} (h : 4 < a) (ha : a < 2 ^ 31) : (nI a ≤ (4 : Int32)) = False := eq_false (nI_ge (a := 4) h ha)
theorem v4_geT {a : Nat} (h : 4 ≤ a) (ha : a < 2 ^ 31) : ((4 : Int32) ≤ nI a) = True := eq_true (nI_le (a := 4) h ha)
theorem v4_geF {a : Nat} (h : a < 4) : ((4 : Int32) ≤ nI a) = False := eq_false (nI_ge (b := 4) h (by decide))
theorem v4_eqT {a : Nat} (h : a = 4) : (nI a = (4 : Int32)) = True := eq_true (congrArg nI h)
theorem v4_eqF {a : Nat} (h : a ≠ 4) (ha : a < 2 ^ 31) : (nI a = (4 : Int32)) = False := eq_false (fun e => h ((nI_eq (b := 4) ha (by decide)).mp e))
theorem v4_add (a : Nat) : nI a + (4 : Int32) = nI (a + 4) := nI_add a 4
theorem v4_dda (a : Nat) : (4 : Int32) + nI a = nI (4 + a) := nI_add 4 a
theorem v4_mul (a : Nat) : nI a * (4 : Int32) = nI (a * 4) := pk_mul a 4
theorem v4_lum (a : Nat) : (4 : Int32) * nI a = nI (4 * a) := pk_mul 4 a
theorem v4_sub {a : Nat} (h : 4 ≤ a) : nI a - (4 : Int32) = nI (a - 4) := nI_sub h
theorem v4_bad {n : Nat} (h : 4 < n) (hn : n < 2 ^ 31) : am_bad (4 : Int32) n = False := eq_false (nI_in (c := 4) h hn)
theorem v4_cl : ((4 : Int32)).toNatClampNeg = 4 := by decide +kernel
theorem v5_ltT {a : Nat} (h : a < 5) : (nI a < (5 : Int32)) = True := eq_true (nI_lt h (by decide))
theorem v5_ltF {a : Nat} (h : 5 ≤ a) (ha : a < 2 ^ 31) : (nI a < (5 : Int32)) = False := eq_false (nI_nlt (b := 5) h ha)
theorem v5_gtT {a : Nat} (h : 5 < a) (ha : a < 2 ^ 31) : ((5 : Int32) < nI a) = True := eq_true (nI_lt (a := 5) h ha)
theorem v5_gtF {a : Nat} (h : a ≤ 5) : ((5 : Int32) < nI a) = False := eq_false (nI_nlt (a := 5) h (by decide))
theorem v5_leT {a : Nat} (h : a ≤ 5) : (nI a ≤ (5 : Int32)) = True := eq_true (nI_le (b := 5) h (by decide))
theorem v5_leF {a : Nat} (h : 5 < a) (ha : a < 2 ^ 31) : (nI a ≤ (5 : Int32)) = False := eq_false (nI_ge (a := 5) h ha)
theorem v5_geT {a : Nat} (h : 5 ≤ a) (ha : a < 2 ^ 31) : ((5 : Int32) ≤ nI a) = True := eq_true (nI_le (a := 5) h ha)
theorem v5_geF {a : Nat} (h : a < 5) : ((5 : Int32) ≤ nI a) = False := eq_false (nI_ge (b := 5) h (by decide))
theorem v5_eqT {a : Nat} (h : a = 5) : (nI a = (5 : Int32)) = True := eq_true (congrArg nI h)
theorem v5_eqF {a : Nat} (h : a ≠ 5) (ha : a < 2 ^ 31) : (nI a = (5 : Int32)) = False := eq_false (fun e => h ((nI_eq (b := 5) ha (by decide)).mp e))
theorem v5_add (a : Nat) : nI a + (5 : Int32) = nI (a + 5) := nI_add a 5
theorem v5_dda (a : Nat) : (5 : Int32) + nI a = nI (5 + a) := nI_add 5 a
theorem v5_mul (a : Nat) : nI a * (5 : Int32) = nI (a * 5) := pk_mul a 5
theorem v5_lum (a : Nat) : (5 : Int32) * nI a = nI (5 * a) := pk_mul 5 a
theorem v5_sub {a : Nat} (h : 5 ≤ a) : nI a - (5 : Int32) = nI (a - 5) := nI_sub h
theorem v5_bad {n : Nat} (h : 5 < n) (hn : n < 2 ^ 31) : am_bad (5 : Int32) n = False := eq_false (nI_in (c := 5) h hn)
theorem v5_cl : ((5 : Int32)).toNatClampNeg = 5 := by decide +kernel
theorem v6_ltT {a : Nat} (h : a < 6) : (nI a < (6 : Int32)) = True := eq_true (nI_lt h (by decide))
theorem v6_ltF {a : Nat} (h : 6 ≤ a) (ha : a < 2 ^ 31) : (nI a < (6 : Int32)) = False := eq_false (nI_nlt (b := 6) h ha)
theorem v6_gtT {a : Nat} (h : 6 < a) (ha : a < 2 ^ 31) : ((6 : Int32) < nI a) = True := eq_true (nI_lt (a := 6) h ha)
theorem v6_gtF {a : Nat} (h : a ≤ 6) : ((6 : Int32) < nI a) = False := eq_false (nI_nlt (a := 6) h (by decide))
theorem v6_leT {a : Nat} (h : a ≤ 6) : (nI a ≤ (6 : Int32)) = True := eq_true (nI_le (b := 6) h (by decide))
theorem v6_leF {a : Nat} (h : 6 < a) (ha : a < 2 ^ 31) : (nI a ≤ (6 : Int32)) = False := eq_false (nI_ge (a := 6) h ha)
theorem v6_geT {a : Nat} (h : 6 ≤ a) (ha : a < 2 ^ 31) : ((6 : Int32) ≤ nI a) = True := eq_true (nI_le (a := 6) h ha)
theorem v6_geF {a : Nat} (h : a < 6) : ((6 : Int32) ≤ nI a) = False := eq_false (nI_ge (b := 6) h (by decide))
theorem v6_eqT {a : Nat} (h : a = 6) : (nI a = (6 : Int32)) = True := eq_true (congrArg nI h)
theorem v6_eqF {a : Nat} (h : a ≠ 6) (ha : a < 2 ^ 31) : (nI a = (6 : Int32)) = False := eq_false (fun e => h ((nI_eq (b := 6) ha (by decide)).mp e))
theorem v6_add (a : Nat) : nI a + (6 : Int32) = nI (a + 6) := nI_add a 6
theorem v6_dda (a : Nat) : (6 : Int32) + nI a = nI (6 + a) := nI_add 6 a
theorem v6_mul (a : Nat) : nI a * (6 : Int32) = nI (a * 6) := pk_mul a 6
theorem v6_lum (a : Nat) : (6 : Int32) * nI a = nI (6 * a) := pk_mul 6 a
theorem v6_sub {a : Nat} (h : 6 ≤ a) : nI a - (6 : Int32) = nI (a - 6) := nI_sub h
theorem v6_bad {n : Nat} (h : 6 < n) (hn : n < 2 ^ 31) : am_bad (6 : Int32) n = False := eq_false (nI_in (c := 6) h hn)
theorem v6_cl : ((6 : Int32)).toNatClampNeg = 6 := by decide +kernel
theorem v7_ltT {a : Nat} (h : a < 7) : (nI a < (7 : Int32)) = True := eq_true (nI_lt h (by decide))
theorem v7_ltF {a : Nat} (h : 7 ≤ a) (ha : a < 2 ^ 31) : (nI a < (7 : Int32)) = False := eq_false (nI_nlt (b := 7) h ha)
theorem v7_gtT {a : Nat} (h : 7 < a) (ha : a < 2 ^ 31) : ((7 : Int32) < nI a) = True := eq_true (nI_lt (a := 7) h ha)
theorem v7_gtF {a : Nat} (h : a ≤ 7) : ((7 : Int32) < nI a) = False := eq_false (nI_nlt (a := 7) h (by decide))
theorem v7_leT {a : Nat} (h : a ≤ 7) : (nI a ≤ (7 : Int32)) = True := eq_true (nI_le (b := 7) h (by decide))
theorem v7_leF {a : Nat} (h : 7 < a) (ha : a < 2 ^ 31) : (nI a ≤ (7 : Int32)) = False := eq_false (nI_ge (a := 7) h ha)
theorem v7_geT {a : Nat} (h : 7 ≤ a) (ha : a < 2 ^ 31) : ((7 : Int32) ≤ nI a) = True := eq_true (nI_le (a := 7) h ha)
theorem v7_geF {a : Nat} (h : a < 7) : ((7 : Int32) ≤ nI a) = False := eq_false (nI_ge (b := 7) h (by decide))
theorem v7_eqT {a : Nat} (h : a = 7) : (nI a = (7 : Int32)) = True := eq_true (congrArg nI h)
theorem v7_eqF {a : Nat} (h : a ≠ 7) (ha : a < 2 ^ 31) : (nI a = (7 : Int32)) = False := eq_false (fun e => h ((nI_eq (b := 7) ha (by decide)).mp e))
theorem v7_add (a : Nat) : nI a + (7 : Int32) = nI (a + 7) := nI_add a 7
theorem v7_dda (a : Nat) : (7 : Int32) + nI a = nI (7 + a) := nI_add 7 a
theorem v7_mul (a : Nat) : nI a * (7 : Int32) = nI (a * 7) := pk_mul a 7
theorem v7_lum (a : Nat) : (7 : Int32) * nI a = nI (7 * a) := pk_mul 7 a
theorem v7_sub {a : Nat} (h : 7 ≤ a) : nI a - (7 : Int32) = nI (a - 7) := nI_sub h
theorem v7_bad {n : Nat} (h : 7 < n) (hn : n < 2 ^ 31) : am_bad (7 : Int32) n = False := eq_false (nI_in (c := 7) h hn)
theorem v7_cl : ((7 : Int32)).toNatClampNeg = 7 := by decide +kernel
theorem v8_ltT {a : Nat} (h : a < 8) : (nI a < (8 : Int32)) = True := eq_true (nI_lt h (by decide))
theorem v8_ltF {a : Nat} (h : 8 ≤ a) (ha : a < 2 ^ 31) : (nI a < (8 : Int32)) = False := eq_false (nI_nlt (b := 8) h ha)
theorem v8_gtT {a : Nat} (h : 8 < a) (ha : a < 2 ^ 31) : ((8 : Int32) < nI a) = True := eq_true (nI_lt (a := 8) h ha)
theorem v8_gtF {a : Nat} (h : a ≤ 8) : ((8 : Int32) < nI a) = False := eq_false (nI_nlt (a := 8) h (by decide))
theorem v8_leT {a : Nat} (h : a ≤ 8) : (nI a ≤ (8 : Int32)) = True := eq_true (nI_le (b := 8) h (by decide))
theorem v8_leF {a : Nat} (h : 8 < a) (ha : a < 2 ^ 31) : (nI a ≤ (8 : Int32)) = False := eq_false (nI_ge (a := 8) h ha)
theorem v8_geT {a : Nat} (h : 8 ≤ a) (ha : a < 2 ^ 31) : ((8 : Int32) ≤ nI a) = True := eq_true (nI_le (a := 8) h ha)
theorem v8_geF {a : Nat} (h : a < 8) : ((8 : Int32) ≤ nI a) = False := eq_false (nI_ge (b := 8) h (by decide))
theorem v8_eqT {a : Nat} (h : a = 8) : (nI a = (8 : Int32)) = True := eq_true (congrArg nI h)
theorem v8_eqF {a : Nat} (h : a ≠ 8) (ha : a < 2 ^ 31) : (nI a = (8 : Int32)) = False := eq_false (fun e => h ((nI_eq (b := 8) ha (by decide)).mp e))
theorem v8_add (a : Nat) : nI a + (8 : Int32) = nI (a + 8) := nI_add a 8
theorem v8_dda (a : Nat) : (8 : Int32) + nI a = nI (8 + a) := nI_add 8 a
theorem v8_mul (a : Nat) : nI a * (8 : Int32) = nI (a * 8) := pk_mul a 8
theorem v8_lum (a : Nat) : (8 : Int32) * nI a = nI (8 * a) := pk_mul 8 a
theorem v8_sub {a : Nat} (h : 8 ≤ a) : nI a - (8 : Int32) = nI (a - 8) := nI_sub h
theorem v8_bad {n : Nat} (h : 8 < n) (hn : n < 2 ^ 31) : am_bad (8 : Int32) n = False := eq_false (nI_in (c := 8) h hn)
theorem v8_cl : ((8 : Int32)).toNatClampNeg = 8 := by decide +kernel
theorem v9_ltT {a : Nat} (h : a < 9) : (nI a < (9 : Int32)) = True := eq_true (nI_lt h (by decide))
theorem v9_ltF {a : Nat} (h : 9 ≤ a) (ha : a < 2 ^ 31) : (nI a < (9 : Int32)) = False := eq_false (nI_nlt (b := 9) h ha)
theorem v9_gtT {a : Nat} (h : 9 < a) (ha : a < 2 ^ 31) : ((9 : Int32) < nI a) = True := eq_true (nI_lt (a := 9) h ha)
theorem v9_gtF {a : Nat} (h : a ≤ 9) : ((9 : Int32) < nI a) = False := eq_false (nI_nlt (a := 9) h (by decide))
theorem v9_leT {a : Nat} (h : a ≤ 9) : (nI a ≤ (9 : Int32)) = True := eq_true (nI_le (b := 9) h (by decide))
theorem v9_leF {a : Nat} (h : 9 < a) (ha : a < 2 ^ 31) : (nI a ≤ (9 : Int32)) = False := eq_false (nI_ge (a := 9) h ha)
theorem v9_geT {a : Nat} (h : 9 ≤ a) (ha : a < 2 ^ 31) : ((9 : Int32) ≤ nI a) = True := eq_true (nI_le (a := 9) h ha)
theorem v9_geF {a : Nat} (h : a < 9) : ((9 : Int32) ≤ nI a) = False := eq_false (nI_ge (b := 9) h (by decide))
theorem v9_eqT {a : Nat} (h : a = 9) : (nI a = (9 : Int32)) = True := eq_true (congrArg nI h)
theorem v9_eqF {a : Nat} (h : a ≠ 9) (ha : a < 2 ^ 31) : (nI a = (9 : Int32)) = False := eq_false (fun e => h ((nI_eq (b := 9) ha (by decide)).mp e))
theorem v9_add (a : Nat) : nI a + (9 : Int32) = nI (a + 9) := nI_add a 9
theorem v9_dda (a : Nat) : (9 : Int32) + nI a = nI (9 + a) := nI_add 9 a
theorem v9_mul (a : Nat) : nI a * (9 : Int32) = nI (a * 9) := pk_mul a 9
theorem v9_lum (a : Nat) : (9 : Int32) * nI a = nI (9 * a) := pk_mul 9 a
theorem v9_sub {a : Nat} (h : 9 ≤ a) : nI a - (9 : Int32) = nI (a - 9) := nI_sub h
theorem v9_bad {n : Nat} (h : 9 < n) (hn : n < 2 ^ 31) : am_bad (9 : Int32) n = False := eq_false (nI_in (c := 9) h hn)
theorem v9_cl : ((9 : Int32)).toNatClampNeg = 9 := by decide +kernel
theorem v10_ltT {a : Nat} (h : a < 10) : (nI a < (10 : Int32)) = True := eq_true (nI_lt h (by decide))
theorem v10_ltF {a : Nat} (h : 10 ≤ a) (ha : a < 2 ^ 31) : (nI a < (10 : Int32)) = False := eq_false (nI_nlt (b := 10) h ha)
theorem v10_gtT {a : Nat} (h : 10 < a) (ha : a < 2 ^ 31) : ((10 : Int32) < nI a) = True := eq_true (nI_lt (a := 10) h ha)
theorem v10_gtF {a : Nat} (h : a ≤ 10) : ((10 : Int32) < nI a) = False := eq_false (nI_nlt (a := 10) h (by decide))
theorem v10_leT {a : Nat} (h : a ≤ 10) : (nI a ≤ (10 : Int32)) = True := eq_true (nI_le (b := 10) h (by decide))
theorem v10_leF {a : Nat} (h : 10 < a) (ha : a < 2 ^ 31) : (nI a ≤ (10 : Int32)) = False := eq_false (nI_ge (a := 10) h ha)
theorem v10_geT {a : Nat} (h : 10 ≤ a) (ha : a < 2 ^ 31) : ((10 : Int32) ≤ nI a) = True := eq_true (nI_le (a := 10) h ha)
theorem v10_geF {a : Nat} (h : a < 10) : ((10 : Int32) ≤ nI a) = False := eq_false (nI_ge (b := 10) h (by decide))
theorem v10_eqT {a : Nat} (h : a = 10) : (nI a = (10 : Int32)) = True := eq_true (congrArg nI h)
theorem v10_eqF {a : Nat} (h : a ≠ 10) (ha : a < 2 ^ 31) : (nI a = (10 : Int32)) = False := eq_false (fun e => h ((nI_eq (b := 10) ha (by decide)).mp e))
theorem v10_add (a : Nat) : nI a + (10 : Int32) = nI (a + 10) := nI_add a 10
theorem v10_dda (a : Nat) : (10 : Int32) + nI a = nI (10 + a) := nI_add 10 a
theorem v10_mul (a : Nat) : nI a * (10 : Int32) = nI (a * 10) := pk_mul a 10
theorem v10_lum (a : Nat) : (10 : Int32) * nI a = nI (10 * a) := pk_mul 10 a
theorem v10_sub {a : Nat} (h : 10 ≤ a) : nI a - (10 : Int32) = nI (a - 10) := nI_sub h
theorem v10_bad {n : Nat} (h : 10 < n) (hn : n < 2 ^ 31) : am_bad (10 : Int32) n = False := eq_false (nI_in (c := 10) h hn)
theorem v10_cl : ((10 : Int32)).toNatClampNeg = 10 := by decide +kernel
theorem v11_ltT {a : Nat} (h : a < 11) : (nI a < (11 : Int32)) = True := eq_true (nI_lt h (by decide))
theorem v11_ltF {a : Nat} (h : 11 ≤ a) (ha : a < 2 ^ 31) : (nI a < (11 : Int32)) = False := eq_false (nI_nlt (b := 11) h ha)
theorem v11_gtT {a : Nat} (h : 11 < a) (ha : a < 2 ^ 31) : ((11 : Int32) < nI a) = True := eq_true (nI_lt (a := 11) h ha)
theorem v11_gtF {a : Nat} (h : a ≤ 11) : ((11 : Int32) < nI a) = False := eq_false (nI_nlt (a := 11) h (by decide))
theorem v11_leT {a : Nat} (h : a ≤ 11) : (nI a ≤ (11 : Int32)) = True := eq_true (nI_le (b := 11) h (by decide))
theorem v11_leF {a : Nat} (h : 11 < a) (ha : a < 2 ^ 31) : (nI a ≤ (11 : Int32)) = False := eq_false (nI_ge (a := 11) h ha)
theorem v11_geT {a : Nat} (h : 11 ≤ a) (ha : a < 2 ^ 31) : ((11 : Int32) ≤ nI a) = True := eq_true (nI_le (a := 11) h ha)
theorem v11_geF {a : Nat} (h : a < 11) : ((11 : Int32) ≤ nI a) = False := eq_false (nI_ge (b := 11) h (by decide))
theorem v11_eqT {a : Nat} (h : a = 11) : (nI a = (11 : Int32)) = True := eq_true (congrArg nI h)
theorem v11_eqF {a : Nat} (h : a ≠ 11) (ha : a < 2 ^ 31) : (nI a = (11 : Int32)) = False := eq_false (fun e => h ((nI_eq (b := 11) ha (by decide)).mp e))
theorem v11_add (a : Nat) : nI a + (11 : Int32) = nI (a + 11) := nI_add a 11
theorem v11_dda (a : Nat) : (11 : Int32) + nI a = nI (11 + a) := nI_add 11 a
theorem v11_mul (a : Nat) : nI a * (11 : Int32) = nI (a * 11) := pk_mul a 11
theorem v11_lum (a : Nat) : (11 : Int32) * nI a = nI (11 * a) := pk_mul 11 a
theorem v11_sub {a : Nat} (h : 11 ≤ a) : nI a - (11 : Int32) = nI (a - 11) := nI_sub h
theorem v11_bad {n : Nat} (h : 11 < n) (hn : n < 2 ^ 31) : am_bad (11 : Int32) n = False := eq_false (nI_in (c := 11) h hn)
theorem v11_cl : ((11 : Int32)).toNatClampNeg = 11 := by decide +kernel
theorem v12_ltT {a : Nat} (h : a < 12) : (nI a < (12 : Int32)) = True := eq_true (nI_lt h (by decide))
theorem v12_ltF {a : Nat} (h : 12 ≤ a) (ha : a < 2 ^ 31) : (nI a < (12 : Int32)) = False := eq_false (nI_nlt (b := 12) h ha)
theorem v12_gtT {a : Nat} (h : 12 < a) (ha : a < 2 ^ 31) : ((12 : Int32) < nI a) = True := eq_true (nI_lt (a := 12) h ha)
theorem v12_gtF {a : Nat} (h : a ≤ 12) : ((12 : Int32) < nI a) = False := eq_false (nI_nlt (a := 12) h (by decide))
theorem v12_leT {a : Nat} (h : a ≤ 12) : (nI a ≤ (12 : Int32)) = True := eq_true (nI_le (b := 12) h (by decide))
theorem v12_leF {a : Nat} (h : 12 < a) (ha : a < 2 ^ 31) : (nI a ≤ (12 : Int32)) = False := eq_false (nI_ge (a := 12) h ha)
theorem v12_geT {a : Nat} (h : 12 ≤ a) (ha : a < 2 ^ 31) : ((12 : Int32) ≤ nI a) = True := eq_true (nI_le (a := 12) h ha)
theorem v12_geF {a : Nat} (h : a < 12) : ((12 : Int32) ≤ nI a) = False := eq_false (nI_ge (b := 12) h (by decide))
theorem v12_eqT {a : Nat} (h : a = 12) : (nI a = (12 : Int32)) = True := eq_true (congrArg nI h)
theorem v12_eqF {a : Nat} (h : a ≠ 12) (ha : a < 2 ^ 31) : (nI a = (12 : Int32)) = False := eq_false (fun e => h ((nI_eq (b := 12) ha (by decide)).mp e))
theorem v12_add (a : Nat) : nI a + (12 : Int32) = nI (a + 12) := nI_add a 12
theorem v12_dda (a : Nat) : (12 : Int32) + nI a = nI (12 + a) := nI_add 12 a
theorem v12_mul (a : Nat) : nI a * (12 : Int32) = nI (a * 12) := pk_mul a 12
theorem v12_lum (a : Nat) : (12 : Int32) * nI a = nI (12 * a) := pk_mul 12 a
theorem v12_sub {a : Nat} (h : 12 ≤ a) : nI a - (12 : Int32) = nI (a - 12) := nI_sub h
theorem v12_bad {n : Nat} (h : 12 < n) (hn : n < 2 ^ 31) : am_bad (12 : Int32) n = False := eq_false (nI_in (c := 12) h hn)
theorem v12_cl : ((12 : Int32)).toNatClampNeg = 12 := by decide +kernel
theorem v13_ltT {a : Nat} (h : a < 13) : (nI a < (13 : Int32)) = True := eq_true (nI_lt h (by decide))
theorem v13_ltF {a : Nat} (h : 13 ≤ a) (ha : a < 2 ^ 31) : (nI a < (13 : Int32)) = False := eq_false (nI_nlt (b := 13) h ha)
theorem v13_gtT {a : Nat} (h : 13 < a) (ha : a < 2 ^ 31) : ((13 : Int32) < nI a) = True := eq_true (nI_lt (a := 13) h ha)
theorem v13_gtF {a : Nat} (h : a ≤ 13) : ((13 : Int32) < nI a) = False := eq_false (nI_nlt (a := 13) h (by decide))
theorem v13_leT {a : Nat} (h : a ≤ 13) : (nI a ≤ (13 : Int32)) = True := eq_true (nI_le (b := 13) h (by decide))
theorem v13_leF {a : Nat} (h : 13 < a) (ha : a < 2 ^ 31) : (nI a ≤ (13 : Int32)) = False := eq_false (nI_ge (a := 13) h ha)
theorem v13_geT {a : Nat} (h : 13 ≤ a) (ha : a < 2 ^ 31) : ((13 : Int32) ≤ nI a) = True := eq_true (nI_le (a := 13) h ha)
theorem v13_geF {a : Nat} (h : a < 13) : ((13 : Int32) ≤ nI a) = False := eq_false (nI_ge (b := 13) h (by decide))
theorem v13_eqT {a : Nat} (h : a = 13) : (nI a = (13 : Int32)) = True := eq_true (congrArg nI h)
theorem v13_eqF {a : Nat} (h : a ≠ 13) (ha : a < 2 ^ 31) : (nI a = (13 : Int32)) = False := eq_false (fun e => h ((nI_eq (b := 13) ha (by decide)).mp e))
theorem v13_add (a : Nat) : nI a + (13 : Int32) = nI (a + 13) := nI_add a 13
theorem v13_dda (a : Nat) : (13 : Int32) + nI a = nI (13 + a) := nI_add 13 a
theorem v13_mul (a : Nat) : nI a * (13 : Int32) = nI (a * 13) := pk_mul a 13
theorem v13_lum (a : Nat) : (13 : Int32) * nI a = nI (13 * a) := pk_mul 13 a
theorem v13_sub {a : Nat} (h : 13 ≤ a) : nI a - (13 : Int32) = nI (a - 13) := nI_sub h
theorem v13_bad {n : Nat} (h : 13 < n) (hn : n < 2 ^ 31) : am_bad (13 : Int32) n = False := eq_false (nI_in (c := 13) h hn)
theorem v13_cl : ((13 : Int32)).toNatClampNeg = 13 := by decide +kernel
theorem v14_ltT {a : Nat} (h : a < 14) : (nI a < (14 : Int32)) = True := eq_true (nI_lt h (by decide))
theorem v14_ltF {a : Nat} (h : 14 ≤ a) (ha : a < 2 ^ 31) : (nI a < (14 : Int32)) = False := eq_false (nI_nlt (b := 14) h ha)
theorem v14_gtT {a : Nat} (h : 14 < a) (ha : a < 2 ^ 31) : ((14 : Int32) < nI a) = True := eq_true (nI_lt (a := 14) h ha)
theorem v14_gtF {a : Nat} (h : a ≤ 14) : ((14 : Int32) < nI a) = False := eq_false (nI_nlt (a := 14) h (by decide))
theorem v14_leT {a : Nat} (h : a ≤ 14) : (nI a ≤ (14 : Int32)) = True := eq_true (nI_le (b := 14) h (by decide))
theorem v14_leF {a : Nat} (h : 14 < a) (ha : a < 2 ^ 31) : (nI a ≤ (14 : Int32)) = False := eq_false (nI_ge (a := 14) h ha)
theorem v14_geT {a : Nat} (h : 14 ≤ a) (ha : a < 2 ^ 31) : ((14 : Int32) ≤ nI a) = True := eq_true (nI_le (a := 14) h ha)
theorem v14_geF {a : Nat} (h : a < 14) : ((14 : Int32) ≤ nI a) = False := eq_false (nI_ge (b := 14) h (by decide))
theorem v14_eqT {a : Nat} (h : a = 14) : (nI a = (14 : Int32)) = True := eq_true (congrArg nI h)
theorem v14_eqF {a : Nat} (h : a ≠ 14) (ha : a < 2 ^ 31) : (nI a = (14 : Int32)) = False := eq_false (fun e => h ((nI_eq (b := 14) ha (by decide)).mp e))
theorem v14_add (a : Nat) : nI a + (14 : Int32) = nI (a + 14) := nI_add a 14
theorem v14_dda (a : Nat) : (14 : Int32) + nI a = nI (14 + a) := nI_add 14 a
theorem v14_mul (a : Nat) : nI a * (14 : Int32) = nI (a * 14) := pk_mul a 14
theorem v14_lum (a : Nat) : (14 : Int32) * nI a = nI (14 * a) := pk_mul 14 a
theorem v14_sub {a : Nat} (h : 14 ≤ a) : nI a - (14 : Int32) = nI (a - 14) := nI_sub h
theorem v14_bad {n : Nat} (h : 14 < n) (hn : n < 2 ^ 31) : am_bad (14 : Int32) n = False := eq_false (nI_in (c := 14) h hn)
theorem v14_cl : ((14 : Int32)).toNatClampNeg = 14 := by decide +kernel
theorem v15_ltT {a : Nat} (h : a < 15) : (nI a < (15 : Int32)) = True := eq_true (nI_lt h (by decide))
theorem v15_ltF {a : Nat} (h : 15 ≤ a) (ha : a < 2 ^ 31) : (nI a < (15 : Int32)) = False := eq_false (nI_nlt (b := 15) h ha)
theorem v15_gtT {a : Nat} (h : 15 < a) (ha : a < 2 ^ 31) : ((15 : Int32) < nI a) = True := eq_true (nI_lt (a := 15) h ha)
theorem v15_gtF {a : Nat} (h : a ≤ 15) : ((15 : Int32) < nI a) = False := eq_false (nI_nlt (a := 15) h (by decide))
theorem v15_leT {a : Nat} (h : a ≤ 15) : (nI a ≤ (15 : Int32)) = True := eq_true (nI_le (b := 15) h (by decide))
theorem v15_leF {a : Nat} (h : 15 < a) (ha : a < 2 ^ 31) : (nI a ≤ (15 : Int32)) = False := eq_false (nI_ge (a := 15) h ha)
theorem v15_geT {a : Nat} (h : 15 ≤ a) (ha : a < 2 ^ 31) : ((15 : Int32) ≤ nI a) = True := eq_true (nI_le (a := 15) h ha)
theorem v15_geF {a : Nat} (h : a < 15) : ((15 : Int32) ≤ nI a) = False := eq_false (nI_ge (b := 15) h (by decide))
theorem v15_eqT {a : Nat} (h : a = 15) : (nI a = (15 : Int32)) = True := eq_true (congrArg nI h)
theorem v15_eqF {a : Nat} (h : a ≠ 15) (ha : a < 2 ^ 31) : (nI a = (15 : Int32)) = False := eq_false (fun e => h ((nI_eq (b := 15) ha (by decide)).mp e))
theorem v15_add (a : Nat) : nI a + (15 : Int32) = nI (a + 15) := nI_add a 15
theorem v15_dda (a : Nat) : (15 : Int32) + nI a = nI (15 + a) := nI_add 15 a
theorem v15_mul (a : Nat) : nI a * (15 : Int32) = nI (a * 15) := pk_mul a 15
theorem v15_lum (a : Nat) : (15 : Int32) * nI a = nI (15 * a) := pk_mul 15 a
theorem v15_sub {a : Nat} (h : 15 ≤ a) : nI a - (15 : Int32) = nI (a - 15) := nI_sub h
theorem v15_bad {n : Nat} (h : 15 < n) (hn : n < 2 ^ 31) : am_bad (15 : Int32) n = False := eq_false (nI_in (c := 15) h hn)
theorem v15_cl : ((15 : Int32)).toNatClampNeg = 15 := by decide +kernel
theorem v16_ltT {a : Nat} (h : a < 16) : (nI a < (16 : Int32)) = True := eq_true (nI_lt h (by decide))
theorem v16_ltF {a : Nat} (h : 16 ≤ a) (ha : a < 2 ^ 31) : (nI a < (16 : Int32)) = False := eq_false (nI_nlt (b := 16) h ha)
theorem v16_gtT {a : Nat} (h : 16 < a) (ha : a < 2 ^ 31) : ((16 : Int32) < nI a) = True := eq_true (nI_lt (a := 16) h ha)
theorem v16_gtF {a : Nat} (h : a ≤ 16) : ((16 : Int32) < nI a) = False := eq_false (nI_nlt (a := 16) h (by decide))
theorem v16_leT {a : Nat} (h : a ≤ 16) : (nI a ≤ (16 : Int32)) = True := eq_true (nI_le (b := 16) h (by decide))
theorem v16_leF {a : Nat} (h : 16 < a) (ha : a < 2 ^ 31) : (nI a ≤ (16 : Int32)) = False := eq_false (nI_ge (a := 16) h ha)
theorem v16_geT {a : Nat} (h : 16 ≤ a) (ha : a < 2 ^ 31) : ((16 : Int32) ≤ nI a) = True := eq_true (nI_le (a := 16) h ha)
theorem v16_geF {a : Nat} (h : a < 16) : ((16 : Int32) ≤ nI a) = False := eq_false (nI_ge (b := 16) h (by decide))
theorem v16_eqT {a : Nat} (h : a = 16) : (nI a = (16 : Int32)) = True := eq_true (congrArg nI h)
theorem v16_eqF {a : Nat} (h : a ≠ 16) (ha : a < 2 ^ 31) : (nI a = (16 : Int32)) = False := eq_false (fun e => h ((nI_eq (b := 16) ha (by decide)).mp e))
theorem v16_add (a : Nat) : nI a + (16 : Int32) = nI (a + 16) := nI_add a 16
theorem v16_dda (a : Nat) : (16 : Int32) + nI a = nI (16 + a) := nI_add 16 a
theorem v16_mul (a : Nat) : nI a * (16 : Int32) = nI (a * 16) := pk_mul a 16
theorem v16_lum (a : Nat) : (16 : Int32) * nI a = nI (16 * a) := pk_mul 16 a
theorem v16_sub {a : Nat} (h : 16 ≤ a) : nI a - (16 : Int32) = nI (a - 16) := nI_sub h
theorem v16_bad {n : Nat} (h : 16 < n) (hn : n < 2 ^ 31) : am_bad (16 : Int32) n = False := eq_false (nI_in (c := 16) h hn)
theorem v16_cl : ((16 : Int32)).toNatClampNeg = 16 := by decide +kernel
theorem v17_ltT {a : Nat} (h : a < 17) : (nI a < (17 : Int32)) = True := eq_true (nI_lt h (by decide))
theorem v17_ltF {a : Nat} (h : 17 ≤ a) (ha : a < 2 ^ 31) : (nI a < (17 : Int32)) = False := eq_false (nI_nlt (b := 17) h ha)
theorem v17_gtT {a : Nat} (h : 17 < a) (ha : a < 2 ^ 31) : ((17 : Int32) < nI a) = True := eq_true (nI_lt (a := 17) h ha)
theorem v17_gtF {a : Nat} (h : a ≤ 17) : ((17 : Int32) < nI a) = False := eq_false (nI_nlt (a := 17) h (by decide))
theorem v17_leT {a : Nat} (h : a ≤ 17) : (nI a ≤ (17 : Int32)) = True := eq_true (nI_le (b := 17) h (by decide))
theorem v17_leF {a : Nat} (h : 17 < a) (ha : a < 2 ^ 31) : (nI a ≤ (17 : Int32)) = False := eq_false (nI_ge (a := 17) h ha)
theorem v17_geT {a : Nat} (h : 17 ≤ a) (ha : a < 2 ^ 31) : ((17 : Int32) ≤ nI a) = True := eq_true (nI_le (a := 17) h ha)
theorem v17_geF {a : Nat} (h : a < 17) : ((17 : Int32) ≤ nI a) = False := eq_false (nI_ge (b := 17) h (by decide))
theorem v17_eqT {a : Nat} (h : a = 17) : (nI a = (17 : Int32)) = True := eq_true (congrArg nI h)
theorem v17_eqF {a : Nat} (h : a ≠ 17) (ha : a < 2 ^ 31) : (nI a = (17 : Int32)) = False := eq_false (fun e => h ((nI_eq (b := 17) ha (by decide)).mp e))
theorem v17_add (a : Nat) : nI a + (17 : Int32) = nI (a + 17) := nI_add a 17
theorem v17_dda (a : Nat) : (17 : Int32) + nI a = nI (17 + a) := nI_add 17 a
theorem v17_mul (a : Nat) : nI a * (17 : Int32) = nI (a * 17) := pk_mul a 17
theorem v17_lum (a : Nat) : (17 : Int32) * nI a = nI (17 * a) := pk_mul 17 a
theorem v17_sub {a : Nat} (h : 17 ≤ a) : nI a - (17 : Int32) = nI (a - 17) := nI_sub h
theorem v17_bad {n : Nat} (h : 17 < n) (hn : n < 2 ^ 31) : am_bad (17 : Int32) n = False := eq_false (nI_in (c := 17) h hn)
theorem v17_cl : ((17 : Int32)).toNatClampNeg = 17 := by decide +kernel
theorem v18_ltT {a : Nat} (h : a < 18) : (nI a < (18 : Int32)) = True := eq_true (nI_lt h (by decide))
theorem v18_ltF {a : Nat} (h : 18 ≤ a) (ha : a < 2 ^ 31) : (nI a < (18 : Int32)) = False := eq_false (nI_nlt (b := 18) h ha)
theorem v18_gtT {a : Nat} (h : 18 < a) (ha : a < 2 ^ 31) : ((18 : Int32) < nI a) = True := eq_true (nI_lt (a := 18) h ha)
theorem v18_gtF {a : Nat} (h : a ≤ 18) : ((18 : Int32) < nI a) = False := eq_false (nI_nlt (a := 18) h (by decide))
theorem v18_leT {a : Nat} (h : a ≤ 18) : (nI a ≤ (18 : Int32)) = True := eq_true (nI_le (b := 18) h (by decide))
theorem v18_leF {a : Nat} (h : 18 < a) (ha : a < 2 ^ 31) : (nI a ≤ (18 : Int32)) = False := eq_false (nI_ge (a := 18) h ha)
theorem v18_geT {a : Nat} (h : 18 ≤ a) (ha : a < 2 ^ 31) : ((18 : Int32) ≤ nI a) = True := eq_true (nI_le (a := 18) h ha)
theorem v18_geF {a : Nat} (h : a < 18) : ((18 : Int32) ≤ nI a) = False := eq_false (nI_ge (b := 18) h (by decide))
theorem v18_eqT {a : Nat} (h : a = 18) : (nI a = (18 : Int32)) = True := eq_true (congrArg nI h)
theorem v18_eqF {a : Nat} (h : a ≠ 18) (ha : a < 2 ^ 31) : (nI a = (18 : Int32)) = False := eq_false (fun e => h ((nI_eq (b := 18) ha (by decide)).mp e))
theorem v18_add (a : Nat) : nI a + (18 : Int32) = nI (a + 18) := nI_add a 18
theorem v18_dda (a : Nat) : (18 : Int32) + nI a = nI (18 + a) := nI_add 18 a
theorem v18_mul (a : Nat) : nI a * (18 : Int32) = nI (a * 18) := pk_mul a 18
theorem v18_lum (a : Nat) : (18 : Int32) * nI a = nI (18 * a) := pk_mul 18 a
theorem v18_sub {a : Nat} (h : 18 ≤ a) : nI a - (18 : Int32) = nI (a - 18) := nI_sub h
theorem v18_bad {n : Nat} (h : 18 < n) (hn : n < 2 ^ 31) : am_bad (18 : Int32) n = False := eq_false (nI_in (c := 18) h hn)
theorem v18_cl : ((18 : Int32)).toNatClampNeg = 18 := by decide +kernel
theorem v19_ltT {a : Nat} (h : a < 19) : (nI a < (19 : Int32)) = True := eq_true (nI_lt h (by decide))
theorem v19_ltF {a : Nat} (h : 19 ≤ a) (ha : a < 2 ^ 31) : (nI a < (19 : Int32)) = False := eq_false (nI_nlt (b := 19) h ha)
theorem v19_gtT {a : Nat} (h : 19 < a) (ha : a < 2 ^ 31) : ((19 : Int32) < nI a) = True := eq_true (nI_lt (a := 19) h ha)
theorem v19_gtF {a : Nat} (h : a ≤ 19) : ((19 : Int32) < nI a) = False := eq_false (nI_nlt (a := 19) h (by decide))
theorem v19_leT {a : Nat} (h : a ≤ 19) : (nI a ≤ (19 : Int32)) = True := eq_true (nI_le (b := 19) h (by decide))
theorem v19_leF {a : Nat} (h : 19 < a) (ha : a < 2 ^ 31) : (nI a ≤ (19 : Int32)) = False := eq_false (nI_ge (a := 19) h ha)
theorem v19_geT {a : Nat} (h : 19 ≤ a) (ha : a < 2 ^ 31) : ((19 : Int32) ≤ nI a) = True := eq_true (nI_le (a := 19) h ha)
theorem v19_geF {a : Nat} (h : a < 19) : ((19 : Int32) ≤ nI a) = False := eq_false (nI_ge (b := 19) h (by decide))
theorem v19_eqT {a : Nat} (h : a = 19) : (nI a = (19 : Int32)) = True := eq_true (congrArg nI h)
theorem v19_eqF {a : Nat} (h : a ≠ 19) (ha : a < 2 ^ 31) : (nI a = (19 : Int32)) = False := eq_false (fun e => h ((nI_eq (b := 19) ha (by decide)).mp e))
theorem v19_add (a : Nat) : nI a + (19 : Int32) = nI (a + 19) := nI_add a 19
theorem v19_dda (a : Nat) : (19 : Int32) + nI a = nI (19 + a) := nI_add 19 a
theorem v19_mul (a : Nat) : nI a * (19 : Int32) = nI (a * 19) := pk_mul a 19
theorem v19_lum (a : Nat) : (19 : Int32) * nI a = nI (19 * a) := pk_mul 19 a
theorem v19_sub {a : Nat} (h : 19 ≤ a) : nI a - (19 : Int32) = nI (a - 19) := nI_sub h
theorem v19_bad {n : Nat} (h : 19 < n) (hn : n < 2 ^ 31) : am_bad (19 : Int32) n = False := eq_false (nI_in (c := 19) h hn)
theorem v19_cl : ((19 : Int32)).toNatClampNeg = 19 := by decide +kernel
theorem v20_ltT {a : Nat} (h : a < 20) : (nI a < (20 : Int32)) = True := eq_true (nI_lt h (by decide))
theorem v20_ltF {a : Nat} (h : 20 ≤ a) (ha : a < 2 ^ 31) : (nI a < (20 : Int32)) = False := eq_false (nI_nlt (b := 20) h ha)
theorem v20_gtT {a : Nat} (h : 20 < a) (ha : a < 2 ^ 31) : ((20 : Int32) < nI a) = True := eq_true (nI_lt (a := 20) h ha)
theorem v20_gtF {a : Nat} (h : a ≤ 20) : ((20 : Int32) < nI a) = False := eq_false (nI_nlt (a := 20) h (by decide))
theorem v20_leT {a : Nat} (h : a ≤ 20) : (nI a ≤ (20 : Int32)) = True := eq_true (nI_le (b := 20) h (by decide))
theorem v20_leF {a : Nat} (h : 20 < a) (ha : a < 2 ^ 31) : (nI a ≤ (20 : Int32)) = False := eq_false (nI_ge (a := 20) h ha)
theorem v20_geT {a : Nat} (h : 20 ≤ a) (ha : a < 2 ^ 31) : ((20 : Int32) ≤ nI a) = True := eq_true (nI_le (a := 20) h ha)
theorem v20_geF {a : Nat} (h : a < 20) : ((20 : Int32) ≤ nI a) = False := eq_false (nI_ge (b := 20) h (by decide))
theorem v20_eqT {a : Nat} (h : a = 20) : (nI a = (20 : Int32)) = True := eq_true (congrArg nI h)
theorem v20_eqF {a : Nat} (h : a ≠ 20) (ha : a < 2 ^ 31) : (nI a = (20 : Int32)) = False := eq_false (fun e => h ((nI_eq (b := 20) ha (by decide)).mp e))
theorem v20_add (a : Nat) : nI a + (20 : Int32) = nI (a + 20) := nI_add a 20
theorem v20_dda (a : Nat) : (20 : Int32) + nI a = nI (20 + a) := nI_add 20 a
theorem v20_mul (a : Nat) : nI a * (20 : Int32) = nI (a * 20) := pk_mul a 20
theorem v20_lum (a : Nat) : (20 : Int32) * nI a = nI (20 * a) := pk_mul 20 a
theorem v20_sub {a : Nat} (h : 20 ≤ a) : nI a - (20 : Int32) = nI (a - 20) := nI_sub h
theorem v20_bad {n : Nat} (h : 20 < n) (hn : n < 2 ^ 31) : am_bad (20 : Int32) n = False := eq_false (nI_in (c := 20) h hn)
theorem v20_cl : ((20 : Int32)).toNatClampNeg = 20 := by decide +kernel
theorem v21_ltT {a : Nat} (h : a < 21) : (nI a < (21 : Int32)) = True := eq_true (nI_lt h (by decide))
theorem v21_ltF {a : Nat} (h : 21 ≤ a) (ha : a < 2 ^ 31) : (nI a < (21 : Int32)) = False := eq_false (nI_nlt (b := 21) h ha)
theorem v21_gtT {a : Nat} (h : 21 < a) (ha : a < 2 ^ 31) : ((21 : Int32) < nI a) = True := eq_true (nI_lt (a := 21) h ha)
theorem v21_gtF {a : Nat} (h : a ≤ 21) : ((21 : Int32) < nI a) = False := eq_false (nI_nlt (a := 21) h (by decide))
theorem v21_leT {a : Nat} (h : a ≤ 21) : (nI a ≤ (21 : Int32)) = True := eq_true (nI_le (b := 21) h (by decide))
theorem v21_leF {a : Nat} (h : 21 < a) (ha : a < 2 ^ 31) : (nI a ≤ (21 : Int32)) = False := eq_false (nI_ge (a := 21) h ha)
theorem v21_geT {a : Nat} (h : 21 ≤ a) (ha : a < 2 ^ 31) : ((21 : Int32) ≤ nI a) = True := eq_true (nI_le (a := 21) h ha)
theorem v21_geF {a : Nat} (h : a < 21) : ((21 : Int32) ≤ nI a) = False := eq_false (nI_ge (b := 21) h (by decide))
theorem v21_eqT {a : Nat} (h : a = 21) : (nI a = (21 : Int32)) = True := eq_true (congrArg nI h)
theorem v21_eqF {a : Nat} (h : a ≠ 21) (ha : a < 2 ^ 31) : (nI a = (21 : Int32)) = False := eq_false (fun e => h ((nI_eq (b := 21) ha (by decide)).mp e))
theorem v21_add (a : Nat) : nI a + (21 : Int32) = nI (a + 21) := nI_add a 21
theorem v21_dda (a : Nat) : (21 : Int32) + nI a = nI (21 + a) := nI_add 21 a
theorem v21_mul (a : Nat) : nI a * (21 : Int32) = nI (a * 21) := pk_mul a 21
theorem v21_lum (a : Nat) : (21 : Int32) * nI a = nI (21 * a) := pk_mul 21 a
theorem v21_sub {a : Nat} (h : 21 ≤ a) : nI a - (21 : Int32) = nI (a - 21) := nI_sub h
theorem v21_bad {n : Nat} (h : 21 < n) (hn : n < 2 ^ 31) : am_bad (21 : Int32) n = False := eq_false (nI_in (c := 21) h hn)
theorem v21_cl : ((21 : Int32)).toNatClampNeg = 21 := by decide +kernel
theorem v22_ltT {a : Nat} (h : a < 22) : (nI a < (22 : Int32)) = True := eq_true (nI_lt h (by decide))
theorem v22_ltF {a : Nat} (h : 22 ≤ a) (ha : a < 2 ^ 31) : (nI a < (22 : Int32)) = False := eq_false (nI_nlt (b := 22) h ha)
theorem v22_gtT {a : Nat} (h : 22 < a) (ha : a < 2 ^ 31) : ((22 : Int32) < nI a) = True := eq_true (nI_lt (a := 22) h ha)
theorem v22_gtF {a : Nat} (h : a ≤ 22) : ((22 : Int32) < nI a) = False := eq_false (nI_nlt (a := 22) h (by decide))
theorem v22_leT {a : Nat} (h : a ≤ 22) : (nI a ≤ (22 : Int32)) = True := eq_true (nI_le (b := 22) h (by decide))
theorem v22_leF {a : Nat} (h : 22 < a) (ha : a < 2 ^ 31) : (nI a ≤ (22 : Int32)) = False := eq_false (nI_ge (a := 22) h ha)
theorem v22_geT {a : Nat} (h : 22 ≤ a) (ha : a < 2 ^ 31) : ((22 : Int32) ≤ nI a) = True := eq_true (nI_le (a := 22) h ha)
theorem v22_geF {a : Nat} (h : a < 22) : ((22 : Int32) ≤ nI a) = False := eq_false (nI_ge (b := 22) h (by decide))
theorem v22_eqT {a : Nat} (h : a = 22) : (nI a = (22 : Int32)) = True := eq_true (congrArg nI h)
theorem v22_eqF {a : Nat} (h : a ≠ 22) (ha : a < 2 ^ 31) : (nI a = (22 : Int32)) = False := eq_false (fun e => h ((nI_eq (b := 22) ha (by decide)).mp e))
theorem v22_add (a : Nat) : nI a + (22 : Int32) = nI (a + 22) := nI_add a 22
theorem v22_dda (a : Nat) : (22 : Int32) + nI a = nI (22 + a) := nI_add 22 a
theorem v22_mul (a : Nat) : nI a * (22 : Int32) = nI (a * 22) := pk_mul a 22
theorem v22_lum (a : Nat) : (22 : Int32) * nI a = nI (22 * a) := pk_mul 22 a
theorem v22_sub {a : Nat} (h : 22 ≤ a) : nI a - (22 : Int32) = nI (a - 22) := nI_sub h
theorem v22_bad {n : Nat} (h : 22 < n) (hn : n < 2 ^ 31) : am_bad (22 : Int32) n = False := eq_false (nI_in (c := 22) h hn)
theorem v22_cl : ((22 : Int32)).toNatClampNeg = 22 := by decide +kernel
theorem v23_ltT {a : Nat} (h : a < 23) : (nI a < (23 : Int32)) = True := eq_true (nI_lt h (by decide))
theorem v23_ltF {a : Nat} (h : 23 ≤ a) (ha : a < 2 ^ 31) : (nI a < (23 : Int32)) = False := eq_false (nI_nlt (b := 23) h ha)
theorem v23_gtT {a : Nat} (h : 23 < a) (ha : a < 2 ^ 31) : ((23 : Int32) < nI a) = True := eq_true (nI_lt (a := 23) h ha)
theorem v23_gtF {a : Nat} (h : a ≤ 23) : ((23 : Int32) < nI a) = False := eq_false (nI_nlt (a := 23) h (by decide))
theorem v23_leT {a : Nat} (h : a ≤ 23) : (nI a ≤ (23 : Int32)) = True := eq_true (nI_le (b := 23) h (by decide))
theorem v23_leF {a : Nat} (h : 23 < a) (ha : a < 2 ^ 31) : (nI a ≤ (23 : Int32)) = False := eq_false (nI_ge (a := 23) h ha)
theorem v23_geT {a : Nat} (h : 23 ≤ a) (ha : a < 2 ^ 31) : ((23 : Int32) ≤ nI a) = True := eq_true (nI_le (a := 23) h ha)
theorem v23_geF {a : Nat} (h : a < 23) : ((23 : Int32) ≤ nI a) = False := eq_false (nI_ge (b := 23) h (by decide))
theorem v23_eqT {a : Nat} (h : a = 23) : (nI a = (23 : Int32)) = True := eq_true (congrArg nI h)
theorem v23_eqF {a : Nat} (h : a ≠ 23) (ha : a < 2 ^ 31) : (nI a = (23 : Int32)) = False := eq_false (fun e => h ((nI_eq (b := 23) ha (by decide)).mp e))
theorem v23_add (a : Nat) : nI a + (23 : Int32) = nI (a + 23) := nI_add a 23
theorem v23_dda (a : Nat) : (23 : Int32) + nI a = nI (23 + a) := nI_add 23 a
theorem v23_mul (a : Nat) : nI a * (23 : Int32) = nI (a * 23) := pk_mul a 23
theorem v23_lum (a : Nat) : (23 : Int32) * nI a = nI (23 * a) := pk_mul 23 a
theorem v23_sub {a : Nat} (h : 23 ≤ a) : nI a - (23 : Int32) = nI (a - 23) := nI_sub h
theorem v23_bad {n : Nat} (h : 23 < n) (hn : n < 2 ^ 31) : am_bad (23 : Int32) n = False := eq_false (nI_in (c := 23) h hn)
theorem v23_cl : ((23 : Int32)).toNatClampNeg = 23 := by decide +kernel
theorem v24_ltT {a : Nat} (h : a < 24) : (nI a < (24 : Int32)) = True := eq_true (nI_lt h (by decide))
theorem v24_ltF {a : Nat} (h : 24 ≤ a) (ha : a < 2 ^ 31) : (nI a < (24 : Int32)) = False := eq_false (nI_nlt (b := 24) h ha)
theorem v24_gtT {a : Nat} (h : 24 < a) (ha : a < 2 ^ 31) : ((24 : Int32) < nI a) = True := eq_true (nI_lt (a := 24) h ha)
theorem v24_gtF {a : Nat} (h : a ≤ 24) : ((24 : Int32) < nI a) = False := eq_false (nI_nlt (a := 24) h (by decide))
theorem v24_leT {a : Nat} (h : a ≤ 24) : (nI a ≤ (24 : Int32)) = True := eq_true (nI_le (b := 24) h (by decide))
theorem v24_leF {a : Nat} (h : 24 < a) (ha : a < 2 ^ 31) : (nI a ≤ (24 : Int32)) = False := eq_false (nI_ge (a := 24) h ha)
theorem v24_geT {a : Nat} (h : 24 ≤ a) (ha : a < 2 ^ 31) : ((24 : Int32) ≤ nI a) = True := eq_true (nI_le (a := 24) h ha)
theorem v24_geF {a : Nat} (h : a < 24) : ((24 : Int32) ≤ nI a) = False := eq_false (nI_ge (b := 24) h (by decide))
theorem v24_eqT {a : Nat} (h : a = 24) : (nI a = (24 : Int32)) = True := eq_true (congrArg nI h)
theorem v24_eqF {a : Nat} (h : a ≠ 24) (ha : a < 2 ^ 31) : (nI a = (24 : Int32)) = False := eq_false (fun e => h ((nI_eq (b := 24) ha (by decide)).mp e))
theorem v24_add (a : Nat) : nI a + (24 : Int32) = nI (a + 24) := nI_add a 24
theorem v24_dda (a : Nat) : (24 : Int32) + nI a = nI (24 + a) := nI_add 24 a
theorem v24_mul (a : Nat) : nI a * (24 : Int32) = nI (a * 24) := pk_mul a 24
theorem v24_lum (a : Nat) : (24 : Int32) * nI a = nI (24 * a) := pk_mul 24 a
theorem v24_sub {a : Nat} (h : 24 ≤ a) : nI a - (24 : Int32) = nI (a - 24) := nI_sub h
theorem v24_bad {n : Nat} (h : 24 < n) (hn : n < 2 ^ 31) : am_bad (24 : Int32) n = False := eq_false (nI_in (c := 24) h hn)
theorem v24_cl : ((24 : Int32)).toNatClampNeg = 24 := by decide +kernel
theorem v32_ltT {a : Nat} (h : a < 32) : (nI a < (32 : Int32)) = True := eq_true (nI_lt h (by decide))
theorem v32_ltF {a : Nat} (h : 32 ≤ a) (ha : a < 2 ^ 31) : (nI a < (32 : Int32)) = False := eq_false (nI_nlt (b := 32) h ha)
theorem v32_gtT {a : Nat} (h : 32 < a) (ha : a < 2 ^ 31) : ((32 : Int32) < nI a) = True := eq_true (nI_lt (a := 32) h ha)
theorem v32_gtF {a : Nat} (h : a ≤ 32) : ((32 : Int32) < nI a) = False := eq_false (nI_nlt (a := 32) h (by decide))
theorem v32_leT {a : Nat} (h : a ≤ 32) : (nI a ≤ (32 : Int32)) = True := eq_true (nI_le (b := 32) h (by decide))
theorem v32_leF {a : Nat} (h : 32 < a) (ha : a < 2 ^ 31) : (nI a ≤ (32 : Int32)) = False := eq_false (nI_ge (a := 32) h ha)
theorem v32_geT {a : Nat} (h : 32 ≤ a) (ha : a < 2 ^ 31) : ((32 : Int32) ≤ nI a) = True := eq_true (nI_le (a := 32) h ha)
theorem v32_geF {a : Nat} (h : a < 32) : ((32 : Int32) ≤ nI a) = False := eq_false (nI_ge (b := 32) h (by decide))
theorem v32_eqT {a : Nat} (h : a = 32) : (nI a = (32 : Int32)) = True := eq_true (congrArg nI h)
theorem v32_eqF {a : Nat} (h : a ≠ 32) (ha : a < 2 ^ 31) : (nI a = (32 : Int32)) = False := eq_false (fun e => h ((nI_eq (b := 32) ha (by decide)).mp e))
theorem v32_add (a : Nat) : nI a + (32 : Int32) = nI (a + 32) := nI_add a 32
theorem v32_dda (a : Nat) : (32 : Int32) + nI a = nI (32 + a) := nI_add 32 a
theorem v32_mul (a : Nat) : nI a * (32 : Int32) = nI (a * 32) := pk_mul a 32
theorem v32_lum (a : Nat) : (32 : Int32) * nI a = nI (32 * a) := pk_mul 32 a
theorem v32_sub {a : Nat} (h : 32 ≤ a) : nI a - (32 : Int32) = nI (a - 32) := nI_sub h
theorem v32_bad {n : Nat} (h : 32 < n) (hn : n < 2 ^ 31) : am_bad (32 : Int32) n = False := eq_false (nI_in (c := 32) h hn)
theorem v32_cl : ((32 : Int32)).toNatClampNeg = 32 := by decide +kernel
theorem v40_ltT {a : Nat} (h : a < 40) : (nI a < (40 : Int32)) = True := eq_true (nI_lt h (by decide))
theorem v40_ltF {a : Nat} (h : 40 ≤ a) (ha : a < 2 ^ 31) : (nI a < (40 : Int32)) = False := eq_false (nI_nlt (b := 40) h ha)
theorem v40_gtT {a : Nat} (h : 40 < a) (ha : a < 2 ^ 31) : ((40 : Int32) < nI a) = True := eq_true (nI_lt (a := 40) h ha)
theorem v40_gtF {a : Nat} (h : a ≤ 40) : ((40 : Int32) < nI a) = False := eq_false (nI_nlt (a := 40) h (by decide))
theorem v40_leT {a : Nat} (h : a ≤ 40) : (nI a ≤ (40 : Int32)) = True := eq_true (nI_le (b := 40) h (by decide))
theorem v40_leF {a : Nat} (h : 40 < a) (ha : a < 2 ^ 31) : (nI a ≤ (40 : Int32)) = False := eq_false (nI_ge (a := 40) h ha)
theorem v40_geT {a : Nat} (h : 40 ≤ a) (ha : a < 2 ^ 31) : ((40 : Int32) ≤ nI a) = True := eq_true (nI_le (a := 40) h ha)
theorem v40_geF {a : Nat} (h : a < 40) : ((40 : Int32) ≤ nI a) = False := eq_false (nI_ge (b := 40) h (by decide))
theorem v40_eqT {a : Nat} (h : a = 40) : (nI a = (40 : Int32)) = True := eq_true (congrArg nI h)
theorem v40_eqF {a : Nat} (h : a ≠ 40) (ha : a < 2 ^ 31) : (nI a = (40 : Int32)) = False := eq_false (fun e => h ((nI_eq (b := 40) ha (by decide)).mp e))
theorem v40_add (a : Nat) : nI a + (40 : Int32) = nI (a + 40) := nI_add a 40
theorem v40_dda (a : Nat) : (40 : Int32) + nI a = nI (40 + a) := nI_add 40 a
theorem v40_mul (a : Nat) : nI a * (40 : Int32) = nI (a * 40) := pk_mul a 40
theorem v40_lum (a : Nat) : (40 : Int32) * nI a = nI (40 * a) := pk_mul 40 a
theorem v40_sub {a : Nat} (h : 40 ≤ a) : nI a - (40 : Int32) = nI (a - 40) := nI_sub h
theorem v40_bad {n : Nat} (h : 40 < n) (hn : n < 2 ^ 31) : am_bad (40 : Int32) n = False := eq_false (nI_in (c := 40) h hn)
theorem v40_cl : ((40 : Int32)).toNatClampNeg = 40 := by decide +kernel
theorem v41_ltT {a : Nat} (h : a < 41) : (nI a < (41 : Int32)) = True := eq_true (nI_lt h (by decide))
theorem v41_ltF {a : Nat} (h : 41 ≤ a) (ha : a < 2 ^ 31) : (nI a < (41 : Int32)) = False := eq_false (nI_nlt (b := 41) h ha)
theorem v41_gtT {a : Nat} (h : 41 < a) (ha : a < 2 ^ 31) : ((41 : Int32) < nI a) = True := eq_true (nI_lt (a := 41) h ha)
theorem v41_gtF {a : Nat} (h : a ≤ 41) : ((41 : Int32) < nI a) = False := eq_false (nI_nlt (a := 41) h (by decide))
theorem v41_leT {a : Nat} (h : a ≤ 41) : (nI a ≤ (41 : Int32)) = True := eq_true (nI_le (b := 41) h (by decide))
theorem v41_leF {a : Nat} (h : 41 < a) (ha : a < 2 ^ 31) : (nI a ≤ (41 : Int32)) = False := eq_false (nI_ge (a := 41) h ha)
theorem v41_geT {a : Nat} (h : 41 ≤ a) (ha : a < 2 ^ 31) : ((41 : Int32) ≤ nI a) = True := eq_true (nI_le (a := 41) h ha)
theorem v41_geF {a : Nat} (h : a < 41) : ((41 : Int32) ≤ nI a) = False := eq_false (nI_ge (b := 41) h (by decide))
theorem v41_eqT {a : Nat} (h : a = 41) : (nI a = (41 : Int32)) = True := eq_true (congrArg nI h)
theorem v41_eqF {a : Nat} (h : a ≠ 41) (ha : a < 2 ^ 31) : (nI a = (41 : Int32)) = False := eq_false (fun e => h ((nI_eq (b := 41) ha (by decide)).mp e))
theorem v41_add (a : Nat) : nI a + (41 : Int32) = nI (a + 41) := nI_add a 41
theorem v41_dda (a : Nat) : (41 : Int32) + nI a = nI (41 + a) := nI_add 41 a
theorem v41_mul (a : Nat) : nI a * (41 : Int32) = nI (a * 41) := pk_mul a 41
theorem v41_lum (a : Nat) : (41 : Int32) * nI a = nI (41 * a) := pk_mul 41 a
theorem v41_sub {a : Nat} (h : 41 ≤ a) : nI a - (41 : Int32) = nI (a - 41) := nI_sub h
theorem v41_bad {n : Nat} (h : 41 < n) (hn : n < 2 ^ 31) : am_bad (41 : Int32) n = False := eq_false (nI_in (c := 41) h hn)
theorem v41_cl : ((41 : Int32)).toNatClampNeg = 41 := by decide +kernel
theorem v42_ltT {a : Nat} (h : a < 42) : (nI a < (42 : Int32)) = True := eq_true (nI_lt h (by decide))
theorem v42_ltF {a : Nat} (h : 42 ≤ a) (ha : a < 2 ^ 31) : (nI a < (42 : Int32)) = False := eq_false (nI_nlt (b := 42) h ha)
theorem v42_gtT {a : Nat} (h : 42 < a) (ha : a < 2 ^ 31) : ((42 : Int32) < nI a) = True := eq_true (nI_lt (a := 42) h ha)
theorem v42_gtF {a : Nat} (h : a ≤ 42) : ((42 : Int32) < nI a) = False := eq_false (nI_nlt (a := 42) h (by decide))
theorem v42_leT {a : Nat} (h : a ≤ 42) : (nI a ≤ (42 : Int32)) = True := eq_true (nI_le (b := 42) h (by decide))
theorem v42_leF {a : Nat} (h : 42 < a) (ha : a < 2 ^ 31) : (nI a ≤ (42 : Int32)) = False := eq_false (nI_ge (a := 42) h ha)
theorem v42_geT {a : Nat} (h : 42 ≤ a) (ha : a < 2 ^ 31) : ((42 : Int32) ≤ nI a) = True := eq_true (nI_le (a := 42) h ha)
theorem v42_geF {a : Nat} (h : a < 42) : ((42 : Int32) ≤ nI a) = False := eq_false (nI_ge (b := 42) h (by decide))
theorem v42_eqT {a : Nat} (h : a = 42) : (nI a = (42 : Int32)) = True := eq_true (congrArg nI h)
theorem v42_eqF {a : Nat} (h : a ≠ 42) (ha : a < 2 ^ 31) : (nI a = (42 : Int32)) = False := eq_false (fun e => h ((nI_eq (b := 42) ha (by decide)).mp e))
theorem v42_add (a : Nat) : nI a + (42 : Int32) = nI (a + 42) := nI_add a 42
theorem v42_dda (a : Nat) : (42 : Int32) + nI a = nI (42 + a) := nI_add 42 a
theorem v42_mul (a : Nat) : nI a * (42 : Int32) = nI (a * 42) := pk_mul a 42
theorem v42_lum (a : Nat) : (42 : Int32) * nI a = nI (42 * a) := pk_mul 42 a
theorem v42_sub {a : Nat} (h : 42 ≤ a) : nI a - (42 : Int32) = nI (a - 42) := nI_sub h
theorem v42_bad {n : Nat} (h : 42 < n) (hn : n < 2 ^ 31) : am_bad (42 : Int32) n = False := eq_false (nI_in (c := 42) h hn)
theorem v42_cl : ((42 : Int32)).toNatClampNeg = 42 := by decide +kernel
theorem v43_ltT {a : Nat} (h : a < 43) : (nI a < (43 : Int32)) = True := eq_true (nI_lt h (by decide))
theorem v43_ltF {a : Nat} (h : 43 ≤ a) (ha : a < 2 ^ 31) : (nI a < (43 : Int32)) = False := eq_false (nI_nlt (b := 43) h ha)
theorem v43_gtT {a : Nat} (h : 43 < a) (ha : a < 2 ^ 31) : ((43 : Int32) < nI a) = True := eq_true (nI_lt (a := 43) h ha)
theorem v43_gtF {a : Nat} (h : a ≤ 43) : ((43 : Int32) < nI a) = False := eq_false (nI_nlt (a := 43) h (by decide))
theorem v43_leT {a : Nat} (h : a ≤ 43) : (nI a ≤ (43 : Int32)) = True := eq_true (nI_le (b := 43) h (by decide))
theorem v43_leF {a : Nat} (h : 43 < a) (ha : a < 2 ^ 31) : (nI a ≤ (43 : Int32)) = False := eq_false (nI_ge (a := 43) h ha)
theorem v43_geT {a : Nat} (h : 43 ≤ a) (ha : a < 2 ^ 31) : ((43 : Int32) ≤ nI a) = True := eq_true (nI_le (a := 43) h ha)
theorem v43_geF {a : Nat} (h : a < 43) : ((43 : Int32) ≤ nI a) = False := eq_false (nI_ge (b := 43) h (by decide))
theorem v43_eqT {a : Nat} (h : a = 43) : (nI a = (43 : Int32)) = True := eq_true (congrArg nI h)
theorem v43_eqF {a : Nat} (h : a ≠ 43) (ha : a < 2 ^ 31) : (nI a = (43 : Int32)) = False := eq_false (fun e => h ((nI_eq (b := 43) ha (by decide)).mp e))
theorem v43_add (a : Nat) : nI a + (43 : Int32) = nI (a + 43) := nI_add a 43
theorem v43_dda (a : Nat) : (43 : Int32) + nI a = nI (43 + a) := nI_add 43 a
theorem v43_mul (a : Nat) : nI a * (43 : Int32) = nI (a * 43) := pk_mul a 43
theorem v43_lum (a : Nat) : (43 : Int32) * nI a = nI (43 * a) := pk_mul 43 a
theorem v43_sub {a : Nat} (h : 43 ≤ a) : nI a - (43 : Int32) = nI (a - 43) := nI_sub h
theorem v43_bad {n : Nat} (h : 43 < n) (hn : n < 2 ^ 31) : am_bad (43 : Int32) n = False := eq_false (nI_in (c := 43) h hn)
theorem v43_cl : ((43 : Int32)).toNatClampNeg = 43 := by decide +kernel
theorem v44_ltT {a : Nat} (h : a < 44) : (nI a < (44 : Int32)) = True := eq_true (nI_lt h (by decide))
theorem v44_ltF {a : Nat} (h : 44 ≤ a) (ha : a < 2 ^ 31) : (nI a < (44 : Int32)) = False := eq_false (nI_nlt (b := 44) h ha)
theorem v44_gtT {a : Nat} (h : 44 < a) (ha : a < 2 ^ 31) : ((44 : Int32) < nI a) = True := eq_true (nI_lt (a := 44) h ha)
theorem v44_gtF {a : Nat} (h : a ≤ 44) : ((44 : Int32) < nI a) = False := eq_false (nI_nlt (a := 44) h (by decide))
theorem v44_leT {a : Nat} (h : a ≤ 44) : (nI a ≤ (44 : Int32)) = True := eq_true (nI_le (b := 44) h (by decide))
theorem v44_leF {a : Nat} (h : 44 < a) (ha : a < 2 ^ 31) : (nI a ≤ (44 : Int32)) = False := eq_false (nI_ge (a := 44) h ha)
theorem v44_geT {a : Nat} (h : 44 ≤ a) (ha : a < 2 ^ 31) : ((44 : Int32) ≤ nI a) = True := eq_true (nI_le (a := 44) h ha)
theorem v44_geF {a : Nat} (h : a < 44) : ((44 : Int32) ≤ nI a) = False := eq_false (nI_ge (b := 44) h (by decide))
theorem v44_eqT {a : Nat} (h : a = 44) : (nI a = (44 : Int32)) = True := eq_true (congrArg nI h)
theorem v44_eqF {a : Nat} (h : a ≠ 44) (ha : a < 2 ^ 31) : (nI a = (44 : Int32)) = False := eq_false (fun e => h ((nI_eq (b := 44) ha (by decide)).mp e))
theorem v44_add (a : Nat) : nI a + (44 : Int32) = nI (a + 44) := nI_add a 44
theorem v44_dda (a : Nat) : (44 : Int32) + nI a = nI (44 + a) := nI_add 44 a
theorem v44_mul (a : Nat) : nI a * (44 : Int32) = nI (a * 44) := pk_mul a 44
theorem v44_lum (a : Nat) : (44 : Int32) * nI a = nI (44 * a) := pk_mul 44 a
theorem v44_sub {a : Nat} (h : 44 ≤ a) : nI a - (44 : Int32) = nI (a - 44) := nI_sub h
theorem v44_bad {n : Nat} (h : 44 < n) (hn : n < 2 ^ 31) : am_bad (44 : Int32) n = False := eq_false (nI_in (c := 44) h hn)
theorem v44_cl : ((44 : Int32)).toNatClampNeg = 44 := by decide +kernel
theorem v45_ltT {a : Nat} (h : a < 45) : (nI a < (45 : Int32)) = True := eq_true (nI_lt h (by decide))
theorem v45_ltF {a : Nat} (h : 45 ≤ a) (ha : a < 2 ^ 31) : (nI a < (45 : Int32)) = False := eq_false (nI_nlt (b := 45) h ha)
theorem v45_gtT {a : Nat} (h : 45 < a) (ha : a < 2 ^ 31) : ((45 : Int32) < nI a) = True := eq_true (nI_lt (a := 45) h ha)
theorem v45_gtF {a : Nat} (h : a ≤ 45) : ((45 : Int32) < nI a) = False := eq_false (nI_nlt (a := 45) h (by decide))
theorem v45_leT {a : Nat} (h : a ≤ 45) : (nI a ≤ (45 : Int32)) = True := eq_true (nI_le (b := 45) h (by decide))
theorem v45_leF {a : Nat} (h : 45 < a) (ha : a < 2 ^ 31) : (nI a ≤ (45 : Int32)) = False := eq_false (nI_ge (a := 45) h ha)
theorem v45_geT {a : Nat} (h : 45 ≤ a) (ha : a < 2 ^ 31) : ((45 : Int32) ≤ nI a) = True := eq_true (nI_le (a := 45) h ha)
theorem v45_geF {a : Nat} (h : a < 45) : ((45 : Int32) ≤ nI a) = False := eq_false (nI_ge (b := 45) h (by decide))
theorem v45_eqT {a : Nat} (h : a = 45) : (nI a = (45 : Int32)) = True := eq_true (congrArg nI h)
theorem v45_eqF {a : Nat} (h : a ≠ 45) (ha : a < 2 ^ 31) : (nI a = (45 : Int32)) = False := eq_false (fun e => h ((nI_eq (b := 45) ha (by decide)).mp e))
theorem v45_add (a : Nat) : nI a + (45 : Int32) = nI (a + 45) := nI_add a 45
theorem v45_dda (a : Nat) : (45 : Int32) + nI a = nI (45 + a) := nI_add 45 a
theorem v45_mul (a : Nat) : nI a * (45 : Int32) = nI (a * 45) := pk_mul a 45
theorem v45_lum (a : Nat) : (45 : Int32) * nI a = nI (45 * a) := pk_mul 45 a
theorem v45_sub {a : Nat} (h : 45 ≤ a) : nI a - (45 : Int32) = nI (a - 45) := nI_sub h
theorem v45_bad {n : Nat} (h : 45 < n) (hn : n < 2 ^ 31) : am_bad (45 : Int32) n = False := eq_false (nI_in (c := 45) h hn)
theorem v45_cl : ((45 : Int32)).toNatClampNeg = 45 := by decide +kernel
theorem v46_ltT {a : Nat} (h : a < 46) : (nI a < (46 : Int32)) = True := eq_true (nI_lt h (by decide))
theorem v46_ltF {a : Nat} (h : 46 ≤ a) (ha : a < 2 ^ 31) : (nI a < (46 : Int32)) = False := eq_false (nI_nlt (b := 46) h ha)
theorem v46_gtT {a : Nat} (h : 46 < a) (ha : a < 2 ^ 31) : ((46 : Int32) < nI a) = True := eq_true (nI_lt (a := 46) h ha)
theorem v46_gtF {a : Nat} (h : a ≤ 46) : ((46 : Int32) < nI a) = False := eq_false (nI_nlt (a := 46) h (by decide))
theorem v46_leT {a : Nat} (h : a ≤ 46) : (nI a ≤ (46 : Int32)) = True := eq_true (nI_le (b := 46) h (by decide))
theorem v46_leF {a : Nat} (h : 46 < a) (ha : a < 2 ^ 31) : (nI a ≤ (46 : Int32)) = False := eq_false (nI_ge (a := 46) h ha)
theorem v46_geT {a : Nat} (h : 46 ≤ a) (ha : a < 2 ^ 31) : ((46 : Int32) ≤ nI a) = True := eq_true (nI_le (a := 46) h ha)
theorem v46_geF {a : Nat} (h : a < 46) : ((46 : Int32) ≤ nI a) = False := eq_false (nI_ge (b := 46) h (by decide))
theorem v46_eqT {a : Nat} (h : a = 46) : (nI a = (46 : Int32)) = True := eq_true (congrArg nI h)
theorem v46_eqF {a : Nat} (h : a ≠ 46) (ha : a < 2 ^ 31) : (nI a = (46 : Int32)) = False := eq_false (fun e => h ((nI_eq (b := 46) ha (by decide)).mp e))
theorem v46_add (a : Nat) : nI a + (46 : Int32) = nI (a + 46) := nI_add a 46
theorem v46_dda (a : Nat) : (46 : Int32) + nI a = nI (46 + a) := nI_add 46 a
theorem v46_mul (a : Nat) : nI a * (46 : Int32) = nI (a * 46) := pk_mul a 46
theorem v46_lum (a : Nat) : (46 : Int32) * nI a = nI (46 * a) := pk_mul 46 a
theorem v46_sub {a : Nat} (h : 46 ≤ a) : nI a - (46 : Int32) = nI (a - 46) := nI_sub h
theorem v46_bad {n : Nat} (h : 46 < n) (hn : n < 2 ^ 31) : am_bad (46 : Int32) n = False := eq_false (nI_in (c := 46) h hn)
theorem v46_cl : ((46 : Int32)).toNatClampNeg = 46 := by decide +kernel
theorem v48_ltT {a : Nat} (h : a < 48) : (nI a < (48 : Int32)) = True := eq_true (nI_lt h (by decide))
theorem v48_ltF {a : Nat} (h : 48 ≤ a) (ha : a < 2 ^ 31) : (nI a < (48 : Int32)) = False := eq_false (nI_nlt (b := 48) h ha)
theorem v48_gtT {a : Nat} (h : 48 < a) (ha : a < 2 ^ 31) : ((48 : Int32) < nI a) = True := eq_true (nI_lt (a := 48) h ha)
theorem v48_gtF {a : Nat} (h : a ≤ 48) : ((48 : Int32) < nI a) = False := eq_false (nI_nlt (a := 48) h (by decide))
theorem v48_leT {a : Nat} (h : a ≤ 48) : (nI a ≤ (48 : Int32)) = True := eq_true (nI_le (b := 48) h (by decide))
theorem v48_leF {a : Nat} (h : 48 < a) (ha : a < 2 ^ 31) : (nI a ≤ (48 : Int32)) = False := eq_false (nI_ge (a := 48) h ha)
theorem v48_geT {a : Nat} (h : 48 ≤ a) (ha : a < 2 ^ 31) : ((48 : Int32) ≤ nI a) = True := eq_true (nI_le (a := 48) h ha)
theorem v48_geF {a : Nat} (h : a < 48) : ((48 : Int32) ≤ nI a) = False := eq_false (nI_ge (b := 48) h (by decide))
theorem v48_eqT {a : Nat} (h : a = 48) : (nI a = (48 : Int32)) = True := eq_true (congrArg nI h)
theorem v48_eqF {a : Nat} (h : a ≠ 48) (ha : a < 2 ^ 31) : (nI a = (48 : Int32)) = False := eq_false (fun e => h ((nI_eq (b := 48) ha (by decide)).mp e))
theorem v48_add (a : Nat) : nI a + (48 : Int32) = nI (a + 48) := nI_add a 48
theorem v48_dda (a : Nat) : (48 : Int32) + nI a = nI (48 + a) := nI_add 48 a
theorem v48_mul (a : Nat) : nI a * (48 : Int32) = nI (a * 48) := pk_mul a 48
theorem v48_lum (a : Nat) : (48 : Int32) * nI a = nI (48 * a) := pk_mul 48 a
theorem v48_sub {a : Nat} (h : 48 ≤ a) : nI a - (48 : Int32) = nI (a - 48) := nI_sub h
theorem v48_bad {n : Nat} (h : 48 < n) (hn : n < 2 ^ 31) : am_bad (48 : Int32) n = False := eq_false (nI_in (c := 48) h hn)
theorem v48_cl : ((48 : Int32)).toNatClampNeg = 48 := by decide +kernel
theorem v57_ltT {a : Nat} (h : a < 57) : (nI a < (57 : Int32)) = True := eq_true (nI_lt h (by decide))
theorem v57_ltF {a : Nat} (h : 57 ≤ a) (ha : a < 2 ^ 31) : (nI a < (57 : Int32)) = False := eq_false (nI_nlt (b := 57) h ha)
theorem v57_gtT {a : Nat} (h : 57 < a) (ha : a < 2 ^ 31) : ((57 : Int32) < nI a) = True := eq_true (nI_lt (a := 57) h ha)
theorem v57_gtF {a : Nat} (h : a ≤ 57) : ((57 : Int32) < nI a) = False := eq_false (nI_nlt (a := 57) h (by decide))
theorem v57_leT {a : Nat} (h : a ≤ 57) : (nI a ≤ (57 : Int32)) = True := eq_true (nI_le (b := 57) h (by decide))
theorem v57_leF {a : Nat} (h : 57 < a) (ha : a < 2 ^ 31) : (nI a ≤ (57 : Int32)) = False := eq_false (nI_ge (a := 57) h ha)
theorem v57_geT {a : Nat} (h : 57 ≤ a) (ha : a < 2 ^ 31) : ((57 : Int32) ≤ nI a) = True := eq_true (nI_le (a := 57) h ha)
theorem v57_geF {a : Nat} (h : a < 57) : ((57 : Int32) ≤ nI a) = False := eq_false (nI_ge (b := 57) h (by decide))
theorem v57_eqT {a : Nat} (h : a = 57) : (nI a = (57 : Int32)) = True := eq_true (congrArg nI h)
theorem v57_eqF {a : Nat} (h : a ≠ 57) (ha : a < 2 ^ 31) : (nI a = (57 : Int32)) = False := eq_false (fun e => h ((nI_eq (b := 57) ha (by decide)).mp e))
theorem v57_add (a : Nat) : nI a + (57 : Int32) = nI (a + 57) := nI_add a 57
theorem v57_dda (a : Nat) : (57 : Int32) + nI a = nI (57 + a) := nI_add 57 a
theorem v57_mul (a : Nat) : nI a * (57 : Int32) = nI (a * 57) := pk_mul a 57
theorem v57_lum (a : Nat) : (57 : Int32) * nI a = nI (57 * a) := pk_mul 57 a
theorem v57_sub {a : Nat} (h : 57 ≤ a) : nI a - (57 : Int32) = nI (a - 57) := nI_sub h
theorem v57_bad {n : Nat} (h : 57 < n) (hn : n < 2 ^ 31) : am_bad (57 : Int32) n = False := eq_false (nI_in (c := 57) h hn)
theorem v57_cl : ((57 : Int32)).toNatClampNeg = 57 := by decide +kernel
theorem v59_ltT {a : Nat} (h : a < 59) : (nI a < (59 : Int32)) = True := eq_true (nI_lt h (by decide))
theorem v59_ltF {a : Nat} (h : 59 ≤ a) (ha : a < 2 ^ 31) : (nI a < (59 : Int32)) = False := eq_false (nI_nlt (b := 59) h ha)
theorem v59_gtT {a : Nat} (h : 59 < a) (ha : a < 2 ^ 31) : ((59 : Int32) < nI a) = True := eq_true (nI_lt (a := 59) h ha)
theorem v59_gtF {a : Nat} (h : a ≤ 59) : ((59 : Int32) < nI a) = False := eq_false (nI_nlt (a := 59) h (by decide))
theorem v59_leT {a : Nat} (h : a ≤ 59) : (nI a ≤ (59 : Int32)) = True := eq_true (nI_le (b := 59) h (by decide))
theorem v59_leF {a : Nat} (h : 59 < a) (ha : a < 2 ^ 31) : (nI a ≤ (59 : Int32)) = False := eq_false (nI_ge (a := 59) h ha)
theorem v59_geT {a : Nat} (h : 59 ≤ a) (ha : a < 2 ^ 31) : ((59 : Int32) ≤ nI a) = True := eq_true (nI_le (a := 59) h ha)
theorem v59_geF {a : Nat} (h : a < 59) : ((59 : Int32) ≤ nI a) = False := eq_false (nI_ge (b := 59) h (by decide))
theorem v59_eqT {a : Nat} (h : a = 59) : (nI a = (59 : Int32)) = True := eq_true (congrArg nI h)
theorem v59_eqF {a : Nat} (h : a ≠ 59) (ha : a < 2 ^ 31) : (nI a = (59 : Int32)) = False := eq_false (fun e => h ((nI_eq (b := 59) ha (by decide)).mp e))
theorem v59_add (a : Nat) : nI a + (59 : Int32) = nI (a + 59) := nI_add a 59
theorem v59_dda (a : Nat) : (59 : Int32) + nI a = nI (59 + a) := nI_add 59 a
theorem v59_mul (a : Nat) : nI a * (59 : Int32) = nI (a * 59) := pk_mul a 59
theorem v59_lum (a : Nat) : (59 : Int32) * nI a = nI (59 * a) := pk_mul 59 a
theorem v59_sub {a : Nat} (h : 59 ≤ a) : nI a - (59 : Int32) = nI (a - 59) := nI_sub h
theorem v59_bad {n : Nat} (h : 59 < n) (hn : n < 2 ^ 31) : am_bad (59 : Int32) n = False := eq_false (nI_in (c := 59) h hn)
theorem v59_cl : ((59 : Int32)).toNatClampNeg = 59 := by decide +kernel
theorem v60_ltT {a : Nat} (h : a < 60) : (nI a < (60 : Int32)) = True := eq_true (nI_lt h (by decide))
theorem v60_ltF {a : Nat} (h : 60 ≤ a) (ha : a < 2 ^ 31) : (nI a < (60 : Int32)) = False := eq_false (nI_nlt (b := 60) h ha)
theorem v60_gtT {a : Nat} (h : 60 < a) (ha : a < 2 ^ 31) : ((60 : Int32) < nI a) = True := eq_true (nI_lt (a := 60) h ha)
theorem v60_gtF {a : Nat} (h : a ≤ 60) : ((60 : Int32) < nI a) = False := eq_false (nI_nlt (a := 60) h (by decide))
theorem v60_leT {a : Nat} (h : a ≤ 60) : (nI a ≤ (60 : Int32)) = True := eq_true (nI_le (b := 60) h (by decide))
theorem v60_leF {a : Nat} (h : 60 < a) (ha : a < 2 ^ 31) : (nI a ≤ (60 : Int32)) = False := eq_false (nI_ge (a := 60) h ha)
theorem v60_geT {a : Nat} (h : 60 ≤ a) (ha : a < 2 ^ 31) : ((60 : Int32) ≤ nI a) = True := eq_true (nI_le (a := 60) h ha)
theorem v60_geF {a : Nat} (h : a < 60) : ((60 : Int32) ≤ nI a) = False := eq_false (nI_ge (b := 60) h (by decide))
theorem v60_eqT {a : Nat} (h : a = 60) : (nI a = (60 : Int32)) = True := eq_true (congrArg nI h)
theorem v60_eqF {a : Nat} (h : a ≠ 60) (ha : a < 2 ^ 31) : (nI a = (60 : Int32)) = False := eq_false (fun e => h ((nI_eq (b := 60) ha (by decide)).mp e))
theorem v60_add (a : Nat) : nI a + (60 : Int32) = nI (a + 60) := nI_add a 60
theorem v60_dda (a : Nat) : (60 : Int32) + nI a = nI (60 + a) := nI_add 60 a
theorem v60_mul (a : Nat) : nI a * (60 : Int32) = nI (a * 60) := pk_mul a 60
theorem v60_lum (a : Nat) : (60 : Int32) * nI a = nI (60 * a) := pk_mul 60 a
theorem v60_sub {a : Nat} (h : 60 ≤ a) : nI a - (60 : Int32) = nI (a - 60) := nI_sub h
theorem v60_bad {n : Nat} (h : 60 < n) (hn : n < 2 ^ 31) : am_bad (60 : Int32) n = False := eq_false (nI_in (c := 60) h hn)
theorem v60_cl : ((60 : Int32)).toNatClampNeg = 60 := by decide +kernel
theorem v61_ltT {a : Nat} (h : a < 61) : (nI a < (61 : Int32)) = True := eq_true (nI_lt h (by decide))
theorem v61_ltF {a : Nat} (h : 61 ≤ a) (ha : a < 2 ^ 31) : (nI a < (61 : Int32)) = False := eq_false (nI_nlt (b := 61) h ha)
theorem v61_gtT {a : Nat} (h : 61 < a) (ha : a < 2 ^ 31) : ((61 : Int32) < nI a) = True := eq_true (nI_lt (a := 61) h ha)
theorem v61_gtF {a : Nat} (h : a ≤ 61) : ((61 : Int32) < nI a) = False := eq_false (nI_nlt (a := 61) h (by decide))
theorem v61_leT {a : Nat} (h : a ≤ 61) : (nI a ≤ (61 : Int32)) = True := eq_true (nI_le (b := 61) h (by decide))
theorem v61_leF {a : Nat} (h : 61 < a) (ha : a < 2 ^ 31) : (nI a ≤ (61 : Int32)) = False := eq_false (nI_ge (a := 61) h ha)
theorem v61_geT {a : Nat} (h : 61 ≤ a) (ha : a < 2 ^ 31) : ((61 : Int32) ≤ nI a) = True := eq_true (nI_le (a := 61) h ha)
theorem v61_geF {a : Nat} (h : a < 61) : ((61 : Int32) ≤ nI a) = False := eq_false (nI_ge (b := 61) h (by decide))
theorem v61_eqT {a : Nat} (h : a = 61) : (nI a = (61 : Int32)) = True := eq_true (congrArg nI h)
theorem v61_eqF {a : Nat} (h : a ≠ 61) (ha : a < 2 ^ 31) : (nI a = (61 : Int32)) = False := eq_false (fun e => h ((nI_eq (b := 61) ha (by decide)).mp e))
theorem v61_add (a : Nat) : nI a + (61 : Int32) = nI (a + 61) := nI_add a 61
theorem v61_dda (a : Nat) : (61 : Int32) + nI a = nI (61 + a) := nI_add 61 a
theorem v61_mul (a : Nat) : nI a * (61 : Int32) = nI (a * 61) := pk_mul a 61
theorem v61_lum (a : Nat) : (61 : Int32) * nI a = nI (61 * a) := pk_mul 61 a
theorem v61_sub {a : Nat} (h : 61 ≤ a) : nI a - (61 : Int32) = nI (a - 61) := nI_sub h
theorem v61_bad {n : Nat} (h : 61 < n) (hn : n < 2 ^ 31) : am_bad (61 : Int32) n = False := eq_false (nI_in (c := 61) h hn)
theorem v61_cl : ((61 : Int32)).toNatClampNeg = 61 := by decide +kernel
theorem v84_ltT {a : Nat} (h : a < 84) : (nI a < (84 : Int32)) = True := eq_true (nI_lt h (by decide))
theorem v84_ltF {a : Nat} (h : 84 ≤ a) (ha : a < 2 ^ 31) : (nI a < (84 : Int32)) = False := eq_false (nI_nlt (b := 84) h ha)
theorem v84_gtT {a : Nat} (h : 84 < a) (ha : a < 2 ^ 31) : ((84 : Int32) < nI a) = True := eq_true (nI_lt (a := 84) h ha)
theorem v84_gtF {a : Nat} (h : a ≤ 84) : ((84 : Int32) < nI a) = False := eq_false (nI_nlt (a := 84) h (by decide))
theorem v84_leT {a : Nat} (h : a ≤ 84) : (nI a ≤ (84 : Int32)) = True := eq_true (nI_le (b := 84) h (by decide))
theorem v84_leF {a : Nat} (h : 84 < a) (ha : a < 2 ^ 31) : (nI a ≤ (84 : Int32)) = False := eq_false (nI_ge (a := 84) h ha)
theorem v84_geT {a : Nat} (h : 84 ≤ a) (ha : a < 2 ^ 31) : ((84 : Int32) ≤ nI a) = True := eq_true (nI_le (a := 84) h ha)
theorem v84_geF {a : Nat} (h : a < 84) : ((84 : Int32) ≤ nI a) = False := eq_false (nI_ge (b := 84) h (by decide))
theorem v84_eqT {a : Nat} (h : a = 84) : (nI a = (84 : Int32)) = True := eq_true (congrArg nI h)
theorem v84_eqF {a : Nat} (h : a ≠ 84) (ha : a < 2 ^ 31) : (nI a = (84 : Int32)) = False := eq_false (fun e => h ((nI_eq (b := 84) ha (by decide)).mp e))
theorem v84_add (a : Nat) : nI a + (84 : Int32) = nI (a + 84) := nI_add a 84
theorem v84_dda (a : Nat) : (84 : Int32) + nI a = nI (84 + a) := nI_add 84 a
theorem v84_mul (a : Nat) : nI a * (84 : Int32) = nI (a * 84) := pk_mul a 84
theorem v84_lum (a : Nat) : (84 : Int32) * nI a = nI (84 * a) := pk_mul 84 a
theorem v84_sub {a : Nat} (h : 84 ≤ a) : nI a - (84 : Int32) = nI (a - 84) := nI_sub h
theorem v84_bad {n : Nat} (h : 84 < n) (hn : n < 2 ^ 31) : am_bad (84 : Int32) n = False := eq_false (nI_in (c := 84) h hn)
theorem v84_cl : ((84 : Int32)).toNatClampNeg = 84 := by decide +kernel
theorem v92_ltT {a : Nat} (h : a < 92) : (nI a < (92 : Int32)) = True := eq_true (nI_lt h (by decide))
theorem v92_ltF {a : Nat} (h : 92 ≤ a) (ha : a < 2 ^ 31) : (nI a < (92 : Int32)) = False := eq_false (nI_nlt (b := 92) h ha)
theorem v92_gtT {a : Nat} (h : 92 < a) (ha : a < 2 ^ 31) : ((92 : Int32) < nI a) = True := eq_true (nI_lt (a := 92) h ha)
theorem v92_gtF {a : Nat} (h : a ≤ 92) : ((92 : Int32) < nI a) = False := eq_false (nI_nlt (a := 92) h (by decide))
theorem v92_leT {a : Nat} (h : a ≤ 92) : (nI a ≤ (92 : Int32)) = True := eq_true (nI_le (b := 92) h (by decide))
theorem v92_leF {a : Nat} (h : 92 < a) (ha : a < 2 ^ 31) : (nI a ≤ (92 : Int32)) = False := eq_false (nI_ge (a := 92) h ha)
theorem v92_geT {a : Nat} (h : 92 ≤ a) (ha : a < 2 ^ 31) : ((92 : Int32) ≤ nI a) = True := eq_true (nI_le (a := 92) h ha)
theorem v92_geF {a : Nat} (h : a < 92) : ((92 : Int32) ≤ nI a) = False := eq_false (nI_ge (b := 92) h (by decide))
theorem v92_eqT {a : Nat} (h : a = 92) : (nI a = (92 : Int32)) = True := eq_true (congrArg nI h)
theorem v92_eqF {a : Nat} (h : a ≠ 92) (ha : a < 2 ^ 31) : (nI a = (92 : Int32)) = False := eq_false (fun e => h ((nI_eq (b := 92) ha (by decide)).mp e))
theorem v92_add (a : Nat) : nI a + (92 : Int32) = nI (a + 92) := nI_add a 92
theorem v92_dda (a : Nat) : (92 : Int32) + nI a = nI (92 + a) := nI_add 92 a
theorem v92_mul (a : Nat) : nI a * (92 : Int32) = nI (a * 92) := pk_mul a 92
theorem v92_lum (a : Nat) : (92 : Int32) * nI a = nI (92 * a) := pk_mul 92 a
theorem v92_sub {a : Nat} (h : 92 ≤ a) : nI a - (92 : Int32) = nI (a - 92) := nI_sub h
theorem v92_bad {n : Nat} (h : 92 < n) (hn : n < 2 ^ 31) : am_bad (92 : Int32) n = False := eq_false (nI_in (c := 92) h hn)
theorem v92_cl : ((92 : Int32)).toNatClampNeg = 92 := by decide +kernel
theorem v97_ltT {a : Nat} (h : a < 97) : (nI a < (97 : Int32)) = True := eq_true (nI_lt h (by decide))
theorem v97_ltF {a : Nat} (h : 97 ≤ a) (ha : a < 2 ^ 31) : (nI a < (97 : Int32)) = False := eq_false (nI_nlt (b := 97) h ha)
theorem v97_gtT {a : Nat} (h : 97 < a) (ha : a < 2 ^ 31) : ((97 : Int32) < nI a) = True := eq_true (nI_lt (a := 97) h ha)
theorem v97_gtF {a : Nat} (h : a ≤ 97) : ((97 : Int32) < nI a) = False := eq_false (nI_nlt (a := 97) h (by decide))
theorem v97_leT {a : Nat} (h : a ≤ 97) : (nI a ≤ (97 : Int32)) = True := eq_true (nI_le (b := 97) h (by decide))
theorem v97_leF {a : Nat} (h : 97 < a) (ha : a < 2 ^ 31) : (nI a ≤ (97 : Int32)) = False := eq_false (nI_ge (a := 97) h ha)
theorem v97_geT {a : Nat} (h : 97 ≤ a) (ha : a < 2 ^ 31) : ((97 : Int32) ≤ nI a) = True := eq_true (nI_le (a := 97) h ha)
theorem v97_geF {a : Nat} (h : a < 97) : ((97 : Int32) ≤ nI a) = False := eq_false (nI_ge (b := 97) h (by decide))
theorem v97_eqT {a : Nat} (h : a = 97) : (nI a = (97 : Int32)) = True := eq_true (congrArg nI h)
theorem v97_eqF {a : Nat} (h : a ≠ 97) (ha : a < 2 ^ 31) : (nI a = (97 : Int32)) = False := eq_false (fun e => h ((nI_eq (b := 97) ha (by decide)).mp e))
theorem v97_add (a : Nat) : nI a + (97 : Int32) = nI (a + 97) := nI_add a 97
theorem v97_dda (a : Nat) : (97 : Int32) + nI a = nI (97 + a) := nI_add 97 a
theorem v97_mul (a : Nat) : nI a * (97 : Int32) = nI (a * 97) := pk_mul a 97
theorem v97_lum (a : Nat) : (97 : Int32) * nI a = nI (97 * a) := pk_mul 97 a
theorem v97_sub {a : Nat} (h : 97 ≤ a) : nI a - (97 : Int32) = nI (a - 97) := nI_sub h
theorem v97_bad {n : Nat} (h : 97 < n) (hn : n < 2 ^ 31) : am_bad (97 : Int32) n = False := eq_false (nI_in (c := 97) h hn)
theorem v97_cl : ((97 : Int32)).toNatClampNeg = 97 := by decide +kernel
theorem v122_ltT {a : Nat} (h : a < 122) : (nI a < (122 : Int32)) = True := eq_true (nI_lt h (by decide))
theorem v122_ltF {a : Nat} (h : 122 ≤ a) (ha : a < 2 ^ 31) : (nI a < (122 : Int32)) = False := eq_false (nI_nlt (b := 122) h ha)
theorem v122_gtT {a : Nat} (h : 122 < a) (ha : a < 2 ^ 31) : ((122 : Int32) < nI a) = True := eq_true (nI_lt (a := 122) h ha)
theorem v122_gtF {a : Nat} (h : a ≤ 122) : ((122 : Int32) < nI a) = False := eq_false (nI_nlt (a := 122) h (by decide))
theorem v122_leT {a : Nat} (h : a ≤ 122) : (nI a ≤ (122 : Int32)) = True := eq_true (nI_le (b := 122) h (by decide))
theorem v122_leF {a : Nat} (h : 122 < a) (ha : a < 2 ^ 31) : (nI a ≤ (122 : Int32)) = False := eq_false (nI_ge (a := 122) h ha)
theorem v122_geT {a : Nat} (h : 122 ≤ a) (ha : a < 2 ^ 31) : ((122 : Int32) ≤ nI a) = True := eq_true (nI_le (a := 122) h ha)
theorem v122_geF {a : Nat} (h : a < 122) : ((122 : Int32) ≤ nI a) = False := eq_false (nI_ge (b := 122) h (by decide))
theorem v122_eqT {a : Nat} (h : a = 122) : (nI a = (122 : Int32)) = True := eq_true (congrArg nI h)
theorem v122_eqF {a : Nat} (h : a ≠ 122) (ha : a < 2 ^ 31) : (nI a = (122 : Int32)) = False := eq_false (fun e => h ((nI_eq (b := 122) ha (by decide)).mp e))
theorem v122_add (a : Nat) : nI a + (122 : Int32) = nI (a + 122) := nI_add a 122
theorem v122_dda (a : Nat) : (122 : Int32) + nI a = nI (122 + a) := nI_add 122 a
theorem v122_mul (a : Nat) : nI a * (122 : Int32) = nI (a * 122) := pk_mul a 122
theorem v122_lum (a : Nat) : (122 : Int32) * nI a = nI (122 * a) := pk_mul 122 a
theorem v122_sub {a : Nat} (h : 122 ≤ a) : nI a - (122 : Int32) = nI (a - 122) := nI_sub h
theorem v122_bad {n : Nat} (h : 122 < n) (hn : n < 2 ^ 31) : am_bad (122 : Int32) n = False := eq_false (nI_in (c := 122) h hn)
theorem v122_cl : ((122 : Int32)).toNatClampNeg = 122 := by decide +kernel
theorem v192_ltT {a : Nat} (h : a < 192) : (nI a < (192 : Int32)) = True := eq_true (nI_lt h (by decide))
theorem v192_ltF {a : Nat} (h : 192 ≤ a) (ha : a < 2 ^ 31) : (nI a < (192 : Int32)) = False := eq_false (nI_nlt (b := 192) h ha)
theorem v192_gtT {a : Nat} (h : 192 < a) (ha : a < 2 ^ 31) : ((192 : Int32) < nI a) = True := eq_true (nI_lt (a := 192) h ha)
theorem v192_gtF {a : Nat} (h : a ≤ 192) : ((192 : Int32) < nI a) = False := eq_false (nI_nlt (a := 192) h (by decide))
theorem v192_leT {a : Nat} (h : a ≤ 192) : (nI a ≤ (192 : Int32)) = True := eq_true (nI_le (b := 192) h (by decide))
theorem v192_leF {a : Nat} (h : 192 < a) (ha : a < 2 ^ 31) : (nI a ≤ (192 : Int32)) = False := eq_false (nI_ge (a := 192) h ha)
theorem v192_geT {a : Nat} (h : 192 ≤ a) (ha : a < 2 ^ 31) : ((192 : Int32) ≤ nI a) = True := eq_true (nI_le (a := 192) h ha)
theorem v192_geF {a : Nat} (h : a < 192) : ((192 : Int32) ≤ nI a) = False := eq_false (nI_ge (b := 192) h (by decide))
theorem v192_eqT {a : Nat} (h : a = 192) : (nI a = (192 : Int32)) = True := eq_true (congrArg nI h)
theorem v192_eqF {a : Nat} (h : a ≠ 192) (ha : a < 2 ^ 31) : (nI a = (192 : Int32)) = False := eq_false (fun e => h ((nI_eq (b := 192) ha (by decide)).mp e))
theorem v192_add (a : Nat) : nI a + (192 : Int32) = nI (a + 192) := nI_add a 192
theorem v192_dda (a : Nat) : (192 : Int32) + nI a = nI (192 + a) := nI_add 192 a
theorem v192_mul (a : Nat) : nI a * (192 : Int32) = nI (a * 192) := pk_mul a 192
theorem v192_lum (a : Nat) : (192 : Int32) * nI a = nI (192 * a) := pk_mul 192 a
theorem v192_sub {a : Nat} (h : 192 ≤ a) : nI a - (192 : Int32) = nI (a - 192) := nI_sub h
theorem v192_bad {n : Nat} (h : 192 < n) (hn : n < 2 ^ 31) : am_bad (192 : Int32) n = False := eq_false (nI_in (c := 192) h hn)
theorem v192_cl : ((192 : Int32)).toNatClampNeg = 192 := by decide +kernel
theorem v200_ltT {a : Nat} (h : a < 200) : (nI a < (200 : Int32)) = True := eq_true (nI_lt h (by decide))
theorem v200_ltF {a : Nat} (h : 200 ≤ a) (ha : a < 2 ^ 31) : (nI a < (200 : Int32)) = False := eq_false (nI_nlt (b := 200) h ha)
theorem v200_gtT {a : Nat} (h : 200 < a) (ha : a < 2 ^ 31) : ((200 : Int32) < nI a) = True := eq_true (nI_lt (a := 200) h ha)
theorem v200_gtF {a : Nat} (h : a ≤ 200) : ((200 : Int32) < nI a) = False := eq_false (nI_nlt (a := 200) h (by decide))
theorem v200_leT {a : Nat} (h : a ≤ 200) : (nI a ≤ (200 : Int32)) = True := eq_true (nI_le (b := 200) h (by decide))
theorem v200_leF {a : Nat} (h : 200 < a) (ha : a < 2 ^ 31) : (nI a ≤ (200 : Int32)) = False := eq_false (nI_ge (a := 200) h ha)
theorem v200_geT {a : Nat} (h : 200 ≤ a) (ha : a < 2 ^ 31) : ((200 : Int32) ≤ nI a) = True := eq_true (nI_le (a := 200) h ha)
theorem v200_geF {a : Nat} (h : a < 200) : ((200 : Int32) ≤ nI a) = False := eq_false (nI_ge (b := 200) h (by decide))
theorem v200_eqT {a : Nat} (h : a = 200) : (nI a = (200 : Int32)) = True := eq_true (congrArg nI h)
theorem v200_eqF {a : Nat} (h : a ≠ 200) (ha : a < 2 ^ 31) : (nI a = (200 : Int32)) = False := eq_false (fun e => h ((nI_eq (b := 200) ha (by decide)).mp e))
theorem v200_add (a : Nat) : nI a + (200 : Int32) = nI (a + 200) := nI_add a 200
theorem v200_dda (a : Nat) : (200 : Int32) + nI a = nI (200 + a) := nI_add 200 a
theorem v200_mul (a : Nat) : nI a * (200 : Int32) = nI (a * 200) := pk_mul a 200
theorem v200_lum (a : Nat) : (200 : Int32) * nI a = nI (200 * a) := pk_mul 200 a
theorem v200_sub {a : Nat} (h : 200 ≤ a) : nI a - (200 : Int32) = nI (a - 200) := nI_sub h
theorem v200_bad {n : Nat} (h : 200 < n) (hn : n < 2 ^ 31) : am_bad (200 : Int32) n = False := eq_false (nI_in (c := 200) h hn)
theorem v200_cl : ((200 : Int32)).toNatClampNeg = 200 := by decide +kernel
theorem v255_ltT {a : Nat} (h : a < 255) : (nI a < (255 : Int32)) = True := eq_true (nI_lt h (by decide))
theorem v255_ltF {a : Nat} (h : 255 ≤ a) (ha : a < 2 ^ 31) : (nI a < (255 : Int32)) = False := eq_false (nI_nlt (b := 255) h ha)
theorem v255_gtT {a : Nat} (h : 255 < a) (ha : a < 2 ^ 31) : ((255 : Int32) < nI a) = True := eq_true (nI_lt (a := 255) h ha)
theorem v255_gtF {a : Nat} (h : a ≤ 255) : ((255 : Int32) < nI a) = False := eq_false (nI_nlt (a := 255) h (by decide))
theorem v255_leT {a : Nat} (h : a ≤ 255) : (nI a ≤ (255 : Int32)) = True := eq_true (nI_le (b := 255) h (by decide))
theorem v255_leF {a : Nat} (h : 255 < a) (ha : a < 2 ^ 31) : (nI a ≤ (255 : Int32)) = False := eq_false (nI_ge (a := 255) h ha)
theorem v255_geT {a : Nat} (h : 255 ≤ a) (ha : a < 2 ^ 31) : ((255 : Int32) ≤ nI a) = True := eq_true (nI_le (a := 255) h ha)
theorem v255_geF {a : Nat} (h : a < 255) : ((255 : Int32) ≤ nI a) = False := eq_false (nI_ge (b := 255) h (by decide))
theorem v255_eqT {a : Nat} (h : a = 255) : (nI a = (255 : Int32)) = True := eq_true (congrArg nI h)
theorem v255_eqF {a : Nat} (h : a ≠ 255) (ha : a < 2 ^ 31) : (nI a = (255 : Int32)) = False := eq_false (fun e => h ((nI_eq (b := 255) ha (by decide)).mp e))
theorem v255_add (a : Nat) : nI a + (255 : Int32) = nI (a + 255) := nI_add a 255
theorem v255_dda (a : Nat) : (255 : Int32) + nI a = nI (255 + a) := nI_add 255 a
theorem v255_mul (a : Nat) : nI a * (255 : Int32) = nI (a * 255) := pk_mul a 255
theorem v255_lum (a : Nat) : (255 : Int32) * nI a = nI (255 * a) := pk_mul 255 a
theorem v255_sub {a : Nat} (h : 255 ≤ a) : nI a - (255 : Int32) = nI (a - 255) := nI_sub h
theorem v255_bad {n : Nat} (h : 255 < n) (hn : n < 2 ^ 31) : am_bad (255 : Int32) n = False := eq_false (nI_in (c := 255) h hn)
theorem v255_cl : ((255 : Int32)).toNatClampNeg = 255 := by decide +kernel
theorem v256_ltT {a : Nat} (h : a < 256) : (nI a < (256 : Int32)) = True := eq_true (nI_lt h (by decide))
theorem v256_ltF {a : Nat} (h : 256 ≤ a) (ha : a < 2 ^ 31) : (nI a < (256 : Int32)) = False := eq_false (nI_nlt (b := 256) h ha)
theorem v256_gtT {a : Nat} (h : 256 < a) (ha : a < 2 ^ 31) : ((256 : Int32) < nI a) = True := eq_true (nI_lt (a := 256) h ha)
theorem v256_gtF {a : Nat} (h : a ≤ 256) : ((256 : Int32) < nI a) = False := eq_false (nI_nlt (a := 256) h (by decide))
theorem v256_leT {a : Nat} (h : a ≤ 256) : (nI a ≤ (256 : Int32)) = True := eq_true (nI_le (b := 256) h (by decide))
theorem v256_leF {a : Nat} (h : 256 < a) (ha : a < 2 ^ 31) : (nI a ≤ (256 : Int32)) = False := eq_false (nI_ge (a := 256) h ha)
theorem v256_geT {a : Nat} (h : 256 ≤ a) (ha : a < 2 ^ 31) : ((256 : Int32) ≤ nI a) = True := eq_true (nI_le (a := 256) h ha)
theorem v256_geF {a : Nat} (h : a < 256) : ((256 : Int32) ≤ nI a) = False := eq_false (nI_ge (b := 256) h (by decide))
theorem v256_eqT {a : Nat} (h : a = 256) : (nI a = (256 : Int32)) = True := eq_true (congrArg nI h)
theorem v256_eqF {a : Nat} (h : a ≠ 256) (ha : a < 2 ^ 31) : (nI a = (256 : Int32)) = False := eq_false (fun e => h ((nI_eq (b := 256) ha (by decide)).mp e))
theorem v256_add (a : Nat) : nI a + (256 : Int32) = nI (a + 256) := nI_add a 256
theorem v256_dda (a : Nat) : (256 : Int32) + nI a = nI (256 + a) := nI_add 256 a
theorem v256_mul (a : Nat) : nI a * (256 : Int32) = nI (a * 256) := pk_mul a 256
theorem v256_lum (a : Nat) : (256 : Int32) * nI a = nI (256 * a) := pk_mul 256 a
theorem v256_sub {a : Nat} (h : 256 ≤ a) : nI a - (256 : Int32) = nI (a - 256) := nI_sub h
theorem v256_bad {n : Nat} (h : 256 < n) (hn : n < 2 ^ 31) : am_bad (256 : Int32) n = False := eq_false (nI_in (c := 256) h hn)
theorem v256_cl : ((256 : Int32)).toNatClampNeg = 256 := by decide +kernel
theorem v257_ltT {a : Nat} (h : a < 257) : (nI a < (257 : Int32)) = True := eq_true (nI_lt h (by decide))
theorem v257_ltF {a : Nat} (h : 257 ≤ a) (ha : a < 2 ^ 31) : (nI a < (257 : Int32)) = False := eq_false (nI_nlt (b := 257) h ha)
theorem v257_gtT {a : Nat} (h : 257 < a) (ha : a < 2 ^ 31) : ((257 : Int32) < nI a) = True := eq_true (nI_lt (a := 257) h ha)
theorem v257_gtF {a : Nat} (h : a ≤ 257) : ((257 : Int32) < nI a) = False := eq_false (nI_nlt (a := 257) h (by decide))
theorem v257_leT {a : Nat} (h : a ≤ 257) : (nI a ≤ (257 : Int32)) = True := eq_true (nI_le (b := 257) h (by decide))
theorem v257_leF {a : Nat} (h : 257 < a) (ha : a < 2 ^ 31) : (nI a ≤ (257 : Int32)) = False := eq_false (nI_ge (a := 257) h ha)
theorem v257_geT {a : Nat} (h : 257 ≤ a) (ha : a < 2 ^ 31) : ((257 : Int32) ≤ nI a) = True := eq_true (nI_le (a := 257) h ha)
theorem v257_geF {a : Nat} (h : a < 257) : ((257 : Int32) ≤ nI a) = False := eq_false (nI_ge (b := 257) h (by decide))
theorem v257_eqT {a : Nat} (h : a = 257) : (nI a = (257 : Int32)) = True := eq_true (congrArg nI h)
theorem v257_eqF {a : Nat} (h : a ≠ 257) (ha : a < 2 ^ 31) : (nI a = (257 : Int32)) = False := eq_false (fun e => h ((nI_eq (b := 257) ha (by decide)).mp e))
theorem v257_add (a : Nat) : nI a + (257 : Int32) = nI (a + 257) := nI_add a 257
theorem v257_dda (a : Nat) : (257 : Int32) + nI a = nI (257 + a) := nI_add 257 a
theorem v257_mul (a : Nat) : nI a * (257 : Int32) = nI (a * 257) := pk_mul a 257
theorem v257_lum (a : Nat) : (257 : Int32) * nI a = nI (257 * a) := pk_mul 257 a
theorem v257_sub {a : Nat} (h : 257 ≤ a) : nI a - (257 : Int32) = nI (a - 257) := nI_sub h
theorem v257_bad {n : Nat} (h : 257 < n) (hn : n < 2 ^ 31) : am_bad (257 : Int32) n = False := eq_false (nI_in (c := 257) h hn)
theorem v257_cl : ((257 : Int32)).toNatClampNeg = 257 := by decide +kernel
theorem v258_ltT {a : Nat} (h : a < 258) : (nI a < (258 : Int32)) = True := eq_true (nI_lt h (by decide))
theorem v258_ltF {a : Nat} (h : 258 ≤ a) (ha : a < 2 ^ 31) : (nI a < (258 : Int32)) = False := eq_false (nI_nlt (b := 258) h ha)
theorem v258_gtT {a : Nat} (h : 258 < a) (ha : a < 2 ^ 31) : ((258 : Int32) < nI a) = True := eq_true (nI_lt (a := 258) h ha)
theorem v258_gtF {a : Nat} (h : a ≤ 258) : ((258 : Int32) < nI a) = False := eq_false (nI_nlt (a := 258) h (by decide))
theorem v258_leT {a : Nat} (h : a ≤ 258) : (nI a ≤ (258 : Int32)) = True := eq_true (nI_le (b := 258) h (by decide))
theorem v258_leF {a : Nat} (h : 258 < a) (ha : a < 2 ^ 31) : (nI a ≤ (258 : Int32)) = False := eq_false (nI_ge (a := 258) h ha)
theorem v258_geT {a : Nat} (h : 258 ≤ a) (ha : a < 2 ^ 31) : ((258 : Int32) ≤ nI a) = True := eq_true (nI_le (a := 258) h ha)
theorem v258_geF {a : Nat} (h : a < 258) : ((258 : Int32) ≤ nI a) = False := eq_false (nI_ge (b := 258) h (by decide))
theorem v258_eqT {a : Nat} (h : a = 258) : (nI a = (258 : Int32)) = True := eq_true (congrArg nI h)
theorem v258_eqF {a : Nat} (h : a ≠ 258) (ha : a < 2 ^ 31) : (nI a = (258 : Int32)) = False := eq_false (fun e => h ((nI_eq (b := 258) ha (by decide)).mp e))
theorem v258_add (a : Nat) : nI a + (258 : Int32) = nI (a + 258) := nI_add a 258
theorem v258_dda (a : Nat) : (258 : Int32) + nI a = nI (258 + a) := nI_add 258 a
theorem v258_mul (a : Nat) : nI a * (258 : Int32) = nI (a * 258) := pk_mul a 258
theorem v258_lum (a : Nat) : (258 : Int32) * nI a = nI (258 * a) := pk_mul 258 a
theorem v258_sub {a : Nat} (h : 258 ≤ a) : nI a - (258 : Int32) = nI (a - 258) := nI_sub h
theorem v258_bad {n : Nat} (h : 258 < n) (hn : n < 2 ^ 31) : am_bad (258 : Int32) n = False := eq_false (nI_in (c := 258) h hn)
theorem v258_cl : ((258 : Int32)).toNatClampNeg = 258 := by decide +kernel
theorem v259_ltT {a : Nat} (h : a < 259) : (nI a < (259 : Int32)) = True := eq_true (nI_lt h (by decide))
theorem v259_ltF {a : Nat} (h : 259 ≤ a) (ha : a < 2 ^ 31) : (nI a < (259 : Int32)) = False := eq_false (nI_nlt (b := 259) h ha)
theorem v259_gtT {a : Nat} (h : 259 < a) (ha : a < 2 ^ 31) : ((259 : Int32) < nI a) = True := eq_true (nI_lt (a := 259) h ha)
theorem v259_gtF {a : Nat} (h : a ≤ 259) : ((259 : Int32) < nI a) = False := eq_false (nI_nlt (a := 259) h (by decide))
theorem v259_leT {a : Nat} (h : a ≤ 259) : (nI a ≤ (259 : Int32)) = True := eq_true (nI_le (b := 259) h (by decide))
theorem v259_leF {a : Nat} (h : 259 < a) (ha : a < 2 ^ 31) : (nI a ≤ (259 : Int32)) = False := eq_false (nI_ge (a := 259) h ha)
theorem v259_geT {a : Nat} (h : 259 ≤ a) (ha : a < 2 ^ 31) : ((259 : Int32) ≤ nI a) = True := eq_true (nI_le (a := 259) h ha)
theorem v259_geF {a : Nat} (h : a < 259) : ((259 : Int32) ≤ nI a) = False := eq_false (nI_ge (b := 259) h (by decide))
theorem v259_eqT {a : Nat} (h : a = 259) : (nI a = (259 : Int32)) = True := eq_true (congrArg nI h)
theorem v259_eqF {a : Nat} (h : a ≠ 259) (ha : a < 2 ^ 31) : (nI a = (259 : Int32)) = False := eq_false (fun e => h ((nI_eq (b := 259) ha (by decide)).mp e))
theorem v259_add (a : Nat) : nI a + (259 : Int32) = nI (a + 259) := nI_add a 259
theorem v259_dda (a : Nat) : (259 : Int32) + nI a = nI (259 + a) := nI_add 259 a
theorem v259_mul (a : Nat) : nI a * (259 : Int32) = nI (a * 259) := pk_mul a 259
theorem v259_lum (a : Nat) : (259 : Int32) * nI a = nI (259 * a) := pk_mul 259 a
theorem v259_sub {a : Nat} (h : 259 ≤ a) : nI a - (259 : Int32) = nI (a - 259) := nI_sub h
theorem v259_bad {n : Nat} (h : 259 < n) (hn : n < 2 ^ 31) : am_bad (259 : Int32) n = False := eq_false (nI_in (c := 259) h hn)
theorem v259_cl : ((259 : Int32)).toNatClampNeg = 259 := by decide +kernel
theorem v260_ltT {a : Nat} (h : a < 260) : (nI a < (260 : Int32)) = True := eq_true (nI_lt h (by decide))
theorem v260_ltF {a : Nat} (h : 260 ≤ a) (ha : a < 2 ^ 31) : (nI a < (260 : Int32)) = False := eq_false (nI_nlt (b := 260) h ha)
theorem v260_gtT {a : Nat} (h : 260 < a) (ha : a < 2 ^ 31) : ((260 : Int32) < nI a) = True := eq_true (nI_lt (a := 260) h ha)
theorem v260_gtF {a : Nat} (h : a ≤ 260) : ((260 : Int32) < nI a) = False := eq_false (nI_nlt (a := 260) h (by decide))
theorem v260_leT {a : Nat} (h : a ≤ 260) : (nI a ≤ (260 : Int32)) = True := eq_true (nI_le (b := 260) h (by decide))
theorem v260_leF {a : Nat} (h : 260 < a) (ha : a < 2 ^ 31) : (nI a ≤ (260 : Int32)) = False := eq_false (nI_ge (a := 260) h ha)
theorem v260_geT {a : Nat} (h : 260 ≤ a) (ha : a < 2 ^ 31) : ((260 : Int32) ≤ nI a) = True := eq_true (nI_le (a := 260) h ha)
theorem v260_geF {a : Nat} (h : a < 260) : ((260 : Int32) ≤ nI a) = False := eq_false (nI_ge (b := 260) h (by decide))
theorem v260_eqT {a : Nat} (h : a = 260) : (nI a = (260 : Int32)) = True := eq_true (congrArg nI h)
theorem v260_eqF {a : Nat} (h : a ≠ 260) (ha : a < 2 ^ 31) : (nI a = (260 : Int32)) = False := eq_false (fun e => h ((nI_eq (b := 260) ha (by decide)).mp e))
theorem v260_add (a : Nat) : nI a + (260 : Int32) = nI (a + 260) := nI_add a 260
theorem v260_dda (a : Nat) : (260 : Int32) + nI a = nI (260 + a) := nI_add 260 a
theorem v260_mul (a : Nat) : nI a * (260 : Int32) = nI (a * 260) := pk_mul a 260
theorem v260_lum (a : Nat) : (260 : Int32) * nI a = nI (260 * a) := pk_mul 260 a
theorem v260_sub {a : Nat} (h : 260 ≤ a) : nI a - (260 : Int32) = nI (a - 260) := nI_sub h
theorem v260_bad {n : Nat} (h : 260 < n) (hn : n < 2 ^ 31) : am_bad (260 : Int32) n = False := eq_false (nI_in (c := 260) h hn)
theorem v260_cl : ((260 : Int32)).toNatClampNeg = 260 := by decide +kernel
theorem v261_ltT {a : Nat} (h : a < 261) : (nI a < (261 : Int32)) = True := eq_true (nI_lt h (by decide))
theorem v261_ltF {a : Nat} (h : 261 ≤ a) (ha : a < 2 ^ 31) : (nI a < (261 : Int32)) = False := eq_false (nI_nlt (b := 261) h ha)
theorem v261_gtT {a : Nat} (h : 261 < a) (ha : a < 2 ^ 31) : ((261 : Int32) < nI a) = True := eq_true (nI_lt (a := 261) h ha)
theorem v261_gtF {a : Nat} (h : a ≤ 261) : ((261 : Int32) < nI a) = False := eq_false (nI_nlt (a := 261) h (by decide))
theorem v261_leT {a : Nat} (h : a ≤ 261) : (nI a ≤ (261 : Int32)) = True := eq_true (nI_le (b := 261) h (by decide))
theorem v261_leF {a : Nat} (h : 261 < a) (ha : a < 2 ^ 31) : (nI a ≤ (261 : Int32)) = False := eq_false (nI_ge (a := 261) h ha)
theorem v261_geT {a : Nat} (h : 261 ≤ a) (ha : a < 2 ^ 31) : ((261 : Int32) ≤ nI a) = True := eq_true (nI_le (a := 261) h ha)
theorem v261_geF {a : Nat} (h : a < 261) : ((261 : Int32) ≤ nI a) = False := eq_false (nI_ge (b := 261) h (by decide))
theorem v261_eqT {a : Nat} (h : a = 261) : (nI a = (261 : Int32)) = True := eq_true (congrArg nI h)
theorem v261_eqF {a : Nat} (h : a ≠ 261) (ha : a < 2 ^ 31) : (nI a = (261 : Int32)) = False := eq_false (fun e => h ((nI_eq (b := 261) ha (by decide)).mp e))
theorem v261_add (a : Nat) : nI a + (261 : Int32) = nI (a + 261) := nI_add a 261
theorem v261_dda (a : Nat) : (261 : Int32) + nI a = nI (261 + a) := nI_add 261 a
theorem v261_mul (a : Nat) : nI a * (261 : Int32) = nI (a * 261) := pk_mul a 261
theorem v261_lum (a : Nat) : (261 : Int32) * nI a = nI (261 * a) := pk_mul 261 a
theorem v261_sub {a : Nat} (h : 261 ≤ a) : nI a - (261 : Int32) = nI (a - 261) := nI_sub h
theorem v261_bad {n : Nat} (h : 261 < n) (hn : n < 2 ^ 31) : am_bad (261 : Int32) n = False := eq_false (nI_in (c := 261) h hn)
theorem v261_cl : ((261 : Int32)).toNatClampNeg = 261 := by decide +kernel
theorem v262_ltT {a : Nat} (h : a < 262) : (nI a < (262 : Int32)) = True := eq_true (nI_lt h (by decide))
theorem v262_ltF {a : Nat} (h : 262 ≤ a) (ha : a < 2 ^ 31) : (nI a < (262 : Int32)) = False := eq_false (nI_nlt (b := 262) h ha)
theorem v262_gtT {a : Nat} (h : 262 < a) (ha : a < 2 ^ 31) : ((262 : Int32) < nI a) = True := eq_true (nI_lt (a := 262) h ha)
theorem v262_gtF {a : Nat} (h : a ≤ 262) : ((262 : Int32) < nI a) = False := eq_false (nI_nlt (a := 262) h (by decide))
theorem v262_leT {a : Nat} (h : a ≤ 262) : (nI a ≤ (262 : Int32)) = True := eq_true (nI_le (b := 262) h (by decide))
theorem v262_leF {a : Nat} (h : 262 < a) (ha : a < 2 ^ 31) : (nI a ≤ (262 : Int32)) = False := eq_false (nI_ge (a := 262) h ha)
theorem v262_geT {a : Nat} (h : 262 ≤ a) (ha : a < 2 ^ 31) : ((262 : Int32) ≤ nI a) = True := eq_true (nI_le (a := 262) h ha)
theorem v262_geF {a : Nat} (h : a < 262) : ((262 : Int32) ≤ nI a) = False := eq_false (nI_ge (b := 262) h (by decide))
theorem v262_eqT {a : Nat} (h : a = 262) : (nI a = (262 : Int32)) = True := eq_true (congrArg nI h)
theorem v262_eqF {a : Nat} (h : a ≠ 262) (ha : a < 2 ^ 31) : (nI a = (262 : Int32)) = False := eq_false (fun e => h ((nI_eq (b := 262) ha (by decide)).mp e))
theorem v262_add (a : Nat) : nI a + (262 : Int32) = nI (a + 262) := nI_add a 262
theorem v262_dda (a : Nat) : (262 : Int32) + nI a = nI (262 + a) := nI_add 262 a
theorem v262_mul (a : Nat) : nI a * (262 : Int32) = nI (a * 262) := pk_mul a 262
theorem v262_lum (a : Nat) : (262 : Int32) * nI a = nI (262 * a) := pk_mul 262 a
theorem v262_sub {a : Nat} (h : 262 ≤ a) : nI a - (262 : Int32) = nI (a - 262) := nI_sub h
theorem v262_bad {n : Nat} (h : 262 < n) (hn : n < 2 ^ 31) : am_bad (262 : Int32) n = False := eq_false (nI_in (c := 262) h hn)
theorem v262_cl : ((262 : Int32)).toNatClampNeg = 262 := by decide +kernel
theorem v263_ltT {a : Nat} (h : a < 263) : (nI a < (263 : Int32)) = True := eq_true (nI_lt h (by decide))
theorem v263_ltF {a : Nat} (h : 263 ≤ a) (ha : a < 2 ^ 31) : (nI a < (263 : Int32)) = False := eq_false (nI_nlt (b := 263) h ha)
theorem v263_gtT {a : Nat} (h : 263 < a) (ha : a < 2 ^ 31) : ((263 : Int32) < nI a) = True := eq_true (nI_lt (a := 263) h ha)
theorem v263_gtF {a : Nat} (h : a ≤ 263) : ((263 : Int32) < nI a) = False := eq_false (nI_nlt (a := 263) h (by decide))
theorem v263_leT {a : Nat} (h : a ≤ 263) : (nI a ≤ (263 : Int32)) = True := eq_true (nI_le (b := 263) h (by decide))
theorem v263_leF {a : Nat} (h : 263 < a) (ha : a < 2 ^ 31) : (nI a ≤ (263 : Int32)) = False := eq_false (nI_ge (a := 263) h ha)
theorem v263_geT {a : Nat} (h : 263 ≤ a) (ha : a < 2 ^ 31) : ((263 : Int32) ≤ nI a) = True := eq_true (nI_le (a := 263) h ha)
theorem v263_geF {a : Nat} (h : a < 263) : ((263 : Int32) ≤ nI a) = False := eq_false (nI_ge (b := 263) h (by decide))
theorem v263_eqT {a : Nat} (h : a = 263) : (nI a = (263 : Int32)) = True := eq_true (congrArg nI h)
theorem v263_eqF {a : Nat} (h : a ≠ 263) (ha : a < 2 ^ 31) : (nI a = (263 : Int32)) = False := eq_false (fun e => h ((nI_eq (b := 263) ha (by decide)).mp e))
theorem v263_add (a : Nat) : nI a + (263 : Int32) = nI (a + 263) := nI_add a 263
theorem v263_dda (a : Nat) : (263 : Int32) + nI a = nI (263 + a) := nI_add 263 a
theorem v263_mul (a : Nat) : nI a * (263 : Int32) = nI (a * 263) := pk_mul a 263
theorem v263_lum (a : Nat) : (263 : Int32) * nI a = nI (263 * a) := pk_mul 263 a
theorem v263_sub {a : Nat} (h : 263 ≤ a) : nI a - (263 : Int32) = nI (a - 263) := nI_sub h
theorem v263_bad {n : Nat} (h : 263 < n) (hn : n < 2 ^ 31) : am_bad (263 : Int32) n = False := eq_false (nI_in (c := 263) h hn)
theorem v263_cl : ((263 : Int32)).toNatClampNeg = 263 := by decide +kernel
theorem v264_ltT {a : Nat} (h : a < 264) : (nI a < (264 : Int32)) = True := eq_true (nI_lt h (by decide))
theorem v264_ltF {a : Nat} (h : 264 ≤ a) (ha : a < 2 ^ 31) : (nI a < (264 : Int32)) = False := eq_false (nI_nlt (b := 264) h ha)
theorem v264_gtT {a : Nat} (h : 264 < a) (ha : a < 2 ^ 31) : ((264 : Int32) < nI a) = True := eq_true (nI_lt (a := 264) h ha)
theorem v264_gtF {a : Nat} (h : a ≤ 264) : ((264 : Int32) < nI a) = False := eq_false (nI_nlt (a := 264) h (by decide))
theorem v264_leT {a : Nat} (h : a ≤ 264) : (nI a ≤ (264 : Int32)) = True := eq_true (nI_le (b := 264) h (by decide))
theorem v264_leF {a : Nat} (h : 264 < a) (ha : a < 2 ^ 31) : (nI a ≤ (264 : Int32)) = False := eq_false (nI_ge (a := 264) h ha)
theorem v264_geT {a : Nat} (h : 264 ≤ a) (ha : a < 2 ^ 31) : ((264 : Int32) ≤ nI a) = True := eq_true (nI_le (a := 264) h ha)
theorem v264_geF {a : Nat} (h : a < 264) : ((264 : Int32) ≤ nI a) = False := eq_false (nI_ge (b := 264) h (by decide))
theorem v264_eqT {a : Nat} (h : a = 264) : (nI a = (264 : Int32)) = True := eq_true (congrArg nI h)
theorem v264_eqF {a : Nat} (h : a ≠ 264) (ha : a < 2 ^ 31) : (nI a = (264 : Int32)) = False := eq_false (fun e => h ((nI_eq (b := 264) ha (by decide)).mp e))
theorem v264_add (a : Nat) : nI a + (264 : Int32) = nI (a + 264) := nI_add a 264
theorem v264_dda (a : Nat) : (264 : Int32) + nI a = nI (264 + a) := nI_add 264 a
theorem v264_mul (a : Nat) : nI a * (264 : Int32) = nI (a * 264) := pk_mul a 264
theorem v264_lum (a : Nat) : (264 : Int32) * nI a = nI (264 * a) := pk_mul 264 a
theorem v264_sub {a : Nat} (h : 264 ≤ a) : nI a - (264 : Int32) = nI (a - 264) := nI_sub h
theorem v264_bad {n : Nat} (h : 264 < n) (hn : n < 2 ^ 31) : am_bad (264 : Int32) n = False := eq_false (nI_in (c := 264) h hn)
theorem v264_cl : ((264 : Int32)).toNatClampNeg = 264 := by decide +kernel
theorem v265_ltT {a : Nat} (h : a < 265) : (nI a < (265 : Int32)) = True := eq_true (nI_lt h (by decide))
theorem v265_ltF {a : Nat} (h : 265 ≤ a) (ha : a < 2 ^ 31) : (nI a < (265 : Int32)) = False := eq_false (nI_nlt (b := 265) h ha)
theorem v265_gtT {a : Nat} (h : 265 < a) (ha : a < 2 ^ 31) : ((265 : Int32) < nI a) = True := eq_true (nI_lt (a := 265) h ha)
theorem v265_gtF {a : Nat} (h : a ≤ 265) : ((265 : Int32) < nI a) = False := eq_false (nI_nlt (a := 265) h (by decide))
theorem v265_leT {a : Nat} (h : a ≤ 265) : (nI a ≤ (265 : Int32)) = True := eq_true (nI_le (b := 265) h (by decide))
theorem v265_leF {a : Nat} (h : 265 < a) (ha : a < 2 ^ 31) : (nI a ≤ (265 : Int32)) = False := eq_false (nI_ge (a := 265) h ha)
theorem v265_geT {a : Nat} (h : 265 ≤ a) (ha : a < 2 ^ 31) : ((265 : Int32) ≤ nI a) = True := eq_true (nI_le (a := 265) h ha)
theorem v265_geF {a : Nat} (h : a < 265) : ((265 : Int32) ≤ nI a) = False := eq_false (nI_ge (b := 265) h (by decide))
theorem v265_eqT {a : Nat} (h : a = 265) : (nI a = (265 : Int32)) = True := eq_true (congrArg nI h)
theorem v265_eqF {a : Nat} (h : a ≠ 265) (ha : a < 2 ^ 31) : (nI a = (265 : Int32)) = False := eq_false (fun e => h ((nI_eq (b := 265) ha (by decide)).mp e))
theorem v265_add (a : Nat) : nI a + (265 : Int32) = nI (a + 265) := nI_add a 265
theorem v265_dda (a : Nat) : (265 : Int32) + nI a = nI (265 + a) := nI_add 265 a
theorem v265_mul (a : Nat) : nI a * (265 : Int32) = nI (a * 265) := pk_mul a 265
theorem v265_lum (a : Nat) : (265 : Int32) * nI a = nI (265 * a) := pk_mul 265 a
theorem v265_sub {a : Nat} (h : 265 ≤ a) : nI a - (265 : Int32) = nI (a - 265) := nI_sub h
theorem v265_bad {n : Nat} (h : 265 < n) (hn : n < 2 ^ 31) : am_bad (265 : Int32) n = False := eq_false (nI_in (c := 265) h hn)
theorem v265_cl : ((265 : Int32)).toNatClampNeg = 265 := by decide +kernel
theorem v266_ltT {a : Nat} (h : a < 266) : (nI a < (266 : Int32)) = True := eq_true (nI_lt h (by decide))
theorem v266_ltF {a : Nat} (h : 266 ≤ a) (ha : a < 2 ^ 31) : (nI a < (266 : Int32)) = False := eq_false (nI_nlt (b := 266) h ha)
theorem v266_gtT {a : Nat} (h : 266 < a) (ha : a < 2 ^ 31) : ((266 : Int32) < nI a) = True := eq_true (nI_lt (a := 266) h ha)
theorem v266_gtF {a : Nat} (h : a ≤ 266) : ((266 : Int32) < nI a) = False := eq_false (nI_nlt (a := 266) h (by decide))
theorem v266_leT {a : Nat} (h : a ≤ 266) : (nI a ≤ (266 : Int32)) = True := eq_true (nI_le (b := 266) h (by decide))
theorem v266_leF {a : Nat} (h : 266 < a) (ha : a < 2 ^ 31) : (nI a ≤ (266 : Int32)) = False := eq_false (nI_ge (a := 266) h ha)
theorem v266_geT {a : Nat} (h : 266 ≤ a) (ha : a < 2 ^ 31) : ((266 : Int32) ≤ nI a) = True := eq_true (nI_le (a := 266) h ha)
theorem v266_geF {a : Nat} (h : a < 266) : ((266 : Int32) ≤ nI a) = False := eq_false (nI_ge (b := 266) h (by decide))
theorem v266_eqT {a : Nat} (h : a = 266) : (nI a = (266 : Int32)) = True := eq_true (congrArg nI h)
theorem v266_eqF {a : Nat} (h : a ≠ 266) (ha : a < 2 ^ 31) : (nI a = (266 : Int32)) = False := eq_false (fun e => h ((nI_eq (b := 266) ha (by decide)).mp e))
theorem v266_add (a : Nat) : nI a + (266 : Int32) = nI (a + 266) := nI_add a 266
theorem v266_dda (a : Nat) : (266 : Int32) + nI a = nI (266 + a) := nI_add 266 a
theorem v266_mul (a : Nat) : nI a * (266 : Int32) = nI (a * 266) := pk_mul a 266
theorem v266_lum (a : Nat) : (266 : Int32) * nI a = nI (266 * a) := pk_mul 266 a
theorem v266_sub {a : Nat} (h : 266 ≤ a) : nI a - (266 : Int32) = nI (a - 266) := nI_sub h
theorem v266_bad {n : Nat} (h : 266 < n) (hn : n < 2 ^ 31) : am_bad (266 : Int32) n = False := eq_false (nI_in (c := 266) h hn)
theorem v266_cl : ((266 : Int32)).toNatClampNeg = 266 := by decide +kernel
theorem v400_ltT {a : Nat} (h : a < 400) : (nI a < (400 : Int32)) = True := eq_true (nI_lt h (by decide))
theorem v400_ltF {a : Nat} (h : 400 ≤ a) (ha : a < 2 ^ 31) : (nI a < (400 : Int32)) = False := eq_false (nI_nlt (b := 400) h ha)
theorem v400_gtT {a : Nat} (h : 400 < a) (ha : a < 2 ^ 31) : ((400 : Int32) < nI a) = True := eq_true (nI_lt (a := 400) h ha)
theorem v400_gtF {a : Nat} (h : a ≤ 400) : ((400 : Int32) < nI a) = False := eq_false (nI_nlt (a := 400) h (by decide))
theorem v400_leT {a : Nat} (h : a ≤ 400) : (nI a ≤ (400 : Int32)) = True := eq_true (nI_le (b := 400) h (by decide))
theorem v400_leF {a : Nat} (h : 400 < a) (ha : a < 2 ^ 31) : (nI a ≤ (400 : Int32)) = False := eq_false (nI_ge (a := 400) h ha)
theorem v400_geT {a : Nat} (h : 400 ≤ a) (ha : a < 2 ^ 31) : ((400 : Int32) ≤ nI a) = True := eq_true (nI_le (a := 400) h ha)
theorem v400_geF {a : Nat} (h : a < 400) : ((400 : Int32) ≤ nI a) = False := eq_false (nI_ge (b := 400) h (by decide))
theorem v400_eqT {a : Nat} (h : a = 400) : (nI a = (400 : Int32)) = True := eq_true (congrArg nI h)
theorem v400_eqF {a : Nat} (h : a ≠ 400) (ha : a < 2 ^ 31) : (nI a = (400 : Int32)) = False := eq_false (fun e => h ((nI_eq (b := 400) ha (by decide)).mp e))
theorem v400_add (a : Nat) : nI a + (400 : Int32) = nI (a + 400) := nI_add a 400
theorem v400_dda (a : Nat) : (400 : Int32) + nI a = nI (400 + a) := nI_add 400 a
theorem v400_mul (a : Nat) : nI a * (400 : Int32) = nI (a * 400) := pk_mul a 400
theorem v400_lum (a : Nat) : (400 : Int32) * nI a = nI (400 * a) := pk_mul 400 a
theorem v400_sub {a : Nat} (h : 400 ≤ a) : nI a - (400 : Int32) = nI (a - 400) := nI_sub h
theorem v400_bad {n : Nat} (h : 400 < n) (hn : n < 2 ^ 31) : am_bad (400 : Int32) n = False := eq_false (nI_in (c := 400) h hn)
theorem v400_cl : ((400 : Int32)).toNatClampNeg = 400 := by decide +kernel
theorem v401_ltT {a : Nat} (h : a < 401) : (nI a < (401 : Int32)) = True := eq_true (nI_lt h (by decide))
theorem v401_ltF {a : Nat} (h : 401 ≤ a) (ha : a < 2 ^ 31) : (nI a < (401 : Int32)) = False := eq_false (nI_nlt (b := 401) h ha)
theorem v401_gtT {a : Nat} (h : 401 < a) (ha : a < 2 ^ 31) : ((401 : Int32) < nI a) = True := eq_true (nI_lt (a := 401) h ha)
theorem v401_gtF {a : Nat} (h : a ≤ 401) : ((401 : Int32) < nI a) = False := eq_false (nI_nlt (a := 401) h (by decide))
theorem v401_leT {a : Nat} (h : a ≤ 401) : (nI a ≤ (401 : Int32)) = True := eq_true (nI_le (b := 401) h (by decide))
theorem v401_leF {a : Nat} (h : 401 < a) (ha : a < 2 ^ 31) : (nI a ≤ (401 : Int32)) = False := eq_false (nI_ge (a := 401) h ha)
theorem v401_geT {a : Nat} (h : 401 ≤ a) (ha : a < 2 ^ 31) : ((401 : Int32) ≤ nI a) = True := eq_true (nI_le (a := 401) h ha)
theorem v401_geF {a : Nat} (h : a < 401) : ((401 : Int32) ≤ nI a) = False := eq_false (nI_ge (b := 401) h (by decide))
theorem v401_eqT {a : Nat} (h : a = 401) : (nI a = (401 : Int32)) = True := eq_true (congrArg nI h)
theorem v401_eqF {a : Nat} (h : a ≠ 401) (ha : a < 2 ^ 31) : (nI a = (401 : Int32)) = False := eq_false (fun e => h ((nI_eq (b := 401) ha (by decide)).mp e))
theorem v401_add (a : Nat) : nI a + (401 : Int32) = nI (a + 401) := nI_add a 401
theorem v401_dda (a : Nat) : (401 : Int32) + nI a = nI (401 + a) := nI_add 401 a
theorem v401_mul (a : Nat) : nI a * (401 : Int32) = nI (a * 401) := pk_mul a 401
theorem v401_lum (a : Nat) : (401 : Int32) * nI a = nI (401 * a) := pk_mul 401 a
theorem v401_sub {a : Nat} (h : 401 ≤ a) : nI a - (401 : Int32) = nI (a - 401) := nI_sub h
theorem v401_bad {n : Nat} (h : 401 < n) (hn : n < 2 ^ 31) : am_bad (401 : Int32) n = False := eq_false (nI_in (c := 401) h hn)
theorem v401_cl : ((401 : Int32)).toNatClampNeg = 401 := by decide +kernel
theorem v1000_ltT {a : Nat} (h : a < 1000) : (nI a < (1000 : Int32)) = True := eq_true (nI_lt h (by decide))
theorem v1000_ltF {a : Nat} (h : 1000 ≤ a) (ha : a < 2 ^ 31) : (nI a < (1000 : Int32)) = False := eq_false (nI_nlt (b := 1000) h ha)
theorem v1000_gtT {a : Nat} (h : 1000 < a) (ha : a < 2 ^ 31) : ((1000 : Int32) < nI a) = True := eq_true (nI_lt (a := 1000) h ha)
theorem v1000_gtF {a : Nat} (h : a ≤ 1000) : ((1000 : Int32) < nI a) = False := eq_false (nI_nlt (a := 1000) h (by decide))
theorem v1000_leT {a : Nat} (h : a ≤ 1000) : (nI a ≤ (1000 : Int32)) = True := eq_true (nI_le (b := 1000) h (by decide))
theorem v1000_leF {a : Nat} (h : 1000 < a) (ha : a < 2 ^ 31) : (nI a ≤ (1000 : Int32)) = False := eq_false (nI_ge (a := 1000) h ha)
theorem v1000_geT {a : Nat} (h : 1000 ≤ a) (ha : a < 2 ^ 31) : ((1000 : Int32) ≤ nI a) = True := eq_true (nI_le (a := 1000) h ha)
theorem v1000_geF {a : Nat} (h : a < 1000) : ((1000 : Int32) ≤ nI a) = False := eq_false (nI_ge (b := 1000) h (by decide))
theorem v1000_eqT {a : Nat} (h : a = 1000) : (nI a = (1000 : Int32)) = True := eq_true (congrArg nI h)
theorem v1000_eqF {a : Nat} (h : a ≠ 1000) (ha : a < 2 ^ 31) : (nI a = (1000 : Int32)) = False := eq_false (fun e => h ((nI_eq (b := 1000) ha (by decide)).mp e))
theorem v1000_add (a : Nat) : nI a + (1000 : Int32) = nI (a + 1000) := nI_add a 1000
theorem v1000_dda (a : Nat) : (1000 : Int32) + nI a = nI (1000 + a) := nI_add 1000 a
theorem v1000_mul (a : Nat) : nI a * (1000 : Int32) = nI (a * 1000) := pk_mul a 1000
theorem v1000_lum (a : Nat) : (1000 : Int32) * nI a = nI (1000 * a) := pk_mul 1000 a
theorem v1000_sub {a : Nat} (h : 1000 ≤ a) : nI a - (1000 : Int32) = nI (a - 1000) := nI_sub h
theorem v1000_bad {n : Nat} (h : 1000 < n) (hn : n < 2 ^ 31) : am_bad (1000 : Int32) n = False := eq_false (nI_in (c := 1000) h hn)
theorem v1000_cl : ((1000 : Int32)).toNatClampNeg = 1000 := by decide +kernel
theorem v2000_ltT {a : Nat} (h : a < 2000) : (nI a < (2000 : Int32)) = True := eq_true (nI_lt h (by decide))
theorem v2000_ltF {a : Nat} (h : 2000 ≤ a) (ha : a < 2 ^ 31) : (nI a < (2000 : Int32)) = False := eq_false (nI_nlt (b := 2000) h ha)
theorem v2000_gtT {a : Nat} (h : 2000 < a) (ha : a < 2 ^ 31) : ((2000 : Int32) < nI a) = True := eq_true (nI_lt (a := 2000) h ha)
theorem v2000_gtF {a : Nat} (h : a ≤ 2000) : ((2000 : Int32) < nI a) = False := eq_false (nI_nlt (a := 2000) h (by decide))
theorem v2000_leT {a : Nat} (h : a ≤ 2000) : (nI a ≤ (2000 : Int32)) = True := eq_true (nI_le (b := 2000) h (by decide))
theorem v2000_leF {a : Nat} (h : 2000 < a) (ha : a < 2 ^ 31) : (nI a ≤ (2000 : Int32)) = False := eq_false (nI_ge (a := 2000) h ha)
theorem v2000_geT {a : Nat} (h : 2000 ≤ a) (ha : a < 2 ^ 31) : ((2000 : Int32) ≤ nI a) = True := eq_true (nI_le (a := 2000) h ha)
theorem v2000_geF {a : Nat} (h : a < 2000) : ((2000 : Int32) ≤ nI a) = False := eq_false (nI_ge (b := 2000) h (by decide))
theorem v2000_eqT {a : Nat} (h : a = 2000) : (nI a = (2000 : Int32)) = True := eq_true (congrArg nI h)
theorem v2000_eqF {a : Nat} (h : a ≠ 2000) (ha : a < 2 ^ 31) : (nI a = (2000 : Int32)) = False := eq_false (fun e => h ((nI_eq (b := 2000) ha (by decide)).mp e))
theorem v2000_add (a : Nat) : nI a + (2000 : Int32) = nI (a + 2000) := nI_add a 2000
theorem v2000_dda (a : Nat) : (2000 : Int32) + nI a = nI (2000 + a) := nI_add 2000 a
theorem v2000_mul (a : Nat) : nI a * (2000 : Int32) = nI (a * 2000) := pk_mul a 2000
theorem v2000_lum (a : Nat) : (2000 : Int32) * nI a = nI (2000 * a) := pk_mul 2000 a
theorem v2000_sub {a : Nat} (h : 2000 ≤ a) : nI a - (2000 : Int32) = nI (a - 2000) := nI_sub h
theorem v2000_bad {n : Nat} (h : 2000 < n) (hn : n < 2 ^ 31) : am_bad (2000 : Int32) n = False := eq_false (nI_in (c := 2000) h hn)
theorem v2000_cl : ((2000 : Int32)).toNatClampNeg = 2000 := by decide +kernel
theorem v2001_ltT {a : Nat} (h : a < 2001) : (nI a < (2001 : Int32)) = True := eq_true (nI_lt h (by decide))
theorem v2001_ltF {a : Nat} (h : 2001 ≤ a) (ha : a < 2 ^ 31) : (nI a < (2001 : Int32)) = False := eq_false (nI_nlt (b := 2001) h ha)
theorem v2001_gtT {a : Nat} (h : 2001 < a) (ha : a < 2 ^ 31) : ((2001 : Int32) < nI a) = True := eq_true (nI_lt (a := 2001) h ha)
theorem v2001_gtF {a : Nat} (h : a ≤ 2001) : ((2001 : Int32) < nI a) = False := eq_false (nI_nlt (a := 2001) h (by decide))
theorem v2001_leT {a : Nat} (h : a ≤ 2001) : (nI a ≤ (2001 : Int32)) = True := eq_true (nI_le (b := 2001) h (by decide))
theorem v2001_leF {a : Nat} (h : 2001 < a) (ha : a < 2 ^ 31) : (nI a ≤ (2001 : Int32)) = False := eq_false (nI_ge (a := 2001) h ha)
theorem v2001_geT {a : Nat} (h : 2001 ≤ a) (ha : a < 2 ^ 31) : ((2001 : Int32) ≤ nI a) = True := eq_true (nI_le (a := 2001) h ha)
theorem v2001_geF {a : Nat} (h : a < 2001) : ((2001 : Int32) ≤ nI a) = False := eq_false (nI_ge (b := 2001) h (by decide))
theorem v2001_eqT {a : Nat} (h : a = 2001) : (nI a = (2001 : Int32)) = True := eq_true (congrArg nI h)
theorem v2001_eqF {a : Nat} (h : a ≠ 2001) (ha : a < 2 ^ 31) : (nI a = (2001 : Int32)) = False := eq_false (fun e => h ((nI_eq (b := 2001) ha (by decide)).mp e))
theorem v2001_add (a : Nat) : nI a + (2001 : Int32) = nI (a + 2001) := nI_add a 2001
theorem v2001_dda (a : Nat) : (2001 : Int32) + nI a = nI (2001 + a) := nI_add 2001 a
theorem v2001_mul (a : Nat) : nI a * (2001 : Int32) = nI (a * 2001) := pk_mul a 2001
theorem v2001_lum (a : Nat) : (2001 : Int32) * nI a = nI (2001 * a) := pk_mul 2001 a
theorem v2001_sub {a : Nat} (h : 2001 ≤ a) : nI a - (2001 : Int32) = nI (a - 2001) := nI_sub h
theorem v2001_bad {n : Nat} (h : 2001 < n) (hn : n < 2 ^ 31) : am_bad (2001 : Int32) n = False := eq_false (nI_in (c := 2001) h hn)
theorem v2001_cl : ((2001 : Int32)).toNatClampNeg = 2001 := by decide +kernel
theorem v2900_ltT {a : Nat} (h : a < 2900) : (nI a < (2900 : Int32)) = True := eq_true (nI_lt h (by decide))
theorem v2900_ltF {a : Nat} (h : 2900 ≤ a) (ha : a < 2 ^ 31) : (nI a < (2900 : Int32)) = False := eq_false (nI_nlt (b := 2900) h ha)
theorem v2900_gtT {a : Nat} (h : 2900 < a) (ha : a < 2 ^ 31) : ((2900 : Int32) < nI a) = True := eq_true (nI_lt (a := 2900) h ha)
theorem v2900_gtF {a : Nat} (h : a ≤ 2900) : ((2900 : Int32) < nI a) = False := eq_false (nI_nlt (a := 2900) h (by decide))
theorem v2900_leT {a : Nat} (h : a ≤ 2900) : (nI a ≤ (2900 : Int32)) = True := eq_true (nI_le (b := 2900) h (by decide))
theorem v2900_leF {a : Nat} (h : 2900 < a) (ha : a < 2 ^ 31) : (nI a ≤ (2900 : Int32)) = False := eq_false (nI_ge (a := 2900) h ha)
theorem v2900_geT {a : Nat} (h : 2900 ≤ a) (ha : a < 2 ^ 31) : ((2900 : Int32) ≤ nI a) = True := eq_true (nI_le (a := 2900) h ha)
theorem v2900_geF {a : Nat} (h : a < 2900) : ((2900 : Int32) ≤ nI a) = False := eq_false (nI_ge (b := 2900) h (by decide))
theorem v2900_eqT {a : Nat} (h : a = 2900) : (nI a = (2900 : Int32)) = True := eq_true (congrArg nI h)
theorem v2900_eqF {a : Nat} (h : a ≠ 2900) (ha : a < 2 ^ 31) : (nI a = (2900 : Int32)) = False := eq_false (fun e => h ((nI_eq (b := 2900) ha (by decide)).mp e))
theorem v2900_add (a : Nat) : nI a + (2900 : Int32) = nI (a + 2900) := nI_add a 2900
theorem v2900_dda (a : Nat) : (2900 : Int32) + nI a = nI (2900 + a) := nI_add 2900 a
theorem v2900_mul (a : Nat) : nI a * (2900 : Int32) = nI (a * 2900) := pk_mul a 2900
theorem v2900_lum (a : Nat) : (2900 : Int32) * nI a = nI (2900 * a) := pk_mul 2900 a
theorem v2900_sub {a : Nat} (h : 2900 ≤ a) : nI a - (2900 : Int32) = nI (a - 2900) := nI_sub h
theorem v2900_bad {n : Nat} (h : 2900 < n) (hn : n < 2 ^ 31) : am_bad (2900 : Int32) n = False := eq_false (nI_in (c := 2900) h hn)
theorem v2900_cl : ((2900 : Int32)).toNatClampNeg = 2900 := by decide +kernel
theorem v4000_ltT {a : Nat} (h : a < 4000) : (nI a < (4000 : Int32)) = True := eq_true (nI_lt h (by decide))
theorem v4000_ltF {a : Nat} (h : 4000 ≤ a) (ha : a < 2 ^ 31) : (nI a < (4000 : Int32)) = False := eq_false (nI_nlt (b := 4000) h ha)
theorem v4000_gtT {a : Nat} (h : 4000 < a) (ha : a < 2 ^ 31) : ((4000 : Int32) < nI a) = True := eq_true (nI_lt (a := 4000) h ha)
theorem v4000_gtF {a : Nat} (h : a ≤ 4000) : ((4000 : Int32) < nI a) = False := eq_false (nI_nlt (a := 4000) h (by decide))
theorem v4000_leT {a : Nat} (h : a ≤ 4000) : (nI a ≤ (4000 : Int32)) = True := eq_true (nI_le (b := 4000) h (by decide))
theorem v4000_leF {a : Nat} (h : 4000 < a) (ha : a < 2 ^ 31) : (nI a ≤ (4000 : Int32)) = False := eq_false (nI_ge (a := 4000) h ha)
theorem v4000_geT {a : Nat} (h : 4000 ≤ a) (ha : a < 2 ^ 31) : ((4000 : Int32) ≤ nI a) = True := eq_true (nI_le (a := 4000) h ha)
theorem v4000_geF {a : Nat} (h : a < 4000) : ((4000 : Int32) ≤ nI a) = False := eq_false (nI_ge (b := 4000) h (by decide))
theorem v4000_eqT {a : Nat} (h : a = 4000) : (nI a = (4000 : Int32)) = True := eq_true (congrArg nI h)
theorem v4000_eqF {a : Nat} (h : a ≠ 4000) (ha : a < 2 ^ 31) : (nI a = (4000 : Int32)) = False := eq_false (fun e => h ((nI_eq (b := 4000) ha (by decide)).mp e))
theorem v4000_add (a : Nat) : nI a + (4000 : Int32) = nI (a + 4000) := nI_add a 4000
theorem v4000_dda (a : Nat) : (4000 : Int32) + nI a = nI (4000 + a) := nI_add 4000 a
theorem v4000_mul (a : Nat) : nI a * (4000 : Int32) = nI (a * 4000) := pk_mul a 4000
theorem v4000_lum (a : Nat) : (4000 : Int32) * nI a = nI (4000 * a) := pk_mul 4000 a
theorem v4000_sub {a : Nat} (h : 4000 ≤ a) : nI a - (4000 : Int32) = nI (a - 4000) := nI_sub h
theorem v4000_bad {n : Nat} (h : 4000 < n) (hn : n < 2 ^ 31) : am_bad (4000 : Int32) n = False := eq_false (nI_in (c := 4000) h hn)
theorem v4000_cl : ((4000 : Int32)).toNatClampNeg = 4000 := by decide +kernel
theorem v5800_ltT {a : Nat} (h : a < 5800) : (nI a < (5800 : Int32)) = True := eq_true (nI_lt h (by decide))
theorem v5800_ltF {a : Nat} (h : 5800 ≤ a) (ha : a < 2 ^ 31) : (nI a < (5800 : Int32)) = False := eq_false (nI_nlt (b := 5800) h ha)
theorem v5800_gtT {a : Nat} (h : 5800 < a) (ha : a < 2 ^ 31) : ((5800 : Int32) < nI a) = True := eq_true (nI_lt (a := 5800) h ha)
theorem v5800_gtF {a : Nat} (h : a ≤ 5800) : ((5800 : Int32) < nI a) = False := eq_false (nI_nlt (a := 5800) h (by decide))
theorem v5800_leT {a : Nat} (h : a ≤ 5800) : (nI a ≤ (5800 : Int32)) = True := eq_true (nI_le (b := 5800) h (by decide))
theorem v5800_leF {a : Nat} (h : 5800 < a) (ha : a < 2 ^ 31) : (nI a ≤ (5800 : Int32)) = False := eq_false (nI_ge (a := 5800) h ha)
theorem v5800_geT {a : Nat} (h : 5800 ≤ a) (ha : a < 2 ^ 31) : ((5800 : Int32) ≤ nI a) = True := eq_true (nI_le (a := 5800) h ha)
theorem v5800_geF {a : Nat} (h : a < 5800) : ((5800 : Int32) ≤ nI a) = False := eq_false (nI_ge (b := 5800) h (by decide))
theorem v5800_eqT {a : Nat} (h : a = 5800) : (nI a = (5800 : Int32)) = True := eq_true (congrArg nI h)
theorem v5800_eqF {a : Nat} (h : a ≠ 5800) (ha : a < 2 ^ 31) : (nI a = (5800 : Int32)) = False := eq_false (fun e => h ((nI_eq (b := 5800) ha (by decide)).mp e))
theorem v5800_add (a : Nat) : nI a + (5800 : Int32) = nI (a + 5800) := nI_add a 5800
theorem v5800_dda (a : Nat) : (5800 : Int32) + nI a = nI (5800 + a) := nI_add 5800 a
theorem v5800_mul (a : Nat) : nI a * (5800 : Int32) = nI (a * 5800) := pk_mul a 5800
theorem v5800_lum (a : Nat) : (5800 : Int32) * nI a = nI (5800 * a) := pk_mul 5800 a
theorem v5800_sub {a : Nat} (h : 5800 ≤ a) : nI a - (5800 : Int32) = nI (a - 5800) := nI_sub h
theorem v5800_bad {n : Nat} (h : 5800 < n) (hn : n < 2 ^ 31) : am_bad (5800 : Int32) n = False := eq_false (nI_in (c := 5800) h hn)
theorem v5800_cl : ((5800 : Int32)).toNatClampNeg = 5800 := by decide +kernel
theorem v10000_ltT {a : Nat} (h : a < 10000) : (nI a < (10000 : Int32)) = True := eq_true (nI_lt h (by decide))
theorem v10000_ltF {a : Nat} (h : 10000 ≤ a) (ha : a < 2 ^ 31) : (nI a < (10000 : Int32)) = False := eq_false (nI_nlt (b := 10000) h ha)
theorem v10000_gtT {a : Nat} (h : 10000 < a) (ha : a < 2 ^ 31) : ((10000 : Int32) < nI a) = True := eq_true (nI_lt (a := 10000) h ha)
theorem v10000_gtF {a : Nat} (h : a ≤ 10000) : ((10000 : Int32) < nI a) = False := eq_false (nI_nlt (a := 10000) h (by decide))
theorem v10000_leT {a : Nat} (h : a ≤ 10000) : (nI a ≤ (10000 : Int32)) = True := eq_true (nI_le (b := 10000) h (by decide))
theorem v10000_leF {a : Nat} (h : 10000 < a) (ha : a < 2 ^ 31) : (nI a ≤ (10000 : Int32)) = False := eq_false (nI_ge (a := 10000) h ha)
theorem v10000_geT {a : Nat} (h : 10000 ≤ a) (ha : a < 2 ^ 31) : ((10000 : Int32) ≤ nI a) = True := eq_true (nI_le (a := 10000) h ha)
theorem v10000_geF {a : Nat} (h : a < 10000) : ((10000 : Int32) ≤ nI a) = False := eq_false (nI_ge (b := 10000) h (by decide))
theorem v10000_eqT {a : Nat} (h : a = 10000) : (nI a = (10000 : Int32)) = True := eq_true (congrArg nI h)
theorem v10000_eqF {a : Nat} (h : a ≠ 10000) (ha : a < 2 ^ 31) : (nI a = (10000 : Int32)) = False := eq_false (fun e => h ((nI_eq (b := 10000) ha (by decide)).mp e))
theorem v10000_add (a : Nat) : nI a + (10000 : Int32) = nI (a + 10000) := nI_add a 10000
theorem v10000_dda (a : Nat) : (10000 : Int32) + nI a = nI (10000 + a) := nI_add 10000 a
theorem v10000_mul (a : Nat) : nI a * (10000 : Int32) = nI (a * 10000) := pk_mul a 10000
theorem v10000_lum (a : Nat) : (10000 : Int32) * nI a = nI (10000 * a) := pk_mul 10000 a
theorem v10000_sub {a : Nat} (h : 10000 ≤ a) : nI a - (10000 : Int32) = nI (a - 10000) := nI_sub h
theorem v10000_bad {n : Nat} (h : 10000 < n) (hn : n < 2 ^ 31) : am_bad (10000 : Int32) n = False := eq_false (nI_in (c := 10000) h hn)
theorem v10000_cl : ((10000 : Int32)).toNatClampNeg = 10000 := by decide +kernel
theorem v10100_ltT {a : Nat} (h : a < 10100) : (nI a < (10100 : Int32)) = True := eq_true (nI_lt h (by decide))
theorem v10100_ltF {a : Nat} (h : 10100 ≤ a) (ha : a < 2 ^ 31) : (nI a < (10100 : Int32)) = False := eq_false (nI_nlt (b := 10100) h ha)
theorem v10100_gtT {a : Nat} (h : 10100 < a) (ha : a < 2 ^ 31) : ((10100 : Int32) < nI a) = True := eq_true (nI_lt (a := 10100) h ha)
theorem v10100_gtF {a : Nat} (h : a ≤ 10100) : ((10100 : Int32) < nI a) = False := eq_false (nI_nlt (a := 10100) h (by decide))
theorem v10100_leT {a : Nat} (h : a ≤ 10100) : (nI a ≤ (10100 : Int32)) = True := eq_true (nI_le (b := 10100) h (by decide))
theorem v10100_leF {a : Nat} (h : 10100 < a) (ha : a < 2 ^ 31) : (nI a ≤ (10100 : Int32)) = False := eq_false (nI_ge (a := 10100) h ha)
theorem v10100_geT {a : Nat} (h : 10100 ≤ a) (ha : a < 2 ^ 31) : ((10100 : Int32) ≤ nI a) = True := eq_true (nI_le (a := 10100) h ha)
theorem v10100_geF {a : Nat} (h : a < 10100) : ((10100 : Int32) ≤ nI a) = False := eq_false (nI_ge (b := 10100) h (by decide))
theorem v10100_eqT {a : Nat} (h : a = 10100) : (nI a = (10100 : Int32)) = True := eq_true (congrArg nI h)
theorem v10100_eqF {a : Nat} (h : a ≠ 10100) (ha : a < 2 ^ 31) : (nI a = (10100 : Int32)) = False := eq_false (fun e => h ((nI_eq (b := 10100) ha (by decide)).mp e))
theorem v10100_add (a : Nat) : nI a + (10100 : Int32) = nI (a + 10100) := nI_add a 10100
theorem v10100_dda (a : Nat) : (10100 : Int32) + nI a = nI (10100 + a) := nI_add 10100 a
theorem v10100_mul (a : Nat) : nI a * (10100 : Int32) = nI (a * 10100) := pk_mul a 10100
theorem v10100_lum (a : Nat) : (10100 : Int32) * nI a = nI (10100 * a) := pk_mul 10100 a
theorem v10100_sub {a : Nat} (h : 10100 ≤ a) : nI a - (10100 : Int32) = nI (a - 10100) := nI_sub h
theorem v10100_bad {n : Nat} (h : 10100 < n) (hn : n < 2 ^ 31) : am_bad (10100 : Int32) n = False := eq_false (nI_in (c := 10100) h hn)
theorem v10100_cl : ((10100 : Int32)).toNatClampNeg = 10100 := by decide +kernel
theorem v12000_ltT {a : Nat} (h : a < 12000) : (nI a < (12000 : Int32)) = True := eq_true (nI_lt h (by decide))
theorem v12000_ltF {a : Nat} (h : 12000 ≤ a) (ha : a < 2 ^ 31) : (nI a < (12000 : Int32)) = False := eq_false (nI_nlt (b := 12000) h ha)
theorem v12000_gtT {a : Nat} (h : 12000 < a) (ha : a < 2 ^ 31) : ((12000 : Int32) < nI a) = True := eq_true (nI_lt (a := 12000) h ha)
theorem v12000_gtF {a : Nat} (h : a ≤ 12000) : ((12000 : Int32) < nI a) = False := eq_false (nI_nlt (a := 12000) h (by decide))
theorem v12000_leT {a : Nat} (h : a ≤ 12000) : (nI a ≤ (12000 : Int32)) = True := eq_true (nI_le (b := 12000) h (by decide))
theorem v12000_leF {a : Nat} (h : 12000 < a) (ha : a < 2 ^ 31) : (nI a ≤ (12000 : Int32)) = False := eq_false (nI_ge (a := 12000) h ha)
theorem v12000_geT {a : Nat} (h : 12000 ≤ a) (ha : a < 2 ^ 31) : ((12000 : Int32) ≤ nI a) = True := eq_true (nI_le (a := 12000) h ha)
theorem v12000_geF {a : Nat} (h : a < 12000) : ((12000 : Int32) ≤ nI a) = False := eq_false (nI_ge (b := 12000) h (by decide))
theorem v12000_eqT {a : Nat} (h : a = 12000) : (nI a = (12000 : Int32)) = True := eq_true (congrArg nI h)
theorem v12000_eqF {a : Nat} (h : a ≠ 12000) (ha : a < 2 ^ 31) : (nI a = (12000 : Int32)) = False := eq_false (fun e => h ((nI_eq (b := 12000) ha (by decide)).mp e))
theorem v12000_add (a : Nat) : nI a + (12000 : Int32) = nI (a + 12000) := nI_add a 12000
theorem v12000_dda (a : Nat) : (12000 : Int32) + nI a = nI (12000 + a) := nI_add 12000 a
theorem v12000_mul (a : Nat) : nI a * (12000 : Int32) = nI (a * 12000) := pk_mul a 12000
theorem v12000_lum (a : Nat) : (12000 : Int32) * nI a = nI (12000 * a) := pk_mul 12000 a
theorem v12000_sub {a : Nat} (h : 12000 ≤ a) : nI a - (12000 : Int32) = nI (a - 12000) := nI_sub h
theorem v12000_bad {n : Nat} (h : 12000 < n) (hn : n < 2 ^ 31) : am_bad (12000 : Int32) n = False := eq_false (nI_in (c := 12000) h hn)
theorem v12000_cl : ((12000 : Int32)).toNatClampNeg = 12000 := by decide +kernel
theorem v16400_ltT {a : Nat} (h : a < 16400) : (nI a < (16400 : Int32)) = True := eq_true (nI_lt h (by decide))
theorem v16400_ltF {a : Nat} (h : 16400 ≤ a) (ha : a < 2 ^ 31) : (nI a < (16400 : Int32)) = False := eq_false (nI_nlt (b := 16400) h ha)
theorem v16400_gtT {a : Nat} (h : 16400 < a) (ha : a < 2 ^ 31) : ((16400 : Int32) < nI a) = True := eq_true (nI_lt (a := 16400) h ha)
theorem v16400_gtF {a : Nat} (h : a ≤ 16400) : ((16400 : Int32) < nI a) = False := eq_false (nI_nlt (a := 16400) h (by decide))
theorem v16400_leT {a : Nat} (h : a ≤ 16400) : (nI a ≤ (16400 : Int32)) = True := eq_true (nI_le (b := 16400) h (by decide))
theorem v16400_leF {a : Nat} (h : 16400 < a) (ha : a < 2 ^ 31) : (nI a ≤ (16400 : Int32)) = False := eq_false (nI_ge (a := 16400) h ha)
theorem v16400_geT {a : Nat} (h : 16400 ≤ a) (ha : a < 2 ^ 31) : ((16400 : Int32) ≤ nI a) = True := eq_true (nI_le (a := 16400) h ha)
theorem v16400_geF {a : Nat} (h : a < 16400) : ((16400 : Int32) ≤ nI a) = False := eq_false (nI_ge (b := 16400) h (by decide))
theorem v16400_eqT {a : Nat} (h : a = 16400) : (nI a = (16400 : Int32)) = True := eq_true (congrArg nI h)
theorem v16400_eqF {a : Nat} (h : a ≠ 16400) (ha : a < 2 ^ 31) : (nI a = (16400 : Int32)) = False := eq_false (fun e => h ((nI_eq (b := 16400) ha (by decide)).mp e))
theorem v16400_add (a : Nat) : nI a + (16400 : Int32) = nI (a + 16400) := nI_add a 16400
theorem v16400_dda (a : Nat) : (16400 : Int32) + nI a = nI (16400 + a) := nI_add 16400 a
theorem v16400_mul (a : Nat) : nI a * (16400 : Int32) = nI (a * 16400) := pk_mul a 16400
theorem v16400_lum (a : Nat) : (16400 : Int32) * nI a = nI (16400 * a) := pk_mul 16400 a
theorem v16400_sub {a : Nat} (h : 16400 ≤ a) : nI a - (16400 : Int32) = nI (a - 16400) := nI_sub h
theorem v16400_bad {n : Nat} (h : 16400 < n) (hn : n < 2 ^ 31) : am_bad (16400 : Int32) n = False := eq_false (nI_in (c := 16400) h hn)
theorem v16400_cl : ((16400 : Int32)).toNatClampNeg = 16400 := by decide +kernel
theorem v20100_ltT {a : Nat} (h : a < 20100) : (nI a < (20100 : Int32)) = True := eq_true (nI_lt h (by decide))
theorem v20100_ltF {a : Nat} (h : 20100 ≤ a) (ha : a < 2 ^ 31) : (nI a < (20100 : Int32)) = False := eq_false (nI_nlt (b := 20100) h ha)
theorem v20100_gtT {a : Nat} (h : 20100 < a) (ha : a < 2 ^ 31) : ((20100 : Int32) < nI a) = True := eq_true (nI_lt (a := 20100) h ha)
theorem v20100_gtF {a : Nat} (h : a ≤ 20100) : ((20100 : Int32) < nI a) = False := eq_false (nI_nlt (a := 20100) h (by decide))
theorem v20100_leT {a : Nat} (h : a ≤ 20100) : (nI a ≤ (20100 : Int32)) = True := eq_true (nI_le (b := 20100) h (by decide))
theorem v20100_leF {a : Nat} (h : 20100 < a) (ha : a < 2 ^ 31) : (nI a ≤ (20100 : Int32)) = False := eq_false (nI_ge (a := 20100) h ha)
theorem v20100_geT {a : Nat} (h : 20100 ≤ a) (ha : a < 2 ^ 31) : ((20100 : Int32) ≤ nI a) = True := eq_true (nI_le (a := 20100) h ha)
theorem v20100_geF {a : Nat} (h : a < 20100) : ((20100 : Int32) ≤ nI a) = False := eq_false (nI_ge (b := 20100) h (by decide))
theorem v20100_eqT {a : Nat} (h : a = 20100) : (nI a = (20100 : Int32)) = True := eq_true (congrArg nI h)
theorem v20100_eqF {a : Nat} (h : a ≠ 20100) (ha : a < 2 ^ 31) : (nI a = (20100 : Int32)) = False := eq_false (fun e => h ((nI_eq (b := 20100) ha (by decide)).mp e))
theorem v20100_add (a : Nat) : nI a + (20100 : Int32) = nI (a + 20100) := nI_add a 20100
theorem v20100_dda (a : Nat) : (20100 : Int32) + nI a = nI (20100 + a) := nI_add 20100 a
theorem v20100_mul (a : Nat) : nI a * (20100 : Int32) = nI (a * 20100) := pk_mul a 20100
theorem v20100_lum (a : Nat) : (20100 : Int32) * nI a = nI (20100 * a) := pk_mul 20100 a
theorem v20100_sub {a : Nat} (h : 20100 ≤ a) : nI a - (20100 : Int32) = nI (a - 20100) := nI_sub h
theorem v20100_bad {n : Nat} (h : 20100 < n) (hn : n < 2 ^ 31) : am_bad (20100 : Int32) n = False := eq_false (nI_in (c := 20100) h hn)
theorem v20100_cl : ((20100 : Int32)).toNatClampNeg = 20100 := by decide +kernel
theorem v22000_ltT {a : Nat} (h : a < 22000) : (nI a < (22000 : Int32)) = True := eq_true (nI_lt h (by decide))
theorem v22000_ltF {a : Nat} (h : 22000 ≤ a) (ha : a < 2 ^ 31) : (nI a < (22000 : Int32)) = False := eq_false (nI_nlt (b := 22000) h ha)
theorem v22000_gtT {a : Nat} (h : 22000 < a) (ha : a < 2 ^ 31) : ((22000 : Int32) < nI a) = True := eq_true (nI_lt (a := 22000) h ha)
theorem v22000_gtF {a : Nat} (h : a ≤ 22000) : ((22000 : Int32) < nI a) = False := eq_false (nI_nlt (a := 22000) h (by decide))
theorem v22000_leT {a : Nat} (h : a ≤ 22000) : (nI a ≤ (22000 : Int32)) = True := eq_true (nI_le (b := 22000) h (by decide))
theorem v22000_leF {a : Nat} (h : 22000 < a) (ha : a < 2 ^ 31) : (nI a ≤ (22000 : Int32)) = False := eq_false (nI_ge (a := 22000) h ha)
theorem v22000_geT {a : Nat} (h : 22000 ≤ a) (ha : a < 2 ^ 31) : ((22000 : Int32) ≤ nI a) = True := eq_true (nI_le (a := 22000) h ha)
theorem v22000_geF {a : Nat} (h : a < 22000) : ((22000 : Int32) ≤ nI a) = False := eq_false (nI_ge (b := 22000) h (by decide))
theorem v22000_eqT {a : Nat} (h : a = 22000) : (nI a = (22000 : Int32)) = True := eq_true (congrArg nI h)
theorem v22000_eqF {a : Nat} (h : a ≠ 22000) (ha : a < 2 ^ 31) : (nI a = (22000 : Int32)) = False := eq_false (fun e => h ((nI_eq (b := 22000) ha (by decide)).mp e))
theorem v22000_add (a : Nat) : nI a + (22000 : Int32) = nI (a + 22000) := nI_add a 22000
theorem v22000_dda (a : Nat) : (22000 : Int32) + nI a = nI (22000 + a) := nI_add 22000 a
theorem v22000_mul (a : Nat) : nI a * (22000 : Int32) = nI (a * 22000) := pk_mul a 22000
theorem v22000_lum (a : Nat) : (22000 : Int32) * nI a = nI (22000 * a) := pk_mul 22000 a
theorem v22000_sub {a : Nat} (h : 22000 ≤ a) : nI a - (22000 : Int32) = nI (a - 22000) := nI_sub h
theorem v22000_bad {n : Nat} (h : 22000 < n) (hn : n < 2 ^ 31) : am_bad (22000 : Int32) n = False := eq_false (nI_in (c := 22000) h hn)
theorem v22000_cl : ((22000 : Int32)).toNatClampNeg = 22000 := by decide +kernel
theorem v28000_ltT {a : Nat} (h : a < 28000) : (nI a < (28000 : Int32)) = True := eq_true (nI_lt h (by decide))
theorem v28000_ltF {a : Nat} (h : 28000 ≤ a) (ha : a < 2 ^ 31) : (nI a < (28000 : Int32)) = False := eq_false (nI_nlt (b := 28000) h ha)
theorem v28000_gtT {a : Nat} (h : 28000 < a) (ha : a < 2 ^ 31) : ((28000 : Int32) < nI a) = True := eq_true (nI_lt (a := 28000) h ha)
theorem v28000_gtF {a : Nat} (h : a ≤ 28000) : ((28000 : Int32) < nI a) = False := eq_false (nI_nlt (a := 28000) h (by decide))
theorem v28000_leT {a : Nat} (h : a ≤ 28000) : (nI a ≤ (28000 : Int32)) = True := eq_true (nI_le (b := 28000) h (by decide))
theorem v28000_leF {a : Nat} (h : 28000 < a) (ha : a < 2 ^ 31) : (nI a ≤ (28000 : Int32)) = False := eq_false (nI_ge (a := 28000) h ha)
theorem v28000_geT {a : Nat} (h : 28000 ≤ a) (ha : a < 2 ^ 31) : ((28000 : Int32) ≤ nI a) = True := eq_true (nI_le (a := 28000) h ha)
theorem v28000_geF {a : Nat} (h : a < 28000) : ((28000 : Int32) ≤ nI a) = False := eq_false (nI_ge (b := 28000) h (by decide))
theorem v28000_eqT {a : Nat} (h : a = 28000) : (nI a = (28000 : Int32)) = True := eq_true (congrArg nI h)
theorem v28000_eqF {a : Nat} (h : a ≠ 28000) (ha : a < 2 ^ 31) : (nI a = (28000 : Int32)) = False := eq_false (fun e => h ((nI_eq (b := 28000) ha (by decide)).mp e))
theorem v28000_add (a : Nat) : nI a + (28000 : Int32) = nI (a + 28000) := nI_add a 28000
theorem v28000_dda (a : Nat) : (28000 : Int32) + nI a = nI (28000 + a) := nI_add 28000 a
theorem v28000_mul (a : Nat) : nI a * (28000 : Int32) = nI (a * 28000) := pk_mul a 28000
theorem v28000_lum (a : Nat) : (28000 : Int32) * nI a = nI (28000 * a) := pk_mul 28000 a
theorem v28000_sub {a : Nat} (h : 28000 ≤ a) : nI a - (28000 : Int32) = nI (a - 28000) := nI_sub h
theorem v28000_bad {n : Nat} (h : 28000 < n) (hn : n < 2 ^ 31) : am_bad (28000 : Int32) n = False := eq_false (nI_in (c := 28000) h hn)
theorem v28000_cl : ((28000 : Int32)).toNatClampNeg = 28000 := by decide +kernel
theorem v42000_ltT {a : Nat} (h : a < 42000) : (nI a < (42000 : Int32)) = True := eq_true (nI_lt h (by decide))
theorem v42000_ltF {a : Nat} (h : 42000 ≤ a) (ha : a < 2 ^ 31) : (nI a < (42000 : Int32)) = False := eq_false (nI_nlt (b := 42000) h ha)
theorem v42000_gtT {a : Nat} (h : 42000 < a) (ha : a < 2 ^ 31) : ((42000 : Int32) < nI a) = True := eq_true (nI_lt (a := 42000) h ha)
theorem v42000_gtF {a : Nat} (h : a ≤ 42000) : ((42000 : Int32) < nI a) = False := eq_false (nI_nlt (a := 42000) h (by decide))
theorem v42000_leT {a : Nat} (h : a ≤ 42000) : (nI a ≤ (42000 : Int32)) = True := eq_true (nI_le (b := 42000) h (by decide))
theorem v42000_leF {a : Nat} (h : 42000 < a) (ha : a < 2 ^ 31) : (nI a ≤ (42000 : Int32)) = False := eq_false (nI_ge (a := 42000) h ha)
theorem v42000_geT {a : Nat} (h : 42000 ≤ a) (ha : a < 2 ^ 31) : ((42000 : Int32) ≤ nI a) = True := eq_true (nI_le (a := 42000) h ha)
theorem v42000_geF {a : Nat} (h : a < 42000) : ((42000 : Int32) ≤ nI a) = False := eq_false (nI_ge (b := 42000) h (by decide))
theorem v42000_eqT {a : Nat} (h : a = 42000) : (nI a = (42000 : Int32)) = True := eq_true (congrArg nI h)
theorem v42000_eqF {a : Nat} (h : a ≠ 42000) (ha : a < 2 ^ 31) : (nI a = (42000 : Int32)) = False := eq_false (fun e => h ((nI_eq (b := 42000) ha (by decide)).mp e))
theorem v42000_add (a : Nat) : nI a + (42000 : Int32) = nI (a + 42000) := nI_add a 42000
theorem v42000_dda (a : Nat) : (42000 : Int32) + nI a = nI (42000 + a) := nI_add 42000 a
theorem v42000_mul (a : Nat) : nI a * (42000 : Int32) = nI (a * 42000) := pk_mul a 42000
theorem v42000_lum (a : Nat) : (42000 : Int32) * nI a = nI (42000 * a) := pk_mul 42000 a
theorem v42000_sub {a : Nat} (h : 42000 ≤ a) : nI a - (42000 : Int32) = nI (a - 42000) := nI_sub h
theorem v42000_bad {n : Nat} (h : 42000 < n) (hn : n < 2 ^ 31) : am_bad (42000 : Int32) n = False := eq_false (nI_in (c := 42000) h hn)
theorem v42000_cl : ((42000 : Int32)).toNatClampNeg = 42000 := by decide +kernel
theorem v64000_ltT {a : Nat} (h : a < 64000) : (nI a < (64000 : Int32)) = True := eq_true (nI_lt h (by decide))
theorem v64000_ltF {a : Nat} (h : 64000 ≤ a) (ha : a < 2 ^ 31) : (nI a < (64000 : Int32)) = False := eq_false (nI_nlt (b := 64000) h ha)
theorem v64000_gtT {a : Nat} (h : 64000 < a) (ha : a < 2 ^ 31) : ((64000 : Int32) < nI a) = True := eq_true (nI_lt (a := 64000) h ha)
theorem v64000_gtF {a : Nat} (h : a ≤ 64000) : ((64000 : Int32) < nI a) = False := eq_false (nI_nlt (a := 64000) h (by decide))
theorem v64000_leT {a : Nat} (h : a ≤ 64000) : (nI a ≤ (64000 : Int32)) = True := eq_true (nI_le (b := 64000) h (by decide))
theorem v64000_leF {a : Nat} (h : 64000 < a) (ha : a < 2 ^ 31) : (nI a ≤ (64000 : Int32)) = False := eq_false (nI_ge (a := 64000) h ha)
theorem v64000_geT {a : Nat} (h : 64000 ≤ a) (ha : a < 2 ^ 31) : ((64000 : Int32) ≤ nI a) = True := eq_true (nI_le (a := 64000) h ha)
theorem v64000_geF {a : Nat} (h : a < 64000) : ((64000 : Int32) ≤ nI a) = False := eq_false (nI_ge (b := 64000) h (by decide))
theorem v64000_eqT {a : Nat} (h : a = 64000) : (nI a = (64000 : Int32)) = True := eq_true (congrArg nI h)
theorem v64000_eqF {a : Nat} (h : a ≠ 64000) (ha : a < 2 ^ 31) : (nI a = (64000 : Int32)) = False := eq_false (fun e => h ((nI_eq (b := 64000) ha (by decide)).mp e))
theorem v64000_add (a : Nat) : nI a + (64000 : Int32) = nI (a + 64000) := nI_add a 64000
theorem v64000_dda (a : Nat) : (64000 : Int32) + nI a = nI (64000 + a) := nI_add 64000 a
theorem v64000_mul (a : Nat) : nI a * (64000 : Int32) = nI (a * 64000) := pk_mul a 64000
theorem v64000_lum (a : Nat) : (64000 : Int32) * nI a = nI (64000 * a) := pk_mul 64000 a
theorem v64000_sub {a : Nat} (h : 64000 ≤ a) : nI a - (64000 : Int32) = nI (a - 64000) := nI_sub h
theorem v64000_bad {n : Nat} (h : 64000 < n) (hn : n < 2 ^ 31) : am_bad (64000 : Int32) n = False := eq_false (nI_in (c := 64000) h hn)
theorem v64000_cl : ((64000 : Int32)).toNatClampNeg = 64000 := by decide +kernel
theorem v100000_ltT {a : Nat} (h : a < 100000) : (nI a < (100000 : Int32)) = True := eq_true (nI_lt h (by decide))
theorem v100000_ltF {a : Nat} (h : 100000 ≤ a) (ha : a < 2 ^ 31) : (nI a < (100000 : Int32)) = False := eq_false (nI_nlt (b := 100000) h ha)
theorem v100000_gtT {a : Nat} (h : 100000 < a) (ha : a < 2 ^ 31) : ((100000 : Int32) < nI a) = True := eq_true (nI_lt (a := 100000) h ha)
theorem v100000_gtF {a : Nat} (h : a ≤ 100000) : ((100000 : Int32) < nI a) = False := eq_false (nI_nlt (a := 100000) h (by decide))
theorem v100000_leT {a : Nat} (h : a ≤ 100000) : (nI a ≤ (100000 : Int32)) = True := eq_true (nI_le (b := 100000) h (by decide))
theorem v100000_leF {a : Nat} (h : 100000 < a) (ha : a < 2 ^ 31) : (nI a ≤ (100000 : Int32)) = False := eq_false (nI_ge (a := 100000) h ha)
theorem v100000_geT {a : Nat} (h : 100000 ≤ a) (ha : a < 2 ^ 31) : ((100000 : Int32) ≤ nI a) = True := eq_true (nI_le (a := 100000) h ha)
theorem v100000_geF {a : Nat} (h : a < 100000) : ((100000 : Int32) ≤ nI a) = False := eq_false (nI_ge (b := 100000) h (by decide))
theorem v100000_eqT {a : Nat} (h : a = 100000) : (nI a = (100000 : Int32)) = True := eq_true (congrArg nI h)
theorem v100000_eqF {a : Nat} (h : a ≠ 100000) (ha : a < 2 ^ 31) : (nI a = (100000 : Int32)) = False := eq_false (fun e => h ((nI_eq (b := 100000) ha (by decide)).mp e))
theorem v100000_add (a : Nat) : nI a + (100000 : Int32) = nI (a + 100000) := nI_add a 100000
theorem v100000_dda (a : Nat) : (100000 : Int32) + nI a = nI (100000 + a) := nI_add 100000 a
theorem v100000_mul (a : Nat) : nI a * (100000 : Int32) = nI (a * 100000) := pk_mul a 100000
theorem v100000_lum (a : Nat) : (100000 : Int32) * nI a = nI (100000 * a) := pk_mul 100000 a
theorem v100000_sub {a : Nat} (h : 100000 ≤ a) : nI a - (100000 : Int32) = nI (a - 100000) := nI_sub h
theorem v100000_bad {n : Nat} (h : 100000 < n) (hn : n < 2 ^ 31) : am_bad (100000 : Int32) n = False := eq_false (nI_in (c := 100000) h hn)
theorem v100000_cl : ((100000 : Int32)).toNatClampNeg = 100000 := by decide +kernel
theorem v1000000_ltT {a : Nat} (h : a < 1000000) : (nI a < (1000000 : Int32)) = True := eq_true (nI_lt h (by decide))
theorem v1000000_ltF {a : Nat} (h : 1000000 ≤ a) (ha : a < 2 ^ 31) : (nI a < (1000000 : Int32)) = False := eq_false (nI_nlt (b := 1000000) h ha)
theorem v1000000_gtT {a : Nat} (h : 1000000 < a) (ha : a < 2 ^ 31) : ((1000000 : Int32) < nI a) = True := eq_true (nI_lt (a := 1000000) h ha)
theorem v1000000_gtF {a : Nat} (h : a ≤ 1000000) : ((1000000 : Int32) < nI a) = False := eq_false (nI_nlt (a := 1000000) h (by decide))
theorem v1000000_leT {a : Nat} (h : a ≤ 1000000) : (nI a ≤ (1000000 : Int32)) = True := eq_true (nI_le (b := 1000000) h (by decide))
theorem v1000000_leF {a : Nat} (h : 1000000 < a) (ha : a < 2 ^ 31) : (nI a ≤ (1000000 : Int32)) = False := eq_false (nI_ge (a := 1000000) h ha)
theorem v1000000_geT {a : Nat} (h : 1000000 ≤ a) (ha : a < 2 ^ 31) : ((1000000 : Int32) ≤ nI a) = True := eq_true (nI_le (a := 1000000) h ha)
theorem v1000000_geF {a : Nat} (h : a < 1000000) : ((1000000 : Int32) ≤ nI a) = False := eq_false (nI_ge (b := 1000000) h (by decide))
theorem v1000000_eqT {a : Nat} (h : a = 1000000) : (nI a = (1000000 : Int32)) = True := eq_true (congrArg nI h)
theorem v1000000_eqF {a : Nat} (h : a ≠ 1000000) (ha : a < 2 ^ 31) : (nI a = (1000000 : Int32)) = False := eq_false (fun e => h ((nI_eq (b := 1000000) ha (by decide)).mp e))
theorem v1000000_add (a : Nat) : nI a + (1000000 : Int32) = nI (a + 1000000) := nI_add a 1000000
theorem v1000000_dda (a : Nat) : (1000000 : Int32) + nI a = nI (1000000 + a) := nI_add 1000000 a
theorem v1000000_mul (a : Nat) : nI a * (1000000 : Int32) = nI (a * 1000000) := pk_mul a 1000000
theorem v1000000_lum (a : Nat) : (1000000 : Int32) * nI a = nI (1000000 * a) := pk_mul 1000000 a
theorem v1000000_sub {a : Nat} (h : 1000000 ≤ a) : nI a - (1000000 : Int32) = nI (a - 1000000) := nI_sub h
theorem v1000000_bad {n : Nat} (h : 1000000 < n) (hn : n < 2 ^ 31) : am_bad (1000000 : Int32) n = False := eq_false (nI_in (c := 1000000) h hn)
theorem v1000000_cl : ((1000000 : Int32)).toNatClampNeg = 1000000 := by decide +kernel
