/-! java/util/Arrays.fill([II)V (36,) -/
set_option maxRecDepth 1000000 in
theorem en_237_36 (d : Nat) (x1 : Int32) (hi : Nat → Nat → Int32) (hl : Nat → Nat → Int64) : am_call tb_P (d + 1) 237 [.ref 36, .int x1] (pr_S, hi, hl) = am_fwd (am_call tb_P d) (am_run (am_call tb_P d) tb_r237_0 999999) tb_r237_0 0 [(0, .ref 36), (1, .int x1)] [] (pr_S, hi, hl) := ev_en (mL := 4) (bs := tb_r237_0) rfl (Nat.le_of_ble_eq_true rfl)
set_option maxRecDepth 1000000 in
theorem ch_237_36_0 (C : am_C) (J : am_J) (x1 : Int32) (hi : Nat → Nat → Int32) (hl : Nat → Nat → Int64) : am_ops C J tb_o237_0 0 [(0, .ref 36), (1, .int x1)] [] (pr_S, hi, hl) = J 5 [(3, .int (Int32.ofNat 192)), (2, .int 0), (0, .ref 36), (1, .int x1)] [] (pr_S, hi, hl) := rfl
set_option maxRecDepth 1000000 in
theorem ch_237_36_1 (C : am_C) (J : am_J) (x3 : Int32) (x2 : Int32) (x1 : Int32) (hi : Nat → Nat → Int32) (hl : Nat → Nat → Int64) : am_ops C J tb_o237_5 5 [(3, .int x3), (2, .int x2), (0, .ref 36), (1, .int x1)] [] (pr_S, hi, hl) = if x3 ≤ x2 then J 20 [(3, .int x3), (2, .int x2), (0, .ref 36), (1, .int x1)] [] (pr_S, hi, hl) else if am_bad x2 192 then none else J 5 [(2, .int (x2 + 1)), (3, .int x3), (0, .ref 36), (1, .int x1)] [] (pr_S, (am_si hi 36 x2.toNatClampNeg x1), hl) := rfl
set_option maxRecDepth 1000000 in
theorem ch_237_36_2 (C : am_C) (J : am_J) (x3 : Int32) (x2 : Int32) (x1 : Int32) (hi : Nat → Nat → Int32) (hl : Nat → Nat → Int64) : am_ops C J tb_o237_20 20 [(3, .int x3), (2, .int x2), (0, .ref 36), (1, .int x1)] [] (pr_S, hi, hl) = some (none, (pr_S, hi, hl)) := rfl
set_option maxRecDepth 1000000 in
theorem ch_237_36_3 (C : am_C) (J : am_J) (x2 : Int32) (x3 : Int32) (x1 : Int32) (hi : Nat → Nat → Int32) (hl : Nat → Nat → Int64) : am_ops C J tb_o237_5 5 [(2, .int x2), (3, .int x3), (0, .ref 36), (1, .int x1)] [] (pr_S, hi, hl) = if x3 ≤ x2 then J 20 [(2, .int x2), (3, .int x3), (0, .ref 36), (1, .int x1)] [] (pr_S, hi, hl) else if am_bad x2 192 then none else J 5 [(2, .int (x2 + 1)), (3, .int x3), (0, .ref 36), (1, .int x1)] [] (pr_S, (am_si hi 36 x2.toNatClampNeg x1), hl) := rfl
set_option maxRecDepth 1000000 in
theorem ch_237_36_4 (C : am_C) (J : am_J) (x2 : Int32) (x3 : Int32) (x1 : Int32) (hi : Nat → Nat → Int32) (hl : Nat → Nat → Int64) : am_ops C J tb_o237_20 20 [(2, .int x2), (3, .int x3), (0, .ref 36), (1, .int x1)] [] (pr_S, hi, hl) = some (none, (pr_S, hi, hl)) := rfl
set_option maxRecDepth 1000000 in
theorem ht_237_36_0 (C : am_C) (back : am_J) (ls : am_L) (st : List Value) (G : am_G) : am_fwd C back tb_r237_0 0 ls st G = am_ops C (am_fwd C back tb_r237_1) tb_o237_0 0 ls st G := if_pos rfl
set_option maxRecDepth 1000000 in
theorem ht_237_36_1 (C : am_C) (back : am_J) (ls : am_L) (st : List Value) (G : am_G) : am_fwd C back tb_r237_1 5 ls st G = am_ops C (am_fwd C back tb_r237_2) tb_o237_5 5 ls st G := if_pos rfl
set_option maxRecDepth 1000000 in
theorem ht_237_36_2 (C : am_C) (back : am_J) (ls : am_L) (st : List Value) (G : am_G) : am_fwd C back tb_r237_2 20 ls st G = am_ops C (am_fwd C back tb_r237_3) tb_o237_20 20 ls st G := if_pos rfl
set_option maxRecDepth 1000000 in
theorem sk_237_36_2_5 (C : am_C) (back : am_J) (ls : am_L) (st : List Value) (G : am_G) : am_fwd C back tb_r237_2 5 ls st G = back 5 ls st G := (ev_miss (by decide))
set_option maxRecDepth 1000000 in
theorem lp_237_36_5 (C : am_C) (n : Nat) (ls : am_L) (st : List Value) (G : am_G) : am_run C tb_r237_0 (n + 1) 5 ls st G = am_fwd C (am_run C tb_r237_0 n) tb_r237_1 5 ls st G := (ev_miss (by decide))
/-! java/util/Arrays.fill([II)V (41,) -/
set_option maxRecDepth 1000000 in
theorem en_237_41 (d : Nat) (x1 : Int32) (hi : Nat → Nat → Int32) (hl : Nat → Nat → Int64) : am_call tb_P (d + 1) 237 [.ref 41, .int x1] (pr_S, hi, hl) = am_fwd (am_call tb_P d) (am_run (am_call tb_P d) tb_r237_0 999999) tb_r237_0 0 [(0, .ref 41), (1, .int x1)] [] (pr_S, hi, hl) := ev_en (mL := 4) (bs := tb_r237_0) rfl (Nat.le_of_ble_eq_true rfl)
set_option maxRecDepth 1000000 in
theorem ch_237_41_0 (C : am_C) (J : am_J) (x1 : Int32) (hi : Nat → Nat → Int32) (hl : Nat → Nat → Int64) : am_ops C J tb_o237_0 0 [(0, .ref 41), (1, .int x1)] [] (pr_S, hi, hl) = J 5 [(3, .int (Int32.ofNat 200)), (2, .int 0), (0, .ref 41), (1, .int x1)] [] (pr_S, hi, hl) := rfl
set_option maxRecDepth 1000000 in
theorem ch_237_41_1 (C : am_C) (J : am_J) (x3 : Int32) (x2 : Int32) (x1 : Int32) (hi : Nat → Nat → Int32) (hl : Nat → Nat → Int64) : am_ops C J tb_o237_5 5 [(3, .int x3), (2, .int x2), (0, .ref 41), (1, .int x1)] [] (pr_S, hi, hl) = if x3 ≤ x2 then J 20 [(3, .int x3), (2, .int x2), (0, .ref 41), (1, .int x1)] [] (pr_S, hi, hl) else if am_bad x2 200 then none else J 5 [(2, .int (x2 + 1)), (3, .int x3), (0, .ref 41), (1, .int x1)] [] (pr_S, (am_si hi 41 x2.toNatClampNeg x1), hl) := rfl
set_option maxRecDepth 1000000 in
theorem ch_237_41_2 (C : am_C) (J : am_J) (x3 : Int32) (x2 : Int32) (x1 : Int32) (hi : Nat → Nat → Int32) (hl : Nat → Nat → Int64) : am_ops C J tb_o237_20 20 [(3, .int x3), (2, .int x2), (0, .ref 41), (1, .int x1)] [] (pr_S, hi, hl) = some (none, (pr_S, hi, hl)) := rfl
set_option maxRecDepth 1000000 in
theorem ch_237_41_3 (C : am_C) (J : am_J) (x2 : Int32) (x3 : Int32) (x1 : Int32) (hi : Nat → Nat → Int32) (hl : Nat → Nat → Int64) : am_ops C J tb_o237_5 5 [(2, .int x2), (3, .int x3), (0, .ref 41), (1, .int x1)] [] (pr_S, hi, hl) = if x3 ≤ x2 then J 20 [(2, .int x2), (3, .int x3), (0, .ref 41), (1, .int x1)] [] (pr_S, hi, hl) else if am_bad x2 200 then none else J 5 [(2, .int (x2 + 1)), (3, .int x3), (0, .ref 41), (1, .int x1)] [] (pr_S, (am_si hi 41 x2.toNatClampNeg x1), hl) := rfl
set_option maxRecDepth 1000000 in
theorem ch_237_41_4 (C : am_C) (J : am_J) (x2 : Int32) (x3 : Int32) (x1 : Int32) (hi : Nat → Nat → Int32) (hl : Nat → Nat → Int64) : am_ops C J tb_o237_20 20 [(2, .int x2), (3, .int x3), (0, .ref 41), (1, .int x1)] [] (pr_S, hi, hl) = some (none, (pr_S, hi, hl)) := rfl
set_option maxRecDepth 1000000 in
theorem ht_237_41_0 (C : am_C) (back : am_J) (ls : am_L) (st : List Value) (G : am_G) : am_fwd C back tb_r237_0 0 ls st G = am_ops C (am_fwd C back tb_r237_1) tb_o237_0 0 ls st G := if_pos rfl
set_option maxRecDepth 1000000 in
theorem ht_237_41_1 (C : am_C) (back : am_J) (ls : am_L) (st : List Value) (G : am_G) : am_fwd C back tb_r237_1 5 ls st G = am_ops C (am_fwd C back tb_r237_2) tb_o237_5 5 ls st G := if_pos rfl
set_option maxRecDepth 1000000 in
theorem ht_237_41_2 (C : am_C) (back : am_J) (ls : am_L) (st : List Value) (G : am_G) : am_fwd C back tb_r237_2 20 ls st G = am_ops C (am_fwd C back tb_r237_3) tb_o237_20 20 ls st G := if_pos rfl
set_option maxRecDepth 1000000 in
theorem sk_237_41_2_5 (C : am_C) (back : am_J) (ls : am_L) (st : List Value) (G : am_G) : am_fwd C back tb_r237_2 5 ls st G = back 5 ls st G := (ev_miss (by decide))
set_option maxRecDepth 1000000 in
theorem lp_237_41_5 (C : am_C) (n : Nat) (ls : am_L) (st : List Value) (G : am_G) : am_run C tb_r237_0 (n + 1) 5 ls st G = am_fwd C (am_run C tb_r237_0 n) tb_r237_1 5 ls st G := (ev_miss (by decide))
/-! java/util/Arrays.fill([II)V (46,) -/
set_option maxRecDepth 1000000 in
theorem en_237_46 (d : Nat) (x1 : Int32) (hi : Nat → Nat → Int32) (hl : Nat → Nat → Int64) : am_call tb_P (d + 1) 237 [.ref 46, .int x1] (pr_S, hi, hl) = am_fwd (am_call tb_P d) (am_run (am_call tb_P d) tb_r237_0 999999) tb_r237_0 0 [(0, .ref 46), (1, .int x1)] [] (pr_S, hi, hl) := ev_en (mL := 4) (bs := tb_r237_0) rfl (Nat.le_of_ble_eq_true rfl)
set_option maxRecDepth 1000000 in
theorem ch_237_46_0 (C : am_C) (J : am_J) (x1 : Int32) (hi : Nat → Nat → Int32) (hl : Nat → Nat → Int64) : am_ops C J tb_o237_0 0 [(0, .ref 46), (1, .int x1)] [] (pr_S, hi, hl) = J 5 [(3, .int (Int32.ofNat 7)), (2, .int 0), (0, .ref 46), (1, .int x1)] [] (pr_S, hi, hl) := rfl
set_option maxRecDepth 1000000 in
theorem ch_237_46_1 (C : am_C) (J : am_J) (x3 : Int32) (x2 : Int32) (x1 : Int32) (hi : Nat → Nat → Int32) (hl : Nat → Nat → Int64) : am_ops C J tb_o237_5 5 [(3, .int x3), (2, .int x2), (0, .ref 46), (1, .int x1)] [] (pr_S, hi, hl) = if x3 ≤ x2 then J 20 [(3, .int x3), (2, .int x2), (0, .ref 46), (1, .int x1)] [] (pr_S, hi, hl) else if am_bad x2 7 then none else J 5 [(2, .int (x2 + 1)), (3, .int x3), (0, .ref 46), (1, .int x1)] [] (pr_S, (am_si hi 46 x2.toNatClampNeg x1), hl) := rfl
set_option maxRecDepth 1000000 in
theorem ch_237_46_2 (C : am_C) (J : am_J) (x3 : Int32) (x2 : Int32) (x1 : Int32) (hi : Nat → Nat → Int32) (hl : Nat → Nat → Int64) : am_ops C J tb_o237_20 20 [(3, .int x3), (2, .int x2), (0, .ref 46), (1, .int x1)] [] (pr_S, hi, hl) = some (none, (pr_S, hi, hl)) := rfl
set_option maxRecDepth 1000000 in
theorem ch_237_46_3 (C : am_C) (J : am_J) (x2 : Int32) (x3 : Int32) (x1 : Int32) (hi : Nat → Nat → Int32) (hl : Nat → Nat → Int64) : am_ops C J tb_o237_5 5 [(2, .int x2), (3, .int x3), (0, .ref 46), (1, .int x1)] [] (pr_S, hi, hl) = if x3 ≤ x2 then J 20 [(2, .int x2), (3, .int x3), (0, .ref 46), (1, .int x1)] [] (pr_S, hi, hl) else if am_bad x2 7 then none else J 5 [(2, .int (x2 + 1)), (3, .int x3), (0, .ref 46), (1, .int x1)] [] (pr_S, (am_si hi 46 x2.toNatClampNeg x1), hl) := rfl
set_option maxRecDepth 1000000 in
theorem ch_237_46_4 (C : am_C) (J : am_J) (x2 : Int32) (x3 : Int32) (x1 : Int32) (hi : Nat → Nat → Int32) (hl : Nat → Nat → Int64) : am_ops C J tb_o237_20 20 [(2, .int x2), (3, .int x3), (0, .ref 46), (1, .int x1)] [] (pr_S, hi, hl) = some (none, (pr_S, hi, hl)) := rfl
set_option maxRecDepth 1000000 in
theorem ht_237_46_0 (C : am_C) (back : am_J) (ls : am_L) (st : List Value) (G : am_G) : am_fwd C back tb_r237_0 0 ls st G = am_ops C (am_fwd C back tb_r237_1) tb_o237_0 0 ls st G := if_pos rfl
set_option maxRecDepth 1000000 in
theorem ht_237_46_1 (C : am_C) (back : am_J) (ls : am_L) (st : List Value) (G : am_G) : am_fwd C back tb_r237_1 5 ls st G = am_ops C (am_fwd C back tb_r237_2) tb_o237_5 5 ls st G := if_pos rfl
set_option maxRecDepth 1000000 in
theorem ht_237_46_2 (C : am_C) (back : am_J) (ls : am_L) (st : List Value) (G : am_G) : am_fwd C back tb_r237_2 20 ls st G = am_ops C (am_fwd C back tb_r237_3) tb_o237_20 20 ls st G := if_pos rfl
set_option maxRecDepth 1000000 in
theorem sk_237_46_2_5 (C : am_C) (back : am_J) (ls : am_L) (st : List Value) (G : am_G) : am_fwd C back tb_r237_2 5 ls st G = back 5 ls st G := (ev_miss (by decide))
set_option maxRecDepth 1000000 in
theorem lp_237_46_5 (C : am_C) (n : Nat) (ls : am_L) (st : List Value) (G : am_G) : am_run C tb_r237_0 (n + 1) 5 ls st G = am_fwd C (am_run C tb_r237_0 n) tb_r237_1 5 ls st G := (ev_miss (by decide))
/-! java/util/Arrays.fill([II)V (47,) -/
set_option maxRecDepth 1000000 in
theorem en_237_47 (d : Nat) (x1 : Int32) (hi : Nat → Nat → Int32) (hl : Nat → Nat → Int64) : am_call tb_P (d + 1) 237 [.ref 47, .int x1] (pr_S, hi, hl) = am_fwd (am_call tb_P d) (am_run (am_call tb_P d) tb_r237_0 999999) tb_r237_0 0 [(0, .ref 47), (1, .int x1)] [] (pr_S, hi, hl) := ev_en (mL := 4) (bs := tb_r237_0) rfl (Nat.le_of_ble_eq_true rfl)
set_option maxRecDepth 1000000 in
theorem ch_237_47_0 (C : am_C) (J : am_J) (x1 : Int32) (hi : Nat → Nat → Int32) (hl : Nat → Nat → Int64) : am_ops C J tb_o237_0 0 [(0, .ref 47), (1, .int x1)] [] (pr_S, hi, hl) = J 5 [(3, .int (Int32.ofNat 200)), (2, .int 0), (0, .ref 47), (1, .int x1)] [] (pr_S, hi, hl) := rfl
set_option maxRecDepth 1000000 in
theorem ch_237_47_1 (C : am_C) (J : am_J) (x3 : Int32) (x2 : Int32) (x1 : Int32) (hi : Nat → Nat → Int32) (hl : Nat → Nat → Int64) : am_ops C J tb_o237_5 5 [(3, .int x3), (2, .int x2), (0, .ref 47), (1, .int x1)] [] (pr_S, hi, hl) = if x3 ≤ x2 then J 20 [(3, .int x3), (2, .int x2), (0, .ref 47), (1, .int x1)] [] (pr_S, hi, hl) else if am_bad x2 200 then none else J 5 [(2, .int (x2 + 1)), (3, .int x3), (0, .ref 47), (1, .int x1)] [] (pr_S, (am_si hi 47 x2.toNatClampNeg x1), hl) := rfl
set_option maxRecDepth 1000000 in
theorem ch_237_47_2 (C : am_C) (J : am_J) (x3 : Int32) (x2 : Int32) (x1 : Int32) (hi : Nat → Nat → Int32) (hl : Nat → Nat → Int64) : am_ops C J tb_o237_20 20 [(3, .int x3), (2, .int x2), (0, .ref 47), (1, .int x1)] [] (pr_S, hi, hl) = some (none, (pr_S, hi, hl)) := rfl
set_option maxRecDepth 1000000 in
theorem ch_237_47_3 (C : am_C) (J : am_J) (x2 : Int32) (x3 : Int32) (x1 : Int32) (hi : Nat → Nat → Int32) (hl : Nat → Nat → Int64) : am_ops C J tb_o237_5 5 [(2, .int x2), (3, .int x3), (0, .ref 47), (1, .int x1)] [] (pr_S, hi, hl) = if x3 ≤ x2 then J 20 [(2, .int x2), (3, .int x3), (0, .ref 47), (1, .int x1)] [] (pr_S, hi, hl) else if am_bad x2 200 then none else J 5 [(2, .int (x2 + 1)), (3, .int x3), (0, .ref 47), (1, .int x1)] [] (pr_S, (am_si hi 47 x2.toNatClampNeg x1), hl) := rfl
set_option maxRecDepth 1000000 in
theorem ch_237_47_4 (C : am_C) (J : am_J) (x2 : Int32) (x3 : Int32) (x1 : Int32) (hi : Nat → Nat → Int32) (hl : Nat → Nat → Int64) : am_ops C J tb_o237_20 20 [(2, .int x2), (3, .int x3), (0, .ref 47), (1, .int x1)] [] (pr_S, hi, hl) = some (none, (pr_S, hi, hl)) := rfl
set_option maxRecDepth 1000000 in
theorem ht_237_47_0 (C : am_C) (back : am_J) (ls : am_L) (st : List Value) (G : am_G) : am_fwd C back tb_r237_0 0 ls st G = am_ops C (am_fwd C back tb_r237_1) tb_o237_0 0 ls st G := if_pos rfl
set_option maxRecDepth 1000000 in
theorem ht_237_47_1 (C : am_C) (back : am_J) (ls : am_L) (st : List Value) (G : am_G) : am_fwd C back tb_r237_1 5 ls st G = am_ops C (am_fwd C back tb_r237_2) tb_o237_5 5 ls st G := if_pos rfl
set_option maxRecDepth 1000000 in
theorem ht_237_47_2 (C : am_C) (back : am_J) (ls : am_L) (st : List Value) (G : am_G) : am_fwd C back tb_r237_2 20 ls st G = am_ops C (am_fwd C back tb_r237_3) tb_o237_20 20 ls st G := if_pos rfl
set_option maxRecDepth 1000000 in
theorem sk_237_47_2_5 (C : am_C) (back : am_J) (ls : am_L) (st : List Value) (G : am_G) : am_fwd C back tb_r237_2 5 ls st G = back 5 ls st G := (ev_miss (by decide))
set_option maxRecDepth 1000000 in
theorem lp_237_47_5 (C : am_C) (n : Nat) (ls : am_L) (st : List Value) (G : am_G) : am_run C tb_r237_0 (n + 1) 5 ls st G = am_fwd C (am_run C tb_r237_0 n) tb_r237_1 5 ls st G := (ev_miss (by decide))
