/-! UsageProofs$Parser.parseDef()V -/
theorem en_179 (d : Nat)  (hi : Nat → Nat → Int32) (hl : Nat → Nat → Int64) : am_call tb_P (d + 1) 179 [.ref 32] (pr_S, hi, hl) = am_fwd (am_call tb_P d) (am_run (am_call tb_P d) tb_r179_0 999999) tb_r179_0 0 [(0, .ref 32)] [] (pr_S, hi, hl) := ev_en (mL := 2) (bs := tb_r179_0) rfl (Nat.le_of_ble_eq_true rfl)
set_option maxRecDepth 1000000 in
theorem ch_179_0 (C : am_C) (J : am_J)  (hi : Nat → Nat → Int32) (hl : Nat → Nat → Int64) : am_ops C J tb_o179_0 0 [(0, .ref 32)] [] (pr_S, hi, hl) = if (hi 1 1) = (258 : Int32) then J 19 [(0, .ref 32)] [] (pr_S, hi, hl) else am_ret (C 175 [.ref 32, .int 2] (pr_S, hi, hl)) fun v G => am_ops C J tb_s179_18 18 [(0, .ref 32)] (v ++ []) G := rfl
set_option maxRecDepth 1000000 in
theorem ch_179_1 (C : am_C) (J : am_J)  (hi : Nat → Nat → Int32) (hl : Nat → Nat → Int64) : am_ops C J tb_o179_19 19 [(0, .ref 32)] [] (pr_S, hi, hl) = am_ret (C 207 [.ref 3, .long (hl 1 3)] (pr_S, hi, hl)) fun v G => am_ops C J tb_s179_33 33 [(0, .ref 32)] (v ++ []) G := rfl
set_option maxRecDepth 1000000 in
theorem ch_179_2 (C : am_C) (J : am_J)  (hi : Nat → Nat → Int32) (hl : Nat → Nat → Int64) : am_ops C J tb_s179_18 18 [(0, .ref 32)] ([] ++ []) (pr_S, hi, hl) = some (none, (pr_S, hi, hl)) := rfl
set_option maxRecDepth 1000000 in
theorem ch_179_3 (C : am_C) (J : am_J) (s0 : Int32) (hi : Nat → Nat → Int32) (hl : Nat → Nat → Int64) : am_ops C J tb_s179_33 33 [(0, .ref 32)] ([.int s0] ++ []) (pr_S, hi, hl) = if s0 < (0 : Int32) then J 42 [(0, .ref 32)] [] (pr_S, hi, hl) else am_ret (C 175 [.ref 32, .int 4] (pr_S, hi, hl)) fun v G => am_ops C J tb_s179_41 41 [(0, .ref 32)] (v ++ []) G := rfl
set_option maxRecDepth 1000000 in
theorem ch_179_4 (C : am_C) (J : am_J)  (hi : Nat → Nat → Int32) (hl : Nat → Nat → Int64) : am_ops C J tb_o179_42 42 [(0, .ref 32)] [] (pr_S, hi, hl) = am_ret (C 204 [.ref 3, .long (hl 1 3), .int (hi 1 2)] (pr_S, hi, hl)) fun v G => am_ops C J tb_s179_63 63 [(0, .ref 32)] (v ++ []) G := rfl
set_option maxRecDepth 1000000 in
theorem ch_179_5 (C : am_C) (J : am_J)  (hi : Nat → Nat → Int32) (hl : Nat → Nat → Int64) : am_ops C J tb_s179_41 41 [(0, .ref 32)] ([] ++ []) (pr_S, hi, hl) = some (none, (pr_S, hi, hl)) := rfl
set_option maxRecDepth 1000000 in
theorem ch_179_6 (C : am_C) (J : am_J) (s0 : Int32) (hi : Nat → Nat → Int32) (hl : Nat → Nat → Int64) : am_ops C J tb_s179_63 63 [(0, .ref 32)] ([.int s0] ++ []) (pr_S, hi, hl) = if (0 : Int32) ≤ s0 then J 74 [(1, .int s0), (0, .ref 32)] [] (pr_S, hi, hl) else am_ret (C 175 [.ref 32, .int 5] (pr_S, hi, hl)) fun v G => am_ops C J tb_s179_73 73 [(1, .int s0), (0, .ref 32)] (v ++ []) G := rfl
set_option maxRecDepth 1000000 in
theorem ch_179_7 (C : am_C) (J : am_J) (x1 : Int32) (hi : Nat → Nat → Int32) (hl : Nat → Nat → Int64) : am_ops C J tb_o179_74 74 [(1, .int x1), (0, .ref 32)] [] (pr_S, hi, hl) = am_ret (C 177 [.ref 32] (pr_S, hi, hl)) fun v G => am_ops C J tb_s179_78 78 [(1, .int x1), (0, .ref 32)] (v ++ []) G := rfl
set_option maxRecDepth 1000000 in
theorem ch_179_8 (C : am_C) (J : am_J) (x1 : Int32) (hi : Nat → Nat → Int32) (hl : Nat → Nat → Int64) : am_ops C J tb_s179_73 73 [(1, .int x1), (0, .ref 32)] ([] ++ []) (pr_S, hi, hl) = some (none, (pr_S, hi, hl)) := rfl
set_option maxRecDepth 1000000 in
theorem ch_179_9 (C : am_C) (J : am_J) (x1 : Int32) (hi : Nat → Nat → Int32) (hl : Nat → Nat → Int64) : am_ops C J tb_s179_78 78 [(1, .int x1), (0, .ref 32)] ([] ++ []) (pr_S, hi, hl) = am_ret (C 180 [.ref 32] (pr_S, hi, hl)) fun v G => am_ops C J tb_s179_90 90 [(1, .int x1), (0, .ref 32)] (v ++ [.int x1, .ref 6]) G := rfl
set_option maxRecDepth 1000000 in
theorem ch_179_10 (C : am_C) (J : am_J) (x1 : Int32) (s0 : Int32) (s1 : Int32) (hi : Nat → Nat → Int32) (hl : Nat → Nat → Int64) : am_ops C J tb_s179_90 90 [(1, .int x1), (0, .ref 32)] ([.int s0] ++ [.int s1, .ref 6]) (pr_S, hi, hl) = am_ret (C 18 [.ref 6, .int s1, .int s0] (pr_S, hi, hl)) fun v G => am_ops C J tb_s179_93 93 [(1, .int x1), (0, .ref 32)] (v ++ []) G := rfl
set_option maxRecDepth 1000000 in
theorem ch_179_11 (C : am_C) (J : am_J) (x1 : Int32) (hi : Nat → Nat → Int32) (hl : Nat → Nat → Int64) : am_ops C J tb_s179_93 93 [(1, .int x1), (0, .ref 32)] ([] ++ []) (pr_S, hi, hl) = am_ret (C 178 [.ref 32, .int 61] (pr_S, hi, hl)) fun v G => am_ops C J tb_s179_99 99 [(1, .int x1), (0, .ref 32)] (v ++ []) G := rfl
set_option maxRecDepth 1000000 in
theorem ch_179_12 (C : am_C) (J : am_J) (x1 : Int32) (hi : Nat → Nat → Int32) (hl : Nat → Nat → Int64) : am_ops C J tb_s179_99 99 [(1, .int x1), (0, .ref 32)] ([] ++ []) (pr_S, hi, hl) = am_ret (C 181 [.ref 32] (pr_S, hi, hl)) fun v G => am_ops C J tb_s179_111 111 [(1, .int x1), (0, .ref 32)] (v ++ [.int x1, .ref 8]) G := rfl
set_option maxRecDepth 1000000 in
theorem ch_179_13 (C : am_C) (J : am_J) (x1 : Int32) (s0 : Int32) (s1 : Int32) (hi : Nat → Nat → Int32) (hl : Nat → Nat → Int64) : am_ops C J tb_s179_111 111 [(1, .int x1), (0, .ref 32)] ([.int s0] ++ [.int s1, .ref 8]) (pr_S, hi, hl) = am_ret (C 18 [.ref 8, .int s1, .int s0] (pr_S, hi, hl)) fun v G => am_ops C J tb_s179_114 114 [(1, .int x1), (0, .ref 32)] (v ++ []) G := rfl
set_option maxRecDepth 1000000 in
theorem ch_179_14 (C : am_C) (J : am_J) (x1 : Int32) (hi : Nat → Nat → Int32) (hl : Nat → Nat → Int64) : am_ops C J tb_s179_114 114 [(1, .int x1), (0, .ref 32)] ([] ++ []) (pr_S, hi, hl) = am_ret (C 178 [.ref 32, .int 59] (pr_S, hi, hl)) fun v G => am_ops C J tb_s179_120 120 [(1, .int x1), (0, .ref 32)] (v ++ []) G := rfl
set_option maxRecDepth 1000000 in
theorem ch_179_15 (C : am_C) (J : am_J) (x1 : Int32) (hi : Nat → Nat → Int32) (hl : Nat → Nat → Int64) : am_ops C J tb_s179_120 120 [(1, .int x1), (0, .ref 32)] ([] ++ []) (pr_S, hi, hl) = some (none, (pr_S, (am_si hi 32 3 0), hl)) := rfl
theorem ht_179_0 (C : am_C) (back : am_J) (ls : am_L) (st : List Value) (G : am_G) : am_fwd C back tb_r179_0 0 ls st G = am_ops C (am_fwd C back tb_r179_1) tb_o179_0 0 ls st G := if_pos rfl
theorem ht_179_1 (C : am_C) (back : am_J) (ls : am_L) (st : List Value) (G : am_G) : am_fwd C back tb_r179_1 19 ls st G = am_ops C (am_fwd C back tb_r179_2) tb_o179_19 19 ls st G := if_pos rfl
theorem ht_179_2 (C : am_C) (back : am_J) (ls : am_L) (st : List Value) (G : am_G) : am_fwd C back tb_r179_2 42 ls st G = am_ops C (am_fwd C back tb_r179_3) tb_o179_42 42 ls st G := if_pos rfl
theorem ht_179_3 (C : am_C) (back : am_J) (ls : am_L) (st : List Value) (G : am_G) : am_fwd C back tb_r179_3 74 ls st G = am_ops C (am_fwd C back tb_r179_4) tb_o179_74 74 ls st G := if_pos rfl
/-! UsageProofs$Parser.parseParameters()I -/
theorem en_180 (d : Nat)  (hi : Nat → Nat → Int32) (hl : Nat → Nat → Int64) : am_call tb_P (d + 1) 180 [.ref 32] (pr_S, hi, hl) = am_fwd (am_call tb_P d) (am_run (am_call tb_P d) tb_r180_0 999999) tb_r180_0 0 [(0, .ref 32)] [] (pr_S, hi, hl) := ev_en (mL := 3) (bs := tb_r180_0) rfl (Nat.le_of_ble_eq_true rfl)
set_option maxRecDepth 1000000 in
theorem ch_180_0 (C : am_C) (J : am_J)  (hi : Nat → Nat → Int32) (hl : Nat → Nat → Int64) : am_ops C J tb_o180_0 0 [(0, .ref 32)] [] (pr_S, hi, hl) = J 4 [(2, .int 0), (1, .int 0), (0, .ref 32)] [] (pr_S, hi, hl) := rfl
set_option maxRecDepth 1000000 in
theorem ch_180_1 (C : am_C) (J : am_J) (x2 : Int32) (x1 : Int32) (hi : Nat → Nat → Int32) (hl : Nat → Nat → Int64) : am_ops C J tb_o180_4 4 [(2, .int x2), (1, .int x1), (0, .ref 32)] [] (pr_S, hi, hl) = if (4 : Int32) < x2 then J 86 [(2, .int x2), (1, .int x1), (0, .ref 32)] [] (pr_S, hi, hl) else if (hi 1 1) ≠ (258 : Int32) then J 86 [(2, .int x2), (1, .int x1), (0, .ref 32)] [] (pr_S, hi, hl) else am_ret (C 201 [.ref 32, .long (hl 1 3)] (pr_S, hi, hl)) fun v G => am_ops C J tb_s180_33 33 [(2, .int x2), (1, .int x1), (0, .ref 32)] (v ++ []) G := rfl
set_option maxRecDepth 1000000 in
theorem ch_180_2 (C : am_C) (J : am_J) (x2 : Int32) (x1 : Int32) (hi : Nat → Nat → Int32) (hl : Nat → Nat → Int64) : am_ops C J tb_o180_86 86 [(2, .int x2), (1, .int x1), (0, .ref 32)] [] (pr_S, hi, hl) = some (some (.int x1), (pr_S, hi, hl)) := rfl
set_option maxRecDepth 1000000 in
theorem ch_180_3 (C : am_C) (J : am_J) (x2 : Int32) (x1 : Int32) (s0 : Int32) (hi : Nat → Nat → Int32) (hl : Nat → Nat → Int64) : am_ops C J tb_s180_33 33 [(2, .int x2), (1, .int x1), (0, .ref 32)] ([.int s0] ++ []) (pr_S, hi, hl) = if s0 < (0 : Int32) then J 44 [(2, .int x2), (1, .int x1), (0, .ref 32)] [] (pr_S, hi, hl) else am_ret (C 175 [.ref 32, .int 4] (pr_S, hi, hl)) fun v G => am_ops C J tb_s180_41 41 [(2, .int x2), (1, .int x1), (0, .ref 32)] (v ++ []) G := rfl
set_option maxRecDepth 1000000 in
theorem ch_180_4 (C : am_C) (J : am_J) (x2 : Int32) (x1 : Int32) (hi : Nat → Nat → Int32) (hl : Nat → Nat → Int64) : am_ops C J tb_o180_44 44 [(2, .int x2), (1, .int x1), (0, .ref 32)] [] (pr_S, hi, hl) = if x1 < (4 : Int32) then J 57 [(2, .int x2), (1, .int x1), (0, .ref 32)] [] (pr_S, hi, hl) else am_ret (C 175 [.ref 32, .int 5] (pr_S, hi, hl)) fun v G => am_ops C J tb_s180_54 54 [(2, .int x2), (1, .int x1), (0, .ref 32)] (v ++ []) G := rfl
set_option maxRecDepth 1000000 in
theorem ch_180_5 (C : am_C) (J : am_J) (x2 : Int32) (x1 : Int32) (hi : Nat → Nat → Int32) (hl : Nat → Nat → Int64) : am_ops C J tb_s180_41 41 [(2, .int x2), (1, .int x1), (0, .ref 32)] ([] ++ []) (pr_S, hi, hl) = J 80 [(2, .int x2), (1, .int x1), (0, .ref 32)] [] (pr_S, hi, hl) := rfl
set_option maxRecDepth 1000000 in
theorem ch_180_6 (C : am_C) (J : am_J) (x2 : Int32) (x1 : Int32) (hi : Nat → Nat → Int32) (hl : Nat → Nat → Int64) : am_ops C J tb_o180_57 57 [(2, .int x2), (1, .int x1), (0, .ref 32)] [] (pr_S, hi, hl) = am_ret (C 198 [.ref 32, .int 0] (pr_S, hi, hl)) fun v G => am_ops C J tb_s180_70 70 [(2, .int x2), (1, .int x1), (0, .ref 32)] (v ++ [.long (hl 1 3), .ref 32]) G := rfl
set_option maxRecDepth 1000000 in
theorem ch_180_7 (C : am_C) (J : am_J) (x2 : Int32) (x1 : Int32) (hi : Nat → Nat → Int32) (hl : Nat → Nat → Int64) : am_ops C J tb_s180_54 54 [(2, .int x2), (1, .int x1), (0, .ref 32)] ([] ++ []) (pr_S, hi, hl) = J 80 [(2, .int x2), (1, .int x1), (0, .ref 32)] [] (pr_S, hi, hl) := rfl
set_option maxRecDepth 1000000 in
theorem ch_180_8 (C : am_C) (J : am_J) (x2 : Int32) (x1 : Int32) (hi : Nat → Nat → Int32) (hl : Nat → Nat → Int64) : am_ops C J tb_o180_80 80 [(2, .int x2), (1, .int x1), (0, .ref 32)] [] (pr_S, hi, hl) = J 4 [(2, .int (x2 + 1)), (1, .int x1), (0, .ref 32)] [] (pr_S, hi, hl) := rfl
set_option maxRecDepth 1000000 in
theorem ch_180_9 (C : am_C) (J : am_J) (x2 : Int32) (x1 : Int32) (s0 : Int32) (z1 : Int64) (hi : Nat → Nat → Int32) (hl : Nat → Nat → Int64) : am_ops C J tb_s180_70 70 [(2, .int x2), (1, .int x1), (0, .ref 32)] ([.int s0] ++ [.long z1, .ref 32]) (pr_S, hi, hl) = am_ret (C 200 [.ref 32, .long z1, .int s0] (pr_S, hi, hl)) fun v G => am_ops C J tb_s180_73 73 [(2, .int x2), (1, .int x1), (0, .ref 32)] (v ++ []) G := rfl
set_option maxRecDepth 1000000 in
theorem ch_180_10 (C : am_C) (J : am_J) (x2 : Int32) (x1 : Int32) (hi : Nat → Nat → Int32) (hl : Nat → Nat → Int64) : am_ops C J tb_s180_73 73 [(2, .int x2), (1, .int x1), (0, .ref 32)] ([] ++ []) (pr_S, hi, hl) = am_ret (C 177 [.ref 32] (pr_S, hi, hl)) fun v G => am_ops C J tb_s180_80 80 [(1, .int (x1 + 1)), (2, .int x2), (0, .ref 32)] (v ++ []) G := rfl
set_option maxRecDepth 1000000 in
theorem ch_180_11 (C : am_C) (J : am_J) (x1 : Int32) (x2 : Int32) (hi : Nat → Nat → Int32) (hl : Nat → Nat → Int64) : am_ops C J tb_s180_80 80 [(1, .int x1), (2, .int x2), (0, .ref 32)] ([] ++ []) (pr_S, hi, hl) = J 80 [(1, .int x1), (2, .int x2), (0, .ref 32)] [] (pr_S, hi, hl) := rfl
set_option maxRecDepth 1000000 in
theorem ch_180_12 (C : am_C) (J : am_J) (x1 : Int32) (x2 : Int32) (hi : Nat → Nat → Int32) (hl : Nat → Nat → Int64) : am_ops C J tb_o180_80 80 [(1, .int x1), (2, .int x2), (0, .ref 32)] [] (pr_S, hi, hl) = J 4 [(2, .int (x2 + 1)), (1, .int x1), (0, .ref 32)] [] (pr_S, hi, hl) := rfl
theorem ht_180_0 (C : am_C) (back : am_J) (ls : am_L) (st : List Value) (G : am_G) : am_fwd C back tb_r180_0 0 ls st G = am_ops C (am_fwd C back tb_r180_1) tb_o180_0 0 ls st G := if_pos rfl
theorem ht_180_1 (C : am_C) (back : am_J) (ls : am_L) (st : List Value) (G : am_G) : am_fwd C back tb_r180_1 4 ls st G = am_ops C (am_fwd C back tb_r180_2) tb_o180_4 4 ls st G := if_pos rfl
theorem ht_180_2 (C : am_C) (back : am_J) (ls : am_L) (st : List Value) (G : am_G) : am_fwd C back tb_r180_2 44 ls st G = am_ops C (am_fwd C back tb_r180_3) tb_o180_44 44 ls st G := if_pos rfl
theorem ht_180_3 (C : am_C) (back : am_J) (ls : am_L) (st : List Value) (G : am_G) : am_fwd C back tb_r180_3 57 ls st G = am_ops C (am_fwd C back tb_r180_4) tb_o180_57 57 ls st G := if_pos rfl
theorem ht_180_4 (C : am_C) (back : am_J) (ls : am_L) (st : List Value) (G : am_G) : am_fwd C back tb_r180_4 80 ls st G = am_ops C (am_fwd C back tb_r180_5) tb_o180_80 80 ls st G := if_pos rfl
theorem ht_180_5 (C : am_C) (back : am_J) (ls : am_L) (st : List Value) (G : am_G) : am_fwd C back tb_r180_5 86 ls st G = am_ops C (am_fwd C back tb_r180_6) tb_o180_86 86 ls st G := if_pos rfl
theorem sk_180_2_86 (C : am_C) (back : am_J) (ls : am_L) (st : List Value) (G : am_G) : am_fwd C back tb_r180_2 86 ls st G = am_fwd C back tb_r180_5 86 ls st G := (((ev_miss (by decide)).trans (ev_miss (by decide))).trans (ev_miss (by decide)))
theorem sk_180_2_80 (C : am_C) (back : am_J) (ls : am_L) (st : List Value) (G : am_G) : am_fwd C back tb_r180_2 80 ls st G = am_fwd C back tb_r180_4 80 ls st G := ((ev_miss (by decide)).trans (ev_miss (by decide)))
theorem sk_180_3_80 (C : am_C) (back : am_J) (ls : am_L) (st : List Value) (G : am_G) : am_fwd C back tb_r180_3 80 ls st G = am_fwd C back tb_r180_4 80 ls st G := (ev_miss (by decide))
theorem sk_180_5_4 (C : am_C) (back : am_J) (ls : am_L) (st : List Value) (G : am_G) : am_fwd C back tb_r180_5 4 ls st G = back 4 ls st G := (ev_miss (by decide))
theorem lp_180_4 (C : am_C) (n : Nat) (ls : am_L) (st : List Value) (G : am_G) : am_run C tb_r180_0 (n + 1) 4 ls st G = am_fwd C (am_run C tb_r180_0 n) tb_r180_1 4 ls st G := (ev_miss (by decide))
/-! UsageProofs$Parser.parseExpression()I -/
theorem en_181 (d : Nat)  (hi : Nat → Nat → Int32) (hl : Nat → Nat → Int64) : am_call tb_P (d + 1) 181 [.ref 32] (pr_S, hi, hl) = am_fwd (am_call tb_P d) (am_run (am_call tb_P d) tb_r181_0 999999) tb_r181_0 0 [(0, .ref 32)] [] (pr_S, hi, hl) := ev_en (mL := 3) (bs := tb_r181_0) rfl (Nat.le_of_ble_eq_true rfl)
set_option maxRecDepth 1000000 in
theorem ch_181_0 (C : am_C) (J : am_J)  (hi : Nat → Nat → Int32) (hl : Nat → Nat → Int64) : am_ops C J tb_o181_0 0 [(0, .ref 32)] [] (pr_S, hi, hl) = if (hi 1 1) = 92 then J 48 [(0, .ref 32)] [] (pr_S, hi, hl) else if (hi 1 1) = 260 then J 53 [(0, .ref 32)] [] (pr_S, hi, hl) else if (hi 1 1) = 262 then J 58 [(0, .ref 32)] [] (pr_S, hi, hl) else if (hi 1 1) = 265 then J 63 [(0, .ref 32)] [] (pr_S, hi, hl) else J 68 [(0, .ref 32)] [] (pr_S, hi, hl) := rfl
set_option maxRecDepth 1000000 in
theorem ch_181_1 (C : am_C) (J : am_J)  (hi : Nat → Nat → Int32) (hl : Nat → Nat → Int64) : am_ops C J tb_o181_48 48 [(0, .ref 32)] [] (pr_S, hi, hl) = am_ret (C 182 [.ref 32] (pr_S, hi, hl)) fun v G => am_ops C J tb_s181_52 52 [(0, .ref 32)] (v ++ []) G := rfl
set_option maxRecDepth 1000000 in
theorem ch_181_2 (C : am_C) (J : am_J)  (hi : Nat → Nat → Int32) (hl : Nat → Nat → Int64) : am_ops C J tb_o181_53 53 [(0, .ref 32)] [] (pr_S, hi, hl) = am_ret (C 183 [.ref 32] (pr_S, hi, hl)) fun v G => am_ops C J tb_s181_57 57 [(0, .ref 32)] (v ++ []) G := rfl
set_option maxRecDepth 1000000 in
theorem ch_181_3 (C : am_C) (J : am_J)  (hi : Nat → Nat → Int32) (hl : Nat → Nat → Int64) : am_ops C J tb_o181_58 58 [(0, .ref 32)] [] (pr_S, hi, hl) = am_ret (C 184 [.ref 32] (pr_S, hi, hl)) fun v G => am_ops C J tb_s181_62 62 [(0, .ref 32)] (v ++ []) G := rfl
set_option maxRecDepth 1000000 in
theorem ch_181_4 (C : am_C) (J : am_J)  (hi : Nat → Nat → Int32) (hl : Nat → Nat → Int64) : am_ops C J tb_o181_63 63 [(0, .ref 32)] [] (pr_S, hi, hl) = am_ret (C 185 [.ref 32] (pr_S, hi, hl)) fun v G => am_ops C J tb_s181_67 67 [(0, .ref 32)] (v ++ []) G := rfl
set_option maxRecDepth 1000000 in
theorem ch_181_5 (C : am_C) (J : am_J)  (hi : Nat → Nat → Int32) (hl : Nat → Nat → Int64) : am_ops C J tb_o181_68 68 [(0, .ref 32)] [] (pr_S, hi, hl) = am_ret (C 188 [.ref 32] (pr_S, hi, hl)) fun v G => am_ops C J tb_s181_72 72 [(0, .ref 32)] (v ++ []) G := rfl
set_option maxRecDepth 1000000 in
theorem ch_181_6 (C : am_C) (J : am_J) (s0 : Int32) (hi : Nat → Nat → Int32) (hl : Nat → Nat → Int64) : am_ops C J tb_s181_52 52 [(0, .ref 32)] ([.int s0] ++ []) (pr_S, hi, hl) = some (some (.int s0), (pr_S, hi, hl)) := rfl
set_option maxRecDepth 1000000 in
theorem ch_181_7 (C : am_C) (J : am_J) (s0 : Int32) (hi : Nat → Nat → Int32) (hl : Nat → Nat → Int64) : am_ops C J tb_s181_57 57 [(0, .ref 32)] ([.int s0] ++ []) (pr_S, hi, hl) = some (some (.int s0), (pr_S, hi, hl)) := rfl
set_option maxRecDepth 1000000 in
theorem ch_181_8 (C : am_C) (J : am_J) (s0 : Int32) (hi : Nat → Nat → Int32) (hl : Nat → Nat → Int64) : am_ops C J tb_s181_62 62 [(0, .ref 32)] ([.int s0] ++ []) (pr_S, hi, hl) = some (some (.int s0), (pr_S, hi, hl)) := rfl
set_option maxRecDepth 1000000 in
theorem ch_181_9 (C : am_C) (J : am_J) (s0 : Int32) (hi : Nat → Nat → Int32) (hl : Nat → Nat → Int64) : am_ops C J tb_s181_67 67 [(0, .ref 32)] ([.int s0] ++ []) (pr_S, hi, hl) = some (some (.int s0), (pr_S, hi, hl)) := rfl
set_option maxRecDepth 1000000 in
theorem ch_181_10 (C : am_C) (J : am_J) (s0 : Int32) (hi : Nat → Nat → Int32) (hl : Nat → Nat → Int64) : am_ops C J tb_s181_72 72 [(0, .ref 32)] ([.int s0] ++ []) (pr_S, hi, hl) = if (hi 1 1) = (60 : Int32) then J 87 [(1, .int s0), (0, .ref 32)] [] (pr_S, hi, hl) else some (some (.int s0), (pr_S, hi, hl)) := rfl
set_option maxRecDepth 1000000 in
theorem ch_181_11 (C : am_C) (J : am_J) (x1 : Int32) (hi : Nat → Nat → Int32) (hl : Nat → Nat → Int64) : am_ops C J tb_o181_87 87 [(1, .int x1), (0, .ref 32)] [] (pr_S, hi, hl) = am_ret (C 177 [.ref 32] (pr_S, hi, hl)) fun v G => am_ops C J tb_s181_91 91 [(1, .int x1), (0, .ref 32)] (v ++ []) G := rfl
set_option maxRecDepth 1000000 in
theorem ch_181_12 (C : am_C) (J : am_J) (x1 : Int32) (hi : Nat → Nat → Int32) (hl : Nat → Nat → Int64) : am_ops C J tb_s181_91 91 [(1, .int x1), (0, .ref 32)] ([] ++ []) (pr_S, hi, hl) = am_ret (C 188 [.ref 32] (pr_S, hi, hl)) fun v G => am_ops C J tb_s181_95 95 [(1, .int x1), (0, .ref 32)] (v ++ []) G := rfl
set_option maxRecDepth 1000000 in
theorem ch_181_13 (C : am_C) (J : am_J) (x1 : Int32) (s0 : Int32) (hi : Nat → Nat → Int32) (hl : Nat → Nat → Int64) : am_ops C J tb_s181_95 95 [(1, .int x1), (0, .ref 32)] ([.int s0] ++ []) (pr_S, hi, hl) = am_ret (C 199 [.ref 32, .int 8, .int 60, .int x1, .int s0] (pr_S, hi, hl)) fun v G => am_ops C J tb_s181_106 106 [(2, .int s0), (1, .int x1), (0, .ref 32)] (v ++ []) G := rfl
set_option maxRecDepth 1000000 in
theorem ch_181_14 (C : am_C) (J : am_J) (x2 : Int32) (x1 : Int32) (s0 : Int32) (hi : Nat → Nat → Int32) (hl : Nat → Nat → Int64) : am_ops C J tb_s181_106 106 [(2, .int x2), (1, .int x1), (0, .ref 32)] ([.int s0] ++ []) (pr_S, hi, hl) = some (some (.int s0), (pr_S, hi, hl)) := rfl
theorem ht_181_0 (C : am_C) (back : am_J) (ls : am_L) (st : List Value) (G : am_G) : am_fwd C back tb_r181_0 0 ls st G = am_ops C (am_fwd C back tb_r181_1) tb_o181_0 0 ls st G := if_pos rfl
theorem ht_181_1 (C : am_C) (back : am_J) (ls : am_L) (st : List Value) (G : am_G) : am_fwd C back tb_r181_1 48 ls st G = am_ops C (am_fwd C back tb_r181_2) tb_o181_48 48 ls st G := if_pos rfl
theorem ht_181_2 (C : am_C) (back : am_J) (ls : am_L) (st : List Value) (G : am_G) : am_fwd C back tb_r181_2 53 ls st G = am_ops C (am_fwd C back tb_r181_3) tb_o181_53 53 ls st G := if_pos rfl
theorem ht_181_3 (C : am_C) (back : am_J) (ls : am_L) (st : List Value) (G : am_G) : am_fwd C back tb_r181_3 58 ls st G = am_ops C (am_fwd C back tb_r181_4) tb_o181_58 58 ls st G := if_pos rfl
theorem ht_181_4 (C : am_C) (back : am_J) (ls : am_L) (st : List Value) (G : am_G) : am_fwd C back tb_r181_4 63 ls st G = am_ops C (am_fwd C back tb_r181_5) tb_o181_63 63 ls st G := if_pos rfl
theorem ht_181_5 (C : am_C) (back : am_J) (ls : am_L) (st : List Value) (G : am_G) : am_fwd C back tb_r181_5 68 ls st G = am_ops C (am_fwd C back tb_r181_6) tb_o181_68 68 ls st G := if_pos rfl
theorem ht_181_6 (C : am_C) (back : am_J) (ls : am_L) (st : List Value) (G : am_G) : am_fwd C back tb_r181_6 87 ls st G = am_ops C (am_fwd C back tb_r181_7) tb_o181_87 87 ls st G := if_pos rfl
theorem sk_181_1_53 (C : am_C) (back : am_J) (ls : am_L) (st : List Value) (G : am_G) : am_fwd C back tb_r181_1 53 ls st G = am_fwd C back tb_r181_2 53 ls st G := (ev_miss (by decide))
theorem sk_181_1_58 (C : am_C) (back : am_J) (ls : am_L) (st : List Value) (G : am_G) : am_fwd C back tb_r181_1 58 ls st G = am_fwd C back tb_r181_3 58 ls st G := ((ev_miss (by decide)).trans (ev_miss (by decide)))
theorem sk_181_1_63 (C : am_C) (back : am_J) (ls : am_L) (st : List Value) (G : am_G) : am_fwd C back tb_r181_1 63 ls st G = am_fwd C back tb_r181_4 63 ls st G := (((ev_miss (by decide)).trans (ev_miss (by decide))).trans (ev_miss (by decide)))
theorem sk_181_1_68 (C : am_C) (back : am_J) (ls : am_L) (st : List Value) (G : am_G) : am_fwd C back tb_r181_1 68 ls st G = am_fwd C back tb_r181_5 68 ls st G := ((((ev_miss (by decide)).trans (ev_miss (by decide))).trans (ev_miss (by decide))).trans (ev_miss (by decide)))
/-! UsageProofs$Parser.parseLambda()I -/
theorem en_182 (d : Nat)  (hi : Nat → Nat → Int32) (hl : Nat → Nat → Int64) : am_call tb_P (d + 1) 182 [.ref 32] (pr_S, hi, hl) = am_fwd (am_call tb_P d) (am_run (am_call tb_P d) tb_r182_0 999999) tb_r182_0 0 [(0, .ref 32)] [] (pr_S, hi, hl) := ev_en (mL := 7) (bs := tb_r182_0) rfl (Nat.le_of_ble_eq_true rfl)
set_option maxRecDepth 1000000 in
theorem ch_182_0 (C : am_C) (J : am_J)  (hi : Nat → Nat → Int32) (hl : Nat → Nat → Int64) : am_ops C J tb_o182_0 0 [(0, .ref 32)] [] (pr_S, hi, hl) = am_ret (C 196 [.ref 32] (pr_S, hi, hl)) fun v G => am_ops C J tb_s182_9 9 [(1, .int (hi 32 3)), (0, .ref 32)] (v ++ []) G := rfl
set_option maxRecDepth 1000000 in
theorem ch_182_1 (C : am_C) (J : am_J) (x1 : Int32) (hi : Nat → Nat → Int32) (hl : Nat → Nat → Int64) : am_ops C J tb_s182_9 9 [(1, .int x1), (0, .ref 32)] ([] ++ []) (pr_S, hi, hl) = am_ret (C 198 [.ref 32, .int 4] (pr_S, hi, hl)) fun v G => am_ops C J tb_s182_14 14 [(1, .int x1), (0, .ref 32)] (v ++ []) G := rfl
set_option maxRecDepth 1000000 in
theorem ch_182_2 (C : am_C) (J : am_J) (x1 : Int32) (s0 : Int32) (hi : Nat → Nat → Int32) (hl : Nat → Nat → Int64) : am_ops C J tb_s182_14 14 [(1, .int x1), (0, .ref 32)] ([.int s0] ++ []) (pr_S, hi, hl) = am_ret (C 177 [.ref 32] (pr_S, hi, hl)) fun v G => am_ops C J tb_s182_19 19 [(2, .int s0), (1, .int x1), (0, .ref 32)] (v ++ []) G := rfl
set_option maxRecDepth 1000000 in
theorem ch_182_3 (C : am_C) (J : am_J) (x2 : Int32) (x1 : Int32) (hi : Nat → Nat → Int32) (hl : Nat → Nat → Int64) : am_ops C J tb_s182_19 19 [(2, .int x2), (1, .int x1), (0, .ref 32)] ([] ++ []) (pr_S, hi, hl) = am_ret (C 187 [.ref 32, .int 3] (pr_S, hi, hl)) fun v G => am_ops C J tb_s182_32 32 [(3, .long (hl 1 3)), (2, .int x2), (1, .int x1), (0, .ref 32)] (v ++ []) G := rfl
set_option maxRecDepth 1000000 in
theorem ch_182_4 (C : am_C) (J : am_J) (y3 : Int64) (x2 : Int32) (x1 : Int32) (s0 : Int32) (hi : Nat → Nat → Int32) (hl : Nat → Nat → Int64) : am_ops C J tb_s182_32 32 [(3, .long y3), (2, .int x2), (1, .int x1), (0, .ref 32)] ([.int s0] ++ []) (pr_S, hi, hl) = am_ret (C 178 [.ref 32, .int 46] (pr_S, hi, hl)) fun v G => am_ops C J tb_s182_40 40 [(5, .int s0), (3, .long y3), (2, .int x2), (1, .int x1), (0, .ref 32)] (v ++ []) G := rfl
set_option maxRecDepth 1000000 in
theorem ch_182_5 (C : am_C) (J : am_J) (x5 : Int32) (y3 : Int64) (x2 : Int32) (x1 : Int32) (hi : Nat → Nat → Int32) (hl : Nat → Nat → Int64) : am_ops C J tb_s182_40 40 [(5, .int x5), (3, .long y3), (2, .int x2), (1, .int x1), (0, .ref 32)] ([] ++ []) (pr_S, hi, hl) = am_ret (C 200 [.ref 32, .long y3, .int x5] (pr_S, hi, hl)) fun v G => am_ops C J tb_s182_47 47 [(5, .int x5), (3, .long y3), (2, .int x2), (1, .int x1), (0, .ref 32)] (v ++ []) G := rfl
set_option maxRecDepth 1000000 in
theorem ch_182_6 (C : am_C) (J : am_J) (x5 : Int32) (y3 : Int64) (x2 : Int32) (x1 : Int32) (hi : Nat → Nat → Int32) (hl : Nat → Nat → Int64) : am_ops C J tb_s182_47 47 [(5, .int x5), (3, .long y3), (2, .int x2), (1, .int x1), (0, .ref 32)] ([] ++ []) (pr_S, hi, hl) = am_ret (C 181 [.ref 32] (pr_S, hi, hl)) fun v G => am_ops C J tb_s182_51 51 [(5, .int x5), (3, .long y3), (2, .int x2), (1, .int x1), (0, .ref 32)] (v ++ []) G := rfl
set_option maxRecDepth 1000000 in
theorem ch_182_7 (C : am_C) (J : am_J) (x5 : Int32) (y3 : Int64) (x2 : Int32) (x1 : Int32) (s0 : Int32) (hi : Nat → Nat → Int32) (hl : Nat → Nat → Int64) : am_ops C J tb_s182_51 51 [(5, .int x5), (3, .long y3), (2, .int x2), (1, .int x1), (0, .ref 32)] ([.int s0] ++ []) (pr_S, hi, hl) = am_ret (C 197 [.ref 32, .int x1] (pr_S, hi, hl)) fun v G => am_ops C J tb_s182_58 58 [(6, .int s0), (5, .int x5), (3, .long y3), (2, .int x2), (1, .int x1), (0, .ref 32)] (v ++ []) G := rfl
set_option maxRecDepth 1000000 in
theorem ch_182_8 (C : am_C) (J : am_J) (x6 : Int32) (x5 : Int32) (y3 : Int64) (x2 : Int32) (x1 : Int32) (hi : Nat → Nat → Int32) (hl : Nat → Nat → Int64) : am_ops C J tb_s182_58 58 [(6, .int x6), (5, .int x5), (3, .long y3), (2, .int x2), (1, .int x1), (0, .ref 32)] ([] ++ []) (pr_S, hi, hl) = am_ret (C 199 [.ref 32, .int 4, .int x2, .int x6, .int (-1)] (pr_S, hi, hl)) fun v G => am_ops C J tb_s182_67 67 [(6, .int x6), (5, .int x5), (3, .long y3), (2, .int x2), (1, .int x1), (0, .ref 32)] (v ++ []) G := rfl
set_option maxRecDepth 1000000 in
theorem ch_182_9 (C : am_C) (J : am_J) (x6 : Int32) (x5 : Int32) (y3 : Int64) (x2 : Int32) (x1 : Int32) (s0 : Int32) (hi : Nat → Nat → Int32) (hl : Nat → Nat → Int64) : am_ops C J tb_s182_67 67 [(6, .int x6), (5, .int x5), (3, .long y3), (2, .int x2), (1, .int x1), (0, .ref 32)] ([.int s0] ++ []) (pr_S, hi, hl) = some (some (.int s0), (pr_S, hi, hl)) := rfl
theorem ht_182_0 (C : am_C) (back : am_J) (ls : am_L) (st : List Value) (G : am_G) : am_fwd C back tb_r182_0 0 ls st G = am_ops C (am_fwd C back tb_r182_1) tb_o182_0 0 ls st G := if_pos rfl
/-! UsageProofs$Parser.parseLet()I -/
theorem en_183 (d : Nat)  (hi : Nat → Nat → Int32) (hl : Nat → Nat → Int64) : am_call tb_P (d + 1) 183 [.ref 32] (pr_S, hi, hl) = am_fwd (am_call tb_P d) (am_run (am_call tb_P d) tb_r183_0 999999) tb_r183_0 0 [(0, .ref 32)] [] (pr_S, hi, hl) := ev_en (mL := 7) (bs := tb_r183_0) rfl (Nat.le_of_ble_eq_true rfl)
set_option maxRecDepth 1000000 in
theorem ch_183_0 (C : am_C) (J : am_J)  (hi : Nat → Nat → Int32) (hl : Nat → Nat → Int64) : am_ops C J tb_o183_0 0 [(0, .ref 32)] [] (pr_S, hi, hl) = am_ret (C 196 [.ref 32] (pr_S, hi, hl)) fun v G => am_ops C J tb_s183_9 9 [(1, .int (hi 32 3)), (0, .ref 32)] (v ++ []) G := rfl
set_option maxRecDepth 1000000 in
theorem ch_183_1 (C : am_C) (J : am_J) (x1 : Int32) (hi : Nat → Nat → Int32) (hl : Nat → Nat → Int64) : am_ops C J tb_s183_9 9 [(1, .int x1), (0, .ref 32)] ([] ++ []) (pr_S, hi, hl) = am_ret (C 177 [.ref 32] (pr_S, hi, hl)) fun v G => am_ops C J tb_s183_13 13 [(1, .int x1), (0, .ref 32)] (v ++ []) G := rfl
set_option maxRecDepth 1000000 in
theorem ch_183_2 (C : am_C) (J : am_J) (x1 : Int32) (hi : Nat → Nat → Int32) (hl : Nat → Nat → Int64) : am_ops C J tb_s183_13 13 [(1, .int x1), (0, .ref 32)] ([] ++ []) (pr_S, hi, hl) = am_ret (C 187 [.ref 32, .int 1] (pr_S, hi, hl)) fun v G => am_ops C J tb_s183_26 26 [(2, .long (hl 1 3)), (1, .int x1), (0, .ref 32)] (v ++ []) G := rfl
set_option maxRecDepth 1000000 in
theorem ch_183_3 (C : am_C) (J : am_J) (y2 : Int64) (x1 : Int32) (s0 : Int32) (hi : Nat → Nat → Int32) (hl : Nat → Nat → Int64) : am_ops C J tb_s183_26 26 [(2, .long y2), (1, .int x1), (0, .ref 32)] ([.int s0] ++ []) (pr_S, hi, hl) = am_ret (C 178 [.ref 32, .int 61] (pr_S, hi, hl)) fun v G => am_ops C J tb_s183_34 34 [(4, .int s0), (2, .long y2), (1, .int x1), (0, .ref 32)] (v ++ []) G := rfl
set_option maxRecDepth 1000000 in
theorem ch_183_4 (C : am_C) (J : am_J) (x4 : Int32) (y2 : Int64) (x1 : Int32) (hi : Nat → Nat → Int32) (hl : Nat → Nat → Int64) : am_ops C J tb_s183_34 34 [(4, .int x4), (2, .long y2), (1, .int x1), (0, .ref 32)] ([] ++ []) (pr_S, hi, hl) = am_ret (C 181 [.ref 32] (pr_S, hi, hl)) fun v G => am_ops C J tb_s183_38 38 [(4, .int x4), (2, .long y2), (1, .int x1), (0, .ref 32)] (v ++ []) G := rfl
set_option maxRecDepth 1000000 in
theorem ch_183_5 (C : am_C) (J : am_J) (x4 : Int32) (y2 : Int64) (x1 : Int32) (s0 : Int32) (hi : Nat → Nat → Int32) (hl : Nat → Nat → Int64) : am_ops C J tb_s183_38 38 [(4, .int x4), (2, .long y2), (1, .int x1), (0, .ref 32)] ([.int s0] ++ []) (pr_S, hi, hl) = am_ret (C 178 [.ref 32, .int 261] (pr_S, hi, hl)) fun v G => am_ops C J tb_s183_47 47 [(5, .int s0), (4, .int x4), (2, .long y2), (1, .int x1), (0, .ref 32)] (v ++ []) G := rfl
set_option maxRecDepth 1000000 in
theorem ch_183_6 (C : am_C) (J : am_J) (x5 : Int32) (x4 : Int32) (y2 : Int64) (x1 : Int32) (hi : Nat → Nat → Int32) (hl : Nat → Nat → Int64) : am_ops C J tb_s183_47 47 [(5, .int x5), (4, .int x4), (2, .long y2), (1, .int x1), (0, .ref 32)] ([] ++ []) (pr_S, hi, hl) = am_ret (C 200 [.ref 32, .long y2, .int x4] (pr_S, hi, hl)) fun v G => am_ops C J tb_s183_54 54 [(5, .int x5), (4, .int x4), (2, .long y2), (1, .int x1), (0, .ref 32)] (v ++ []) G := rfl
set_option maxRecDepth 1000000 in
theorem ch_183_7 (C : am_C) (J : am_J) (x5 : Int32) (x4 : Int32) (y2 : Int64) (x1 : Int32) (hi : Nat → Nat → Int32) (hl : Nat → Nat → Int64) : am_ops C J tb_s183_54 54 [(5, .int x5), (4, .int x4), (2, .long y2), (1, .int x1), (0, .ref 32)] ([] ++ []) (pr_S, hi, hl) = am_ret (C 181 [.ref 32] (pr_S, hi, hl)) fun v G => am_ops C J tb_s183_58 58 [(5, .int x5), (4, .int x4), (2, .long y2), (1, .int x1), (0, .ref 32)] (v ++ []) G := rfl
set_option maxRecDepth 1000000 in
theorem ch_183_8 (C : am_C) (J : am_J) (x5 : Int32) (x4 : Int32) (y2 : Int64) (x1 : Int32) (s0 : Int32) (hi : Nat → Nat → Int32) (hl : Nat → Nat → Int64) : am_ops C J tb_s183_58 58 [(5, .int x5), (4, .int x4), (2, .long y2), (1, .int x1), (0, .ref 32)] ([.int s0] ++ []) (pr_S, hi, hl) = am_ret (C 197 [.ref 32, .int x1] (pr_S, hi, hl)) fun v G => am_ops C J tb_s183_65 65 [(6, .int s0), (5, .int x5), (4, .int x4), (2, .long y2), (1, .int x1), (0, .ref 32)] (v ++ []) G := rfl
set_option maxRecDepth 1000000 in
theorem ch_183_9 (C : am_C) (J : am_J) (x6 : Int32) (x5 : Int32) (x4 : Int32) (y2 : Int64) (x1 : Int32) (hi : Nat → Nat → Int32) (hl : Nat → Nat → Int64) : am_ops C J tb_s183_65 65 [(6, .int x6), (5, .int x5), (4, .int x4), (2, .long y2), (1, .int x1), (0, .ref 32)] ([] ++ []) (pr_S, hi, hl) = am_ret (C 199 [.ref 32, .int 5, .int x4, .int x5, .int x6] (pr_S, hi, hl)) fun v G => am_ops C J tb_s183_76 76 [(6, .int x6), (5, .int x5), (4, .int x4), (2, .long y2), (1, .int x1), (0, .ref 32)] (v ++ []) G := rfl
set_option maxRecDepth 1000000 in
theorem ch_183_10 (C : am_C) (J : am_J) (x6 : Int32) (x5 : Int32) (x4 : Int32) (y2 : Int64) (x1 : Int32) (s0 : Int32) (hi : Nat → Nat → Int32) (hl : Nat → Nat → Int64) : am_ops C J tb_s183_76 76 [(6, .int x6), (5, .int x5), (4, .int x4), (2, .long y2), (1, .int x1), (0, .ref 32)] ([.int s0] ++ []) (pr_S, hi, hl) = some (some (.int s0), (pr_S, hi, hl)) := rfl
theorem ht_183_0 (C : am_C) (back : am_J) (ls : am_L) (st : List Value) (G : am_G) : am_fwd C back tb_r183_0 0 ls st G = am_ops C (am_fwd C back tb_r183_1) tb_o183_0 0 ls st G := if_pos rfl
/-! UsageProofs$Parser.parseIf()I -/
theorem en_184 (d : Nat)  (hi : Nat → Nat → Int32) (hl : Nat → Nat → Int64) : am_call tb_P (d + 1) 184 [.ref 32] (pr_S, hi, hl) = am_fwd (am_call tb_P d) (am_run (am_call tb_P d) tb_r184_0 999999) tb_r184_0 0 [(0, .ref 32)] [] (pr_S, hi, hl) := ev_en (mL := 4) (bs := tb_r184_0) rfl (Nat.le_of_ble_eq_true rfl)
set_option maxRecDepth 1000000 in
theorem ch_184_0 (C : am_C) (J : am_J)  (hi : Nat → Nat → Int32) (hl : Nat → Nat → Int64) : am_ops C J tb_o184_0 0 [(0, .ref 32)] [] (pr_S, hi, hl) = am_ret (C 196 [.ref 32] (pr_S, hi, hl)) fun v G => am_ops C J tb_s184_4 4 [(0, .ref 32)] (v ++ []) G := rfl
set_option maxRecDepth 1000000 in
theorem ch_184_1 (C : am_C) (J : am_J)  (hi : Nat → Nat → Int32) (hl : Nat → Nat → Int64) : am_ops C J tb_s184_4 4 [(0, .ref 32)] ([] ++ []) (pr_S, hi, hl) = am_ret (C 177 [.ref 32] (pr_S, hi, hl)) fun v G => am_ops C J tb_s184_8 8 [(0, .ref 32)] (v ++ []) G := rfl
set_option maxRecDepth 1000000 in
theorem ch_184_2 (C : am_C) (J : am_J)  (hi : Nat → Nat → Int32) (hl : Nat → Nat → Int64) : am_ops C J tb_s184_8 8 [(0, .ref 32)] ([] ++ []) (pr_S, hi, hl) = am_ret (C 181 [.ref 32] (pr_S, hi, hl)) fun v G => am_ops C J tb_s184_12 12 [(0, .ref 32)] (v ++ []) G := rfl
set_option maxRecDepth 1000000 in
theorem ch_184_3 (C : am_C) (J : am_J) (s0 : Int32) (hi : Nat → Nat → Int32) (hl : Nat → Nat → Int64) : am_ops C J tb_s184_12 12 [(0, .ref 32)] ([.int s0] ++ []) (pr_S, hi, hl) = am_ret (C 178 [.ref 32, .int 263] (pr_S, hi, hl)) fun v G => am_ops C J tb_s184_20 20 [(1, .int s0), (0, .ref 32)] (v ++ []) G := rfl
set_option maxRecDepth 1000000 in
theorem ch_184_4 (C : am_C) (J : am_J) (x1 : Int32) (hi : Nat → Nat → Int32) (hl : Nat → Nat → Int64) : am_ops C J tb_s184_20 20 [(1, .int x1), (0, .ref 32)] ([] ++ []) (pr_S, hi, hl) = am_ret (C 181 [.ref 32] (pr_S, hi, hl)) fun v G => am_ops C J tb_s184_24 24 [(1, .int x1), (0, .ref 32)] (v ++ []) G := rfl
set_option maxRecDepth 1000000 in
theorem ch_184_5 (C : am_C) (J : am_J) (x1 : Int32) (s0 : Int32) (hi : Nat → Nat → Int32) (hl : Nat → Nat → Int64) : am_ops C J tb_s184_24 24 [(1, .int x1), (0, .ref 32)] ([.int s0] ++ []) (pr_S, hi, hl) = am_ret (C 178 [.ref 32, .int 264] (pr_S, hi, hl)) fun v G => am_ops C J tb_s184_32 32 [(2, .int s0), (1, .int x1), (0, .ref 32)] (v ++ []) G := rfl
set_option maxRecDepth 1000000 in
theorem ch_184_6 (C : am_C) (J : am_J) (x2 : Int32) (x1 : Int32) (hi : Nat → Nat → Int32) (hl : Nat → Nat → Int64) : am_ops C J tb_s184_32 32 [(2, .int x2), (1, .int x1), (0, .ref 32)] ([] ++ []) (pr_S, hi, hl) = am_ret (C 181 [.ref 32] (pr_S, hi, hl)) fun v G => am_ops C J tb_s184_36 36 [(2, .int x2), (1, .int x1), (0, .ref 32)] (v ++ []) G := rfl
set_option maxRecDepth 1000000 in
theorem ch_184_7 (C : am_C) (J : am_J) (x2 : Int32) (x1 : Int32) (s0 : Int32) (hi : Nat → Nat → Int32) (hl : Nat → Nat → Int64) : am_ops C J tb_s184_36 36 [(2, .int x2), (1, .int x1), (0, .ref 32)] ([.int s0] ++ []) (pr_S, hi, hl) = am_ret (C 197 [.ref 32, .int (hi 32 3)] (pr_S, hi, hl)) fun v G => am_ops C J tb_s184_45 45 [(3, .int s0), (2, .int x2), (1, .int x1), (0, .ref 32)] (v ++ []) G := rfl
set_option maxRecDepth 1000000 in
theorem ch_184_8 (C : am_C) (J : am_J) (x3 : Int32) (x2 : Int32) (x1 : Int32) (hi : Nat → Nat → Int32) (hl : Nat → Nat → Int64) : am_ops C J tb_s184_45 45 [(3, .int x3), (2, .int x2), (1, .int x1), (0, .ref 32)] ([] ++ []) (pr_S, hi, hl) = if (hi 32 1) = (0 : Int32) then J 56 [(3, .int x3), (2, .int x2), (1, .int x1), (0, .ref 32)] [] (pr_S, hi, hl) else J 69 [(3, .int x3), (2, .int x2), (1, .int x1), (0, .ref 32)] [.int (-1)] (pr_S, hi, hl) := rfl
set_option maxRecDepth 1000000 in
theorem ch_184_9 (C : am_C) (J : am_J) (x3 : Int32) (x2 : Int32) (x1 : Int32) (hi : Nat → Nat → Int32) (hl : Nat → Nat → Int64) : am_ops C J tb_o184_56 56 [(3, .int x3), (2, .int x2), (1, .int x1), (0, .ref 32)] [] (pr_S, hi, hl) = am_ret (C 206 [.ref 3, .int 6, .int (-1), .int x1, .int x2, .int x3] (pr_S, hi, hl)) fun v G => am_ops C J tb_s184_69 69 [(3, .int x3), (2, .int x2), (1, .int x1), (0, .ref 32)] (v ++ []) G := rfl
set_option maxRecDepth 1000000 in
theorem ch_184_10 (C : am_C) (J : am_J) (x3 : Int32) (x2 : Int32) (x1 : Int32) (s0 : Int32) (hi : Nat → Nat → Int32) (hl : Nat → Nat → Int64) : am_ops C J tb_o184_69 69 [(3, .int x3), (2, .int x2), (1, .int x1), (0, .ref 32)] [.int s0] (pr_S, hi, hl) = some (some (.int s0), (pr_S, hi, hl)) := rfl
set_option maxRecDepth 1000000 in
theorem ch_184_11 (C : am_C) (J : am_J) (x3 : Int32) (x2 : Int32) (x1 : Int32) (s0 : Int32) (hi : Nat → Nat → Int32) (hl : Nat → Nat → Int64) : am_ops C J tb_s184_69 69 [(3, .int x3), (2, .int x2), (1, .int x1), (0, .ref 32)] ([.int s0] ++ []) (pr_S, hi, hl) = J 69 [(3, .int x3), (2, .int x2), (1, .int x1), (0, .ref 32)] [.int s0] (pr_S, hi, hl) := rfl
theorem ht_184_0 (C : am_C) (back : am_J) (ls : am_L) (st : List Value) (G : am_G) : am_fwd C back tb_r184_0 0 ls st G = am_ops C (am_fwd C back tb_r184_1) tb_o184_0 0 ls st G := if_pos rfl
theorem ht_184_1 (C : am_C) (back : am_J) (ls : am_L) (st : List Value) (G : am_G) : am_fwd C back tb_r184_1 56 ls st G = am_ops C (am_fwd C back tb_r184_2) tb_o184_56 56 ls st G := if_pos rfl
theorem ht_184_2 (C : am_C) (back : am_J) (ls : am_L) (st : List Value) (G : am_G) : am_fwd C back tb_r184_2 69 ls st G = am_ops C (am_fwd C back tb_r184_3) tb_o184_69 69 ls st G := if_pos rfl
theorem sk_184_1_69 (C : am_C) (back : am_J) (ls : am_L) (st : List Value) (G : am_G) : am_fwd C back tb_r184_1 69 ls st G = am_fwd C back tb_r184_2 69 ls st G := (ev_miss (by decide))
/-! UsageProofs$Parser.parseSplit()I -/
theorem en_185 (d : Nat)  (hi : Nat → Nat → Int32) (hl : Nat → Nat → Int64) : am_call tb_P (d + 1) 185 [.ref 32] (pr_S, hi, hl) = am_fwd (am_call tb_P d) (am_run (am_call tb_P d) tb_r185_0 999999) tb_r185_0 0 [(0, .ref 32)] [] (pr_S, hi, hl) := ev_en (mL := 9) (bs := tb_r185_0) rfl (Nat.le_of_ble_eq_true rfl)
set_option maxRecDepth 1000000 in
theorem ch_185_0 (C : am_C) (J : am_J)  (hi : Nat → Nat → Int32) (hl : Nat → Nat → Int64) : am_ops C J tb_o185_0 0 [(0, .ref 32)] [] (pr_S, hi, hl) = am_ret (C 196 [.ref 32] (pr_S, hi, hl)) fun v G => am_ops C J tb_s185_9 9 [(1, .int (hi 32 3)), (0, .ref 32)] (v ++ []) G := rfl
set_option maxRecDepth 1000000 in
theorem ch_185_1 (C : am_C) (J : am_J) (x1 : Int32) (hi : Nat → Nat → Int32) (hl : Nat → Nat → Int64) : am_ops C J tb_s185_9 9 [(1, .int x1), (0, .ref 32)] ([] ++ []) (pr_S, hi, hl) = am_ret (C 177 [.ref 32] (pr_S, hi, hl)) fun v G => am_ops C J tb_s185_13 13 [(1, .int x1), (0, .ref 32)] (v ++ []) G := rfl
set_option maxRecDepth 1000000 in
theorem ch_185_2 (C : am_C) (J : am_J) (x1 : Int32) (hi : Nat → Nat → Int32) (hl : Nat → Nat → Int64) : am_ops C J tb_s185_13 13 [(1, .int x1), (0, .ref 32)] ([] ++ []) (pr_S, hi, hl) = am_ret (C 181 [.ref 32] (pr_S, hi, hl)) fun v G => am_ops C J tb_s185_17 17 [(1, .int x1), (0, .ref 32)] (v ++ []) G := rfl
set_option maxRecDepth 1000000 in
theorem ch_185_3 (C : am_C) (J : am_J) (x1 : Int32) (s0 : Int32) (hi : Nat → Nat → Int32) (hl : Nat → Nat → Int64) : am_ops C J tb_s185_17 17 [(1, .int x1), (0, .ref 32)] ([.int s0] ++ []) (pr_S, hi, hl) = am_ret (C 178 [.ref 32, .int 266] (pr_S, hi, hl)) fun v G => am_ops C J tb_s185_25 25 [(2, .int s0), (1, .int x1), (0, .ref 32)] (v ++ []) G := rfl
set_option maxRecDepth 1000000 in
theorem ch_185_4 (C : am_C) (J : am_J) (x2 : Int32) (x1 : Int32) (hi : Nat → Nat → Int32) (hl : Nat → Nat → Int64) : am_ops C J tb_s185_25 25 [(2, .int x2), (1, .int x1), (0, .ref 32)] ([] ++ []) (pr_S, hi, hl) = am_ret (C 187 [.ref 32, .int 2] (pr_S, hi, hl)) fun v G => am_ops C J tb_s185_38 38 [(3, .long (hl 1 3)), (2, .int x2), (1, .int x1), (0, .ref 32)] (v ++ []) G := rfl
set_option maxRecDepth 1000000 in
theorem ch_185_5 (C : am_C) (J : am_J) (y3 : Int64) (x2 : Int32) (x1 : Int32) (s0 : Int32) (hi : Nat → Nat → Int32) (hl : Nat → Nat → Int64) : am_ops C J tb_s185_38 38 [(3, .long y3), (2, .int x2), (1, .int x1), (0, .ref 32)] ([.int s0] ++ []) (pr_S, hi, hl) = am_ret (C 178 [.ref 32, .int 44] (pr_S, hi, hl)) fun v G => am_ops C J tb_s185_46 46 [(5, .int s0), (3, .long y3), (2, .int x2), (1, .int x1), (0, .ref 32)] (v ++ []) G := rfl
set_option maxRecDepth 1000000 in
theorem ch_185_6 (C : am_C) (J : am_J) (x5 : Int32) (y3 : Int64) (x2 : Int32) (x1 : Int32) (hi : Nat → Nat → Int32) (hl : Nat → Nat → Int64) : am_ops C J tb_s185_46 46 [(5, .int x5), (3, .long y3), (2, .int x2), (1, .int x1), (0, .ref 32)] ([] ++ []) (pr_S, hi, hl) = am_ret (C 186 [.ref 32, .long y3] (pr_S, hi, hl)) fun v G => am_ops C J tb_s185_60 60 [(6, .long (hl 1 3)), (5, .int x5), (3, .long y3), (2, .int x2), (1, .int x1), (0, .ref 32)] (v ++ []) G := rfl
set_option maxRecDepth 1000000 in
theorem ch_185_7 (C : am_C) (J : am_J) (y6 : Int64) (x5 : Int32) (y3 : Int64) (x2 : Int32) (x1 : Int32) (hi : Nat → Nat → Int32) (hl : Nat → Nat → Int64) : am_ops C J tb_s185_60 60 [(6, .long y6), (5, .int x5), (3, .long y3), (2, .int x2), (1, .int x1), (0, .ref 32)] ([] ++ []) (pr_S, hi, hl) = am_ret (C 178 [.ref 32, .int 261] (pr_S, hi, hl)) fun v G => am_ops C J tb_s185_67 67 [(6, .long y6), (5, .int x5), (3, .long y3), (2, .int x2), (1, .int x1), (0, .ref 32)] (v ++ []) G := rfl
set_option maxRecDepth 1000000 in
theorem ch_185_8 (C : am_C) (J : am_J) (y6 : Int64) (x5 : Int32) (y3 : Int64) (x2 : Int32) (x1 : Int32) (hi : Nat → Nat → Int32) (hl : Nat → Nat → Int64) : am_ops C J tb_s185_67 67 [(6, .long y6), (5, .int x5), (3, .long y3), (2, .int x2), (1, .int x1), (0, .ref 32)] ([] ++ []) (pr_S, hi, hl) = am_ret (C 200 [.ref 32, .long y3, .int x5] (pr_S, hi, hl)) fun v G => am_ops C J tb_s185_74 74 [(6, .long y6), (5, .int x5), (3, .long y3), (2, .int x2), (1, .int x1), (0, .ref 32)] (v ++ []) G := rfl
set_option maxRecDepth 1000000 in
theorem ch_185_9 (C : am_C) (J : am_J) (y6 : Int64) (x5 : Int32) (y3 : Int64) (x2 : Int32) (x1 : Int32) (hi : Nat → Nat → Int32) (hl : Nat → Nat → Int64) : am_ops C J tb_s185_74 74 [(6, .long y6), (5, .int x5), (3, .long y3), (2, .int x2), (1, .int x1), (0, .ref 32)] ([] ++ []) (pr_S, hi, hl) = am_ret (C 200 [.ref 32, .long y6, .int (x5 + 1)] (pr_S, hi, hl)) fun v G => am_ops C J tb_s185_84 84 [(6, .long y6), (5, .int x5), (3, .long y3), (2, .int x2), (1, .int x1), (0, .ref 32)] (v ++ []) G := rfl
set_option maxRecDepth 1000000 in
theorem ch_185_10 (C : am_C) (J : am_J) (y6 : Int64) (x5 : Int32) (y3 : Int64) (x2 : Int32) (x1 : Int32) (hi : Nat → Nat → Int32) (hl : Nat → Nat → Int64) : am_ops C J tb_s185_84 84 [(6, .long y6), (5, .int x5), (3, .long y3), (2, .int x2), (1, .int x1), (0, .ref 32)] ([] ++ []) (pr_S, hi, hl) = am_ret (C 181 [.ref 32] (pr_S, hi, hl)) fun v G => am_ops C J tb_s185_88 88 [(6, .long y6), (5, .int x5), (3, .long y3), (2, .int x2), (1, .int x1), (0, .ref 32)] (v ++ []) G := rfl
set_option maxRecDepth 1000000 in
theorem ch_185_11 (C : am_C) (J : am_J) (y6 : Int64) (x5 : Int32) (y3 : Int64) (x2 : Int32) (x1 : Int32) (s0 : Int32) (hi : Nat → Nat → Int32) (hl : Nat → Nat → Int64) : am_ops C J tb_s185_88 88 [(6, .long y6), (5, .int x5), (3, .long y3), (2, .int x2), (1, .int x1), (0, .ref 32)] ([.int s0] ++ []) (pr_S, hi, hl) = am_ret (C 197 [.ref 32, .int x1] (pr_S, hi, hl)) fun v G => am_ops C J tb_s185_95 95 [(8, .int s0), (6, .long y6), (5, .int x5), (3, .long y3), (2, .int x2), (1, .int x1), (0, .ref 32)] (v ++ []) G := rfl
set_option maxRecDepth 1000000 in
theorem ch_185_12 (C : am_C) (J : am_J) (x8 : Int32) (y6 : Int64) (x5 : Int32) (y3 : Int64) (x2 : Int32) (x1 : Int32) (hi : Nat → Nat → Int32) (hl : Nat → Nat → Int64) : am_ops C J tb_s185_95 95 [(8, .int x8), (6, .long y6), (5, .int x5), (3, .long y3), (2, .int x2), (1, .int x1), (0, .ref 32)] ([] ++ []) (pr_S, hi, hl) = am_ret (C 199 [.ref 32, .int 7, .int x5, .int x2, .int x8] (pr_S, hi, hl)) fun v G => am_ops C J tb_s185_106 106 [(8, .int x8), (6, .long y6), (5, .int x5), (3, .long y3), (2, .int x2), (1, .int x1), (0, .ref 32)] (v ++ []) G := rfl
set_option maxRecDepth 1000000 in
theorem ch_185_13 (C : am_C) (J : am_J) (x8 : Int32) (y6 : Int64) (x5 : Int32) (y3 : Int64) (x2 : Int32) (x1 : Int32) (s0 : Int32) (hi : Nat → Nat → Int32) (hl : Nat → Nat → Int64) : am_ops C J tb_s185_106 106 [(8, .int x8), (6, .long y6), (5, .int x5), (3, .long y3), (2, .int x2), (1, .int x1), (0, .ref 32)] ([.int s0] ++ []) (pr_S, hi, hl) = some (some (.int s0), (pr_S, hi, hl)) := rfl
theorem ht_185_0 (C : am_C) (back : am_J) (ls : am_L) (st : List Value) (G : am_G) : am_fwd C back tb_r185_0 0 ls st G = am_ops C (am_fwd C back tb_r185_1) tb_o185_0 0 ls st G := if_pos rfl
/-! UsageProofs$Parser.secondName(J)V -/
theorem en_186 (d : Nat) (y1 : Int64) (hi : Nat → Nat → Int32) (hl : Nat → Nat → Int64) : am_call tb_P (d + 1) 186 [.ref 32, .long y1] (pr_S, hi, hl) = am_fwd (am_call tb_P d) (am_run (am_call tb_P d) tb_r186_0 999999) tb_r186_0 0 [(0, .ref 32), (1, .long y1)] [] (pr_S, hi, hl) := ev_en (mL := 3) (bs := tb_r186_0) rfl (Nat.le_of_ble_eq_true rfl)
set_option maxRecDepth 1000000 in
theorem ch_186_0 (C : am_C) (J : am_J) (y1 : Int64) (hi : Nat → Nat → Int32) (hl : Nat → Nat → Int64) : am_ops C J tb_o186_0 0 [(0, .ref 32), (1, .long y1)] [] (pr_S, hi, hl) = if (hi 1 1) ≠ (258 : Int32) then J 30 [(0, .ref 32), (1, .long y1)] [] (pr_S, hi, hl) else if (lg_cmp (hl 1 3) y1) ≠ (0 : Int32) then J 30 [(0, .ref 32), (1, .long y1)] [] (pr_S, hi, hl) else am_ret (C 175 [.ref 32, .int 4] (pr_S, hi, hl)) fun v G => am_ops C J tb_s186_30 30 [(0, .ref 32), (1, .long y1)] (v ++ []) G := rfl
set_option maxRecDepth 1000000 in
theorem ch_186_1 (C : am_C) (J : am_J) (y1 : Int64) (hi : Nat → Nat → Int32) (hl : Nat → Nat → Int64) : am_ops C J tb_o186_30 30 [(0, .ref 32), (1, .long y1)] [] (pr_S, hi, hl) = am_ret (C 187 [.ref 32, .int 2] (pr_S, hi, hl)) fun v G => am_ops C J tb_s186_35 35 [(0, .ref 32), (1, .long y1)] (v ++ []) G := rfl
set_option maxRecDepth 1000000 in
theorem ch_186_2 (C : am_C) (J : am_J) (y1 : Int64) (hi : Nat → Nat → Int32) (hl : Nat → Nat → Int64) : am_ops C J tb_s186_30 30 [(0, .ref 32), (1, .long y1)] ([] ++ []) (pr_S, hi, hl) = J 30 [(0, .ref 32), (1, .long y1)] [] (pr_S, hi, hl) := rfl
set_option maxRecDepth 1000000 in
theorem ch_186_3 (C : am_C) (J : am_J) (y1 : Int64) (s0 : Int32) (hi : Nat → Nat → Int32) (hl : Nat → Nat → Int64) : am_ops C J tb_s186_35 35 [(0, .ref 32), (1, .long y1)] ([.int s0] ++ []) (pr_S, hi, hl) = some (none, (pr_S, hi, hl)) := rfl
theorem ht_186_0 (C : am_C) (back : am_J) (ls : am_L) (st : List Value) (G : am_G) : am_fwd C back tb_r186_0 0 ls st G = am_ops C (am_fwd C back tb_r186_1) tb_o186_0 0 ls st G := if_pos rfl
theorem ht_186_1 (C : am_C) (back : am_J) (ls : am_L) (st : List Value) (G : am_G) : am_fwd C back tb_r186_1 30 ls st G = am_ops C (am_fwd C back tb_r186_2) tb_o186_30 30 ls st G := if_pos rfl
/-! UsageProofs$Parser.nameThing(I)I -/
theorem en_187 (d : Nat) (x1 : Int32) (hi : Nat → Nat → Int32) (hl : Nat → Nat → Int64) : am_call tb_P (d + 1) 187 [.ref 32, .int x1] (pr_S, hi, hl) = am_fwd (am_call tb_P d) (am_run (am_call tb_P d) tb_r187_0 999999) tb_r187_0 0 [(0, .ref 32), (1, .int x1)] [] (pr_S, hi, hl) := ev_en (mL := 3) (bs := tb_r187_0) rfl (Nat.le_of_ble_eq_true rfl)
set_option maxRecDepth 1000000 in
theorem ch_187_0 (C : am_C) (J : am_J) (x1 : Int32) (hi : Nat → Nat → Int32) (hl : Nat → Nat → Int64) : am_ops C J tb_o187_0 0 [(0, .ref 32), (1, .int x1)] [] (pr_S, hi, hl) = if (hi 1 1) = (258 : Int32) then J 20 [(0, .ref 32), (1, .int x1)] [] (pr_S, hi, hl) else am_ret (C 175 [.ref 32, .int 2] (pr_S, hi, hl)) fun v G => am_ops C J tb_s187_18 18 [(0, .ref 32), (1, .int x1)] (v ++ []) G := rfl
set_option maxRecDepth 1000000 in
theorem ch_187_1 (C : am_C) (J : am_J) (x1 : Int32) (hi : Nat → Nat → Int32) (hl : Nat → Nat → Int64) : am_ops C J tb_o187_20 20 [(0, .ref 32), (1, .int x1)] [] (pr_S, hi, hl) = am_ret (C 198 [.ref 32, .int x1] (pr_S, hi, hl)) fun v G => am_ops C J tb_s187_25 25 [(0, .ref 32), (1, .int x1)] (v ++ []) G := rfl
set_option maxRecDepth 1000000 in
theorem ch_187_2 (C : am_C) (J : am_J) (x1 : Int32) (hi : Nat → Nat → Int32) (hl : Nat → Nat → Int64) : am_ops C J tb_s187_18 18 [(0, .ref 32), (1, .int x1)] ([] ++ []) (pr_S, hi, hl) = some (some (.int (-1)), (pr_S, hi, hl)) := rfl
set_option maxRecDepth 1000000 in
theorem ch_187_3 (C : am_C) (J : am_J) (x1 : Int32) (s0 : Int32) (hi : Nat → Nat → Int32) (hl : Nat → Nat → Int64) : am_ops C J tb_s187_25 25 [(0, .ref 32), (1, .int x1)] ([.int s0] ++ []) (pr_S, hi, hl) = am_ret (C 177 [.ref 32] (pr_S, hi, hl)) fun v G => am_ops C J tb_s187_30 30 [(2, .int s0), (0, .ref 32), (1, .int x1)] (v ++ []) G := rfl
set_option maxRecDepth 1000000 in
theorem ch_187_4 (C : am_C) (J : am_J) (x2 : Int32) (x1 : Int32) (hi : Nat → Nat → Int32) (hl : Nat → Nat → Int64) : am_ops C J tb_s187_30 30 [(2, .int x2), (0, .ref 32), (1, .int x1)] ([] ++ []) (pr_S, hi, hl) = some (some (.int x2), (pr_S, hi, hl)) := rfl
theorem ht_187_0 (C : am_C) (back : am_J) (ls : am_L) (st : List Value) (G : am_G) : am_fwd C back tb_r187_0 0 ls st G = am_ops C (am_fwd C back tb_r187_1) tb_o187_0 0 ls st G := if_pos rfl
theorem ht_187_1 (C : am_C) (back : am_J) (ls : am_L) (st : List Value) (G : am_G) : am_fwd C back tb_r187_1 20 ls st G = am_ops C (am_fwd C back tb_r187_2) tb_o187_20 20 ls st G := if_pos rfl
/-! UsageProofs$Parser.parseSum()I -/
theorem en_188 (d : Nat)  (hi : Nat → Nat → Int32) (hl : Nat → Nat → Int64) : am_call tb_P (d + 1) 188 [.ref 32] (pr_S, hi, hl) = am_fwd (am_call tb_P d) (am_run (am_call tb_P d) tb_r188_0 999999) tb_r188_0 0 [(0, .ref 32)] [] (pr_S, hi, hl) := ev_en (mL := 5) (bs := tb_r188_0) rfl (Nat.le_of_ble_eq_true rfl)
set_option maxRecDepth 1000000 in
theorem ch_188_0 (C : am_C) (J : am_J)  (hi : Nat → Nat → Int32) (hl : Nat → Nat → Int64) : am_ops C J tb_o188_0 0 [(0, .ref 32)] [] (pr_S, hi, hl) = am_ret (C 189 [.ref 32] (pr_S, hi, hl)) fun v G => am_ops C J tb_s188_4 4 [(0, .ref 32)] (v ++ []) G := rfl
set_option maxRecDepth 1000000 in
theorem ch_188_1 (C : am_C) (J : am_J) (s0 : Int32) (hi : Nat → Nat → Int32) (hl : Nat → Nat → Int64) : am_ops C J tb_s188_4 4 [(0, .ref 32)] ([.int s0] ++ []) (pr_S, hi, hl) = J 7 [(2, .int 0), (1, .int s0), (0, .ref 32)] [] (pr_S, hi, hl) := rfl
set_option maxRecDepth 1000000 in
theorem ch_188_2 (C : am_C) (J : am_J) (x2 : Int32) (x1 : Int32) (hi : Nat → Nat → Int32) (hl : Nat → Nat → Int64) : am_ops C J tb_o188_7 7 [(2, .int x2), (1, .int x1), (0, .ref 32)] [] (pr_S, hi, hl) = if (2000 : Int32) < x2 then J 73 [(2, .int x2), (1, .int x1), (0, .ref 32)] [] (pr_S, hi, hl) else if (hi 1 1) = (43 : Int32) then J 38 [(2, .int x2), (1, .int x1), (0, .ref 32)] [] (pr_S, hi, hl) else if (hi 1 1) ≠ (45 : Int32) then J 73 [(2, .int x2), (1, .int x1), (0, .ref 32)] [] (pr_S, hi, hl) else J 38 [(2, .int x2), (1, .int x1), (0, .ref 32)] [] (pr_S, hi, hl) := rfl
set_option maxRecDepth 1000000 in
theorem ch_188_3 (C : am_C) (J : am_J) (x2 : Int32) (x1 : Int32) (hi : Nat → Nat → Int32) (hl : Nat → Nat → Int64) : am_ops C J tb_o188_73 73 [(2, .int x2), (1, .int x1), (0, .ref 32)] [] (pr_S, hi, hl) = some (some (.int x1), (pr_S, hi, hl)) := rfl
set_option maxRecDepth 1000000 in
theorem ch_188_4 (C : am_C) (J : am_J) (x2 : Int32) (x1 : Int32) (hi : Nat → Nat → Int32) (hl : Nat → Nat → Int64) : am_ops C J tb_o188_38 38 [(2, .int x2), (1, .int x1), (0, .ref 32)] [] (pr_S, hi, hl) = am_ret (C 177 [.ref 32] (pr_S, hi, hl)) fun v G => am_ops C J tb_s188_50 50 [(3, .int (hi 1 1)), (2, .int x2), (1, .int x1), (0, .ref 32)] (v ++ []) G := rfl
set_option maxRecDepth 1000000 in
theorem ch_188_5 (C : am_C) (J : am_J) (x3 : Int32) (x2 : Int32) (x1 : Int32) (hi : Nat → Nat → Int32) (hl : Nat → Nat → Int64) : am_ops C J tb_s188_50 50 [(3, .int x3), (2, .int x2), (1, .int x1), (0, .ref 32)] ([] ++ []) (pr_S, hi, hl) = am_ret (C 189 [.ref 32] (pr_S, hi, hl)) fun v G => am_ops C J tb_s188_54 54 [(3, .int x3), (2, .int x2), (1, .int x1), (0, .ref 32)] (v ++ []) G := rfl
set_option maxRecDepth 1000000 in
theorem ch_188_6 (C : am_C) (J : am_J) (x3 : Int32) (x2 : Int32) (x1 : Int32) (s0 : Int32) (hi : Nat → Nat → Int32) (hl : Nat → Nat → Int64) : am_ops C J tb_s188_54 54 [(3, .int x3), (2, .int x2), (1, .int x1), (0, .ref 32)] ([.int s0] ++ []) (pr_S, hi, hl) = am_ret (C 199 [.ref 32, .int 8, .int x3, .int x1, .int s0] (pr_S, hi, hl)) fun v G => am_ops C J tb_s188_66 66 [(4, .int s0), (3, .int x3), (2, .int x2), (1, .int x1), (0, .ref 32)] (v ++ []) G := rfl
set_option maxRecDepth 1000000 in
theorem ch_188_7 (C : am_C) (J : am_J) (x4 : Int32) (x3 : Int32) (x2 : Int32) (x1 : Int32) (s0 : Int32) (hi : Nat → Nat → Int32) (hl : Nat → Nat → Int64) : am_ops C J tb_s188_66 66 [(4, .int x4), (3, .int x3), (2, .int x2), (1, .int x1), (0, .ref 32)] ([.int s0] ++ []) (pr_S, hi, hl) = J 7 [(2, .int (x2 + 1)), (1, .int s0), (4, .int x4), (3, .int x3), (0, .ref 32)] [] (pr_S, hi, hl) := rfl
set_option maxRecDepth 1000000 in
theorem ch_188_8 (C : am_C) (J : am_J) (x2 : Int32) (x1 : Int32) (x4 : Int32) (x3 : Int32) (hi : Nat → Nat → Int32) (hl : Nat → Nat → Int64) : am_ops C J tb_o188_7 7 [(2, .int x2), (1, .int x1), (4, .int x4), (3, .int x3), (0, .ref 32)] [] (pr_S, hi, hl) = if (2000 : Int32) < x2 then J 73 [(2, .int x2), (1, .int x1), (4, .int x4), (3, .int x3), (0, .ref 32)] [] (pr_S, hi, hl) else if (hi 1 1) = (43 : Int32) then J 38 [(2, .int x2), (1, .int x1), (4, .int x4), (3, .int x3), (0, .ref 32)] [] (pr_S, hi, hl) else if (hi 1 1) ≠ (45 : Int32) then J 73 [(2, .int x2), (1, .int x1), (4, .int x4), (3, .int x3), (0, .ref 32)] [] (pr_S, hi, hl) else J 38 [(2, .int x2), (1, .int x1), (4, .int x4), (3, .int x3), (0, .ref 32)] [] (pr_S, hi, hl) := rfl
set_option maxRecDepth 1000000 in
theorem ch_188_9 (C : am_C) (J : am_J) (x2 : Int32) (x1 : Int32) (x4 : Int32) (x3 : Int32) (hi : Nat → Nat → Int32) (hl : Nat → Nat → Int64) : am_ops C J tb_o188_73 73 [(2, .int x2), (1, .int x1), (4, .int x4), (3, .int x3), (0, .ref 32)] [] (pr_S, hi, hl) = some (some (.int x1), (pr_S, hi, hl)) := rfl
set_option maxRecDepth 1000000 in
theorem ch_188_10 (C : am_C) (J : am_J) (x2 : Int32) (x1 : Int32) (x4 : Int32) (x3 : Int32) (hi : Nat → Nat → Int32) (hl : Nat → Nat → Int64) : am_ops C J tb_o188_38 38 [(2, .int x2), (1, .int x1), (4, .int x4), (3, .int x3), (0, .ref 32)] [] (pr_S, hi, hl) = am_ret (C 177 [.ref 32] (pr_S, hi, hl)) fun v G => am_ops C J tb_s188_50 50 [(3, .int (hi 1 1)), (2, .int x2), (1, .int x1), (4, .int x4), (0, .ref 32)] (v ++ []) G := rfl
set_option maxRecDepth 1000000 in
theorem ch_188_11 (C : am_C) (J : am_J) (x3 : Int32) (x2 : Int32) (x1 : Int32) (x4 : Int32) (hi : Nat → Nat → Int32) (hl : Nat → Nat → Int64) : am_ops C J tb_s188_50 50 [(3, .int x3), (2, .int x2), (1, .int x1), (4, .int x4), (0, .ref 32)] ([] ++ []) (pr_S, hi, hl) = am_ret (C 189 [.ref 32] (pr_S, hi, hl)) fun v G => am_ops C J tb_s188_54 54 [(3, .int x3), (2, .int x2), (1, .int x1), (4, .int x4), (0, .ref 32)] (v ++ []) G := rfl
set_option maxRecDepth 1000000 in
theorem ch_188_12 (C : am_C) (J : am_J) (x3 : Int32) (x2 : Int32) (x1 : Int32) (x4 : Int32) (s0 : Int32) (hi : Nat → Nat → Int32) (hl : Nat → Nat → Int64) : am_ops C J tb_s188_54 54 [(3, .int x3), (2, .int x2), (1, .int x1), (4, .int x4), (0, .ref 32)] ([.int s0] ++ []) (pr_S, hi, hl) = am_ret (C 199 [.ref 32, .int 8, .int x3, .int x1, .int s0] (pr_S, hi, hl)) fun v G => am_ops C J tb_s188_66 66 [(4, .int s0), (3, .int x3), (2, .int x2), (1, .int x1), (0, .ref 32)] (v ++ []) G := rfl
theorem ht_188_0 (C : am_C) (back : am_J) (ls : am_L) (st : List Value) (G : am_G) : am_fwd C back tb_r188_0 0 ls st G = am_ops C (am_fwd C back tb_r188_1) tb_o188_0 0 ls st G := if_pos rfl
theorem ht_188_1 (C : am_C) (back : am_J) (ls : am_L) (st : List Value) (G : am_G) : am_fwd C back tb_r188_1 7 ls st G = am_ops C (am_fwd C back tb_r188_2) tb_o188_7 7 ls st G := if_pos rfl
theorem ht_188_2 (C : am_C) (back : am_J) (ls : am_L) (st : List Value) (G : am_G) : am_fwd C back tb_r188_2 38 ls st G = am_ops C (am_fwd C back tb_r188_3) tb_o188_38 38 ls st G := if_pos rfl
theorem ht_188_3 (C : am_C) (back : am_J) (ls : am_L) (st : List Value) (G : am_G) : am_fwd C back tb_r188_3 73 ls st G = am_ops C (am_fwd C back tb_r188_4) tb_o188_73 73 ls st G := if_pos rfl
theorem sk_188_2_73 (C : am_C) (back : am_J) (ls : am_L) (st : List Value) (G : am_G) : am_fwd C back tb_r188_2 73 ls st G = am_fwd C back tb_r188_3 73 ls st G := (ev_miss (by decide))
theorem sk_188_3_7 (C : am_C) (back : am_J) (ls : am_L) (st : List Value) (G : am_G) : am_fwd C back tb_r188_3 7 ls st G = back 7 ls st G := (ev_miss (by decide))
theorem lp_188_7 (C : am_C) (n : Nat) (ls : am_L) (st : List Value) (G : am_G) : am_run C tb_r188_0 (n + 1) 7 ls st G = am_fwd C (am_run C tb_r188_0 n) tb_r188_1 7 ls st G := (ev_miss (by decide))
/-! UsageProofs$Parser.parseProduct()I -/
theorem en_189 (d : Nat)  (hi : Nat → Nat → Int32) (hl : Nat → Nat → Int64) : am_call tb_P (d + 1) 189 [.ref 32] (pr_S, hi, hl) = am_fwd (am_call tb_P d) (am_run (am_call tb_P d) tb_r189_0 999999) tb_r189_0 0 [(0, .ref 32)] [] (pr_S, hi, hl) := ev_en (mL := 4) (bs := tb_r189_0) rfl (Nat.le_of_ble_eq_true rfl)
set_option maxRecDepth 1000000 in
theorem ch_189_0 (C : am_C) (J : am_J)  (hi : Nat → Nat → Int32) (hl : Nat → Nat → Int64) : am_ops C J tb_o189_0 0 [(0, .ref 32)] [] (pr_S, hi, hl) = am_ret (C 190 [.ref 32] (pr_S, hi, hl)) fun v G => am_ops C J tb_s189_4 4 [(0, .ref 32)] (v ++ []) G := rfl
set_option maxRecDepth 1000000 in
theorem ch_189_1 (C : am_C) (J : am_J) (s0 : Int32) (hi : Nat → Nat → Int32) (hl : Nat → Nat → Int64) : am_ops C J tb_s189_4 4 [(0, .ref 32)] ([.int s0] ++ []) (pr_S, hi, hl) = J 7 [(2, .int 0), (1, .int s0), (0, .ref 32)] [] (pr_S, hi, hl) := rfl
set_option maxRecDepth 1000000 in
theorem ch_189_2 (C : am_C) (J : am_J) (x2 : Int32) (x1 : Int32) (hi : Nat → Nat → Int32) (hl : Nat → Nat → Int64) : am_ops C J tb_o189_7 7 [(2, .int x2), (1, .int x1), (0, .ref 32)] [] (pr_S, hi, hl) = if (2000 : Int32) < x2 then J 52 [(2, .int x2), (1, .int x1), (0, .ref 32)] [] (pr_S, hi, hl) else if (hi 1 1) ≠ (42 : Int32) then J 52 [(2, .int x2), (1, .int x1), (0, .ref 32)] [] (pr_S, hi, hl) else am_ret (C 177 [.ref 32] (pr_S, hi, hl)) fun v G => am_ops C J tb_s189_30 30 [(2, .int x2), (1, .int x1), (0, .ref 32)] (v ++ []) G := rfl
set_option maxRecDepth 1000000 in
theorem ch_189_3 (C : am_C) (J : am_J) (x2 : Int32) (x1 : Int32) (hi : Nat → Nat → Int32) (hl : Nat → Nat → Int64) : am_ops C J tb_o189_52 52 [(2, .int x2), (1, .int x1), (0, .ref 32)] [] (pr_S, hi, hl) = some (some (.int x1), (pr_S, hi, hl)) := rfl
set_option maxRecDepth 1000000 in
theorem ch_189_4 (C : am_C) (J : am_J) (x2 : Int32) (x1 : Int32) (hi : Nat → Nat → Int32) (hl : Nat → Nat → Int64) : am_ops C J tb_s189_30 30 [(2, .int x2), (1, .int x1), (0, .ref 32)] ([] ++ []) (pr_S, hi, hl) = am_ret (C 190 [.ref 32] (pr_S, hi, hl)) fun v G => am_ops C J tb_s189_34 34 [(2, .int x2), (1, .int x1), (0, .ref 32)] (v ++ []) G := rfl
set_option maxRecDepth 1000000 in
theorem ch_189_5 (C : am_C) (J : am_J) (x2 : Int32) (x1 : Int32) (s0 : Int32) (hi : Nat → Nat → Int32) (hl : Nat → Nat → Int64) : am_ops C J tb_s189_34 34 [(2, .int x2), (1, .int x1), (0, .ref 32)] ([.int s0] ++ []) (pr_S, hi, hl) = am_ret (C 199 [.ref 32, .int 8, .int 42, .int x1, .int s0] (pr_S, hi, hl)) fun v G => am_ops C J tb_s189_45 45 [(3, .int s0), (2, .int x2), (1, .int x1), (0, .ref 32)] (v ++ []) G := rfl
set_option maxRecDepth 1000000 in
theorem ch_189_6 (C : am_C) (J : am_J) (x3 : Int32) (x2 : Int32) (x1 : Int32) (s0 : Int32) (hi : Nat → Nat → Int32) (hl : Nat → Nat → Int64) : am_ops C J tb_s189_45 45 [(3, .int x3), (2, .int x2), (1, .int x1), (0, .ref 32)] ([.int s0] ++ []) (pr_S, hi, hl) = J 7 [(2, .int (x2 + 1)), (1, .int s0), (3, .int x3), (0, .ref 32)] [] (pr_S, hi, hl) := rfl
set_option maxRecDepth 1000000 in
theorem ch_189_7 (C : am_C) (J : am_J) (x2 : Int32) (x1 : Int32) (x3 : Int32) (hi : Nat → Nat → Int32) (hl : Nat → Nat → Int64) : am_ops C J tb_o189_7 7 [(2, .int x2), (1, .int x1), (3, .int x3), (0, .ref 32)] [] (pr_S, hi, hl) = if (2000 : Int32) < x2 then J 52 [(2, .int x2), (1, .int x1), (3, .int x3), (0, .ref 32)] [] (pr_S, hi, hl) else if (hi 1 1) ≠ (42 : Int32) then J 52 [(2, .int x2), (1, .int x1), (3, .int x3), (0, .ref 32)] [] (pr_S, hi, hl) else am_ret (C 177 [.ref 32] (pr_S, hi, hl)) fun v G => am_ops C J tb_s189_30 30 [(2, .int x2), (1, .int x1), (3, .int x3), (0, .ref 32)] (v ++ []) G := rfl
set_option maxRecDepth 1000000 in
theorem ch_189_8 (C : am_C) (J : am_J) (x2 : Int32) (x1 : Int32) (x3 : Int32) (hi : Nat → Nat → Int32) (hl : Nat → Nat → Int64) : am_ops C J tb_o189_52 52 [(2, .int x2), (1, .int x1), (3, .int x3), (0, .ref 32)] [] (pr_S, hi, hl) = some (some (.int x1), (pr_S, hi, hl)) := rfl
set_option maxRecDepth 1000000 in
theorem ch_189_9 (C : am_C) (J : am_J) (x2 : Int32) (x1 : Int32) (x3 : Int32) (hi : Nat → Nat → Int32) (hl : Nat → Nat → Int64) : am_ops C J tb_s189_30 30 [(2, .int x2), (1, .int x1), (3, .int x3), (0, .ref 32)] ([] ++ []) (pr_S, hi, hl) = am_ret (C 190 [.ref 32] (pr_S, hi, hl)) fun v G => am_ops C J tb_s189_34 34 [(2, .int x2), (1, .int x1), (3, .int x3), (0, .ref 32)] (v ++ []) G := rfl
set_option maxRecDepth 1000000 in
theorem ch_189_10 (C : am_C) (J : am_J) (x2 : Int32) (x1 : Int32) (x3 : Int32) (s0 : Int32) (hi : Nat → Nat → Int32) (hl : Nat → Nat → Int64) : am_ops C J tb_s189_34 34 [(2, .int x2), (1, .int x1), (3, .int x3), (0, .ref 32)] ([.int s0] ++ []) (pr_S, hi, hl) = am_ret (C 199 [.ref 32, .int 8, .int 42, .int x1, .int s0] (pr_S, hi, hl)) fun v G => am_ops C J tb_s189_45 45 [(3, .int s0), (2, .int x2), (1, .int x1), (0, .ref 32)] (v ++ []) G := rfl
theorem ht_189_0 (C : am_C) (back : am_J) (ls : am_L) (st : List Value) (G : am_G) : am_fwd C back tb_r189_0 0 ls st G = am_ops C (am_fwd C back tb_r189_1) tb_o189_0 0 ls st G := if_pos rfl
theorem ht_189_1 (C : am_C) (back : am_J) (ls : am_L) (st : List Value) (G : am_G) : am_fwd C back tb_r189_1 7 ls st G = am_ops C (am_fwd C back tb_r189_2) tb_o189_7 7 ls st G := if_pos rfl
theorem ht_189_2 (C : am_C) (back : am_J) (ls : am_L) (st : List Value) (G : am_G) : am_fwd C back tb_r189_2 52 ls st G = am_ops C (am_fwd C back tb_r189_3) tb_o189_52 52 ls st G := if_pos rfl
theorem sk_189_2_7 (C : am_C) (back : am_J) (ls : am_L) (st : List Value) (G : am_G) : am_fwd C back tb_r189_2 7 ls st G = back 7 ls st G := (ev_miss (by decide))
theorem lp_189_7 (C : am_C) (n : Nat) (ls : am_L) (st : List Value) (G : am_G) : am_run C tb_r189_0 (n + 1) 7 ls st G = am_fwd C (am_run C tb_r189_0 n) tb_r189_1 7 ls st G := (ev_miss (by decide))
/-! UsageProofs$Parser.parseApplication()I -/
theorem en_190 (d : Nat)  (hi : Nat → Nat → Int32) (hl : Nat → Nat → Int64) : am_call tb_P (d + 1) 190 [.ref 32] (pr_S, hi, hl) = am_fwd (am_call tb_P d) (am_run (am_call tb_P d) tb_r190_0 999999) tb_r190_0 0 [(0, .ref 32)] [] (pr_S, hi, hl) := ev_en (mL := 4) (bs := tb_r190_0) rfl (Nat.le_of_ble_eq_true rfl)
set_option maxRecDepth 1000000 in
theorem ch_190_0 (C : am_C) (J : am_J)  (hi : Nat → Nat → Int32) (hl : Nat → Nat → Int64) : am_ops C J tb_o190_0 0 [(0, .ref 32)] [] (pr_S, hi, hl) = am_ret (C 192 [.ref 32] (pr_S, hi, hl)) fun v G => am_ops C J tb_s190_4 4 [(0, .ref 32)] (v ++ []) G := rfl
set_option maxRecDepth 1000000 in
theorem ch_190_1 (C : am_C) (J : am_J) (s0 : Int32) (hi : Nat → Nat → Int32) (hl : Nat → Nat → Int64) : am_ops C J tb_s190_4 4 [(0, .ref 32)] ([.int s0] ++ []) (pr_S, hi, hl) = J 7 [(2, .int 0), (1, .int s0), (0, .ref 32)] [] (pr_S, hi, hl) := rfl
set_option maxRecDepth 1000000 in
theorem ch_190_2 (C : am_C) (J : am_J) (x2 : Int32) (x1 : Int32) (hi : Nat → Nat → Int32) (hl : Nat → Nat → Int64) : am_ops C J tb_o190_7 7 [(2, .int x2), (1, .int x1), (0, .ref 32)] [] (pr_S, hi, hl) = if (2000 : Int32) < x2 then J 42 [(2, .int x2), (1, .int x1), (0, .ref 32)] [] (pr_S, hi, hl) else am_ret (C 191 [.ref 32] (pr_S, hi, hl)) fun v G => am_ops C J tb_s190_18 18 [(2, .int x2), (1, .int x1), (0, .ref 32)] (v ++ []) G := rfl
set_option maxRecDepth 1000000 in
theorem ch_190_3 (C : am_C) (J : am_J) (x2 : Int32) (x1 : Int32) (hi : Nat → Nat → Int32) (hl : Nat → Nat → Int64) : am_ops C J tb_o190_42 42 [(2, .int x2), (1, .int x1), (0, .ref 32)] [] (pr_S, hi, hl) = some (some (.int x1), (pr_S, hi, hl)) := rfl
set_option maxRecDepth 1000000 in
theorem ch_190_4 (C : am_C) (J : am_J) (x2 : Int32) (x1 : Int32) (s0 : Int32) (hi : Nat → Nat → Int32) (hl : Nat → Nat → Int64) : am_ops C J tb_s190_18 18 [(2, .int x2), (1, .int x1), (0, .ref 32)] ([.int s0] ++ []) (pr_S, hi, hl) = if s0 = (0 : Int32) then J 42 [(2, .int x2), (1, .int x1), (0, .ref 32)] [] (pr_S, hi, hl) else am_ret (C 192 [.ref 32] (pr_S, hi, hl)) fun v G => am_ops C J tb_s190_25 25 [(2, .int x2), (1, .int x1), (0, .ref 32)] (v ++ []) G := rfl
set_option maxRecDepth 1000000 in
theorem ch_190_5 (C : am_C) (J : am_J) (x2 : Int32) (x1 : Int32) (s0 : Int32) (hi : Nat → Nat → Int32) (hl : Nat → Nat → Int64) : am_ops C J tb_s190_25 25 [(2, .int x2), (1, .int x1), (0, .ref 32)] ([.int s0] ++ []) (pr_S, hi, hl) = am_ret (C 199 [.ref 32, .int 9, .int (-1), .int x1, .int s0] (pr_S, hi, hl)) fun v G => am_ops C J tb_s190_35 35 [(3, .int s0), (2, .int x2), (1, .int x1), (0, .ref 32)] (v ++ []) G := rfl
set_option maxRecDepth 1000000 in
theorem ch_190_6 (C : am_C) (J : am_J) (x3 : Int32) (x2 : Int32) (x1 : Int32) (s0 : Int32) (hi : Nat → Nat → Int32) (hl : Nat → Nat → Int64) : am_ops C J tb_s190_35 35 [(3, .int x3), (2, .int x2), (1, .int x1), (0, .ref 32)] ([.int s0] ++ []) (pr_S, hi, hl) = J 7 [(2, .int (x2 + 1)), (1, .int s0), (3, .int x3), (0, .ref 32)] [] (pr_S, hi, hl) := rfl
set_option maxRecDepth 1000000 in
theorem ch_190_7 (C : am_C) (J : am_J) (x2 : Int32) (x1 : Int32) (x3 : Int32) (hi : Nat → Nat → Int32) (hl : Nat → Nat → Int64) : am_ops C J tb_o190_7 7 [(2, .int x2), (1, .int x1), (3, .int x3), (0, .ref 32)] [] (pr_S, hi, hl) = if (2000 : Int32) < x2 then J 42 [(2, .int x2), (1, .int x1), (3, .int x3), (0, .ref 32)] [] (pr_S, hi, hl) else am_ret (C 191 [.ref 32] (pr_S, hi, hl)) fun v G => am_ops C J tb_s190_18 18 [(2, .int x2), (1, .int x1), (3, .int x3), (0, .ref 32)] (v ++ []) G := rfl
set_option maxRecDepth 1000000 in
theorem ch_190_8 (C : am_C) (J : am_J) (x2 : Int32) (x1 : Int32) (x3 : Int32) (hi : Nat → Nat → Int32) (hl : Nat → Nat → Int64) : am_ops C J tb_o190_42 42 [(2, .int x2), (1, .int x1), (3, .int x3), (0, .ref 32)] [] (pr_S, hi, hl) = some (some (.int x1), (pr_S, hi, hl)) := rfl
set_option maxRecDepth 1000000 in
theorem ch_190_9 (C : am_C) (J : am_J) (x2 : Int32) (x1 : Int32) (x3 : Int32) (s0 : Int32) (hi : Nat → Nat → Int32) (hl : Nat → Nat → Int64) : am_ops C J tb_s190_18 18 [(2, .int x2), (1, .int x1), (3, .int x3), (0, .ref 32)] ([.int s0] ++ []) (pr_S, hi, hl) = if s0 = (0 : Int32) then J 42 [(2, .int x2), (1, .int x1), (3, .int x3), (0, .ref 32)] [] (pr_S, hi, hl) else am_ret (C 192 [.ref 32] (pr_S, hi, hl)) fun v G => am_ops C J tb_s190_25 25 [(2, .int x2), (1, .int x1), (3, .int x3), (0, .ref 32)] (v ++ []) G := rfl
set_option maxRecDepth 1000000 in
theorem ch_190_10 (C : am_C) (J : am_J) (x2 : Int32) (x1 : Int32) (x3 : Int32) (s0 : Int32) (hi : Nat → Nat → Int32) (hl : Nat → Nat → Int64) : am_ops C J tb_s190_25 25 [(2, .int x2), (1, .int x1), (3, .int x3), (0, .ref 32)] ([.int s0] ++ []) (pr_S, hi, hl) = am_ret (C 199 [.ref 32, .int 9, .int (-1), .int x1, .int s0] (pr_S, hi, hl)) fun v G => am_ops C J tb_s190_35 35 [(3, .int s0), (2, .int x2), (1, .int x1), (0, .ref 32)] (v ++ []) G := rfl
theorem ht_190_0 (C : am_C) (back : am_J) (ls : am_L) (st : List Value) (G : am_G) : am_fwd C back tb_r190_0 0 ls st G = am_ops C (am_fwd C back tb_r190_1) tb_o190_0 0 ls st G := if_pos rfl
theorem ht_190_1 (C : am_C) (back : am_J) (ls : am_L) (st : List Value) (G : am_G) : am_fwd C back tb_r190_1 7 ls st G = am_ops C (am_fwd C back tb_r190_2) tb_o190_7 7 ls st G := if_pos rfl
theorem ht_190_2 (C : am_C) (back : am_J) (ls : am_L) (st : List Value) (G : am_G) : am_fwd C back tb_r190_2 42 ls st G = am_ops C (am_fwd C back tb_r190_3) tb_o190_42 42 ls st G := if_pos rfl
theorem sk_190_2_7 (C : am_C) (back : am_J) (ls : am_L) (st : List Value) (G : am_G) : am_fwd C back tb_r190_2 7 ls st G = back 7 ls st G := (ev_miss (by decide))
theorem lp_190_7 (C : am_C) (n : Nat) (ls : am_L) (st : List Value) (G : am_G) : am_run C tb_r190_0 (n + 1) 7 ls st G = am_fwd C (am_run C tb_r190_0 n) tb_r190_1 7 ls st G := (ev_miss (by decide))
/-! UsageProofs$Parser.beginsBasic()Z -/
theorem en_191 (d : Nat)  (hi : Nat → Nat → Int32) (hl : Nat → Nat → Int64) : am_call tb_P (d + 1) 191 [.ref 32] (pr_S, hi, hl) = am_fwd (am_call tb_P d) (am_run (am_call tb_P d) tb_r191_0 999999) tb_r191_0 0 [(0, .ref 32)] [] (pr_S, hi, hl) := ev_en (mL := 1) (bs := tb_r191_0) rfl (Nat.le_of_ble_eq_true rfl)
set_option maxRecDepth 1000000 in
theorem ch_191_0 (C : am_C) (J : am_J)  (hi : Nat → Nat → Int32) (hl : Nat → Nat → Int64) : am_ops C J tb_o191_0 0 [(0, .ref 32)] [] (pr_S, hi, hl) = if (hi 1 1) = (258 : Int32) then J 38 [(0, .ref 32)] [] (pr_S, hi, hl) else if (hi 1 1) = (259 : Int32) then J 38 [(0, .ref 32)] [] (pr_S, hi, hl) else if (hi 1 1) ≠ (40 : Int32) then J 42 [(0, .ref 32)] [] (pr_S, hi, hl) else J 38 [(0, .ref 32)] [] (pr_S, hi, hl) := rfl
set_option maxRecDepth 1000000 in
theorem ch_191_1 (C : am_C) (J : am_J)  (hi : Nat → Nat → Int32) (hl : Nat → Nat → Int64) : am_ops C J tb_o191_38 38 [(0, .ref 32)] [] (pr_S, hi, hl) = J 43 [(0, .ref 32)] [.int 1] (pr_S, hi, hl) := rfl
set_option maxRecDepth 1000000 in
theorem ch_191_2 (C : am_C) (J : am_J)  (hi : Nat → Nat → Int32) (hl : Nat → Nat → Int64) : am_ops C J tb_o191_42 42 [(0, .ref 32)] [] (pr_S, hi, hl) = J 43 [(0, .ref 32)] [.int 0] (pr_S, hi, hl) := rfl
set_option maxRecDepth 1000000 in
theorem ch_191_3 (C : am_C) (J : am_J) (s0 : Int32) (hi : Nat → Nat → Int32) (hl : Nat → Nat → Int64) : am_ops C J tb_o191_43 43 [(0, .ref 32)] [.int s0] (pr_S, hi, hl) = if 1 = 1 ∧ s0 ≠ 0 ∧ s0 ≠ 1 then none else some (some (.int s0), (pr_S, hi, hl)) := rfl
theorem ht_191_0 (C : am_C) (back : am_J) (ls : am_L) (st : List Value) (G : am_G) : am_fwd C back tb_r191_0 0 ls st G = am_ops C (am_fwd C back tb_r191_1) tb_o191_0 0 ls st G := if_pos rfl
theorem ht_191_1 (C : am_C) (back : am_J) (ls : am_L) (st : List Value) (G : am_G) : am_fwd C back tb_r191_1 38 ls st G = am_ops C (am_fwd C back tb_r191_2) tb_o191_38 38 ls st G := if_pos rfl
theorem ht_191_2 (C : am_C) (back : am_J) (ls : am_L) (st : List Value) (G : am_G) : am_fwd C back tb_r191_2 42 ls st G = am_ops C (am_fwd C back tb_r191_3) tb_o191_42 42 ls st G := if_pos rfl
theorem ht_191_3 (C : am_C) (back : am_J) (ls : am_L) (st : List Value) (G : am_G) : am_fwd C back tb_r191_3 43 ls st G = am_ops C (am_fwd C back tb_r191_4) tb_o191_43 43 ls st G := if_pos rfl
theorem sk_191_1_42 (C : am_C) (back : am_J) (ls : am_L) (st : List Value) (G : am_G) : am_fwd C back tb_r191_1 42 ls st G = am_fwd C back tb_r191_2 42 ls st G := (ev_miss (by decide))
theorem sk_191_2_43 (C : am_C) (back : am_J) (ls : am_L) (st : List Value) (G : am_G) : am_fwd C back tb_r191_2 43 ls st G = am_fwd C back tb_r191_3 43 ls st G := (ev_miss (by decide))
/-! UsageProofs$Parser.parseBasic()I -/
theorem en_192 (d : Nat)  (hi : Nat → Nat → Int32) (hl : Nat → Nat → Int64) : am_call tb_P (d + 1) 192 [.ref 32] (pr_S, hi, hl) = am_fwd (am_call tb_P d) (am_run (am_call tb_P d) tb_r192_0 999999) tb_r192_0 0 [(0, .ref 32)] [] (pr_S, hi, hl) := ev_en (mL := 2) (bs := tb_r192_0) rfl (Nat.le_of_ble_eq_true rfl)
set_option maxRecDepth 1000000 in
theorem ch_192_0 (C : am_C) (J : am_J)  (hi : Nat → Nat → Int32) (hl : Nat → Nat → Int64) : am_ops C J tb_o192_0 0 [(0, .ref 32)] [] (pr_S, hi, hl) = if (hi 1 1) = 40 then J 40 [(0, .ref 32)] [] (pr_S, hi, hl) else if (hi 1 1) = 258 then J 63 [(0, .ref 32)] [] (pr_S, hi, hl) else if (hi 1 1) = 259 then J 45 [(0, .ref 32)] [] (pr_S, hi, hl) else J 71 [(0, .ref 32)] [] (pr_S, hi, hl) := rfl
set_option maxRecDepth 1000000 in
theorem ch_192_1 (C : am_C) (J : am_J)  (hi : Nat → Nat → Int32) (hl : Nat → Nat → Int64) : am_ops C J tb_o192_40 40 [(0, .ref 32)] [] (pr_S, hi, hl) = am_ret (C 193 [.ref 32] (pr_S, hi, hl)) fun v G => am_ops C J tb_s192_44 44 [(0, .ref 32)] (v ++ []) G := rfl
set_option maxRecDepth 1000000 in
theorem ch_192_2 (C : am_C) (J : am_J)  (hi : Nat → Nat → Int32) (hl : Nat → Nat → Int64) : am_ops C J tb_o192_63 63 [(0, .ref 32)] [] (pr_S, hi, hl) = am_ret (C 194 [.ref 32] (pr_S, hi, hl)) fun v G => am_ops C J tb_s192_67 67 [(0, .ref 32)] (v ++ []) G := rfl
set_option maxRecDepth 1000000 in
theorem ch_192_3 (C : am_C) (J : am_J)  (hi : Nat → Nat → Int32) (hl : Nat → Nat → Int64) : am_ops C J tb_o192_45 45 [(0, .ref 32)] [] (pr_S, hi, hl) = am_ret (C 199 [.ref 32, .int 0, .int (hi 1 4), .int (-1), .int (-1)] (pr_S, hi, hl)) fun v G => am_ops C J tb_s192_59 59 [(0, .ref 32)] (v ++ []) G := rfl
set_option maxRecDepth 1000000 in
theorem ch_192_4 (C : am_C) (J : am_J)  (hi : Nat → Nat → Int32) (hl : Nat → Nat → Int64) : am_ops C J tb_o192_71 71 [(0, .ref 32)] [] (pr_S, hi, hl) = am_ret (C 175 [.ref 32, .int 2] (pr_S, hi, hl)) fun v G => am_ops C J tb_s192_76 76 [(0, .ref 32)] (v ++ []) G := rfl
set_option maxRecDepth 1000000 in
theorem ch_192_5 (C : am_C) (J : am_J) (s0 : Int32) (hi : Nat → Nat → Int32) (hl : Nat → Nat → Int64) : am_ops C J tb_s192_44 44 [(0, .ref 32)] ([.int s0] ++ []) (pr_S, hi, hl) = some (some (.int s0), (pr_S, hi, hl)) := rfl
set_option maxRecDepth 1000000 in
theorem ch_192_6 (C : am_C) (J : am_J) (s0 : Int32) (hi : Nat → Nat → Int32) (hl : Nat → Nat → Int64) : am_ops C J tb_s192_67 67 [(0, .ref 32)] ([.int s0] ++ []) (pr_S, hi, hl) = J 78 [(1, .int s0), (0, .ref 32)] [] (pr_S, hi, hl) := rfl
set_option maxRecDepth 1000000 in
theorem ch_192_7 (C : am_C) (J : am_J) (s0 : Int32) (hi : Nat → Nat → Int32) (hl : Nat → Nat → Int64) : am_ops C J tb_s192_59 59 [(0, .ref 32)] ([.int s0] ++ []) (pr_S, hi, hl) = J 78 [(1, .int s0), (0, .ref 32)] [] (pr_S, hi, hl) := rfl
set_option maxRecDepth 1000000 in
theorem ch_192_8 (C : am_C) (J : am_J)  (hi : Nat → Nat → Int32) (hl : Nat → Nat → Int64) : am_ops C J tb_s192_76 76 [(0, .ref 32)] ([] ++ []) (pr_S, hi, hl) = some (some (.int (-1)), (pr_S, hi, hl)) := rfl
set_option maxRecDepth 1000000 in
theorem ch_192_9 (C : am_C) (J : am_J) (x1 : Int32) (hi : Nat → Nat → Int32) (hl : Nat → Nat → Int64) : am_ops C J tb_o192_78 78 [(1, .int x1), (0, .ref 32)] [] (pr_S, hi, hl) = am_ret (C 177 [.ref 32] (pr_S, hi, hl)) fun v G => am_ops C J tb_s192_82 82 [(1, .int x1), (0, .ref 32)] (v ++ []) G := rfl
set_option maxRecDepth 1000000 in
theorem ch_192_10 (C : am_C) (J : am_J) (x1 : Int32) (hi : Nat → Nat → Int32) (hl : Nat → Nat → Int64) : am_ops C J tb_s192_82 82 [(1, .int x1), (0, .ref 32)] ([] ++ []) (pr_S, hi, hl) = some (some (.int x1), (pr_S, hi, hl)) := rfl
theorem ht_192_0 (C : am_C) (back : am_J) (ls : am_L) (st : List Value) (G : am_G) : am_fwd C back tb_r192_0 0 ls st G = am_ops C (am_fwd C back tb_r192_1) tb_o192_0 0 ls st G := if_pos rfl
theorem ht_192_1 (C : am_C) (back : am_J) (ls : am_L) (st : List Value) (G : am_G) : am_fwd C back tb_r192_1 40 ls st G = am_ops C (am_fwd C back tb_r192_2) tb_o192_40 40 ls st G := if_pos rfl
theorem ht_192_2 (C : am_C) (back : am_J) (ls : am_L) (st : List Value) (G : am_G) : am_fwd C back tb_r192_2 45 ls st G = am_ops C (am_fwd C back tb_r192_3) tb_o192_45 45 ls st G := if_pos rfl
theorem ht_192_3 (C : am_C) (back : am_J) (ls : am_L) (st : List Value) (G : am_G) : am_fwd C back tb_r192_3 63 ls st G = am_ops C (am_fwd C back tb_r192_4) tb_o192_63 63 ls st G := if_pos rfl
theorem ht_192_4 (C : am_C) (back : am_J) (ls : am_L) (st : List Value) (G : am_G) : am_fwd C back tb_r192_4 71 ls st G = am_ops C (am_fwd C back tb_r192_5) tb_o192_71 71 ls st G := if_pos rfl
theorem ht_192_5 (C : am_C) (back : am_J) (ls : am_L) (st : List Value) (G : am_G) : am_fwd C back tb_r192_5 78 ls st G = am_ops C (am_fwd C back tb_r192_6) tb_o192_78 78 ls st G := if_pos rfl
theorem sk_192_1_63 (C : am_C) (back : am_J) (ls : am_L) (st : List Value) (G : am_G) : am_fwd C back tb_r192_1 63 ls st G = am_fwd C back tb_r192_3 63 ls st G := ((ev_miss (by decide)).trans (ev_miss (by decide)))
theorem sk_192_1_45 (C : am_C) (back : am_J) (ls : am_L) (st : List Value) (G : am_G) : am_fwd C back tb_r192_1 45 ls st G = am_fwd C back tb_r192_2 45 ls st G := (ev_miss (by decide))
theorem sk_192_1_71 (C : am_C) (back : am_J) (ls : am_L) (st : List Value) (G : am_G) : am_fwd C back tb_r192_1 71 ls st G = am_fwd C back tb_r192_4 71 ls st G := (((ev_miss (by decide)).trans (ev_miss (by decide))).trans (ev_miss (by decide)))
theorem sk_192_4_78 (C : am_C) (back : am_J) (ls : am_L) (st : List Value) (G : am_G) : am_fwd C back tb_r192_4 78 ls st G = am_fwd C back tb_r192_5 78 ls st G := (ev_miss (by decide))
theorem sk_192_3_78 (C : am_C) (back : am_J) (ls : am_L) (st : List Value) (G : am_G) : am_fwd C back tb_r192_3 78 ls st G = am_fwd C back tb_r192_5 78 ls st G := ((ev_miss (by decide)).trans (ev_miss (by decide)))
/-! UsageProofs$Parser.parseBracket()I -/
theorem en_193 (d : Nat)  (hi : Nat → Nat → Int32) (hl : Nat → Nat → Int64) : am_call tb_P (d + 1) 193 [.ref 32] (pr_S, hi, hl) = am_fwd (am_call tb_P d) (am_run (am_call tb_P d) tb_r193_0 999999) tb_r193_0 0 [(0, .ref 32)] [] (pr_S, hi, hl) := ev_en (mL := 4) (bs := tb_r193_0) rfl (Nat.le_of_ble_eq_true rfl)
set_option maxRecDepth 1000000 in
theorem ch_193_0 (C : am_C) (J : am_J)  (hi : Nat → Nat → Int32) (hl : Nat → Nat → Int64) : am_ops C J tb_o193_0 0 [(0, .ref 32)] [] (pr_S, hi, hl) = am_ret (C 196 [.ref 32] (pr_S, hi, hl)) fun v G => am_ops C J tb_s193_4 4 [(0, .ref 32)] (v ++ []) G := rfl
set_option maxRecDepth 1000000 in
theorem ch_193_1 (C : am_C) (J : am_J)  (hi : Nat → Nat → Int32) (hl : Nat → Nat → Int64) : am_ops C J tb_s193_4 4 [(0, .ref 32)] ([] ++ []) (pr_S, hi, hl) = am_ret (C 177 [.ref 32] (pr_S, hi, hl)) fun v G => am_ops C J tb_s193_8 8 [(0, .ref 32)] (v ++ []) G := rfl
set_option maxRecDepth 1000000 in
theorem ch_193_2 (C : am_C) (J : am_J)  (hi : Nat → Nat → Int32) (hl : Nat → Nat → Int64) : am_ops C J tb_s193_8 8 [(0, .ref 32)] ([] ++ []) (pr_S, hi, hl) = am_ret (C 181 [.ref 32] (pr_S, hi, hl)) fun v G => am_ops C J tb_s193_12 12 [(0, .ref 32)] (v ++ []) G := rfl
set_option maxRecDepth 1000000 in
theorem ch_193_3 (C : am_C) (J : am_J) (s0 : Int32) (hi : Nat → Nat → Int32) (hl : Nat → Nat → Int64) : am_ops C J tb_s193_12 12 [(0, .ref 32)] ([.int s0] ++ []) (pr_S, hi, hl) = if (hi 1 1) ≠ (44 : Int32) then J 45 [(2, .int s0), (1, .int s0), (0, .ref 32)] [] (pr_S, hi, hl) else am_ret (C 177 [.ref 32] (pr_S, hi, hl)) fun v G => am_ops C J tb_s193_31 31 [(2, .int s0), (1, .int s0), (0, .ref 32)] (v ++ []) G := rfl
set_option maxRecDepth 1000000 in
theorem ch_193_4 (C : am_C) (J : am_J) (x2 : Int32) (x1 : Int32) (hi : Nat → Nat → Int32) (hl : Nat → Nat → Int64) : am_ops C J tb_o193_45 45 [(2, .int x2), (1, .int x1), (0, .ref 32)] [] (pr_S, hi, hl) = am_ret (C 197 [.ref 32, .int (hi 32 3)] (pr_S, hi, hl)) fun v G => am_ops C J tb_s193_53 53 [(2, .int x2), (1, .int x1), (0, .ref 32)] (v ++ []) G := rfl
set_option maxRecDepth 1000000 in
theorem ch_193_5 (C : am_C) (J : am_J) (x2 : Int32) (x1 : Int32) (hi : Nat → Nat → Int32) (hl : Nat → Nat → Int64) : am_ops C J tb_s193_31 31 [(2, .int x2), (1, .int x1), (0, .ref 32)] ([] ++ []) (pr_S, hi, hl) = am_ret (C 181 [.ref 32] (pr_S, hi, hl)) fun v G => am_ops C J tb_s193_35 35 [(2, .int x2), (1, .int x1), (0, .ref 32)] (v ++ []) G := rfl
set_option maxRecDepth 1000000 in
theorem ch_193_6 (C : am_C) (J : am_J) (x2 : Int32) (x1 : Int32) (hi : Nat → Nat → Int32) (hl : Nat → Nat → Int64) : am_ops C J tb_s193_53 53 [(2, .int x2), (1, .int x1), (0, .ref 32)] ([] ++ []) (pr_S, hi, hl) = am_ret (C 178 [.ref 32, .int 41] (pr_S, hi, hl)) fun v G => am_ops C J tb_s193_59 59 [(2, .int x2), (1, .int x1), (0, .ref 32)] (v ++ []) G := rfl
set_option maxRecDepth 1000000 in
theorem ch_193_7 (C : am_C) (J : am_J) (x2 : Int32) (x1 : Int32) (s0 : Int32) (hi : Nat → Nat → Int32) (hl : Nat → Nat → Int64) : am_ops C J tb_s193_35 35 [(2, .int x2), (1, .int x1), (0, .ref 32)] ([.int s0] ++ []) (pr_S, hi, hl) = am_ret (C 199 [.ref 32, .int 3, .int (-1), .int x1, .int s0] (pr_S, hi, hl)) fun v G => am_ops C J tb_s193_44 44 [(3, .int s0), (2, .int x2), (1, .int x1), (0, .ref 32)] (v ++ []) G := rfl
set_option maxRecDepth 1000000 in
theorem ch_193_8 (C : am_C) (J : am_J) (x2 : Int32) (x1 : Int32) (hi : Nat → Nat → Int32) (hl : Nat → Nat → Int64) : am_ops C J tb_s193_59 59 [(2, .int x2), (1, .int x1), (0, .ref 32)] ([] ++ []) (pr_S, hi, hl) = some (some (.int x2), (pr_S, hi, hl)) := rfl
set_option maxRecDepth 1000000 in
theorem ch_193_9 (C : am_C) (J : am_J) (x3 : Int32) (x2 : Int32) (x1 : Int32) (s0 : Int32) (hi : Nat → Nat → Int32) (hl : Nat → Nat → Int64) : am_ops C J tb_s193_44 44 [(3, .int x3), (2, .int x2), (1, .int x1), (0, .ref 32)] ([.int s0] ++ []) (pr_S, hi, hl) = J 45 [(2, .int s0), (3, .int x3), (1, .int x1), (0, .ref 32)] [] (pr_S, hi, hl) := rfl
set_option maxRecDepth 1000000 in
theorem ch_193_10 (C : am_C) (J : am_J) (x2 : Int32) (x3 : Int32) (x1 : Int32) (hi : Nat → Nat → Int32) (hl : Nat → Nat → Int64) : am_ops C J tb_o193_45 45 [(2, .int x2), (3, .int x3), (1, .int x1), (0, .ref 32)] [] (pr_S, hi, hl) = am_ret (C 197 [.ref 32, .int (hi 32 3)] (pr_S, hi, hl)) fun v G => am_ops C J tb_s193_53 53 [(2, .int x2), (3, .int x3), (1, .int x1), (0, .ref 32)] (v ++ []) G := rfl
set_option maxRecDepth 1000000 in
theorem ch_193_11 (C : am_C) (J : am_J) (x2 : Int32) (x3 : Int32) (x1 : Int32) (hi : Nat → Nat → Int32) (hl : Nat → Nat → Int64) : am_ops C J tb_s193_53 53 [(2, .int x2), (3, .int x3), (1, .int x1), (0, .ref 32)] ([] ++ []) (pr_S, hi, hl) = am_ret (C 178 [.ref 32, .int 41] (pr_S, hi, hl)) fun v G => am_ops C J tb_s193_59 59 [(2, .int x2), (3, .int x3), (1, .int x1), (0, .ref 32)] (v ++ []) G := rfl
set_option maxRecDepth 1000000 in
theorem ch_193_12 (C : am_C) (J : am_J) (x2 : Int32) (x3 : Int32) (x1 : Int32) (hi : Nat → Nat → Int32) (hl : Nat → Nat → Int64) : am_ops C J tb_s193_59 59 [(2, .int x2), (3, .int x3), (1, .int x1), (0, .ref 32)] ([] ++ []) (pr_S, hi, hl) = some (some (.int x2), (pr_S, hi, hl)) := rfl
theorem ht_193_0 (C : am_C) (back : am_J) (ls : am_L) (st : List Value) (G : am_G) : am_fwd C back tb_r193_0 0 ls st G = am_ops C (am_fwd C back tb_r193_1) tb_o193_0 0 ls st G := if_pos rfl
theorem ht_193_1 (C : am_C) (back : am_J) (ls : am_L) (st : List Value) (G : am_G) : am_fwd C back tb_r193_1 45 ls st G = am_ops C (am_fwd C back tb_r193_2) tb_o193_45 45 ls st G := if_pos rfl
/-! UsageProofs$Parser.newNameNode()I -/
theorem en_194 (d : Nat)  (hi : Nat → Nat → Int32) (hl : Nat → Nat → Int64) : am_call tb_P (d + 1) 194 [.ref 32] (pr_S, hi, hl) = am_fwd (am_call tb_P d) (am_run (am_call tb_P d) tb_r194_0 999999) tb_r194_0 0 [(0, .ref 32)] [] (pr_S, hi, hl) := ev_en (mL := 2) (bs := tb_r194_0) rfl (Nat.le_of_ble_eq_true rfl)
set_option maxRecDepth 1000000 in
theorem ch_194_0 (C : am_C) (J : am_J)  (hi : Nat → Nat → Int32) (hl : Nat → Nat → Int64) : am_ops C J tb_o194_0 0 [(0, .ref 32)] [] (pr_S, hi, hl) = am_ret (C 201 [.ref 32, .long (hl 1 3)] (pr_S, hi, hl)) fun v G => am_ops C J tb_s194_11 11 [(0, .ref 32)] (v ++ []) G := rfl
set_option maxRecDepth 1000000 in
theorem ch_194_1 (C : am_C) (J : am_J) (s0 : Int32) (hi : Nat → Nat → Int32) (hl : Nat → Nat → Int64) : am_ops C J tb_s194_11 11 [(0, .ref 32)] ([.int s0] ++ []) (pr_S, hi, hl) = if s0 < (0 : Int32) then J 32 [(1, .int s0), (0, .ref 32)] [] (pr_S, hi, hl) else am_ret (C 17 [.ref 34, .int s0] (pr_S, hi, hl)) fun v G => am_ops C J tb_s194_26 26 [(1, .int s0), (0, .ref 32)] (v ++ [.int 1, .ref 32]) G := rfl
set_option maxRecDepth 1000000 in
theorem ch_194_2 (C : am_C) (J : am_J) (x1 : Int32) (hi : Nat → Nat → Int32) (hl : Nat → Nat → Int64) : am_ops C J tb_o194_32 32 [(1, .int x1), (0, .ref 32)] [] (pr_S, hi, hl) = am_ret (C 199 [.ref 32, .int 2, .int (-1), .int (hi 1 2), .int (-1)] (pr_S, hi, hl)) fun v G => am_ops C J tb_s194_46 46 [(1, .int x1), (0, .ref 32)] (v ++ []) G := rfl
set_option maxRecDepth 1000000 in
theorem ch_194_3 (C : am_C) (J : am_J) (x1 : Int32) (s0 : Int32) (s1 : Int32) (hi : Nat → Nat → Int32) (hl : Nat → Nat → Int64) : am_ops C J tb_s194_26 26 [(1, .int x1), (0, .ref 32)] ([.int s0] ++ [.int s1, .ref 32]) (pr_S, hi, hl) = am_ret (C 199 [.ref 32, .int s1, .int s0, .int (-1), .int (-1)] (pr_S, hi, hl)) fun v G => am_ops C J tb_s194_31 31 [(1, .int x1), (0, .ref 32)] (v ++ []) G := rfl
set_option maxRecDepth 1000000 in
theorem ch_194_4 (C : am_C) (J : am_J) (x1 : Int32) (s0 : Int32) (hi : Nat → Nat → Int32) (hl : Nat → Nat → Int64) : am_ops C J tb_s194_46 46 [(1, .int x1), (0, .ref 32)] ([.int s0] ++ []) (pr_S, hi, hl) = some (some (.int s0), (pr_S, hi, hl)) := rfl
set_option maxRecDepth 1000000 in
theorem ch_194_5 (C : am_C) (J : am_J) (x1 : Int32) (s0 : Int32) (hi : Nat → Nat → Int32) (hl : Nat → Nat → Int64) : am_ops C J tb_s194_31 31 [(1, .int x1), (0, .ref 32)] ([.int s0] ++ []) (pr_S, hi, hl) = some (some (.int s0), (pr_S, hi, hl)) := rfl
theorem ht_194_0 (C : am_C) (back : am_J) (ls : am_L) (st : List Value) (G : am_G) : am_fwd C back tb_r194_0 0 ls st G = am_ops C (am_fwd C back tb_r194_1) tb_o194_0 0 ls st G := if_pos rfl
theorem ht_194_1 (C : am_C) (back : am_J) (ls : am_L) (st : List Value) (G : am_G) : am_fwd C back tb_r194_1 32 ls st G = am_ops C (am_fwd C back tb_r194_2) tb_o194_32 32 ls st G := if_pos rfl
/-! UsageProofs$Parser.resolveDefs()V -/
theorem en_195 (d : Nat)  (hi : Nat → Nat → Int32) (hl : Nat → Nat → Int64) : am_call tb_P (d + 1) 195 [.ref 32] (pr_S, hi, hl) = am_fwd (am_call tb_P d) (am_run (am_call tb_P d) tb_r195_0 999999) tb_r195_0 0 [(0, .ref 32)] [] (pr_S, hi, hl) := ev_en (mL := 3) (bs := tb_r195_0) rfl (Nat.le_of_ble_eq_true rfl)
set_option maxRecDepth 1000000 in
theorem ch_195_0 (C : am_C) (J : am_J)  (hi : Nat → Nat → Int32) (hl : Nat → Nat → Int64) : am_ops C J tb_o195_0 0 [(0, .ref 32)] [] (pr_S, hi, hl) = J 2 [(1, .int 0), (0, .ref 32)] [] (pr_S, hi, hl) := rfl
set_option maxRecDepth 1000000 in
theorem ch_195_1 (C : am_C) (J : am_J) (x1 : Int32) (hi : Nat → Nat → Int32) (hl : Nat → Nat → Int64) : am_ops C J tb_o195_2 2 [(1, .int x1), (0, .ref 32)] [] (pr_S, hi, hl) = if (hi 3 2) ≤ x1 then J 95 [(1, .int x1), (0, .ref 32)] [] (pr_S, hi, hl) else if (hi 32 1) ≠ (0 : Int32) then J 95 [(1, .int x1), (0, .ref 32)] [] (pr_S, hi, hl) else am_ret (C 17 [.ref 12, .int x1] (pr_S, hi, hl)) fun v G => am_ops C J tb_s195_31 31 [(1, .int x1), (0, .ref 32)] (v ++ []) G := rfl
set_option maxRecDepth 1000000 in
theorem ch_195_2 (C : am_C) (J : am_J) (x1 : Int32) (hi : Nat → Nat → Int32) (hl : Nat → Nat → Int64) : am_ops C J tb_o195_95 95 [(1, .int x1), (0, .ref 32)] [] (pr_S, hi, hl) = some (none, (pr_S, hi, hl)) := rfl
set_option maxRecDepth 1000000 in
theorem ch_195_3 (C : am_C) (J : am_J) (x1 : Int32) (s0 : Int32) (hi : Nat → Nat → Int32) (hl : Nat → Nat → Int64) : am_ops C J tb_s195_31 31 [(1, .int x1), (0, .ref 32)] ([.int s0] ++ []) (pr_S, hi, hl) = if s0 ≠ (2 : Int32) then J 89 [(1, .int x1), (0, .ref 32)] [] (pr_S, hi, hl) else am_ret (C 17 [.ref 14, .int x1] (pr_S, hi, hl)) fun v G => am_ops C J tb_s195_50 50 [(1, .int x1), (0, .ref 32)] (v ++ [.ref 1]) G := rfl
set_option maxRecDepth 1000000 in
theorem ch_195_4 (C : am_C) (J : am_J) (x1 : Int32) (hi : Nat → Nat → Int32) (hl : Nat → Nat → Int64) : am_ops C J tb_o195_89 89 [(1, .int x1), (0, .ref 32)] [] (pr_S, hi, hl) = J 2 [(1, .int (x1 + 1)), (0, .ref 32)] [] (pr_S, hi, hl) := rfl
set_option maxRecDepth 1000000 in
theorem ch_195_5 (C : am_C) (J : am_J) (x1 : Int32) (s0 : Int32) (hi : Nat → Nat → Int32) (hl : Nat → Nat → Int64) : am_ops C J tb_s195_50 50 [(1, .int x1), (0, .ref 32)] ([.int s0] ++ [.ref 1]) (pr_S, hi, hl) = am_ret (C 225 [.ref 1, .int s0] (pr_S, hi, hl)) fun v G => am_ops C J tb_s195_53 53 [(1, .int x1), (0, .ref 32)] (v ++ []) G := rfl
set_option maxRecDepth 1000000 in
theorem ch_195_6 (C : am_C) (J : am_J) (x1 : Int32) (hi : Nat → Nat → Int32) (hl : Nat → Nat → Int64) : am_ops C J tb_s195_53 53 [(1, .int x1), (0, .ref 32)] ([] ++ []) (pr_S, hi, hl) = am_ret (C 207 [.ref 3, .long (hl 1 3)] (pr_S, hi, hl)) fun v G => am_ops C J tb_s195_67 67 [(1, .int x1), (0, .ref 32)] (v ++ []) G := rfl
set_option maxRecDepth 1000000 in
theorem ch_195_7 (C : am_C) (J : am_J) (x1 : Int32) (s0 : Int32) (hi : Nat → Nat → Int32) (hl : Nat → Nat → Int64) : am_ops C J tb_s195_67 67 [(1, .int x1), (0, .ref 32)] ([.int s0] ++ []) (pr_S, hi, hl) = if (0 : Int32) ≤ s0 then J 77 [(2, .int s0), (1, .int x1), (0, .ref 32)] [] (pr_S, hi, hl) else am_ret (C 175 [.ref 32, .int 3] (pr_S, hi, hl)) fun v G => am_ops C J tb_s195_77 77 [(2, .int s0), (1, .int x1), (0, .ref 32)] (v ++ []) G := rfl
set_option maxRecDepth 1000000 in
theorem ch_195_8 (C : am_C) (J : am_J) (x2 : Int32) (x1 : Int32) (hi : Nat → Nat → Int32) (hl : Nat → Nat → Int64) : am_ops C J tb_o195_77 77 [(2, .int x2), (1, .int x1), (0, .ref 32)] [] (pr_S, hi, hl) = am_ret (C 18 [.ref 13, .int x1, .int x2] (pr_S, hi, hl)) fun v G => am_ops C J tb_s195_89 89 [(2, .int x2), (1, .int x1), (0, .ref 32)] (v ++ []) G := rfl
set_option maxRecDepth 1000000 in
theorem ch_195_9 (C : am_C) (J : am_J) (x2 : Int32) (x1 : Int32) (hi : Nat → Nat → Int32) (hl : Nat → Nat → Int64) : am_ops C J tb_s195_77 77 [(2, .int x2), (1, .int x1), (0, .ref 32)] ([] ++ []) (pr_S, hi, hl) = J 77 [(2, .int x2), (1, .int x1), (0, .ref 32)] [] (pr_S, hi, hl) := rfl
set_option maxRecDepth 1000000 in
theorem ch_195_10 (C : am_C) (J : am_J) (x2 : Int32) (x1 : Int32) (hi : Nat → Nat → Int32) (hl : Nat → Nat → Int64) : am_ops C J tb_s195_89 89 [(2, .int x2), (1, .int x1), (0, .ref 32)] ([] ++ []) (pr_S, hi, hl) = J 89 [(2, .int x2), (1, .int x1), (0, .ref 32)] [] (pr_S, hi, hl) := rfl
set_option maxRecDepth 1000000 in
theorem ch_195_11 (C : am_C) (J : am_J) (x2 : Int32) (x1 : Int32) (hi : Nat → Nat → Int32) (hl : Nat → Nat → Int64) : am_ops C J tb_o195_89 89 [(2, .int x2), (1, .int x1), (0, .ref 32)] [] (pr_S, hi, hl) = J 2 [(1, .int (x1 + 1)), (2, .int x2), (0, .ref 32)] [] (pr_S, hi, hl) := rfl
set_option maxRecDepth 1000000 in
theorem ch_195_12 (C : am_C) (J : am_J) (x1 : Int32) (x2 : Int32) (hi : Nat → Nat → Int32) (hl : Nat → Nat → Int64) : am_ops C J tb_o195_2 2 [(1, .int x1), (2, .int x2), (0, .ref 32)] [] (pr_S, hi, hl) = if (hi 3 2) ≤ x1 then J 95 [(1, .int x1), (2, .int x2), (0, .ref 32)] [] (pr_S, hi, hl) else if (hi 32 1) ≠ (0 : Int32) then J 95 [(1, .int x1), (2, .int x2), (0, .ref 32)] [] (pr_S, hi, hl) else am_ret (C 17 [.ref 12, .int x1] (pr_S, hi, hl)) fun v G => am_ops C J tb_s195_31 31 [(1, .int x1), (2, .int x2), (0, .ref 32)] (v ++ []) G := rfl
set_option maxRecDepth 1000000 in
theorem ch_195_13 (C : am_C) (J : am_J) (x1 : Int32) (x2 : Int32) (hi : Nat → Nat → Int32) (hl : Nat → Nat → Int64) : am_ops C J tb_o195_95 95 [(1, .int x1), (2, .int x2), (0, .ref 32)] [] (pr_S, hi, hl) = some (none, (pr_S, hi, hl)) := rfl
set_option maxRecDepth 1000000 in
theorem ch_195_14 (C : am_C) (J : am_J) (x1 : Int32) (x2 : Int32) (s0 : Int32) (hi : Nat → Nat → Int32) (hl : Nat → Nat → Int64) : am_ops C J tb_s195_31 31 [(1, .int x1), (2, .int x2), (0, .ref 32)] ([.int s0] ++ []) (pr_S, hi, hl) = if s0 ≠ (2 : Int32) then J 89 [(1, .int x1), (2, .int x2), (0, .ref 32)] [] (pr_S, hi, hl) else am_ret (C 17 [.ref 14, .int x1] (pr_S, hi, hl)) fun v G => am_ops C J tb_s195_50 50 [(1, .int x1), (2, .int x2), (0, .ref 32)] (v ++ [.ref 1]) G := rfl
set_option maxRecDepth 1000000 in
theorem ch_195_15 (C : am_C) (J : am_J) (x1 : Int32) (x2 : Int32) (hi : Nat → Nat → Int32) (hl : Nat → Nat → Int64) : am_ops C J tb_o195_89 89 [(1, .int x1), (2, .int x2), (0, .ref 32)] [] (pr_S, hi, hl) = J 2 [(1, .int (x1 + 1)), (2, .int x2), (0, .ref 32)] [] (pr_S, hi, hl) := rfl
set_option maxRecDepth 1000000 in
theorem ch_195_16 (C : am_C) (J : am_J) (x1 : Int32) (x2 : Int32) (s0 : Int32) (hi : Nat → Nat → Int32) (hl : Nat → Nat → Int64) : am_ops C J tb_s195_50 50 [(1, .int x1), (2, .int x2), (0, .ref 32)] ([.int s0] ++ [.ref 1]) (pr_S, hi, hl) = am_ret (C 225 [.ref 1, .int s0] (pr_S, hi, hl)) fun v G => am_ops C J tb_s195_53 53 [(1, .int x1), (2, .int x2), (0, .ref 32)] (v ++ []) G := rfl
set_option maxRecDepth 1000000 in
theorem ch_195_17 (C : am_C) (J : am_J) (x1 : Int32) (x2 : Int32) (hi : Nat → Nat → Int32) (hl : Nat → Nat → Int64) : am_ops C J tb_s195_53 53 [(1, .int x1), (2, .int x2), (0, .ref 32)] ([] ++ []) (pr_S, hi, hl) = am_ret (C 207 [.ref 3, .long (hl 1 3)] (pr_S, hi, hl)) fun v G => am_ops C J tb_s195_67 67 [(1, .int x1), (2, .int x2), (0, .ref 32)] (v ++ []) G := rfl
set_option maxRecDepth 1000000 in
theorem ch_195_18 (C : am_C) (J : am_J) (x1 : Int32) (x2 : Int32) (s0 : Int32) (hi : Nat → Nat → Int32) (hl : Nat → Nat → Int64) : am_ops C J tb_s195_67 67 [(1, .int x1), (2, .int x2), (0, .ref 32)] ([.int s0] ++ []) (pr_S, hi, hl) = if (0 : Int32) ≤ s0 then J 77 [(2, .int s0), (1, .int x1), (0, .ref 32)] [] (pr_S, hi, hl) else am_ret (C 175 [.ref 32, .int 3] (pr_S, hi, hl)) fun v G => am_ops C J tb_s195_77 77 [(2, .int s0), (1, .int x1), (0, .ref 32)] (v ++ []) G := rfl
theorem ht_195_0 (C : am_C) (back : am_J) (ls : am_L) (st : List Value) (G : am_G) : am_fwd C back tb_r195_0 0 ls st G = am_ops C (am_fwd C back tb_r195_1) tb_o195_0 0 ls st G := if_pos rfl
theorem ht_195_1 (C : am_C) (back : am_J) (ls : am_L) (st : List Value) (G : am_G) : am_fwd C back tb_r195_1 2 ls st G = am_ops C (am_fwd C back tb_r195_2) tb_o195_2 2 ls st G := if_pos rfl
theorem ht_195_2 (C : am_C) (back : am_J) (ls : am_L) (st : List Value) (G : am_G) : am_fwd C back tb_r195_2 77 ls st G = am_ops C (am_fwd C back tb_r195_3) tb_o195_77 77 ls st G := if_pos rfl
theorem ht_195_3 (C : am_C) (back : am_J) (ls : am_L) (st : List Value) (G : am_G) : am_fwd C back tb_r195_3 89 ls st G = am_ops C (am_fwd C back tb_r195_4) tb_o195_89 89 ls st G := if_pos rfl
theorem ht_195_4 (C : am_C) (back : am_J) (ls : am_L) (st : List Value) (G : am_G) : am_fwd C back tb_r195_4 95 ls st G = am_ops C (am_fwd C back tb_r195_5) tb_o195_95 95 ls st G := if_pos rfl
theorem sk_195_2_95 (C : am_C) (back : am_J) (ls : am_L) (st : List Value) (G : am_G) : am_fwd C back tb_r195_2 95 ls st G = am_fwd C back tb_r195_4 95 ls st G := ((ev_miss (by decide)).trans (ev_miss (by decide)))
theorem sk_195_2_89 (C : am_C) (back : am_J) (ls : am_L) (st : List Value) (G : am_G) : am_fwd C back tb_r195_2 89 ls st G = am_fwd C back tb_r195_3 89 ls st G := (ev_miss (by decide))
theorem sk_195_4_2 (C : am_C) (back : am_J) (ls : am_L) (st : List Value) (G : am_G) : am_fwd C back tb_r195_4 2 ls st G = back 2 ls st G := (ev_miss (by decide))
theorem lp_195_2 (C : am_C) (n : Nat) (ls : am_L) (st : List Value) (G : am_G) : am_run C tb_r195_0 (n + 1) 2 ls st G = am_fwd C (am_run C tb_r195_0 n) tb_r195_1 2 ls st G := (ev_miss (by decide))
/-! UsageProofs$Parser.enter()V -/
theorem en_196 (d : Nat)  (hi : Nat → Nat → Int32) (hl : Nat → Nat → Int64) : am_call tb_P (d + 1) 196 [.ref 32] (pr_S, hi, hl) = am_fwd (am_call tb_P d) (am_run (am_call tb_P d) tb_r196_0 999999) tb_r196_0 0 [(0, .ref 32)] [] (pr_S, hi, hl) := ev_en (mL := 1) (bs := tb_r196_0) rfl (Nat.le_of_ble_eq_true rfl)
set_option maxRecDepth 1000000 in
theorem ch_196_0 (C : am_C) (J : am_J)  (hi : Nat → Nat → Int32) (hl : Nat → Nat → Int64) : am_ops C J tb_o196_0 0 [(0, .ref 32)] [] (pr_S, hi, hl) = if ((hi 32 2) + 1) ≤ (40 : Int32) then J 24 [(0, .ref 32)] [] (pr_S, (am_si hi 32 2 ((hi 32 2) + 1)), hl) else am_ret (C 175 [.ref 32, .int 5] (pr_S, (am_si hi 32 2 ((hi 32 2) + 1)), hl)) fun v G => am_ops C J tb_s196_24 24 [(0, .ref 32)] (v ++ []) G := rfl
set_option maxRecDepth 1000000 in
theorem ch_196_1 (C : am_C) (J : am_J)  (hi : Nat → Nat → Int32) (hl : Nat → Nat → Int64) : am_ops C J tb_o196_24 24 [(0, .ref 32)] [] (pr_S, hi, hl) = some (none, (pr_S, hi, hl)) := rfl
set_option maxRecDepth 1000000 in
theorem ch_196_2 (C : am_C) (J : am_J)  (hi : Nat → Nat → Int32) (hl : Nat → Nat → Int64) : am_ops C J tb_s196_24 24 [(0, .ref 32)] ([] ++ []) (pr_S, hi, hl) = J 24 [(0, .ref 32)] [] (pr_S, hi, hl) := rfl
theorem ht_196_0 (C : am_C) (back : am_J) (ls : am_L) (st : List Value) (G : am_G) : am_fwd C back tb_r196_0 0 ls st G = am_ops C (am_fwd C back tb_r196_1) tb_o196_0 0 ls st G := if_pos rfl
theorem ht_196_1 (C : am_C) (back : am_J) (ls : am_L) (st : List Value) (G : am_G) : am_fwd C back tb_r196_1 24 ls st G = am_ops C (am_fwd C back tb_r196_2) tb_o196_24 24 ls st G := if_pos rfl
/-! UsageProofs$Parser.leave(I)V -/
theorem en_197 (d : Nat) (x1 : Int32) (hi : Nat → Nat → Int32) (hl : Nat → Nat → Int64) : am_call tb_P (d + 1) 197 [.ref 32, .int x1] (pr_S, hi, hl) = am_fwd (am_call tb_P d) (am_run (am_call tb_P d) tb_r197_0 999999) tb_r197_0 0 [(0, .ref 32), (1, .int x1)] [] (pr_S, hi, hl) := ev_en (mL := 2) (bs := tb_r197_0) rfl (Nat.le_of_ble_eq_true rfl)
set_option maxRecDepth 1000000 in
theorem ch_197_0 (C : am_C) (J : am_J) (x1 : Int32) (hi : Nat → Nat → Int32) (hl : Nat → Nat → Int64) : am_ops C J tb_o197_0 0 [(0, .ref 32), (1, .int x1)] [] (pr_S, hi, hl) = some (none, (pr_S, (am_si (am_si hi 32 2 ((hi 32 2) - 1)) 32 3 x1), hl)) := rfl
theorem ht_197_0 (C : am_C) (back : am_J) (ls : am_L) (st : List Value) (G : am_G) : am_fwd C back tb_r197_0 0 ls st G = am_ops C (am_fwd C back tb_r197_1) tb_o197_0 0 ls st G := if_pos rfl
/-! UsageProofs$Parser.newThing(I)I -/
theorem en_198 (d : Nat) (x1 : Int32) (hi : Nat → Nat → Int32) (hl : Nat → Nat → Int64) : am_call tb_P (d + 1) 198 [.ref 32, .int x1] (pr_S, hi, hl) = am_fwd (am_call tb_P d) (am_run (am_call tb_P d) tb_r198_0 999999) tb_r198_0 0 [(0, .ref 32), (1, .int x1)] [] (pr_S, hi, hl) := ev_en (mL := 3) (bs := tb_r198_0) rfl (Nat.le_of_ble_eq_true rfl)
set_option maxRecDepth 1000000 in
theorem ch_198_0 (C : am_C) (J : am_J) (x1 : Int32) (hi : Nat → Nat → Int32) (hl : Nat → Nat → Int64) : am_ops C J tb_o198_0 0 [(0, .ref 32), (1, .int x1)] [] (pr_S, hi, hl) = if (hi 32 1) = (0 : Int32) then J 9 [(0, .ref 32), (1, .int x1)] [] (pr_S, hi, hl) else some (some (.int (-1)), (pr_S, hi, hl)) := rfl
set_option maxRecDepth 1000000 in
theorem ch_198_1 (C : am_C) (J : am_J) (x1 : Int32) (hi : Nat → Nat → Int32) (hl : Nat → Nat → Int64) : am_ops C J tb_o198_9 9 [(0, .ref 32), (1, .int x1)] [] (pr_S, hi, hl) = am_ret (C 205 [.ref 3, .int x1, .int (hi 1 2)] (pr_S, hi, hl)) fun v G => am_ops C J tb_s198_24 24 [(0, .ref 32), (1, .int x1)] (v ++ []) G := rfl
set_option maxRecDepth 1000000 in
theorem ch_198_2 (C : am_C) (J : am_J) (x1 : Int32) (s0 : Int32) (hi : Nat → Nat → Int32) (hl : Nat → Nat → Int64) : am_ops C J tb_s198_24 24 [(0, .ref 32), (1, .int x1)] ([.int s0] ++ []) (pr_S, hi, hl) = if (0 : Int32) ≤ s0 then J 34 [(2, .int s0), (0, .ref 32), (1, .int x1)] [] (pr_S, hi, hl) else am_ret (C 175 [.ref 32, .int 5] (pr_S, hi, hl)) fun v G => am_ops C J tb_s198_34 34 [(2, .int s0), (0, .ref 32), (1, .int x1)] (v ++ []) G := rfl
set_option maxRecDepth 1000000 in
theorem ch_198_3 (C : am_C) (J : am_J) (x2 : Int32) (x1 : Int32) (hi : Nat → Nat → Int32) (hl : Nat → Nat → Int64) : am_ops C J tb_o198_34 34 [(2, .int x2), (0, .ref 32), (1, .int x1)] [] (pr_S, hi, hl) = some (some (.int x2), (pr_S, hi, hl)) := rfl
set_option maxRecDepth 1000000 in
theorem ch_198_4 (C : am_C) (J : am_J) (x2 : Int32) (x1 : Int32) (hi : Nat → Nat → Int32) (hl : Nat → Nat → Int64) : am_ops C J tb_s198_34 34 [(2, .int x2), (0, .ref 32), (1, .int x1)] ([] ++ []) (pr_S, hi, hl) = J 34 [(2, .int x2), (0, .ref 32), (1, .int x1)] [] (pr_S, hi, hl) := rfl
theorem ht_198_0 (C : am_C) (back : am_J) (ls : am_L) (st : List Value) (G : am_G) : am_fwd C back tb_r198_0 0 ls st G = am_ops C (am_fwd C back tb_r198_1) tb_o198_0 0 ls st G := if_pos rfl
theorem ht_198_1 (C : am_C) (back : am_J) (ls : am_L) (st : List Value) (G : am_G) : am_fwd C back tb_r198_1 9 ls st G = am_ops C (am_fwd C back tb_r198_2) tb_o198_9 9 ls st G := if_pos rfl
theorem ht_198_2 (C : am_C) (back : am_J) (ls : am_L) (st : List Value) (G : am_G) : am_fwd C back tb_r198_2 34 ls st G = am_ops C (am_fwd C back tb_r198_3) tb_o198_34 34 ls st G := if_pos rfl
/-! UsageProofs$Parser.newNode(IIII)I -/
theorem en_199 (d : Nat) (x1 : Int32) (x2 : Int32) (x3 : Int32) (x4 : Int32) (hi : Nat → Nat → Int32) (hl : Nat → Nat → Int64) : am_call tb_P (d + 1) 199 [.ref 32, .int x1, .int x2, .int x3, .int x4] (pr_S, hi, hl) = am_fwd (am_call tb_P d) (am_run (am_call tb_P d) tb_r199_0 999999) tb_r199_0 0 [(0, .ref 32), (1, .int x1), (2, .int x2), (3, .int x3), (4, .int x4)] [] (pr_S, hi, hl) := ev_en (mL := 5) (bs := tb_r199_0) rfl (Nat.le_of_ble_eq_true rfl)
set_option maxRecDepth 1000000 in
theorem ch_199_0 (C : am_C) (J : am_J) (x1 : Int32) (x2 : Int32) (x3 : Int32) (x4 : Int32) (hi : Nat → Nat → Int32) (hl : Nat → Nat → Int64) : am_ops C J tb_o199_0 0 [(0, .ref 32), (1, .int x1), (2, .int x2), (3, .int x3), (4, .int x4)] [] (pr_S, hi, hl) = if (hi 32 1) = (0 : Int32) then J 11 [(0, .ref 32), (1, .int x1), (2, .int x2), (3, .int x3), (4, .int x4)] [] (pr_S, hi, hl) else J 24 [(0, .ref 32), (1, .int x1), (2, .int x2), (3, .int x3), (4, .int x4)] [.int (-1)] (pr_S, hi, hl) := rfl
set_option maxRecDepth 1000000 in
theorem ch_199_1 (C : am_C) (J : am_J) (x1 : Int32) (x2 : Int32) (x3 : Int32) (x4 : Int32) (hi : Nat → Nat → Int32) (hl : Nat → Nat → Int64) : am_ops C J tb_o199_11 11 [(0, .ref 32), (1, .int x1), (2, .int x2), (3, .int x3), (4, .int x4)] [] (pr_S, hi, hl) = am_ret (C 206 [.ref 3, .int x1, .int x2, .int x3, .int x4, .int (-1)] (pr_S, hi, hl)) fun v G => am_ops C J tb_s199_24 24 [(0, .ref 32), (1, .int x1), (2, .int x2), (3, .int x3), (4, .int x4)] (v ++ []) G := rfl
set_option maxRecDepth 1000000 in
theorem ch_199_2 (C : am_C) (J : am_J) (x1 : Int32) (x2 : Int32) (x3 : Int32) (x4 : Int32) (s0 : Int32) (hi : Nat → Nat → Int32) (hl : Nat → Nat → Int64) : am_ops C J tb_o199_24 24 [(0, .ref 32), (1, .int x1), (2, .int x2), (3, .int x3), (4, .int x4)] [.int s0] (pr_S, hi, hl) = some (some (.int s0), (pr_S, hi, hl)) := rfl
set_option maxRecDepth 1000000 in
theorem ch_199_3 (C : am_C) (J : am_J) (x1 : Int32) (x2 : Int32) (x3 : Int32) (x4 : Int32) (s0 : Int32) (hi : Nat → Nat → Int32) (hl : Nat → Nat → Int64) : am_ops C J tb_s199_24 24 [(0, .ref 32), (1, .int x1), (2, .int x2), (3, .int x3), (4, .int x4)] ([.int s0] ++ []) (pr_S, hi, hl) = J 24 [(0, .ref 32), (1, .int x1), (2, .int x2), (3, .int x3), (4, .int x4)] [.int s0] (pr_S, hi, hl) := rfl
theorem ht_199_0 (C : am_C) (back : am_J) (ls : am_L) (st : List Value) (G : am_G) : am_fwd C back tb_r199_0 0 ls st G = am_ops C (am_fwd C back tb_r199_1) tb_o199_0 0 ls st G := if_pos rfl
theorem ht_199_1 (C : am_C) (back : am_J) (ls : am_L) (st : List Value) (G : am_G) : am_fwd C back tb_r199_1 11 ls st G = am_ops C (am_fwd C back tb_r199_2) tb_o199_11 11 ls st G := if_pos rfl
theorem ht_199_2 (C : am_C) (back : am_J) (ls : am_L) (st : List Value) (G : am_G) : am_fwd C back tb_r199_2 24 ls st G = am_ops C (am_fwd C back tb_r199_3) tb_o199_24 24 ls st G := if_pos rfl
theorem sk_199_1_24 (C : am_C) (back : am_J) (ls : am_L) (st : List Value) (G : am_G) : am_fwd C back tb_r199_1 24 ls st G = am_fwd C back tb_r199_2 24 ls st G := (ev_miss (by decide))
/-! UsageProofs$Parser.bring(JI)V -/
theorem en_200 (d : Nat) (y1 : Int64) (x3 : Int32) (hi : Nat → Nat → Int32) (hl : Nat → Nat → Int64) : am_call tb_P (d + 1) 200 [.ref 32, .long y1, .int x3] (pr_S, hi, hl) = am_fwd (am_call tb_P d) (am_run (am_call tb_P d) tb_r200_0 999999) tb_r200_0 0 [(0, .ref 32), (1, .long y1), (3, .int x3)] [] (pr_S, hi, hl) := ev_en (mL := 4) (bs := tb_r200_0) rfl (Nat.le_of_ble_eq_true rfl)
set_option maxRecDepth 1000000 in
theorem ch_200_0 (C : am_C) (J : am_J) (y1 : Int64) (x3 : Int32) (hi : Nat → Nat → Int32) (hl : Nat → Nat → Int64) : am_ops C J tb_o200_0 0 [(0, .ref 32), (1, .long y1), (3, .int x3)] [] (pr_S, hi, hl) = if (hi 32 1) ≠ (0 : Int32) then J 46 [(0, .ref 32), (1, .long y1), (3, .int x3)] [] (pr_S, hi, hl) else if (84 : Int32) ≤ (hi 32 3) then J 46 [(0, .ref 32), (1, .long y1), (3, .int x3)] [] (pr_S, hi, hl) else if am_bad (hi 32 3) 84 then none else if am_bad (hi 32 3) 84 then none else J 46 [(0, .ref 32), (1, .long y1), (3, .int x3)] [] (pr_S, (am_si (am_si hi 34 (hi 32 3).toNatClampNeg x3) 32 3 ((hi 32 3) + 1)), (am_sl hl 33 (hi 32 3).toNatClampNeg y1)) := rfl
set_option maxRecDepth 1000000 in
theorem ch_200_1 (C : am_C) (J : am_J) (y1 : Int64) (x3 : Int32) (hi : Nat → Nat → Int32) (hl : Nat → Nat → Int64) : am_ops C J tb_o200_46 46 [(0, .ref 32), (1, .long y1), (3, .int x3)] [] (pr_S, hi, hl) = some (none, (pr_S, hi, hl)) := rfl
theorem ht_200_0 (C : am_C) (back : am_J) (ls : am_L) (st : List Value) (G : am_G) : am_fwd C back tb_r200_0 0 ls st G = am_ops C (am_fwd C back tb_r200_1) tb_o200_0 0 ls st G := if_pos rfl
theorem ht_200_1 (C : am_C) (back : am_J) (ls : am_L) (st : List Value) (G : am_G) : am_fwd C back tb_r200_1 46 ls st G = am_ops C (am_fwd C back tb_r200_2) tb_o200_46 46 ls st G := if_pos rfl
/-! UsageProofs$Parser.findInScope(J)I -/
theorem en_201 (d : Nat) (y1 : Int64) (hi : Nat → Nat → Int32) (hl : Nat → Nat → Int64) : am_call tb_P (d + 1) 201 [.ref 32, .long y1] (pr_S, hi, hl) = am_fwd (am_call tb_P d) (am_run (am_call tb_P d) tb_r201_0 999999) tb_r201_0 0 [(0, .ref 32), (1, .long y1)] [] (pr_S, hi, hl) := ev_en (mL := 4) (bs := tb_r201_0) rfl (Nat.le_of_ble_eq_true rfl)
set_option maxRecDepth 1000000 in
theorem ch_201_0 (C : am_C) (J : am_J) (y1 : Int64) (hi : Nat → Nat → Int32) (hl : Nat → Nat → Int64) : am_ops C J tb_o201_0 0 [(0, .ref 32), (1, .long y1)] [] (pr_S, hi, hl) = am_ops C J tb_s201_9 9 [(0, .ref 32), (1, .long y1)] [.int (if 84 < (hi 32 3) then 84 else (hi 32 3))] (pr_S, hi, hl) := rfl
set_option maxRecDepth 1000000 in
theorem ch_201_1 (C : am_C) (J : am_J) (y1 : Int64) (s0 : Int32) (hi : Nat → Nat → Int32) (hl : Nat → Nat → Int64) : am_ops C J tb_s201_9 9 [(0, .ref 32), (1, .long y1)] [.int s0] (pr_S, hi, hl) = J 12 [(3, .int (s0 - 1)), (0, .ref 32), (1, .long y1)] [] (pr_S, hi, hl) := rfl
set_option maxRecDepth 1000000 in
theorem ch_201_2 (C : am_C) (J : am_J) (x3 : Int32) (y1 : Int64) (hi : Nat → Nat → Int32) (hl : Nat → Nat → Int64) : am_ops C J tb_o201_12 12 [(3, .int x3), (0, .ref 32), (1, .long y1)] [] (pr_S, hi, hl) = if x3 < (0 : Int32) then J 35 [(3, .int x3), (0, .ref 32), (1, .long y1)] [] (pr_S, hi, hl) else if am_bad x3 84 then none else if (lg_cmp (hl 33 x3.toNatClampNeg) y1) ≠ (0 : Int32) then J 29 [(3, .int x3), (0, .ref 32), (1, .long y1)] [] (pr_S, hi, hl) else some (some (.int x3), (pr_S, hi, hl)) := rfl
set_option maxRecDepth 1000000 in
theorem ch_201_3 (C : am_C) (J : am_J) (x3 : Int32) (y1 : Int64) (hi : Nat → Nat → Int32) (hl : Nat → Nat → Int64) : am_ops C J tb_o201_35 35 [(3, .int x3), (0, .ref 32), (1, .long y1)] [] (pr_S, hi, hl) = some (some (.int (-1)), (pr_S, hi, hl)) := rfl
set_option maxRecDepth 1000000 in
theorem ch_201_4 (C : am_C) (J : am_J) (x3 : Int32) (y1 : Int64) (hi : Nat → Nat → Int32) (hl : Nat → Nat → Int64) : am_ops C J tb_o201_29 29 [(3, .int x3), (0, .ref 32), (1, .long y1)] [] (pr_S, hi, hl) = J 12 [(3, .int (x3 + (-1))), (0, .ref 32), (1, .long y1)] [] (pr_S, hi, hl) := rfl
theorem ht_201_0 (C : am_C) (back : am_J) (ls : am_L) (st : List Value) (G : am_G) : am_fwd C back tb_r201_0 0 ls st G = am_ops C (am_fwd C back tb_r201_1) tb_o201_0 0 ls st G := if_pos rfl
theorem ht_201_1 (C : am_C) (back : am_J) (ls : am_L) (st : List Value) (G : am_G) : am_fwd C back tb_r201_1 12 ls st G = am_ops C (am_fwd C back tb_r201_2) tb_o201_12 12 ls st G := if_pos rfl
theorem ht_201_2 (C : am_C) (back : am_J) (ls : am_L) (st : List Value) (G : am_G) : am_fwd C back tb_r201_2 29 ls st G = am_ops C (am_fwd C back tb_r201_3) tb_o201_29 29 ls st G := if_pos rfl
theorem ht_201_3 (C : am_C) (back : am_J) (ls : am_L) (st : List Value) (G : am_G) : am_fwd C back tb_r201_3 35 ls st G = am_ops C (am_fwd C back tb_r201_4) tb_o201_35 35 ls st G := if_pos rfl
theorem sk_201_2_35 (C : am_C) (back : am_J) (ls : am_L) (st : List Value) (G : am_G) : am_fwd C back tb_r201_2 35 ls st G = am_fwd C back tb_r201_3 35 ls st G := (ev_miss (by decide))
theorem sk_201_3_12 (C : am_C) (back : am_J) (ls : am_L) (st : List Value) (G : am_G) : am_fwd C back tb_r201_3 12 ls st G = back 12 ls st G := (ev_miss (by decide))
theorem lp_201_12 (C : am_C) (n : Nat) (ls : am_L) (st : List Value) (G : am_G) : am_run C tb_r201_0 (n + 1) 12 ls st G = am_fwd C (am_run C tb_r201_0 n) tb_r201_1 12 ls st G := (ev_miss (by decide))
/-! UsageProofs$Program.clear()V -/
theorem en_203_3 (d : Nat)  (hi : Nat → Nat → Int32) (hl : Nat → Nat → Int64) : am_call tb_P (d + 1) 203 [.ref 3] (pr_S, hi, hl) = am_fwd (am_call tb_P d) (am_run (am_call tb_P d) tb_r203_0 999999) tb_r203_0 0 [(0, .ref 3)] [] (pr_S, hi, hl) := ev_en (mL := 1) (bs := tb_r203_0) rfl (Nat.le_of_ble_eq_true rfl)
set_option maxRecDepth 1000000 in
theorem ch_203_3_0 (C : am_C) (J : am_J)  (hi : Nat → Nat → Int32) (hl : Nat → Nat → Int64) : am_ops C J tb_o203_0 0 [(0, .ref 3)] [] (pr_S, hi, hl) = some (none, (pr_S, (am_si (am_si (am_si hi 3 0 0) 3 1 0) 3 2 0), hl)) := rfl
theorem ht_203_3_0 (C : am_C) (back : am_J) (ls : am_L) (st : List Value) (G : am_G) : am_fwd C back tb_r203_0 0 ls st G = am_ops C (am_fwd C back tb_r203_1) tb_o203_0 0 ls st G := if_pos rfl
/-! UsageProofs$Program.addDef(JI)I -/
theorem en_204_3 (d : Nat) (y1 : Int64) (x3 : Int32) (hi : Nat → Nat → Int32) (hl : Nat → Nat → Int64) : am_call tb_P (d + 1) 204 [.ref 3, .long y1, .int x3] (pr_S, hi, hl) = am_fwd (am_call tb_P d) (am_run (am_call tb_P d) tb_r204_0 999999) tb_r204_0 0 [(0, .ref 3), (1, .long y1), (3, .int x3)] [] (pr_S, hi, hl) := ev_en (mL := 4) (bs := tb_r204_0) rfl (Nat.le_of_ble_eq_true rfl)
set_option maxRecDepth 1000000 in
theorem ch_204_3_0 (C : am_C) (J : am_J) (y1 : Int64) (x3 : Int32) (hi : Nat → Nat → Int32) (hl : Nat → Nat → Int64) : am_ops C J tb_o204_0 0 [(0, .ref 3), (1, .long y1), (3, .int x3)] [] (pr_S, hi, hl) = if (hi 3 0) < (24 : Int32) then J 11 [(0, .ref 3), (1, .long y1), (3, .int x3)] [] (pr_S, hi, hl) else some (some (.int (-1)), (pr_S, hi, hl)) := rfl
set_option maxRecDepth 1000000 in
theorem ch_204_3_1 (C : am_C) (J : am_J) (y1 : Int64) (x3 : Int32) (hi : Nat → Nat → Int32) (hl : Nat → Nat → Int64) : am_ops C J tb_o204_11 11 [(0, .ref 3), (1, .long y1), (3, .int x3)] [] (pr_S, hi, hl) = if am_bad (hi 3 0) 24 then none else if am_bad (hi 3 0) 24 then none else if am_bad (hi 3 0) 24 then none else if am_bad (hi 3 0) 24 then none else if am_bad (hi 3 0) 24 then none else some (some (.int (((hi 3 0) + 1) - 1)), (pr_S, (am_si (am_si (am_si (am_si (am_si hi 5 (hi 3 0).toNatClampNeg x3) 6 (hi 3 0).toNatClampNeg 0) 7 (hi 3 0).toNatClampNeg (hi 3 1)) 8 (hi 3 0).toNatClampNeg 0) 3 0 ((hi 3 0) + 1)), (am_sl hl 4 (hi 3 0).toNatClampNeg y1))) := rfl
theorem ht_204_3_0 (C : am_C) (back : am_J) (ls : am_L) (st : List Value) (G : am_G) : am_fwd C back tb_r204_0 0 ls st G = am_ops C (am_fwd C back tb_r204_1) tb_o204_0 0 ls st G := if_pos rfl
theorem ht_204_3_1 (C : am_C) (back : am_J) (ls : am_L) (st : List Value) (G : am_G) : am_fwd C back tb_r204_1 11 ls st G = am_ops C (am_fwd C back tb_r204_2) tb_o204_11 11 ls st G := if_pos rfl
/-! UsageProofs$Program.addThing(II)I -/
theorem en_205_3 (d : Nat) (x1 : Int32) (x2 : Int32) (hi : Nat → Nat → Int32) (hl : Nat → Nat → Int64) : am_call tb_P (d + 1) 205 [.ref 3, .int x1, .int x2] (pr_S, hi, hl) = am_fwd (am_call tb_P d) (am_run (am_call tb_P d) tb_r205_0 999999) tb_r205_0 0 [(0, .ref 3), (1, .int x1), (2, .int x2)] [] (pr_S, hi, hl) := ev_en (mL := 3) (bs := tb_r205_0) rfl (Nat.le_of_ble_eq_true rfl)
set_option maxRecDepth 1000000 in
theorem ch_205_3_0 (C : am_C) (J : am_J) (x1 : Int32) (x2 : Int32) (hi : Nat → Nat → Int32) (hl : Nat → Nat → Int64) : am_ops C J tb_o205_0 0 [(0, .ref 3), (1, .int x1), (2, .int x2)] [] (pr_S, hi, hl) = if (hi 3 1) < (200 : Int32) then J 12 [(0, .ref 3), (1, .int x1), (2, .int x2)] [] (pr_S, hi, hl) else some (some (.int (-1)), (pr_S, hi, hl)) := rfl
set_option maxRecDepth 1000000 in
theorem ch_205_3_1 (C : am_C) (J : am_J) (x1 : Int32) (x2 : Int32) (hi : Nat → Nat → Int32) (hl : Nat → Nat → Int64) : am_ops C J tb_o205_12 12 [(0, .ref 3), (1, .int x1), (2, .int x2)] [] (pr_S, hi, hl) = if am_bad (hi 3 1) 200 then none else if am_bad (hi 3 1) 200 then none else if am_bad (hi 3 1) 200 then none else some (some (.int (((hi 3 1) + 1) - 1)), (pr_S, (am_si (am_si (am_si (am_si hi 9 (hi 3 1).toNatClampNeg x1) 10 (hi 3 1).toNatClampNeg ((hi 3 0) - 1)) 11 (hi 3 1).toNatClampNeg x2) 3 1 ((hi 3 1) + 1)), hl)) := rfl
theorem ht_205_3_0 (C : am_C) (back : am_J) (ls : am_L) (st : List Value) (G : am_G) : am_fwd C back tb_r205_0 0 ls st G = am_ops C (am_fwd C back tb_r205_1) tb_o205_0 0 ls st G := if_pos rfl
theorem ht_205_3_1 (C : am_C) (back : am_J) (ls : am_L) (st : List Value) (G : am_G) : am_fwd C back tb_r205_1 12 ls st G = am_ops C (am_fwd C back tb_r205_2) tb_o205_12 12 ls st G := if_pos rfl
/-! UsageProofs$Program.addNode(IIIII)I -/
theorem en_206_3 (d : Nat) (x1 : Int32) (x2 : Int32) (x3 : Int32) (x4 : Int32) (x5 : Int32) (hi : Nat → Nat → Int32) (hl : Nat → Nat → Int64) : am_call tb_P (d + 1) 206 [.ref 3, .int x1, .int x2, .int x3, .int x4, .int x5] (pr_S, hi, hl) = am_fwd (am_call tb_P d) (am_run (am_call tb_P d) tb_r206_0 999999) tb_r206_0 0 [(0, .ref 3), (1, .int x1), (2, .int x2), (3, .int x3), (4, .int x4), (5, .int x5)] [] (pr_S, hi, hl) := ev_en (mL := 6) (bs := tb_r206_0) rfl (Nat.le_of_ble_eq_true rfl)
set_option maxRecDepth 1000000 in
theorem ch_206_3_0 (C : am_C) (J : am_J) (x1 : Int32) (x2 : Int32) (x3 : Int32) (x4 : Int32) (x5 : Int32) (hi : Nat → Nat → Int32) (hl : Nat → Nat → Int64) : am_ops C J tb_o206_0 0 [(0, .ref 3), (1, .int x1), (2, .int x2), (3, .int x3), (4, .int x4), (5, .int x5)] [] (pr_S, hi, hl) = if (hi 3 2) < (4000 : Int32) then J 12 [(0, .ref 3), (1, .int x1), (2, .int x2), (3, .int x3), (4, .int x4), (5, .int x5)] [] (pr_S, hi, hl) else some (some (.int (-1)), (pr_S, hi, hl)) := rfl
set_option maxRecDepth 1000000 in
theorem ch_206_3_1 (C : am_C) (J : am_J) (x1 : Int32) (x2 : Int32) (x3 : Int32) (x4 : Int32) (x5 : Int32) (hi : Nat → Nat → Int32) (hl : Nat → Nat → Int64) : am_ops C J tb_o206_12 12 [(0, .ref 3), (1, .int x1), (2, .int x2), (3, .int x3), (4, .int x4), (5, .int x5)] [] (pr_S, hi, hl) = if am_bad (hi 3 2) 4000 then none else if am_bad (hi 3 2) 4000 then none else if am_bad (hi 3 2) 4000 then none else if am_bad (hi 3 2) 4000 then none else if am_bad (hi 3 2) 4000 then none else some (some (.int (((hi 3 2) + 1) - 1)), (pr_S, (am_si (am_si (am_si (am_si (am_si (am_si hi 12 (hi 3 2).toNatClampNeg x1) 13 (hi 3 2).toNatClampNeg x2) 14 (hi 3 2).toNatClampNeg x3) 15 (hi 3 2).toNatClampNeg x4) 16 (hi 3 2).toNatClampNeg x5) 3 2 ((hi 3 2) + 1)), hl)) := rfl
theorem ht_206_3_0 (C : am_C) (back : am_J) (ls : am_L) (st : List Value) (G : am_G) : am_fwd C back tb_r206_0 0 ls st G = am_ops C (am_fwd C back tb_r206_1) tb_o206_0 0 ls st G := if_pos rfl
theorem ht_206_3_1 (C : am_C) (back : am_J) (ls : am_L) (st : List Value) (G : am_G) : am_fwd C back tb_r206_1 12 ls st G = am_ops C (am_fwd C back tb_r206_2) tb_o206_12 12 ls st G := if_pos rfl
/-! UsageProofs$Program.findDef(J)I -/
theorem en_207_3 (d : Nat) (y1 : Int64) (hi : Nat → Nat → Int32) (hl : Nat → Nat → Int64) : am_call tb_P (d + 1) 207 [.ref 3, .long y1] (pr_S, hi, hl) = am_fwd (am_call tb_P d) (am_run (am_call tb_P d) tb_r207_0 999999) tb_r207_0 0 [(0, .ref 3), (1, .long y1)] [] (pr_S, hi, hl) := ev_en (mL := 4) (bs := tb_r207_0) rfl (Nat.le_of_ble_eq_true rfl)
set_option maxRecDepth 1000000 in
theorem ch_207_3_0 (C : am_C) (J : am_J) (y1 : Int64) (hi : Nat → Nat → Int32) (hl : Nat → Nat → Int64) : am_ops C J tb_o207_0 0 [(0, .ref 3), (1, .long y1)] [] (pr_S, hi, hl) = J 2 [(3, .int 0), (0, .ref 3), (1, .long y1)] [] (pr_S, hi, hl) := rfl
set_option maxRecDepth 1000000 in
theorem ch_207_3_1 (C : am_C) (J : am_J) (x3 : Int32) (y1 : Int64) (hi : Nat → Nat → Int32) (hl : Nat → Nat → Int64) : am_ops C J tb_o207_2 2 [(3, .int x3), (0, .ref 3), (1, .long y1)] [] (pr_S, hi, hl) = if (hi 3 0) ≤ x3 then J 35 [(3, .int x3), (0, .ref 3), (1, .long y1)] [] (pr_S, hi, hl) else if (24 : Int32) ≤ x3 then J 35 [(3, .int x3), (0, .ref 3), (1, .long y1)] [] (pr_S, hi, hl) else if am_bad x3 24 then none else if (lg_cmp (hl 4 x3.toNatClampNeg) y1) ≠ (0 : Int32) then J 29 [(3, .int x3), (0, .ref 3), (1, .long y1)] [] (pr_S, hi, hl) else some (some (.int x3), (pr_S, hi, hl)) := rfl
set_option maxRecDepth 1000000 in
theorem ch_207_3_2 (C : am_C) (J : am_J) (x3 : Int32) (y1 : Int64) (hi : Nat → Nat → Int32) (hl : Nat → Nat → Int64) : am_ops C J tb_o207_35 35 [(3, .int x3), (0, .ref 3), (1, .long y1)] [] (pr_S, hi, hl) = some (some (.int (-1)), (pr_S, hi, hl)) := rfl
set_option maxRecDepth 1000000 in
theorem ch_207_3_3 (C : am_C) (J : am_J) (x3 : Int32) (y1 : Int64) (hi : Nat → Nat → Int32) (hl : Nat → Nat → Int64) : am_ops C J tb_o207_29 29 [(3, .int x3), (0, .ref 3), (1, .long y1)] [] (pr_S, hi, hl) = J 2 [(3, .int (x3 + 1)), (0, .ref 3), (1, .long y1)] [] (pr_S, hi, hl) := rfl
theorem ht_207_3_0 (C : am_C) (back : am_J) (ls : am_L) (st : List Value) (G : am_G) : am_fwd C back tb_r207_0 0 ls st G = am_ops C (am_fwd C back tb_r207_1) tb_o207_0 0 ls st G := if_pos rfl
theorem ht_207_3_1 (C : am_C) (back : am_J) (ls : am_L) (st : List Value) (G : am_G) : am_fwd C back tb_r207_1 2 ls st G = am_ops C (am_fwd C back tb_r207_2) tb_o207_2 2 ls st G := if_pos rfl
theorem ht_207_3_2 (C : am_C) (back : am_J) (ls : am_L) (st : List Value) (G : am_G) : am_fwd C back tb_r207_2 29 ls st G = am_ops C (am_fwd C back tb_r207_3) tb_o207_29 29 ls st G := if_pos rfl
theorem ht_207_3_3 (C : am_C) (back : am_J) (ls : am_L) (st : List Value) (G : am_G) : am_fwd C back tb_r207_3 35 ls st G = am_ops C (am_fwd C back tb_r207_4) tb_o207_35 35 ls st G := if_pos rfl
theorem sk_207_3_2_35 (C : am_C) (back : am_J) (ls : am_L) (st : List Value) (G : am_G) : am_fwd C back tb_r207_2 35 ls st G = am_fwd C back tb_r207_3 35 ls st G := (ev_miss (by decide))
theorem sk_207_3_3_2 (C : am_C) (back : am_J) (ls : am_L) (st : List Value) (G : am_G) : am_fwd C back tb_r207_3 2 ls st G = back 2 ls st G := (ev_miss (by decide))
theorem lp_207_3_2 (C : am_C) (n : Nat) (ls : am_L) (st : List Value) (G : am_G) : am_run C tb_r207_0 (n + 1) 2 ls st G = am_fwd C (am_run C tb_r207_0 n) tb_r207_1 2 ls st G := (ev_miss (by decide))
