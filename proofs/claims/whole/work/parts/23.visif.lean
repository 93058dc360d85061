/-! the class's foreteller: visitIf -/
theorem ea_pushF (d W : Nat) (x y z : Int32) (hi : Nat → Nat → Int32) (hl : Nat → Nat → Int64) (h1 : (hi 38 7) = nI W) (h2 : W < 4000) : am_call tb_P (d + 1) 109 [.ref 38, .int x, .int y, .int z] (pr_S, hi, hl) = some (none, (pr_S, fp_push hi W x y z, hl)) := ea_push d W x y z hi hl h1 h2
theorem ea_visitIf (d W k : Nat) (D : Int32) (hi : Nat → Nat → Int32) (hl : Nat → Nat → Int64) (h1 : (hi 38 7) = nI W) (h2 : W + 5 < 4000) (h3 : k < 4000) : am_call tb_P (d + 2) 116 [.ref 38, .int (nI k), .int D] (pr_S, hi, hl) = some (none, (pr_S, fp_push (fp_push (fp_push (fp_push (fp_push (fp_push hi W 7 (nI k) 0) (W + 1) 0 ((hi 30) k) D) (W + 2) 6 (nI k) 0) (W + 3) 0 ((hi 29) k) D) (W + 4) 6 (nI k) 0) (W + 5) 0 ((hi 28) k) 0, hl)) := by
  rw [en_116, ht_116_0, ch_116_0, ea_pushF _ W _ _ _ _ _ h1 (by omega), ev_rn]
  rw [ch_116_1, at_30, ev_rs, ch_116_2, q_at_nI h3 (by decide), fp_off (c := 30) (by decide), ea_pushF _ (W + 1) _ _ _ _ _ (fp_wait _ _ _ _ _) (by omega), ev_rn]
  rw [ch_116_3, ea_pushF _ (W + 2) _ _ _ _ _ (fp_wait _ _ _ _ _) (by omega), ev_rn]
  rw [ch_116_4, at_29, ev_rs, ch_116_5, q_at_nI h3 (by decide), fp_off (c := 29) (by decide), fp_off (c := 29) (by decide), fp_off (c := 29) (by decide), ea_pushF _ (W + 3) _ _ _ _ _ (fp_wait _ _ _ _ _) (by omega), ev_rn]
  rw [ch_116_6, ea_pushF _ (W + 4) _ _ _ _ _ (fp_wait _ _ _ _ _) (by omega), ev_rn]
  rw [ch_116_7, at_28, ev_rs, ch_116_8, q_at_nI h3 (by decide), fp_off (c := 28) (by decide), fp_off (c := 28) (by decide), fp_off (c := 28) (by decide), fp_off (c := 28) (by decide), fp_off (c := 28) (by decide), ea_pushF _ (W + 5) _ _ _ _ _ (fp_wait _ _ _ _ _) (by omega), ev_rn, ch_116_9]
