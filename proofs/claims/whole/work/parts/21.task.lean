/-! the class's foreteller: push, takeOut, recordCalls -/
theorem ea_push (d W : Nat) (x y z : Int32) (hi : Nat → Nat → Int32) (hl : Nat → Nat → Int64) (h1 : (hi 38 7) = nI W) (h2 : W < 4000) : am_call tb_P (d + 1) 109 [.ref 38, .int x, .int y, .int z] (pr_S, hi, hl) = some (none, (pr_S, am_si (am_si (am_si (am_si hi 42 W x) 43 W y) 44 W z) 38 7 (nI (W + 1)), hl)) := by
  have g0 : ¬ nI W < 0 := nI_pos (by omega)
  have g1 : ¬ (4000 : Int32) ≤ nI W := nI_ge (a := W) (b := 4000) (by omega) (by decide)
  have g2 : ¬ am_bad (nI W) 4000 := nI_in (by omega) (by decide)
  rw [en_109, ht_109_0, ch_109_0, h1, if_neg g0, if_neg g1, if_neg g2, if_neg g2, if_neg g2, ht_109_1, ch_109_1, nI_clamp (show W < 2 ^ 31 by omega), nI_1]
theorem ea_takeOut (d T t : Nat) (hi : Nat → Nat → Int32) (hl : Nat → Nat → Int64) (hT : (hi 39 1) = nI T) (h1 : T < 82) (h2 : t < 200) : am_call tb_P (d + 3) 121 [.ref 38, .int (nI t)] (pr_S, hi, hl) = some (some (.int ((hi 40) (200 * T + t))), (pr_S, am_si (am_si hi 40 (200 * T + t) 0) 41 t (us_max ((hi 41) t) ((hi 40) (200 * T + t) >>> (3 &&& 31))), hl)) := by
  rw [en_121, ht_121_0, ch_121_0, ea_takeL _ T t _ _ hT h1 h2, ev_rs, ch_121_1, at_41, ev_rs, ch_121_2, ch_121_3, put_41, ev_rn, ch_121_4, q_at_nI h2 (by decide), q_put_nI h2 (by decide)]
  unfold us_max
  rw [am_si_ne (show 41 ≠ 40 by decide)]
theorem ea_recordCalls (d k t : Nat) (c : Int32) (hi : Nat → Nat → Int32) (hl : Nat → Nat → Int64) (h1 : k < 4000) (h2 : t < 200) (h3 : (hi 27) k = nI t) : am_call tb_P (d + 2) 122 [.ref 38, .int (nI k), .int c] (pr_S, hi, hl) = some (none, (pr_S, am_si hi 41 t (us_max ((hi 41) t) c), hl)) := by
  rw [en_122, ht_122_0, ch_122_0, at_27, ev_rs, ch_122_1, at_41, ev_rs, ch_122_2, ch_122_3, put_41, ev_rn, ch_122_4, q_at_nI h1 (by decide), h3, q_at_nI h2 (by decide), q_put_nI h2 (by decide)]
  rfl
