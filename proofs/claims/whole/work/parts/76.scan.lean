/-! the class scans a token -/
theorem si_si (h : Nat → Nat → Int32) (r k : Nat) (v w : Int32) : am_si (am_si h r k v) r k w = am_si h r k w := by
  funext c x
  unfold am_si
  by_cases c1 : c = r
  · rw [if_pos c1, if_pos c1, if_pos c1]
    by_cases c2 : x = k
    · rw [if_pos c2, if_pos c2]
    · rw [if_neg c2, if_neg c2, if_neg c2]
  · rw [if_neg c1, if_neg c1, if_neg c1]
theorem sl_sl (h : Nat → Nat → Int64) (r k : Nat) (v w : Int64) : am_sl (am_sl h r k v) r k w = am_sl h r k w := by
  funext c x
  unfold am_sl
  by_cases c1 : c = r
  · rw [if_pos c1, if_pos c1, if_pos c1]
    by_cases c2 : x = k
    · rw [if_pos c2, if_pos c2]
    · rw [if_neg c2, if_neg c2, if_neg c2]
  · rw [if_neg c1, if_neg c1, if_neg c1]
theorem si_sw {h : Nat → Nat → Int32} {r k k' : Nat} {v w : Int32} (e : k ≠ k') : am_si (am_si h r k v) r k' w = am_si (am_si h r k' w) r k v := by
  funext c x
  unfold am_si
  by_cases c1 : c = r
  · simp only [if_pos c1]
    by_cases c2 : x = k
    · rw [if_neg (by omega), if_pos c2, if_pos c2]
    · rw [if_neg c2, if_neg c2]
  · simp only [if_neg c1]
theorem si_id {h : Nat → Nat → Int32} {r k : Nat} {v : Int32} (e : h r k = v) : am_si h r k v = h := by
  funext c x
  unfold am_si
  by_cases c1 : c = r
  · rw [if_pos c1]
    by_cases c2 : x = k
    · rw [if_pos c2, c1, c2, e]
    · rw [if_neg c2]
  · rw [if_neg c1]
theorem sl_at (h : Nat → Nat → Int64) (r k : Nat) (v : Int64) : am_sl h r k v r k = v := by simp [am_sl]
section SC
variable {hi : Nat → Nat → Int32} {hl : Nat → Nat → Int64} {B : Nat → Nat} {N s p : Nat}
theorem tx_Cs {j : Nat} {v : Int32} (hj : j ≠ 0) (T : tx_C hi B N) : tx_C (am_si hi 1 j v) B N := ⟨by rw [am_si_off (by omega)]; exact T.1, T.2.1, fun p hp => by rw [am_si_ne (by decide)]; exact T.2.2 p hp⟩
theorem wd_le (v : Int64) : wd v ≤ 10 := by
  unfold wd
  repeat' split
  all_goals omega
theorem sn_loop (d : Nat) (T : tx_C hi B N) (hs : hi 1 2 = nI s) : ∀ (q p n : Nat), N ≤ p + q → s ≤ p → p ≤ N → q ≤ n → am_fwd (am_call tb_P (d + 1)) (am_run (am_call tb_P (d + 1)) tb_r227_0 n) tb_r227_1 5 [(0, .ref 1)] [] (pr_S, am_si hi 1 6 (nI p), am_sl hl 1 3 (nm B s (p - s))) = some (none, (pr_S, am_si (am_si hi 1 6 (nI (ru ch_a B N q p))) 1 1 (if 8 < ru ch_a B N q p - s then 257 else nI (256 + wd (nm B s (ru ch_a B N q p - s)))), am_sl hl 1 3 (nm B s (ru ch_a B N q p - s)))) := by
  have t2 := T.2.1
  have fin : ∀ (p n : Nat), s ≤ p → p ≤ N → am_fwd (am_call tb_P (d + 1)) (am_run (am_call tb_P (d + 1)) tb_r227_0 n) tb_r227_3 78 [(0, .ref 1)] [] (pr_S, am_si hi 1 6 (nI p), am_sl hl 1 3 (nm B s (p - s))) = some (none, (pr_S, am_si (am_si hi 1 6 (nI p)) 1 1 (if 8 < p - s then 257 else nI (256 + wd (nm B s (p - s)))), am_sl hl 1 3 (nm B s (p - s)))) := by
    intro p n h1 h2
    have e1 : nI p - nI s = nI (p - s) := nI_sub h1
    by_cases c : 8 < p - s
    · rw [if_pos c]
      rw [ht_227_3, ch_227_2]; (try simp +decide (disch := omega) only [ni_bF, nI_clamp, nI_add, pk_mul, dc_ltT, dc_ltF, dc_leT, dc_leF, dc_eqF, dc_neT, dn_eq, dn_ne, dn_lt, dn_ge, si_at, si_c, si_k, q_at_nI, q_put_nI, ne_eq, not_false_eq_true, not_true_eq_false, ↓reduceIte, v0_ltT, v0_ltF, v0_gtT, v0_gtF, v0_leT, v0_leF, v0_geT, v0_geF, v0_eqT, v0_eqF, v0_add, v0_dda, v0_mul, v0_lum, v0_sub, v0_bad, v0_cl, v8_ltT, v8_ltF, v8_gtT, v8_gtF, v8_leT, v8_leF, v8_geT, v8_geF, v8_eqT, v8_eqF, v8_add, v8_dda, v8_mul, v8_lum, v8_sub, v8_bad, v8_cl, hs, e1]); rw [sk_227_4_103, ht_227_5, ch_227_5]
    · rw [if_neg c]
      have w := ea_word (hi := am_si hi 1 6 (nI p)) (hl := am_sl hl 1 3 (nm B s (p - s))) d
      rw [sl_at] at w
      rw [ht_227_3, ch_227_2]; (try simp +decide (disch := omega) only [ni_bF, nI_clamp, nI_add, pk_mul, dc_ltT, dc_ltF, dc_leT, dc_leF, dc_eqF, dc_neT, dn_eq, dn_ne, dn_lt, dn_ge, si_at, si_c, si_k, q_at_nI, q_put_nI, ne_eq, not_false_eq_true, not_true_eq_false, ↓reduceIte, v0_ltT, v0_ltF, v0_gtT, v0_gtF, v0_leT, v0_leF, v0_geT, v0_geF, v0_eqT, v0_eqF, v0_add, v0_dda, v0_mul, v0_lum, v0_sub, v0_bad, v0_cl, v8_ltT, v8_ltF, v8_gtT, v8_gtF, v8_leT, v8_leF, v8_geT, v8_geF, v8_eqT, v8_eqF, v8_add, v8_dda, v8_mul, v8_lum, v8_sub, v8_bad, v8_cl, hs, e1]); rw [ht_227_4, ch_227_4, w, ev_rs, ch_227_7, ht_227_5, ch_227_5]
  intro q
  induction q with
  | zero =>
    intro p n h1 h2 h3 h4
    have e : p = N := by omega
    have t1 := T.1
    unfold ru
    rw [ht_227_1, ch_227_1]; (try simp +decide (disch := omega) only [ni_bF, nI_clamp, nI_add, pk_mul, dc_ltT, dc_ltF, dc_leT, dc_leF, dc_eqF, dc_neT, dn_eq, dn_ne, dn_lt, dn_ge, si_at, si_c, si_k, q_at_nI, q_put_nI, ne_eq, not_false_eq_true, not_true_eq_false, ↓reduceIte, v0_ltT, v0_ltF, v0_gtT, v0_gtF, v0_leT, v0_leF, v0_geT, v0_geF, v0_eqT, v0_eqF, v0_add, v0_dda, v0_mul, v0_lum, v0_sub, v0_bad, v0_cl, t1]); rw [sk_227_2_78]
    exact fin p n h2 h3
  | succ q ih =>
    intro p n h1 h2 h3 h4
    obtain ⟨n, rfl⟩ : ∃ n', n = n' + 1 := ⟨n - 1, by omega⟩
    have t1 := T.1
    have T' := tx_Cs (v := nI p) (show 6 ≠ 0 by decide) T
    unfold ru
    by_cases c0 : p < N
    · have b1 := (T.2.2 p c0).1
      have by1 := ea_byteAt (hl := am_sl hl 1 3 (nm B s (p - s))) d T' c0
      have il := ea_isLetter (hi := am_si hi 1 6 (nI p)) (hl := am_sl hl 1 3 (nm B s (p - s))) d b1
      have fi := ea_isFigure (hi := am_si hi 1 6 (nI p)) (hl := am_sl hl 1 3 (nm B s (p - s))) d b1
      have nx : nm B s (p + 1 - s) = (nm B s (p - s) <<< ((8 : Int32).toInt64 &&& 63)) ||| (nI (B p)).toInt64 := by
        rw [show p + 1 - s = (p - s) + 1 by omega]
        show (nm B s (p - s) <<< ((8 : Int32).toInt64 &&& 63)) ||| (nI (B (s + (p - s)))).toInt64 = _
        rw [show s + (p - s) = p by omega]
      have k := ih (p + 1) n (by omega) (by omega) (by omega) (by omega)
      rw [nx] at k
      by_cases c1 : ch_l (B p) = true
      · rw [if_pos ⟨c0, by simp [ch_a, c1]⟩]
        rw [if_pos c1] at il
        rw [ht_227_1, ch_227_1]; (try simp +decide (disch := omega) only [ni_bF, nI_clamp, nI_add, pk_mul, dc_ltT, dc_ltF, dc_leT, dc_leF, dc_eqF, dc_neT, dn_eq, dn_ne, dn_lt, dn_ge, si_at, si_c, si_k, q_at_nI, q_put_nI, ne_eq, not_false_eq_true, not_true_eq_false, ↓reduceIte, v0_ltT, v0_ltF, v0_gtT, v0_gtF, v0_leT, v0_leF, v0_geT, v0_geF, v0_eqT, v0_eqF, v0_add, v0_dda, v0_mul, v0_lum, v0_sub, v0_bad, v0_cl, t1]); rw [by1, ev_rs, ch_227_3, il, ev_rs, ch_227_6]; (try simp +decide (disch := omega) only [ni_bF, nI_clamp, nI_add, pk_mul, dc_ltT, dc_ltF, dc_leT, dc_leF, dc_eqF, dc_neT, dn_eq, dn_ne, dn_lt, dn_ge, si_at, si_c, si_k, q_at_nI, q_put_nI, ne_eq, not_false_eq_true, not_true_eq_false, ↓reduceIte, v0_ltT, v0_ltF, v0_gtT, v0_gtF, v0_leT, v0_leF, v0_geT, v0_geF, v0_eqT, v0_eqF, v0_add, v0_dda, v0_mul, v0_lum, v0_sub, v0_bad, v0_cl, t1]); rw [ht_227_2, ch_227_8, am_si_at hi 1 6 (nI p), by1, ev_rs, ch_227_10]; (try simp +decide (disch := omega) only [ni_bF, nI_clamp, nI_add, pk_mul, dc_ltT, dc_ltF, dc_leT, dc_leF, dc_eqF, dc_neT, dn_eq, dn_ne, dn_lt, dn_ge, si_at, si_c, si_k, q_at_nI, q_put_nI, ne_eq, not_false_eq_true, not_true_eq_false, ↓reduceIte, v0_ltT, v0_ltF, v0_gtT, v0_gtF, v0_leT, v0_leF, v0_geT, v0_geF, v0_eqT, v0_eqF, v0_add, v0_dda, v0_mul, v0_lum, v0_sub, v0_bad, v0_cl, v1_ltT, v1_ltF, v1_gtT, v1_gtF, v1_leT, v1_leF, v1_geT, v1_geF, v1_eqT, v1_eqF, v1_add, v1_dda, v1_mul, v1_lum, v1_sub, v1_bad, v1_cl, t1]); rw [sk_227_3_5, sl_at, si_si, sl_sl, lp_227_5]
        exact k
      · rw [if_neg c1] at il
        by_cases c2 : ch_f (B p) = true
        · rw [if_pos ⟨c0, by simp [ch_a, c2]⟩]
          rw [if_pos c2] at fi
          rw [ht_227_1, ch_227_1]; (try simp +decide (disch := omega) only [ni_bF, nI_clamp, nI_add, pk_mul, dc_ltT, dc_ltF, dc_leT, dc_leF, dc_eqF, dc_neT, dn_eq, dn_ne, dn_lt, dn_ge, si_at, si_c, si_k, q_at_nI, q_put_nI, ne_eq, not_false_eq_true, not_true_eq_false, ↓reduceIte, v0_ltT, v0_ltF, v0_gtT, v0_gtF, v0_leT, v0_leF, v0_geT, v0_geF, v0_eqT, v0_eqF, v0_add, v0_dda, v0_mul, v0_lum, v0_sub, v0_bad, v0_cl, t1]); rw [by1, ev_rs, ch_227_3, il, ev_rs, ch_227_6]; (try simp +decide (disch := omega) only [ni_bF, nI_clamp, nI_add, pk_mul, dc_ltT, dc_ltF, dc_leT, dc_leF, dc_eqF, dc_neT, dn_eq, dn_ne, dn_lt, dn_ge, si_at, si_c, si_k, q_at_nI, q_put_nI, ne_eq, not_false_eq_true, not_true_eq_false, ↓reduceIte, v0_ltT, v0_ltF, v0_gtT, v0_gtF, v0_leT, v0_leF, v0_geT, v0_geF, v0_eqT, v0_eqF, v0_add, v0_dda, v0_mul, v0_lum, v0_sub, v0_bad, v0_cl, t1]); rw [by1, ev_rs, ch_227_9, fi, ev_rs, ch_227_11]; (try simp +decide (disch := omega) only [ni_bF, nI_clamp, nI_add, pk_mul, dc_ltT, dc_ltF, dc_leT, dc_leF, dc_eqF, dc_neT, dn_eq, dn_ne, dn_lt, dn_ge, si_at, si_c, si_k, q_at_nI, q_put_nI, ne_eq, not_false_eq_true, not_true_eq_false, ↓reduceIte, v0_ltT, v0_ltF, v0_gtT, v0_gtF, v0_leT, v0_leF, v0_geT, v0_geF, v0_eqT, v0_eqF, v0_add, v0_dda, v0_mul, v0_lum, v0_sub, v0_bad, v0_cl, t1]); rw [ht_227_2, ch_227_8, am_si_at hi 1 6 (nI p), by1, ev_rs, ch_227_10]; (try simp +decide (disch := omega) only [ni_bF, nI_clamp, nI_add, pk_mul, dc_ltT, dc_ltF, dc_leT, dc_leF, dc_eqF, dc_neT, dn_eq, dn_ne, dn_lt, dn_ge, si_at, si_c, si_k, q_at_nI, q_put_nI, ne_eq, not_false_eq_true, not_true_eq_false, ↓reduceIte, v0_ltT, v0_ltF, v0_gtT, v0_gtF, v0_leT, v0_leF, v0_geT, v0_geF, v0_eqT, v0_eqF, v0_add, v0_dda, v0_mul, v0_lum, v0_sub, v0_bad, v0_cl, v1_ltT, v1_ltF, v1_gtT, v1_gtF, v1_leT, v1_leF, v1_geT, v1_geF, v1_eqT, v1_eqF, v1_add, v1_dda, v1_mul, v1_lum, v1_sub, v1_bad, v1_cl, t1]); rw [sk_227_3_5, sl_at, si_si, sl_sl, lp_227_5]
          exact k
        · rw [if_neg (fun q => by simp [ch_a, c1, c2] at q)]
          rw [if_neg c2] at fi
          rw [ht_227_1, ch_227_1]; (try simp +decide (disch := omega) only [ni_bF, nI_clamp, nI_add, pk_mul, dc_ltT, dc_ltF, dc_leT, dc_leF, dc_eqF, dc_neT, dn_eq, dn_ne, dn_lt, dn_ge, si_at, si_c, si_k, q_at_nI, q_put_nI, ne_eq, not_false_eq_true, not_true_eq_false, ↓reduceIte, v0_ltT, v0_ltF, v0_gtT, v0_gtF, v0_leT, v0_leF, v0_geT, v0_geF, v0_eqT, v0_eqF, v0_add, v0_dda, v0_mul, v0_lum, v0_sub, v0_bad, v0_cl, t1]); rw [by1, ev_rs, ch_227_3, il, ev_rs, ch_227_6]; (try simp +decide (disch := omega) only [ni_bF, nI_clamp, nI_add, pk_mul, dc_ltT, dc_ltF, dc_leT, dc_leF, dc_eqF, dc_neT, dn_eq, dn_ne, dn_lt, dn_ge, si_at, si_c, si_k, q_at_nI, q_put_nI, ne_eq, not_false_eq_true, not_true_eq_false, ↓reduceIte, v0_ltT, v0_ltF, v0_gtT, v0_gtF, v0_leT, v0_leF, v0_geT, v0_geF, v0_eqT, v0_eqF, v0_add, v0_dda, v0_mul, v0_lum, v0_sub, v0_bad, v0_cl, t1]); rw [by1, ev_rs, ch_227_9, fi, ev_rs, ch_227_11]; (try simp +decide (disch := omega) only [ni_bF, nI_clamp, nI_add, pk_mul, dc_ltT, dc_ltF, dc_leT, dc_leF, dc_eqF, dc_neT, dn_eq, dn_ne, dn_lt, dn_ge, si_at, si_c, si_k, q_at_nI, q_put_nI, ne_eq, not_false_eq_true, not_true_eq_false, ↓reduceIte, v0_ltT, v0_ltF, v0_gtT, v0_gtF, v0_leT, v0_leF, v0_geT, v0_geF, v0_eqT, v0_eqF, v0_add, v0_dda, v0_mul, v0_lum, v0_sub, v0_bad, v0_cl, t1]); rw [sk_227_2_78]
          exact mo_f (Nat.le_refl _) (by repeat (first | exact trivial | refine And.intro rfl ?_)) rfl (fin p (n + 1) h2 h3)
    · rw [if_neg (fun q => c0 q.1)]
      rw [ht_227_1, ch_227_1]; (try simp +decide (disch := omega) only [ni_bF, nI_clamp, nI_add, pk_mul, dc_ltT, dc_ltF, dc_leT, dc_leF, dc_eqF, dc_neT, dn_eq, dn_ne, dn_lt, dn_ge, si_at, si_c, si_k, q_at_nI, q_put_nI, ne_eq, not_false_eq_true, not_true_eq_false, ↓reduceIte, v0_ltT, v0_ltF, v0_gtT, v0_gtF, v0_leT, v0_leF, v0_geT, v0_geF, v0_eqT, v0_eqF, v0_add, v0_dda, v0_mul, v0_lum, v0_sub, v0_bad, v0_cl, t1]); rw [sk_227_2_78]
      exact fin p (n + 1) h2 h3
theorem ea_scanName (d : Nat) (T : tx_C hi B N) (hs : hi 1 2 = nI s) (h6 : hi 1 6 = nI s) (h : s ≤ N) : am_call tb_P (d + 2) 227 [.ref 1] (pr_S, hi, hl) = some (none, (pr_S, am_si (am_si hi 1 6 (nI (la B N s))) 1 1 (if 8 < la B N s - s then 257 else nI (256 + wd (nm B s (la B N s - s)))), am_sl hl 1 3 (nm B s (la B N s - s)))) := by
  have t2 := T.2.1
  have k := sn_loop (hl := hl) d T hs 2000 s 999999 (by omega) (Nat.le_refl _) h (by omega)
  rw [si_id h6, Nat.sub_self] at k
  rw [en_227, ht_227_0, ch_227_0]
  exact k
theorem su_loop (d : Nat) (T : tx_C hi B N) (hs : hi 1 2 = nI s) : ∀ (q p n : Nat), N ≤ p + q → s ≤ p → p ≤ N → q ≤ n → am_fwd (am_call tb_P (d + 1)) (am_run (am_call tb_P (d + 1)) tb_r228_0 n) tb_r228_1 5 [(0, .ref 1)] [] (pr_S, am_si (am_si hi 1 4 (nv B s (p - s))) 1 6 (nI p), hl) = some (none, (pr_S, am_si (am_si (am_si hi 1 4 (nv B s (ru ch_f B N q p - s))) 1 6 (nI (ru ch_f B N q p))) 1 1 (if 9 < ru ch_f B N q p - s then 257 else 259), hl)) := by
  have t2 := T.2.1
  have fin : ∀ (p n : Nat), s ≤ p → p ≤ N → am_fwd (am_call tb_P (d + 1)) (am_run (am_call tb_P (d + 1)) tb_r228_0 n) tb_r228_2 66 [(0, .ref 1)] [] (pr_S, am_si (am_si hi 1 4 (nv B s (p - s))) 1 6 (nI p), hl) = some (none, (pr_S, am_si (am_si (am_si hi 1 4 (nv B s (p - s))) 1 6 (nI p)) 1 1 (if 9 < p - s then 257 else 259), hl)) := by
    intro p n h1 h2
    have e1 : nI p - nI s = nI (p - s) := nI_sub h1
    by_cases c : 9 < p - s
    · rw [if_pos c]
      rw [ht_228_2, ch_228_2]; (try simp +decide (disch := omega) only [ni_bF, nI_clamp, nI_add, pk_mul, dc_ltT, dc_ltF, dc_leT, dc_leF, dc_eqF, dc_neT, dn_eq, dn_ne, dn_lt, dn_ge, si_at, si_c, si_k, q_at_nI, q_put_nI, ne_eq, not_false_eq_true, not_true_eq_false, ↓reduceIte, v0_ltT, v0_ltF, v0_gtT, v0_gtF, v0_leT, v0_leF, v0_geT, v0_geF, v0_eqT, v0_eqF, v0_add, v0_dda, v0_mul, v0_lum, v0_sub, v0_bad, v0_cl, v9_ltT, v9_ltF, v9_gtT, v9_gtF, v9_leT, v9_leF, v9_geT, v9_geF, v9_eqT, v9_eqF, v9_add, v9_dda, v9_mul, v9_lum, v9_sub, v9_bad, v9_cl, hs, e1]); rw [sk_228_3_90, ht_228_4, ch_228_5]
    · rw [if_neg c]
      rw [ht_228_2, ch_228_2]; (try simp +decide (disch := omega) only [ni_bF, nI_clamp, nI_add, pk_mul, dc_ltT, dc_ltF, dc_leT, dc_leF, dc_eqF, dc_neT, dn_eq, dn_ne, dn_lt, dn_ge, si_at, si_c, si_k, q_at_nI, q_put_nI, ne_eq, not_false_eq_true, not_true_eq_false, ↓reduceIte, v0_ltT, v0_ltF, v0_gtT, v0_gtF, v0_leT, v0_leF, v0_geT, v0_geF, v0_eqT, v0_eqF, v0_add, v0_dda, v0_mul, v0_lum, v0_sub, v0_bad, v0_cl, v9_ltT, v9_ltF, v9_gtT, v9_gtF, v9_leT, v9_leF, v9_geT, v9_geF, v9_eqT, v9_eqF, v9_add, v9_dda, v9_mul, v9_lum, v9_sub, v9_bad, v9_cl, hs, e1]); rw [ht_228_3, ch_228_4, ht_228_4, ch_228_5]
  intro q
  induction q with
  | zero =>
    intro p n h1 h2 h3 h4
    have e : p = N := by omega
    have t1 := T.1
    unfold ru
    rw [ht_228_1, ch_228_1]; try simp +decide (disch := omega) only [ni_bF, nI_clamp, nI_add, pk_mul, dc_ltT, dc_ltF, dc_leT, dc_leF, dc_eqF, dc_neT, dn_eq, dn_ne, dn_lt, dn_ge, si_at, si_c, si_k, q_at_nI, q_put_nI, ne_eq, not_false_eq_true, not_true_eq_false, ↓reduceIte, v0_ltT, v0_ltF, v0_gtT, v0_gtF, v0_leT, v0_leF, v0_geT, v0_geF, v0_eqT, v0_eqF, v0_add, v0_dda, v0_mul, v0_lum, v0_sub, v0_bad, v0_cl, t1]
    exact fin p n h2 h3
  | succ q ih =>
    intro p n h1 h2 h3 h4
    obtain ⟨n, rfl⟩ : ∃ n', n = n' + 1 := ⟨n - 1, by omega⟩
    have t1 := T.1
    have T' := tx_Cs (v := nI p) (show 6 ≠ 0 by decide) (tx_Cs (v := nv B s (p - s)) (show 4 ≠ 0 by decide) T)
    unfold ru
    by_cases c0 : p < N
    · have b1 := (T.2.2 p c0).1
      have by1 := ea_byteAt (hl := hl) d T' c0
      have fi := ea_isFigure (hi := am_si (am_si hi 1 4 (nv B s (p - s))) 1 6 (nI p)) (hl := hl) d b1
      have nx : nv B s (p + 1 - s) = (nv B s (p - s) * 10) + nI (B p) - 48 := by
        rw [show p + 1 - s = (p - s) + 1 by omega]
        show nv B s (p - s) * 10 + nI (B (s + (p - s))) - 48 = _
        rw [show s + (p - s) = p by omega]
      have k := ih (p + 1) n (by omega) (by omega) (by omega) (by omega)
      rw [nx] at k
      by_cases c2 : ch_f (B p) = true
      · rw [if_pos ⟨c0, c2⟩]
        rw [if_pos c2] at fi
        have e4 : (am_si (am_si hi 1 4 (nv B s (p - s))) 1 6 (nI p)) 1 4 = nv B s (p - s) := by rw [am_si_off (by decide), am_si_at]
        have hh : ∀ w : Int32, am_si (am_si (am_si (am_si hi 1 4 (nv B s (p - s))) 1 6 (nI p)) 1 4 w) 1 6 (nI (p + 1)) = am_si (am_si hi 1 4 w) 1 6 (nI (p + 1)) := fun w => by
          rw [si_sw (show 6 ≠ 4 by decide), si_si, si_si]
        rw [ht_228_1, ch_228_1]; (try simp +decide (disch := omega) only [ni_bF, nI_clamp, nI_add, pk_mul, dc_ltT, dc_ltF, dc_leT, dc_leF, dc_eqF, dc_neT, dn_eq, dn_ne, dn_lt, dn_ge, si_at, si_c, si_k, q_at_nI, q_put_nI, ne_eq, not_false_eq_true, not_true_eq_false, ↓reduceIte, v0_ltT, v0_ltF, v0_gtT, v0_gtF, v0_leT, v0_leF, v0_geT, v0_geF, v0_eqT, v0_eqF, v0_add, v0_dda, v0_mul, v0_lum, v0_sub, v0_bad, v0_cl, t1]); rw [by1, ev_rs, ch_228_3, fi, ev_rs, ch_228_6]; (try simp +decide (disch := omega) only [ni_bF, nI_clamp, nI_add, pk_mul, dc_ltT, dc_ltF, dc_leT, dc_leF, dc_eqF, dc_neT, dn_eq, dn_ne, dn_lt, dn_ge, si_at, si_c, si_k, q_at_nI, q_put_nI, ne_eq, not_false_eq_true, not_true_eq_false, ↓reduceIte, v0_ltT, v0_ltF, v0_gtT, v0_gtF, v0_leT, v0_leF, v0_geT, v0_geF, v0_eqT, v0_eqF, v0_add, v0_dda, v0_mul, v0_lum, v0_sub, v0_bad, v0_cl, v10_ltT, v10_ltF, v10_gtT, v10_gtF, v10_leT, v10_leF, v10_geT, v10_geF, v10_eqT, v10_eqF, v10_add, v10_dda, v10_mul, v10_lum, v10_sub, v10_bad, v10_cl, t1]); rw [by1, ev_rs, ch_228_7]; (try simp +decide (disch := omega) only [ni_bF, nI_clamp, nI_add, pk_mul, dc_ltT, dc_ltF, dc_leT, dc_leF, dc_eqF, dc_neT, dn_eq, dn_ne, dn_lt, dn_ge, si_at, si_c, si_k, q_at_nI, q_put_nI, ne_eq, not_false_eq_true, not_true_eq_false, ↓reduceIte, v0_ltT, v0_ltF, v0_gtT, v0_gtF, v0_leT, v0_leF, v0_geT, v0_geF, v0_eqT, v0_eqF, v0_add, v0_dda, v0_mul, v0_lum, v0_sub, v0_bad, v0_cl, v1_ltT, v1_ltF, v1_gtT, v1_gtF, v1_leT, v1_leF, v1_geT, v1_geF, v1_eqT, v1_eqF, v1_add, v1_dda, v1_mul, v1_lum, v1_sub, v1_bad, v1_cl, v48_ltT, v48_ltF, v48_gtT, v48_gtF, v48_leT, v48_leF, v48_geT, v48_geF, v48_eqT, v48_eqF, v48_add, v48_dda, v48_mul, v48_lum, v48_sub, v48_bad, v48_cl, t1]); rw [sk_228_2_5, hh, lp_228_5]
        exact k
      · rw [if_neg (fun q => c2 q.2)]
        rw [if_neg c2] at fi
        rw [ht_228_1, ch_228_1]; (try simp +decide (disch := omega) only [ni_bF, nI_clamp, nI_add, pk_mul, dc_ltT, dc_ltF, dc_leT, dc_leF, dc_eqF, dc_neT, dn_eq, dn_ne, dn_lt, dn_ge, si_at, si_c, si_k, q_at_nI, q_put_nI, ne_eq, not_false_eq_true, not_true_eq_false, ↓reduceIte, v0_ltT, v0_ltF, v0_gtT, v0_gtF, v0_leT, v0_leF, v0_geT, v0_geF, v0_eqT, v0_eqF, v0_add, v0_dda, v0_mul, v0_lum, v0_sub, v0_bad, v0_cl, t1]); rw [by1, ev_rs, ch_228_3, fi, ev_rs, ch_228_6]; try simp +decide (disch := omega) only [ni_bF, nI_clamp, nI_add, pk_mul, dc_ltT, dc_ltF, dc_leT, dc_leF, dc_eqF, dc_neT, dn_eq, dn_ne, dn_lt, dn_ge, si_at, si_c, si_k, q_at_nI, q_put_nI, ne_eq, not_false_eq_true, not_true_eq_false, ↓reduceIte, v0_ltT, v0_ltF, v0_gtT, v0_gtF, v0_leT, v0_leF, v0_geT, v0_geF, v0_eqT, v0_eqF, v0_add, v0_dda, v0_mul, v0_lum, v0_sub, v0_bad, v0_cl, v10_ltT, v10_ltF, v10_gtT, v10_gtF, v10_leT, v10_leF, v10_geT, v10_geF, v10_eqT, v10_eqF, v10_add, v10_dda, v10_mul, v10_lum, v10_sub, v10_bad, v10_cl, t1]
        exact mo_f (Nat.le_refl _) (by repeat (first | exact trivial | refine And.intro rfl ?_)) rfl (fin p (n + 1) h2 h3)
    · rw [if_neg (fun q => c0 q.1)]
      rw [ht_228_1, ch_228_1]; try simp +decide (disch := omega) only [ni_bF, nI_clamp, nI_add, pk_mul, dc_ltT, dc_ltF, dc_leT, dc_leF, dc_eqF, dc_neT, dn_eq, dn_ne, dn_lt, dn_ge, si_at, si_c, si_k, q_at_nI, q_put_nI, ne_eq, not_false_eq_true, not_true_eq_false, ↓reduceIte, v0_ltT, v0_ltF, v0_gtT, v0_gtF, v0_leT, v0_leF, v0_geT, v0_geF, v0_eqT, v0_eqF, v0_add, v0_dda, v0_mul, v0_lum, v0_sub, v0_bad, v0_cl, t1]
      exact fin p (n + 1) h2 h3
theorem ea_scanNumber (d : Nat) (T : tx_C hi B N) (hs : hi 1 2 = nI s) (h6 : hi 1 6 = nI s) (h : s ≤ N) : am_call tb_P (d + 2) 228 [.ref 1] (pr_S, hi, hl) = some (none, (pr_S, am_si (am_si (am_si hi 1 4 (nv B s (lf B N s - s))) 1 6 (nI (lf B N s))) 1 1 (if 9 < lf B N s - s then 257 else 259), hl)) := by
  have t2 := T.2.1
  have k := su_loop (hl := hl) d T hs 2000 s 999999 (by omega) (Nat.le_refl _) h (by omega)
  rw [Nat.sub_self, si_id (show (am_si hi 1 4 (nv B s 0)) 1 6 = nI s by rw [am_si_off (by decide)]; exact h6)] at k
  rw [en_228, ht_228_0, ch_228_0]
  exact k
/-- where the class stands: at the token that begins at s -/
def at_C (h : Nat → Nat → Int32) (g : Nat → Nat → Int64) (B : Nat → Nat) (N s : Nat) : Prop := h 1 2 = nI s ∧ h 1 1 = cl (tok B N s) ∧ h 1 6 = nI (te B N s) ∧ (s < N → ch_l (B s) = true → g 1 3 = nm B s (la B N s - s)) ∧ (s < N → ch_l (B s) = false → ch_f (B s) = true → h 1 4 = nv B s (lf B N s - s))
theorem sc_loop (d : Nat) (T : tx_C hi B N) (r : Option Value × am_G) : ∀ (q p n : Nat), N ≤ p + q → p ≤ N → q ≤ n → am_fwd (am_call tb_P (d + 1)) (am_run (am_call tb_P (d + 1)) tb_r226_0 0) tb_r226_1 38 [(0, .ref 1)] [] (pr_S, am_si hi 1 6 (nI (ru ch_b B N q p)), hl) = some r → am_fwd (am_call tb_P (d + 1)) (am_run (am_call tb_P (d + 1)) tb_r226_0 n) tb_r226_0 0 [(0, .ref 1)] [] (pr_S, am_si hi 1 6 (nI p), hl) = some r := by
  have t2 := T.2.1
  intro q
  induction q with
  | zero =>
    intro p n h1 h2 h3 h4
    have t1 := T.1
    unfold ru at h4
    rw [ht_226_0, ch_226_0]; try simp +decide (disch := omega) only [ni_bF, nI_clamp, nI_add, pk_mul, dc_ltT, dc_ltF, dc_leT, dc_leF, dc_eqF, dc_neT, dn_eq, dn_ne, dn_lt, dn_ge, si_at, si_c, si_k, q_at_nI, q_put_nI, ne_eq, not_false_eq_true, not_true_eq_false, ↓reduceIte, v0_ltT, v0_ltF, v0_gtT, v0_gtF, v0_leT, v0_leF, v0_geT, v0_geF, v0_eqT, v0_eqF, v0_add, v0_dda, v0_mul, v0_lum, v0_sub, v0_bad, v0_cl, t1]
    exact mo_f (Nat.zero_le _) (by repeat (first | exact trivial | refine And.intro rfl ?_)) rfl h4
  | succ q ih =>
    intro p n h1 h2 h3 h4
    obtain ⟨n, rfl⟩ : ∃ n', n = n' + 1 := ⟨n - 1, by omega⟩
    have t1 := T.1
    have T' := tx_Cs (v := nI p) (show 6 ≠ 0 by decide) T
    unfold ru at h4
    by_cases c0 : p < N
    · have b1 := (T.2.2 p c0).1
      have by1 := ea_byteAt (hl := hl) d T' c0
      have ib := ea_isBlank (hi := am_si hi 1 6 (nI p)) (hl := hl) d b1
      by_cases c1 : ch_b (B p) = true
      · rw [if_pos ⟨c0, c1⟩] at h4
        rw [if_pos c1] at ib
        rw [ht_226_0, ch_226_0]; (try simp +decide (disch := omega) only [ni_bF, nI_clamp, nI_add, pk_mul, dc_ltT, dc_ltF, dc_leT, dc_leF, dc_eqF, dc_neT, dn_eq, dn_ne, dn_lt, dn_ge, si_at, si_c, si_k, q_at_nI, q_put_nI, ne_eq, not_false_eq_true, not_true_eq_false, ↓reduceIte, v0_ltT, v0_ltF, v0_gtT, v0_gtF, v0_leT, v0_leF, v0_geT, v0_geF, v0_eqT, v0_eqF, v0_add, v0_dda, v0_mul, v0_lum, v0_sub, v0_bad, v0_cl, t1]); rw [by1, ev_rs, ch_226_2, ib, ev_rs, ch_226_4]; (try simp +decide (disch := omega) only [ni_bF, nI_clamp, nI_add, pk_mul, dc_ltT, dc_ltF, dc_leT, dc_leF, dc_eqF, dc_neT, dn_eq, dn_ne, dn_lt, dn_ge, si_at, si_c, si_k, q_at_nI, q_put_nI, ne_eq, not_false_eq_true, not_true_eq_false, ↓reduceIte, v0_ltT, v0_ltF, v0_gtT, v0_gtF, v0_leT, v0_leF, v0_geT, v0_geF, v0_eqT, v0_eqF, v0_add, v0_dda, v0_mul, v0_lum, v0_sub, v0_bad, v0_cl, v1_ltT, v1_ltF, v1_gtT, v1_gtF, v1_leT, v1_leF, v1_geT, v1_geF, v1_eqT, v1_eqF, v1_add, v1_dda, v1_mul, v1_lum, v1_sub, v1_bad, v1_cl, t1]); rw [sk_226_1_0, si_si, lp_226_0]
        exact ih (p + 1) n (by omega) (by omega) (by omega) h4
      · rw [if_neg (fun q => c1 q.2)] at h4
        rw [if_neg c1] at ib
        rw [ht_226_0, ch_226_0]; (try simp +decide (disch := omega) only [ni_bF, nI_clamp, nI_add, pk_mul, dc_ltT, dc_ltF, dc_leT, dc_leF, dc_eqF, dc_neT, dn_eq, dn_ne, dn_lt, dn_ge, si_at, si_c, si_k, q_at_nI, q_put_nI, ne_eq, not_false_eq_true, not_true_eq_false, ↓reduceIte, v0_ltT, v0_ltF, v0_gtT, v0_gtF, v0_leT, v0_leF, v0_geT, v0_geF, v0_eqT, v0_eqF, v0_add, v0_dda, v0_mul, v0_lum, v0_sub, v0_bad, v0_cl, t1]); rw [by1, ev_rs, ch_226_2, ib, ev_rs, ch_226_4]; try simp +decide (disch := omega) only [ni_bF, nI_clamp, nI_add, pk_mul, dc_ltT, dc_ltF, dc_leT, dc_leF, dc_eqF, dc_neT, dn_eq, dn_ne, dn_lt, dn_ge, si_at, si_c, si_k, q_at_nI, q_put_nI, ne_eq, not_false_eq_true, not_true_eq_false, ↓reduceIte, v0_ltT, v0_ltF, v0_gtT, v0_gtF, v0_leT, v0_leF, v0_geT, v0_geF, v0_eqT, v0_eqF, v0_add, v0_dda, v0_mul, v0_lum, v0_sub, v0_bad, v0_cl, v1_ltT, v1_ltF, v1_gtT, v1_gtF, v1_leT, v1_leF, v1_geT, v1_geF, v1_eqT, v1_eqF, v1_add, v1_dda, v1_mul, v1_lum, v1_sub, v1_bad, v1_cl, t1]
        exact mo_f (Nat.zero_le _) (by repeat (first | exact trivial | refine And.intro rfl ?_)) rfl h4
    · rw [if_neg (fun q => c0 q.1)] at h4
      rw [ht_226_0, ch_226_0]; try simp +decide (disch := omega) only [ni_bF, nI_clamp, nI_add, pk_mul, dc_ltT, dc_ltF, dc_leT, dc_leF, dc_eqF, dc_neT, dn_eq, dn_ne, dn_lt, dn_ge, si_at, si_c, si_k, q_at_nI, q_put_nI, ne_eq, not_false_eq_true, not_true_eq_false, ↓reduceIte, v0_ltT, v0_ltF, v0_gtT, v0_gtF, v0_leT, v0_leF, v0_geT, v0_geF, v0_eqT, v0_eqF, v0_add, v0_dda, v0_mul, v0_lum, v0_sub, v0_bad, v0_cl, t1]
      exact mo_f (Nat.zero_le _) (by repeat (first | exact trivial | refine And.intro rfl ?_)) rfl h4
theorem ch_sc : ∀ c, c < 256 → ch_s c = true → 40 ≤ c := by decide +kernel
theorem ea_scan (d : Nat) (T : tx_C hi B N) (h6 : hi 1 6 = nI p) (hp : p ≤ N) : ∃ hi' hl', am_call tb_P (d + 3) 226 [.ref 1] (pr_S, hi, hl) = some (none, (pr_S, hi', hl')) ∧ (∀ c, c ≠ 1 → hi' c = hi c) ∧ hi' 1 0 = hi 1 0 ∧ (∀ c, c ≠ 1 → hl' c = hl c) ∧ at_C hi' hl' B N (sk B N p) := by
  have t2 := T.2.1
  have t1 := T.1
  obtain ⟨g1, g2, g3⟩ := ru_g (P := ch_b) (B := B) (N := N) (n := 2000) (p := p)
  have g2 := g2 hp
  have key : ∃ hi' hl', (∀ r : Option Value × am_G, r = (none, (pr_S, hi', hl')) → am_fwd (am_call tb_P (d + 2)) (am_run (am_call tb_P (d + 2)) tb_r226_0 0) tb_r226_1 38 [(0, .ref 1)] [] (pr_S, am_si hi 1 6 (nI (sk B N p)), hl) = some r) ∧ (∀ c, c ≠ 1 → hi' c = hi c) ∧ hi' 1 0 = hi 1 0 ∧ (∀ c, c ≠ 1 → hl' c = hl c) ∧ at_C hi' hl' B N (sk B N p) := by
    change sk B N p ≤ N at g2
    generalize sk B N p = s at *
    by_cases c0 : s < N
    · have b1 := (T.2.2 s c0).1
      have T' := tx_Cs (v := nI s) (show 2 ≠ 0 by decide) (tx_Cs (v := nI s) (show 6 ≠ 0 by decide) T)
      have e2 : (am_si (am_si hi 1 6 (nI s)) 1 2 (nI s)) 1 2 = nI s := am_si_at _ _ _ _
      have e6 : (am_si (am_si hi 1 6 (nI s)) 1 2 (nI s)) 1 6 = nI s := by rw [am_si_off (by decide), am_si_at]
      have by1 := ea_byteAt (hl := hl) (d + 1) T' c0
      have il := ea_isLetter (hi := am_si (am_si hi 1 6 (nI s)) 1 2 (nI s)) (hl := hl) (d + 1) b1
      have fi := ea_isFigure (hi := am_si (am_si hi 1 6 (nI s)) 1 2 (nI s)) (hl := hl) (d + 1) b1
      have si := ea_isSign (hi := am_si (am_si hi 1 6 (nI s)) 1 2 (nI s)) (hl := hl) (d + 1) b1
      have cN : ¬ N ≤ s := by omega
      by_cases c1 : ch_l (B s) = true
      · rw [if_pos c1] at il
        have sn := ea_scanName (hl := hl) d T' e2 e6 (by omega)
        refine ⟨am_si (am_si (am_si (am_si hi 1 6 (nI s)) 1 2 (nI s)) 1 6 (nI (la B N s))) 1 1 (if 8 < la B N s - s then 257 else nI (256 + wd (nm B s (la B N s - s)))), am_sl hl 1 3 (nm B s (la B N s - s)), fun r hr => ?_, fun c hc => ?_, ?_, fun c hc => ?_, ?_, ?_, ?_, fun _ _ => sl_at _ _ _ _, fun _ q => absurd (c1.symm.trans q) (by decide)⟩
        · rw [hr, ht_226_1, ch_226_1]; (try simp +decide (disch := omega) only [ni_bF, nI_clamp, nI_add, pk_mul, dc_ltT, dc_ltF, dc_leT, dc_leF, dc_eqF, dc_neT, dn_eq, dn_ne, dn_lt, dn_ge, si_at, si_c, si_k, q_at_nI, q_put_nI, ne_eq, not_false_eq_true, not_true_eq_false, ↓reduceIte, v0_ltT, v0_ltF, v0_gtT, v0_gtF, v0_leT, v0_leF, v0_geT, v0_geF, v0_eqT, v0_eqF, v0_add, v0_dda, v0_mul, v0_lum, v0_sub, v0_bad, v0_cl, t1]); rw [ht_226_2, ch_226_3, e2, by1, ev_rs, ch_226_5, il, ev_rs, ch_226_6]; (try simp +decide (disch := omega) only [ni_bF, nI_clamp, nI_add, pk_mul, dc_ltT, dc_ltF, dc_leT, dc_leF, dc_eqF, dc_neT, dn_eq, dn_ne, dn_lt, dn_ge, si_at, si_c, si_k, q_at_nI, q_put_nI, ne_eq, not_false_eq_true, not_true_eq_false, ↓reduceIte, v0_ltT, v0_ltF, v0_gtT, v0_gtF, v0_leT, v0_leF, v0_geT, v0_geF, v0_eqT, v0_eqF, v0_add, v0_dda, v0_mul, v0_lum, v0_sub, v0_bad, v0_cl, t1]); rw [sn, ev_rn, ch_226_8, sk_226_3_130, ht_226_7, ch_226_10]
        · rw [am_si_ne hc, am_si_ne hc, am_si_ne hc, am_si_ne hc]
        · rw [am_si_off (by decide), am_si_off (by decide), am_si_off (by decide), am_si_off (by decide)]
        · exact am_sl_ne hc
        · rw [am_si_off (by decide), am_si_off (by decide)]; exact e2
        · rw [am_si_at]
          unfold tok cl
          rw [if_neg cN, if_pos c1]
          by_cases c3 : 8 < la B N s - s
          · rw [if_pos c3, if_pos c3]; rfl
          · rw [if_neg c3, if_neg c3, if_pos (by have := wd_le (nm B s (la B N s - s)); omega)]
        · rw [am_si_off (by decide), am_si_at]
          unfold te
          rw [if_neg cN, if_pos c1]
      · rw [if_neg c1] at il
        have c1' : ch_l (B s) = false := by simpa using c1
        by_cases c2 : ch_f (B s) = true
        · rw [if_pos c2] at fi
          have sn := ea_scanNumber (hl := hl) d T' e2 e6 (by omega)
          refine ⟨am_si (am_si (am_si (am_si (am_si hi 1 6 (nI s)) 1 2 (nI s)) 1 4 (nv B s (lf B N s - s))) 1 6 (nI (lf B N s))) 1 1 (if 9 < lf B N s - s then 257 else 259), hl, fun r hr => ?_, fun c hc => ?_, ?_, fun c hc => rfl, ?_, ?_, ?_, fun _ q => absurd q c1, fun _ _ _ => ?_⟩
          · rw [hr, ht_226_1, ch_226_1]; (try simp +decide (disch := omega) only [ni_bF, nI_clamp, nI_add, pk_mul, dc_ltT, dc_ltF, dc_leT, dc_leF, dc_eqF, dc_neT, dn_eq, dn_ne, dn_lt, dn_ge, si_at, si_c, si_k, q_at_nI, q_put_nI, ne_eq, not_false_eq_true, not_true_eq_false, ↓reduceIte, v0_ltT, v0_ltF, v0_gtT, v0_gtF, v0_leT, v0_leF, v0_geT, v0_geF, v0_eqT, v0_eqF, v0_add, v0_dda, v0_mul, v0_lum, v0_sub, v0_bad, v0_cl, t1]); rw [ht_226_2, ch_226_3, e2, by1, ev_rs, ch_226_5, il, ev_rs, ch_226_6]; (try simp +decide (disch := omega) only [ni_bF, nI_clamp, nI_add, pk_mul, dc_ltT, dc_ltF, dc_leT, dc_leF, dc_eqF, dc_neT, dn_eq, dn_ne, dn_lt, dn_ge, si_at, si_c, si_k, q_at_nI, q_put_nI, ne_eq, not_false_eq_true, not_true_eq_false, ↓reduceIte, v0_ltT, v0_ltF, v0_gtT, v0_gtF, v0_leT, v0_leF, v0_geT, v0_geF, v0_eqT, v0_eqF, v0_add, v0_dda, v0_mul, v0_lum, v0_sub, v0_bad, v0_cl, t1]); rw [ht_226_3, ch_226_7, fi, ev_rs, ch_226_9]; (try simp +decide (disch := omega) only [ni_bF, nI_clamp, nI_add, pk_mul, dc_ltT, dc_ltF, dc_leT, dc_leF, dc_eqF, dc_neT, dn_eq, dn_ne, dn_lt, dn_ge, si_at, si_c, si_k, q_at_nI, q_put_nI, ne_eq, not_false_eq_true, not_true_eq_false, ↓reduceIte, v0_ltT, v0_ltF, v0_gtT, v0_gtF, v0_leT, v0_leF, v0_geT, v0_geF, v0_eqT, v0_eqF, v0_add, v0_dda, v0_mul, v0_lum, v0_sub, v0_bad, v0_cl, t1]); rw [sn, ev_rn, ch_226_12, sk_226_4_130, ht_226_7, ch_226_10]
          · rw [am_si_ne hc, am_si_ne hc, am_si_ne hc, am_si_ne hc, am_si_ne hc]
          · rw [am_si_off (by decide), am_si_off (by decide), am_si_off (by decide), am_si_off (by decide), am_si_off (by decide)]
          · rw [am_si_off (by decide), am_si_off (by decide), am_si_off (by decide)]; exact e2
          · rw [am_si_at]
            unfold tok cl
            rw [if_neg cN, if_neg c1, if_pos c2]
            by_cases c3 : 9 < lf B N s - s
            · rw [if_pos c3, if_pos c3]; rfl
            · rw [if_neg c3, if_neg c3]; rfl
          · rw [am_si_off (by decide), am_si_at]
            unfold te
            rw [if_neg cN, if_neg c1, if_pos c2]
          · rw [am_si_off (by decide), am_si_off (by decide), am_si_at]
        · rw [if_neg c2] at fi
          have fin : ∀ v : Int32, v = cl (tok B N s) → (∀ c, c ≠ 1 → (am_si (am_si (am_si (am_si hi 1 6 (nI s)) 1 2 (nI s)) 1 1 v) 1 6 (nI (s + 1))) c = hi c) ∧ (am_si (am_si (am_si (am_si hi 1 6 (nI s)) 1 2 (nI s)) 1 1 v) 1 6 (nI (s + 1))) 1 0 = hi 1 0 ∧ (∀ c, c ≠ 1 → hl c = hl c) ∧ at_C (am_si (am_si (am_si (am_si hi 1 6 (nI s)) 1 2 (nI s)) 1 1 v) 1 6 (nI (s + 1))) hl B N s := fun v hv => by
            refine ⟨fun c hc => by rw [am_si_ne hc, am_si_ne hc, am_si_ne hc, am_si_ne hc], by rw [am_si_off (by decide), am_si_off (by decide), am_si_off (by decide), am_si_off (by decide)], fun _ _ => rfl, ?_, ?_, ?_, fun _ q => absurd q c1, fun _ _ q => absurd q c2⟩
            · rw [am_si_off (by decide), am_si_off (by decide)]; exact e2
            · rw [am_si_off (by decide), am_si_at]; exact hv
            · rw [am_si_at]
              unfold te
              rw [if_neg cN, if_neg c1, if_neg c2]
          by_cases c3 : ch_s (B s) = true
          · rw [if_pos c3] at si
            refine ⟨am_si (am_si (am_si (am_si hi 1 6 (nI s)) 1 2 (nI s)) 1 1 (nI (B s))) 1 6 (nI (s + 1)), hl, fun r hr => ?_, fin (nI (B s)) (by
              unfold tok cl
              rw [if_neg cN, if_neg c1, if_neg c2, if_pos c3, if_neg (by have := ch_sc _ b1 c3; omega)])⟩
            rw [hr, ht_226_1, ch_226_1]; (try simp +decide (disch := omega) only [ni_bF, nI_clamp, nI_add, pk_mul, dc_ltT, dc_ltF, dc_leT, dc_leF, dc_eqF, dc_neT, dn_eq, dn_ne, dn_lt, dn_ge, si_at, si_c, si_k, q_at_nI, q_put_nI, ne_eq, not_false_eq_true, not_true_eq_false, ↓reduceIte, v0_ltT, v0_ltF, v0_gtT, v0_gtF, v0_leT, v0_leF, v0_geT, v0_geF, v0_eqT, v0_eqF, v0_add, v0_dda, v0_mul, v0_lum, v0_sub, v0_bad, v0_cl, t1]); rw [ht_226_2, ch_226_3, e2, by1, ev_rs, ch_226_5, il, ev_rs, ch_226_6]; (try simp +decide (disch := omega) only [ni_bF, nI_clamp, nI_add, pk_mul, dc_ltT, dc_ltF, dc_leT, dc_leF, dc_eqF, dc_neT, dn_eq, dn_ne, dn_lt, dn_ge, si_at, si_c, si_k, q_at_nI, q_put_nI, ne_eq, not_false_eq_true, not_true_eq_false, ↓reduceIte, v0_ltT, v0_ltF, v0_gtT, v0_gtF, v0_leT, v0_leF, v0_geT, v0_geF, v0_eqT, v0_eqF, v0_add, v0_dda, v0_mul, v0_lum, v0_sub, v0_bad, v0_cl, t1]); rw [ht_226_3, ch_226_7, fi, ev_rs, ch_226_9]; (try simp +decide (disch := omega) only [ni_bF, nI_clamp, nI_add, pk_mul, dc_ltT, dc_ltF, dc_leT, dc_leF, dc_eqF, dc_neT, dn_eq, dn_ne, dn_lt, dn_ge, si_at, si_c, si_k, q_at_nI, q_put_nI, ne_eq, not_false_eq_true, not_true_eq_false, ↓reduceIte, v0_ltT, v0_ltF, v0_gtT, v0_gtF, v0_leT, v0_leF, v0_geT, v0_geF, v0_eqT, v0_eqF, v0_add, v0_dda, v0_mul, v0_lum, v0_sub, v0_bad, v0_cl, t1]); rw [ht_226_4, ch_226_11, si, ev_rs, ch_226_13]; (try simp +decide (disch := omega) only [ni_bF, nI_clamp, nI_add, pk_mul, dc_ltT, dc_ltF, dc_leT, dc_leF, dc_eqF, dc_neT, dn_eq, dn_ne, dn_lt, dn_ge, si_at, si_c, si_k, q_at_nI, q_put_nI, ne_eq, not_false_eq_true, not_true_eq_false, ↓reduceIte, v0_ltT, v0_ltF, v0_gtT, v0_gtF, v0_leT, v0_leF, v0_geT, v0_geF, v0_eqT, v0_eqF, v0_add, v0_dda, v0_mul, v0_lum, v0_sub, v0_bad, v0_cl, t1]); rw [sk_226_5_117, ht_226_6, ch_226_15]; (try simp +decide (disch := omega) only [ni_bF, nI_clamp, nI_add, pk_mul, dc_ltT, dc_ltF, dc_leT, dc_leF, dc_eqF, dc_neT, dn_eq, dn_ne, dn_lt, dn_ge, si_at, si_c, si_k, q_at_nI, q_put_nI, ne_eq, not_false_eq_true, not_true_eq_false, ↓reduceIte, v0_ltT, v0_ltF, v0_gtT, v0_gtF, v0_leT, v0_leF, v0_geT, v0_geF, v0_eqT, v0_eqF, v0_add, v0_dda, v0_mul, v0_lum, v0_sub, v0_bad, v0_cl, v1_ltT, v1_ltF, v1_gtT, v1_gtF, v1_leT, v1_leF, v1_geT, v1_geF, v1_eqT, v1_eqF, v1_add, v1_dda, v1_mul, v1_lum, v1_sub, v1_bad, v1_cl, t1]); rw [ht_226_7, ch_226_10]
          · rw [if_neg c3] at si
            refine ⟨am_si (am_si (am_si (am_si hi 1 6 (nI s)) 1 2 (nI s)) 1 1 257) 1 6 (nI (s + 1)), hl, fun r hr => ?_, fin 257 (by
              unfold tok cl
              rw [if_neg cN, if_neg c1, if_neg c2, if_neg c3]; rfl)⟩
            rw [hr, ht_226_1, ch_226_1]; (try simp +decide (disch := omega) only [ni_bF, nI_clamp, nI_add, pk_mul, dc_ltT, dc_ltF, dc_leT, dc_leF, dc_eqF, dc_neT, dn_eq, dn_ne, dn_lt, dn_ge, si_at, si_c, si_k, q_at_nI, q_put_nI, ne_eq, not_false_eq_true, not_true_eq_false, ↓reduceIte, v0_ltT, v0_ltF, v0_gtT, v0_gtF, v0_leT, v0_leF, v0_geT, v0_geF, v0_eqT, v0_eqF, v0_add, v0_dda, v0_mul, v0_lum, v0_sub, v0_bad, v0_cl, t1]); rw [ht_226_2, ch_226_3, e2, by1, ev_rs, ch_226_5, il, ev_rs, ch_226_6]; (try simp +decide (disch := omega) only [ni_bF, nI_clamp, nI_add, pk_mul, dc_ltT, dc_ltF, dc_leT, dc_leF, dc_eqF, dc_neT, dn_eq, dn_ne, dn_lt, dn_ge, si_at, si_c, si_k, q_at_nI, q_put_nI, ne_eq, not_false_eq_true, not_true_eq_false, ↓reduceIte, v0_ltT, v0_ltF, v0_gtT, v0_gtF, v0_leT, v0_leF, v0_geT, v0_geF, v0_eqT, v0_eqF, v0_add, v0_dda, v0_mul, v0_lum, v0_sub, v0_bad, v0_cl, t1]); rw [ht_226_3, ch_226_7, fi, ev_rs, ch_226_9]; (try simp +decide (disch := omega) only [ni_bF, nI_clamp, nI_add, pk_mul, dc_ltT, dc_ltF, dc_leT, dc_leF, dc_eqF, dc_neT, dn_eq, dn_ne, dn_lt, dn_ge, si_at, si_c, si_k, q_at_nI, q_put_nI, ne_eq, not_false_eq_true, not_true_eq_false, ↓reduceIte, v0_ltT, v0_ltF, v0_gtT, v0_gtF, v0_leT, v0_leF, v0_geT, v0_geF, v0_eqT, v0_eqF, v0_add, v0_dda, v0_mul, v0_lum, v0_sub, v0_bad, v0_cl, t1]); rw [ht_226_4, ch_226_11, si, ev_rs, ch_226_13]; (try simp +decide (disch := omega) only [ni_bF, nI_clamp, nI_add, pk_mul, dc_ltT, dc_ltF, dc_leT, dc_leF, dc_eqF, dc_neT, dn_eq, dn_ne, dn_lt, dn_ge, si_at, si_c, si_k, q_at_nI, q_put_nI, ne_eq, not_false_eq_true, not_true_eq_false, ↓reduceIte, v0_ltT, v0_ltF, v0_gtT, v0_gtF, v0_leT, v0_leF, v0_geT, v0_geF, v0_eqT, v0_eqF, v0_add, v0_dda, v0_mul, v0_lum, v0_sub, v0_bad, v0_cl, t1]); rw [ht_226_5, ch_226_14, ht_226_6, ch_226_15]; (try simp +decide (disch := omega) only [ni_bF, nI_clamp, nI_add, pk_mul, dc_ltT, dc_ltF, dc_leT, dc_leF, dc_eqF, dc_neT, dn_eq, dn_ne, dn_lt, dn_ge, si_at, si_c, si_k, q_at_nI, q_put_nI, ne_eq, not_false_eq_true, not_true_eq_false, ↓reduceIte, v0_ltT, v0_ltF, v0_gtT, v0_gtF, v0_leT, v0_leF, v0_geT, v0_geF, v0_eqT, v0_eqF, v0_add, v0_dda, v0_mul, v0_lum, v0_sub, v0_bad, v0_cl, v1_ltT, v1_ltF, v1_gtT, v1_gtF, v1_leT, v1_leF, v1_geT, v1_geF, v1_eqT, v1_eqF, v1_add, v1_dda, v1_mul, v1_lum, v1_sub, v1_bad, v1_cl, t1]); rw [ht_226_7, ch_226_10]
    · have eN : s = N := by omega
      refine ⟨am_si (am_si (am_si hi 1 6 (nI s)) 1 2 (nI s)) 1 1 256, hl, fun r hr => ?_, fun c hc => by rw [am_si_ne hc, am_si_ne hc, am_si_ne hc], by rw [am_si_off (by decide), am_si_off (by decide), am_si_off (by decide)], fun _ _ => rfl, ?_, ?_, ?_, fun q => absurd q c0, fun q => absurd q c0⟩
      · rw [hr, ht_226_1, ch_226_1]; try simp +decide (disch := omega) only [ni_bF, nI_clamp, nI_add, pk_mul, dc_ltT, dc_ltF, dc_leT, dc_leF, dc_eqF, dc_neT, dn_eq, dn_ne, dn_lt, dn_ge, si_at, si_c, si_k, q_at_nI, q_put_nI, ne_eq, not_false_eq_true, not_true_eq_false, ↓reduceIte, v0_ltT, v0_ltF, v0_gtT, v0_gtF, v0_leT, v0_leF, v0_geT, v0_geF, v0_eqT, v0_eqF, v0_add, v0_dda, v0_mul, v0_lum, v0_sub, v0_bad, v0_cl, t1]
      · rw [am_si_off (by decide), am_si_at]
      · rw [am_si_at]; unfold tok; rw [if_pos (show N ≤ s by omega)]; rfl
      · rw [am_si_off (by decide), am_si_off (by decide), am_si_at]; unfold te; rw [if_pos (by omega)]
  obtain ⟨hi', hl', k1, k2⟩ := key
  refine ⟨hi', hl', ?_, k2⟩
  have k := sc_loop (hl := hl) (d + 1) T _ 2000 p 999999 (by omega) hp (by omega) (k1 _ rfl)
  rw [si_id h6] at k
  rw [en_226]
  exact k
theorem ea_scanFrom (d : Nat) (T : tx_C hi B N) (hp : p ≤ N) : ∃ hi' hl', am_call tb_P (d + 4) 225 [.ref 1, .int (nI p)] (pr_S, hi, hl) = some (none, (pr_S, hi', hl')) ∧ (∀ c, c ≠ 1 → hi' c = hi c) ∧ hi' 1 0 = hi 1 0 ∧ (∀ c, c ≠ 1 → hl' c = hl c) ∧ at_C hi' hl' B N (sk B N p) := by
  obtain ⟨hi', hl', k1, k2, k3, k4, k5⟩ := ea_scan (hl := hl) d (tx_Cs (v := nI p) (show 6 ≠ 0 by decide) T) (am_si_at _ _ _ _) hp
  refine ⟨hi', hl', ?_, fun c hc => by rw [k2 c hc, am_si_ne hc], by rw [k3, am_si_off (by decide)], k4, k5⟩
  rw [en_225, ht_225_0, ch_225_0, k1, ev_rn, ch_225_1]
end SC
