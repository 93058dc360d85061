/-! the class's layers of USES: BOTH, EITHER, MANY as it computes them; reads and writes of a layer -/
def us_both (a b : Int32) : Int32 := if a = 0 then a + b else if b = 0 then a + b else if a &&& 7 = 0 ∧ b &&& 7 = 0 then 16 + 0 else 16 + 4
def us_dem (a b : Int32) : Int32 := if a = 0 ∨ a = b then b else if b = 0 then a else 4
def us_either (a b : Int32) : Int32 := if a = 0 then a + b else if b = 0 then a + b else (if a >>> (3 &&& 31) < b >>> (3 &&& 31) then b >>> (3 &&& 31) else a >>> (3 &&& 31)) * 8 + us_dem (a &&& 7) (b &&& 7)
def us_many (a : Int32) : Int32 := if a = 0 then 0 else if a &&& 7 = 0 then 16 + 0 else 16 + 4
theorem ea_both (d : Nat) (a b : Int32) (hi : Nat → Nat → Int32) (hl : Nat → Nat → Int64) : am_call tb_P (d + 1) 146 [.int a, .int b] (pr_S, hi, hl) = some (some (.int (us_both a b)), (pr_S, hi, hl)) := by
  rw [en_146, ht_146_0, ch_146_0]
  unfold us_both
  by_cases h1 : a = 0
  · rw [if_pos h1, if_pos h1, ht_146_1, ch_146_1]
  rw [if_neg h1, if_neg h1]
  by_cases h2 : b = 0
  · rw [if_neg (fun h => h h2), if_pos h2, ht_146_1, ch_146_1]
  rw [if_pos h2, if_neg h2, sk_146_1_12, ht_146_2, ch_146_2]
  by_cases h3 : a &&& 7 = 0
  · rw [if_neg (fun h => h h3)]
    by_cases h4 : b &&& 7 = 0
    · rw [if_neg (fun h => h h4), if_pos ⟨h3, h4⟩, sk_146_3_33, ht_146_4, ch_146_4]
    · rw [if_pos h4, if_neg (fun h => h4 h.2), ht_146_3, ch_146_3, ht_146_4, ch_146_4]
  · rw [if_pos h3, if_neg (fun h => h3 h.1), ht_146_3, ch_146_3, ht_146_4, ch_146_4]
theorem ea_many (d : Nat) (a : Int32) (hi : Nat → Nat → Int32) (hl : Nat → Nat → Int64) : am_call tb_P (d + 1) 148 [.int a] (pr_S, hi, hl) = some (some (.int (us_many a)), (pr_S, hi, hl)) := by
  rw [en_148, ht_148_0, ch_148_0]
  unfold us_many
  by_cases h1 : a = 0
  · rw [if_neg (fun h => h h1), if_pos h1]
  rw [if_pos h1, if_neg h1, ht_148_1, ch_148_1]
  by_cases h3 : a &&& 7 = 0
  · rw [if_neg (fun h => h h3), if_pos h3, sk_148_2_20, ht_148_3, ch_148_3]
  · rw [if_pos h3, if_neg h3, ht_148_2, ch_148_2, ht_148_3, ch_148_3]
theorem ea_either (d : Nat) (a b : Int32) (hi : Nat → Nat → Int32) (hl : Nat → Nat → Int64) : am_call tb_P (d + 1) 147 [.int a, .int b] (pr_S, hi, hl) = some (some (.int (us_either a b)), (pr_S, hi, hl)) := by
  rw [en_147, ht_147_0, ch_147_0]
  unfold us_either us_dem
  by_cases h1 : a = 0
  · rw [if_pos h1, if_pos h1, ht_147_1, ch_147_1]
  rw [if_neg h1, if_neg h1]
  by_cases h2 : b = 0
  · rw [if_neg (fun h => h h2), if_pos h2, ht_147_1, ch_147_1]
  rw [if_pos h2, if_neg h2, sk_147_1_12, ht_147_2, ch_147_2]
  by_cases h3 : a &&& 7 = 0
  · rw [if_pos h3, if_pos (c := a &&& 7 = 0 ∨ a &&& 7 = b &&& 7) (Or.inl h3), ht_147_3, ch_147_3, sk_147_4_47, ht_147_5, ch_147_5, ch_147_6]
  · rw [if_neg h3]
    by_cases h4 : a &&& 7 = b &&& 7
    · rw [if_neg (fun h => h h4), if_pos (c := a &&& 7 = 0 ∨ a &&& 7 = b &&& 7) (Or.inr h4), ht_147_3, ch_147_3, sk_147_4_47, ht_147_5, ch_147_5, ch_147_6]
    · rw [if_pos h4, if_neg (c := a &&& 7 = 0 ∨ a &&& 7 = b &&& 7) (fun h => h.elim h3 h4), sk_147_3_40, ht_147_4, ch_147_4]
      by_cases h5 : b &&& 7 = 0
      · rw [if_neg (fun h => h h5), if_pos h5, ht_147_5, ch_147_5, ch_147_6]
      · rw [if_pos h5, if_neg h5, ht_147_5, ch_147_5, ch_147_6]
theorem ea_indexOf (d : Nat) (x y : Int32) (hi : Nat → Nat → Int32) (hl : Nat → Nat → Int64) : am_call tb_P (d + 1) 145 [.int x, .int y] (pr_S, hi, hl) = some (some (.int ((x * 200) + y)), (pr_S, hi, hl)) := by
  rw [en_145, ht_145_0, ch_145_0]
theorem ly_ix {l t : Nat} : nI l * 200 + nI t = nI (200 * l + t) := by
  rw [show (200 : Int32) = nI 200 from rfl, pk_mul, nI_add, Nat.mul_comm]
theorem ly_in {l t : Nat} (hl : l < 82) (ht : t < 200) : 200 * l + t < 16400 := by omega
theorem q_put_nI {h : Nat → Nat → Int32} {r n j : Nat} {v : Int32} (hj : j < n) (hn : n < 2 ^ 31) : q_put h r n (nI j) v = am_si h r j v := by
  unfold q_put
  rw [if_neg (nI_in hj hn), nI_clamp (by omega)]
theorem ea_useOfL (d : Nat) (T t : Nat) (hi : Nat → Nat → Int32) (hl : Nat → Nat → Int64) (hT : (hi 39 1) = nI T) (h1 : T < 82) (h2 : t < 200) : am_call tb_P (d + 2) 139 [.ref 39, .int (nI t)] (pr_S, hi, hl) = some (some (.int ((hi 40) (200 * T + t))), (pr_S, hi, hl)) := by
  rw [en_139, ht_139_0, ch_139_0, hT, ea_indexOf, ev_rs, ch_139_1, at_40, ev_rs, ch_139_2, ly_ix, q_at_nI (ly_in h1 h2) (by decide)]
theorem ea_addL (d : Nat) (T t : Nat) (u : Int32) (hi : Nat → Nat → Int32) (hl : Nat → Nat → Int64) (hT : (hi 39 1) = nI T) (h1 : T < 82) (h2 : t < 200) : am_call tb_P (d + 2) 140 [.ref 39, .int (nI t), .int u] (pr_S, hi, hl) = some (none, (pr_S, am_si hi 40 (200 * T + t) (us_both ((hi 40) (200 * T + t)) u), hl)) := by
  rw [en_140, ht_140_0, ch_140_0, hT, ea_indexOf, ev_rs, ch_140_1, at_40, ev_rs, ch_140_2, ea_both, ev_rs, ch_140_3, put_40, ev_rn, ch_140_4, ly_ix, q_at_nI (ly_in h1 h2) (by decide), q_put_nI (ly_in h1 h2) (by decide)]
theorem ea_takeL (d : Nat) (T t : Nat) (hi : Nat → Nat → Int32) (hl : Nat → Nat → Int64) (hT : (hi 39 1) = nI T) (h1 : T < 82) (h2 : t < 200) : am_call tb_P (d + 2) 141 [.ref 39, .int (nI t)] (pr_S, hi, hl) = some (some (.int ((hi 40) (200 * T + t))), (pr_S, am_si hi 40 (200 * T + t) 0, hl)) := by
  rw [en_141, ht_141_0, ch_141_0, hT, ea_indexOf, ev_rs, ch_141_1, at_40, ev_rs, ch_141_2, put_40, ev_rn, ch_141_3, ly_ix, q_at_nI (ly_in h1 h2) (by decide), q_put_nI (ly_in h1 h2) (by decide)]
theorem ea_joinL (d : Nat) (l t : Nat) (u : Int32) (hi : Nat → Nat → Int32) (hl : Nat → Nat → Int64) (h1 : l < 82) (h2 : t < 200) : am_call tb_P (d + 2) 144 [.ref 39, .int (nI l), .int (nI t), .int u] (pr_S, hi, hl) = some (none, (pr_S, am_si hi 40 (200 * l + t) (us_both ((hi 40) (200 * l + t)) u), hl)) := by
  rw [en_144, ht_144_0, ch_144_0, ea_indexOf, ev_rs, ch_144_1, at_40, ev_rs, ch_144_2, ea_both, ev_rs, ch_144_3, put_40, ev_rn, ch_144_4, ly_ix, q_at_nI (ly_in h1 h2) (by decide), q_put_nI (ly_in h1 h2) (by decide)]
