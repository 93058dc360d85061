/-! rows read and written with a test of the place (the class's at and put), filled, copied -/
def q_at (f : Nat → Int32) (n : Nat) (i : Int32) : Int32 := if am_bad i n then 0 else f i.toNatClampNeg
def q_put (h : Nat → Nat → Int32) (r n : Nat) (i v : Int32) : Nat → Nat → Int32 := if am_bad i n then h else am_si h r i.toNatClampNeg v
theorem q_len {i : Int32} {n : Nat} (hn : n < 2 ^ 31) (h0 : ¬ i < 0) : (Int32.ofNat n ≤ i) ↔ n ≤ i.toNatClampNeg := by
  obtain ⟨j, hj, rfl⟩ := nI_of h0
  rw [nI_clamp hj]
  exact nI_leI hn hj
theorem k_at (d r n : Nat) (rf : List Nat) (i : Int32) (hi : Nat → Nat → Int32) (hl : Nat → Nat → Int64) (hS : pr_S[r]? = some (100, n, rf)) (hn : n < 2 ^ 31) : am_call tb_P (d + 1) 17 [.ref r, .int i] (pr_S, hi, hl) = some (some (.int (q_at (hi r) n i)), (pr_S, hi, hl)) := by
  rw [ev_en (mL := 2) (bs := tb_r17_0) rfl (Nat.le_of_ble_eq_true rfl)]
  unfold q_at am_bad
  by_cases h0 : i < 0
  · simp [tb_r17_0, tb_r17_1, tb_r17_2, tb_r17_3, am_fwd, am_ops, am_op, tb_o17_0, tb_o17_16, tb_o17_17, am_ldi, am_lda, am_get, lv_args, Value.category, am_p1, am_cond, h0, am_k]
  · by_cases h1 : n ≤ i.toNatClampNeg
    · simp [tb_r17_0, tb_r17_1, tb_r17_2, tb_r17_3, am_fwd, am_ops, am_op, tb_o17_0, tb_o17_16, tb_o17_17, am_ldi, am_lda, am_get, lv_args, Value.category, am_p1, am_p2, am_cond, h0, am_k, am_a1, am_ai, am_sh, hS, q_len hn h0, h1]
    · simp [tb_r17_0, tb_r17_1, tb_r17_2, tb_r17_3, am_fwd, am_ops, am_op, tb_o17_0, tb_o17_16, tb_o17_17, am_ldi, am_lda, am_get, lv_args, Value.category, am_p1, am_p2, am_cond, h0, am_k, am_a1, am_ai, am_sh, hS, q_len hn h0, h1]
theorem am_sh_some {G : am_G} {r : Nat} {sh : am_Sh} (h : G.1[r]? = some sh) (f : am_Sh → am_R) : am_sh G r f = f sh := by
  unfold am_sh
  rw [h]
theorem k_put_o (C : am_C) (J : am_J) (r n : Nat) (rf : List Nat) (i v : Int32) (hi : Nat → Nat → Int32) (hl : Nat → Nat → Int64) (hS : pr_S[r]? = some (100, n, rf)) (hn : n < 2 ^ 31) : am_ops C J tb_o18_0 0 [(0, .ref r), (1, .int i), (2, .int v)] [] (pr_S, hi, hl) = J 14 [(0, .ref r), (1, .int i), (2, .int v)] [] (pr_S, q_put hi r n i v, hl) := by
  refine Eq.trans (b := if i < 0 then J 14 [(0, .ref r), (1, .int i), (2, .int v)] [] (pr_S, hi, hl) else am_sh (pr_S, hi, hl) r fun sh => if 100 ≤ sh.1 ∧ sh.1 ≤ 103 then (if Int32.ofNat sh.2.1 ≤ i then J 14 [(0, .ref r), (1, .int i), (2, .int v)] [] (pr_S, hi, hl) else am_sh (pr_S, hi, hl) r fun sh => if sh.1 = 100 then (if am_bad i sh.2.1 then none else J 14 [(0, .ref r), (1, .int i), (2, .int v)] [] (pr_S, am_si hi r i.toNatClampNeg v, hl)) else none) else none) rfl ?_
  rw [am_sh_some hS, am_sh_some hS]
  dsimp only
  unfold q_put
  by_cases h0 : i < 0
  · rw [if_pos h0, if_pos (Or.inl h0)]
  · rw [if_neg h0, if_pos (by decide)]
    by_cases h1 : n ≤ i.toNatClampNeg
    · rw [if_pos ((q_len hn h0).mpr h1), if_pos (Or.inr h1)]
    · have hb : ¬ am_bad i n := fun h => h.elim h0 h1
      rw [if_neg (fun h => h1 ((q_len hn h0).mp h)), if_pos rfl, if_neg hb, if_neg hb]
theorem k_put (d r n : Nat) (rf : List Nat) (i v : Int32) (hi : Nat → Nat → Int32) (hl : Nat → Nat → Int64) (hS : pr_S[r]? = some (100, n, rf)) (hn : n < 2 ^ 31) : am_call tb_P (d + 1) 18 [.ref r, .int i, .int v] (pr_S, hi, hl) = some (none, (pr_S, q_put hi r n i v, hl)) := by
  rw [ev_en (mL := 3) (bs := tb_r18_0) rfl (Nat.le_of_ble_eq_true rfl)]
  generalize am_run (am_call tb_P d) tb_r18_0 999999 = back
  refine (show am_fwd _ back tb_r18_0 0 _ _ _ = am_ops _ (am_fwd _ back tb_r18_1) tb_o18_0 0 _ _ _ from if_pos rfl).trans ?_
  refine (k_put_o _ _ r n rf i v hi hl hS hn).trans ?_
  exact (show am_fwd _ back tb_r18_1 14 _ _ _ = am_ops _ (am_fwd _ back tb_r18_2) tb_o18_14 14 _ _ _ from if_pos rfl).trans rfl
