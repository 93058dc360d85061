theorem tt_place (hi : Nat → Nat → Int32) (hl : Nat → Nat → Int64) : am_call tb_P 2000 3 [.ref 0] (pr_S, hi, hl) = some (some (.int (hi 0 8)), (pr_S, hi, hl)) := by
  simp only [en_3, ch_3_0, ht_3_0]
theorem tt_placeM (hi : Nat → Nat → Int32) (hl : Nat → Nat → Int64) : am_call tb_P 2000 47 [.ref 73] (pr_S, hi, hl) = some (some (.int (hi 73 28)), (pr_S, hi, hl)) := by
  simp only [en_47, ch_47_0, ht_47_0]
theorem tt_told (x : Int32) (hi : Nat → Nat → Int32) (hl : Nat → Nat → Int64) : am_call tb_P 2000 14 [.ref 0, .int x] (pr_S, hi, hl) = some (some (.int (if x = 0 then (hi 1 0) else if x = 1 then (hi 17 0) else if x = 2 then (hi 17 1) else if x = 3 then (hi 0 9) else -2)), (pr_S, hi, hl)) := by
  simp only [en_14, ch_14_0, ch_14_1, ch_14_2, ch_14_3, ch_14_4, ch_14_5, ht_14_0, ht_14_1, ht_14_2, ht_14_3, ht_14_4, ht_14_5, sk_14_1_40, sk_14_1_48, sk_14_1_56, sk_14_1_61]
  split
  · rfl
  · split
    · rfl
    · split
      · rfl
      · split <;> rfl
theorem tt_clear (d : Nat) (hi : Nat → Nat → Int32) (hl : Nat → Nat → Int64) : am_call tb_P (d + 1) 223 [.ref 1] (pr_S, hi, hl) = some (none, (pr_S, am_si hi 1 0 0, hl)) := by
  simp only [en_223, ch_223_0, ht_223_0]
theorem tt_isBlank (d : Nat) (x : Int32) (hi : Nat → Nat → Int32) (hl : Nat → Nat → Int64) : am_call tb_P (d + 1) 231 [.int x] (pr_S, hi, hl) = some (some (.int (if x = 32 ∨ x = 10 then 1 else 0)), (pr_S, hi, hl)) := by
  simp only [en_231, ch_231_0, ch_231_1, ch_231_2, ch_231_3, ht_231_0, ht_231_1, ht_231_2, ht_231_3, sk_231_1_16, sk_231_2_17]
  by_cases h : x = 32
  · simp [h]
  · by_cases h2 : x = 10 <;> simp [h, h2]
theorem tt_byteAt (d : Nat) (x : Int32) (hi : Nat → Nat → Int32) (hl : Nat → Nat → Int64) : am_call tb_P (d + 1) 230 [.ref 1, .int x] (pr_S, hi, hl) = some (some (.int (if am_bad x 2000 then 0 else ((hi 2) x.toNatClampNeg) &&& 255)), (pr_S, hi, hl)) := by
  simp only [en_230, ch_230_0, ch_230_1, ch_230_2, ht_230_0, ht_230_1, ht_230_2, sk_230_1_27]
  by_cases h0 : x < 0
  · simp [h0]
  · by_cases h1 : 2000 ≤ x.toNatClampNeg
    · simp [h0, h1, q_len (n := 2000) (by decide) h0]
    · simp [h0, h1, q_len (n := 2000) (by decide) h0]
