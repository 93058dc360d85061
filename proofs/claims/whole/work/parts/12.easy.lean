/-! the calls that only look: class and reference, as equations -/
theorem ea_place (d : Nat) (hi : Nat → Nat → Int32) (hl : Nat → Nat → Int64) : am_call tb_P (d + 1) 3 [.ref 0] (pr_S, hi, hl) = some (some (.int (hi 0 8)), (pr_S, hi, hl)) := by
  simp only [en_3, ch_3_0, ht_3_0]
theorem em_place (d : Nat) (hi : Nat → Nat → Int32) (hl : Nat → Nat → Int64) : am_call tb_P (d + 1) 47 [.ref 73] (pr_S, hi, hl) = some (some (.int (hi 73 28)), (pr_S, hi, hl)) := by
  simp only [en_47, ch_47_0, ht_47_0]
theorem ea_value (d : Nat) (hi : Nat → Nat → Int32) (hl : Nat → Nat → Int64) : am_call tb_P (d + 1) 12 [.ref 0] (pr_S, hi, hl) = some (some (.int (hi 45 2)), (pr_S, hi, hl)) := by
  simp only [en_12, ch_12_0, ht_12_0]
theorem em_value (d : Nat) (hi : Nat → Nat → Int32) (hl : Nat → Nat → Int64) : am_call tb_P (d + 1) 88 [.ref 73] (pr_S, hi, hl) = some (some (.int (hi 73 74)), (pr_S, hi, hl)) := by
  simp only [en_88, ch_88_0, ht_88_0]
def ez_told (x a b c e : Int32) : Int32 := if x = 0 then a else if x = 1 then b else if x = 2 then c else if x = 3 then e else -2
theorem ea_told (d : Nat) (x : Int32) (hi : Nat → Nat → Int32) (hl : Nat → Nat → Int64) : am_call tb_P (d + 1) 14 [.ref 0, .int x] (pr_S, hi, hl) = some (some (.int (ez_told x (hi 1 0) (hi 17 0) (hi 17 1) (hi 0 9))), (pr_S, hi, hl)) := by
  simp only [en_14, ch_14_0, ch_14_1, ch_14_2, ch_14_3, ch_14_4, ch_14_5, ht_14_0, ht_14_1, ht_14_2, ht_14_3, ht_14_4, ht_14_5, sk_14_1_40, sk_14_1_48, sk_14_1_56, sk_14_1_61]
  unfold ez_told
  split
  · rfl
  · split
    · rfl
    · split
      · rfl
      · split <;> rfl
theorem em_told (d : Nat) (x : Int32) (hi : Nat → Nat → Int32) (hl : Nat → Nat → Int64) (hh : ¬ am_bad (hi 73 7) 2) : am_call tb_P (d + 1) 90 [.ref 73, .int x] (pr_S, hi, hl) = some (some (.int (ez_told x (hi 73 1) ((hi 85) (hi 73 7).toNatClampNeg) ((hi 86) (hi 73 7).toNatClampNeg) (hi 73 36))), (pr_S, hi, hl)) := by
  simp only [en_90, ch_90_0, ch_90_1, ch_90_2, ch_90_3, ch_90_4, ch_90_5, ht_90_0, ht_90_1, ht_90_2, ht_90_3, ht_90_4, ht_90_5, sk_90_1_37, sk_90_1_47, sk_90_1_57, sk_90_1_62, if_neg hh]
  unfold ez_told
  split
  · rfl
  · split
    · rfl
    · split
      · rfl
      · split <;> rfl
def ez_count (f : Nat → Int32) (x : Int32) : Int32 := if am_bad x 7 then -2 else f x.toNatClampNeg
theorem ez_7 {x : Int32} (h0 : ¬ x < 0) : (7 ≤ x) ↔ 7 ≤ x.toNatClampNeg := q_len (n := 7) (by decide) h0
theorem ea_count (d : Nat) (x : Int32) (hi : Nat → Nat → Int32) (hl : Nat → Nat → Int64) : am_call tb_P (d + 2) 13 [.ref 0, .int x] (pr_S, hi, hl) = some (some (.int (ez_count (hi 46) x)), (pr_S, hi, hl)) := by
  simp only [en_13, ch_13_0, ch_13_1, ch_13_2, ch_13_3, ht_13_0, ht_13_1, ht_13_2, sk_13_1_13, at_46, ev_rs]
  unfold ez_count q_at
  by_cases h0 : x < 0
  · rw [if_pos h0, if_pos (Or.inl h0)]
  · by_cases h1 : 7 ≤ x.toNatClampNeg
    · have h2 : (7 : Int32) ≤ x := (ez_7 h0).mpr h1
      have h3 : ¬ x < 7 := fun h => Int32.lt_irrefl (Int32.lt_of_lt_of_le h h2)
      rw [if_neg h0, if_neg h3, if_pos (Or.inr h1)]
    · have h2 : ¬ (7 : Int32) ≤ x := fun h => h1 ((ez_7 h0).mp h)
      have h3 : x < 7 := Int32.not_le.mp h2
      have hb : ¬ am_bad x 7 := fun h => h.elim h0 h1
      rw [if_neg h0, if_pos h3, if_neg hb, if_neg hb]
theorem em_count (d : Nat) (x : Int32) (hi : Nat → Nat → Int32) (hl : Nat → Nat → Int64) : am_call tb_P (d + 1) 89 [.ref 73, .int x] (pr_S, hi, hl) = some (some (.int (ez_count (hi 128) x)), (pr_S, hi, hl)) := by
  simp only [en_89, ch_89_0, ch_89_1, ch_89_2, ch_89_3, ht_89_0, ht_89_1, ht_89_2, ht_89_3, sk_89_1_15, sk_89_2_21]
  unfold ez_count
  by_cases h0 : x < 0
  · rw [if_pos h0, if_pos (Or.inl h0)]
  · by_cases h1 : 7 ≤ x.toNatClampNeg
    · have h2 : (7 : Int32) ≤ x := (ez_7 h0).mpr h1
      have h3 : ¬ x ≤ 6 := fun h => by
        obtain ⟨j, hj, rfl⟩ := nI_of h0
        rw [nI_clamp hj] at h1
        exact absurd h (nI_ge (a := 6) (b := j) (by omega) hj)
      rw [if_neg h0, if_neg h3, if_pos (Or.inr h1)]
    · have h3 : x ≤ 6 := by
        obtain ⟨j, hj, rfl⟩ := nI_of h0
        rw [nI_clamp hj] at h1
        exact nI_le (a := j) (b := 6) (by omega) (by decide)
      have hb : ¬ am_bad x 7 := fun h => h.elim h0 h1
      rw [if_neg h0, if_pos h3, if_neg hb, if_neg hb]
theorem ea_isDef (d : Nat) (x : Int32) (hi : Nat → Nat → Int32) (hl : Nat → Nat → Int64) : am_call tb_P (d + 1) 15 [.ref 0, .int x] (pr_S, hi, hl) = some (some (.int (if ¬ x < 0 ∧ x < (hi 17 0) then 1 else 0)), (pr_S, hi, hl)) := by
  simp only [en_15, ch_15_0, ch_15_1, ch_15_2, ht_15_0, ht_15_1, ht_15_2, sk_15_1_20]
  by_cases h0 : x < 0
  · simp [h0]
  · by_cases h1 : (hi 17 0) ≤ x
    · simp [h0, h1, Int32.not_lt.mpr h1]
    · simp [h0, h1, Int32.not_le.mp h1]
theorem em_isDef (d : Nat) (x : Int32) (hi : Nat → Nat → Int32) (hl : Nat → Nat → Int64) (hh : ¬ am_bad (hi 73 7) 2) : am_call tb_P (d + 1) 48 [.ref 73, .int x] (pr_S, hi, hl) = some (some (.int (if ¬ x < 0 ∧ x < (hi 85) (hi 73 7).toNatClampNeg then 1 else 0)), (pr_S, hi, hl)) := by
  simp only [en_48, ch_48_0, ch_48_1, ch_48_2, ht_48_0, ht_48_1, ht_48_2, sk_48_1_22, if_neg hh]
  by_cases h0 : x < 0
  · simp [h0]
  · by_cases h1 : (hi 85) (hi 73 7).toNatClampNeg ≤ x
    · simp [h0, h1, Int32.not_lt.mpr h1]
    · simp [h0, h1, Int32.not_le.mp h1]
theorem ez_4 {x : Int32} (h0 : ¬ x < 0) : (4 ≤ x) ↔ 4 ≤ x.toNatClampNeg := q_len (n := 4) (by decide) h0
theorem ea_argument (d : Nat) (x v : Int32) (hi : Nat → Nat → Int32) (hl : Nat → Nat → Int64) : am_call tb_P (d + 2) 10 [.ref 0, .int x, .int v] (pr_S, hi, hl) = some (some (.int (if am_bad x 4 then -1 else (hi 72) x.toNatClampNeg)), (pr_S, (if am_bad x 4 then hi else am_si hi 72 x.toNatClampNeg v), hl)) := by
  simp only [en_10, ch_10_0, ch_10_1, ch_10_2, ch_10_3, ch_10_4, ht_10_0, ht_10_1, ht_10_2, sk_10_1_11, at_72, put_72, ev_rs, ev_rn]
  unfold q_at q_put
  by_cases h0 : x < 0
  · have hb : am_bad x 4 := Or.inl h0
    rw [if_pos h0, if_pos hb, if_pos hb]
  · by_cases h1 : 4 ≤ x.toNatClampNeg
    · have h2 : (4 : Int32) ≤ x := (ez_4 h0).mpr h1
      have h3 : ¬ x < 4 := fun h => Int32.lt_irrefl (Int32.lt_of_lt_of_le h h2)
      have hb : am_bad x 4 := Or.inr h1
      rw [if_neg h0, if_neg h3, if_pos hb, if_pos hb]
    · have h3 : x < 4 := Int32.not_le.mp (fun h => h1 ((ez_4 h0).mp h))
      have hb : ¬ am_bad x 4 := fun h => h.elim h0 h1
      have h4 : ¬ (4 : Int32) ≤ x := Int32.not_le.mpr h3
      simp only [if_neg h0, if_pos h3, if_neg hb, if_neg h4]
theorem em_argument (d : Nat) (x v : Int32) (hi : Nat → Nat → Int32) (hl : Nat → Nat → Int64) : am_call tb_P (d + 1) 69 [.ref 73, .int x, .int v] (pr_S, hi, hl) = some (some (.int (if am_bad x 4 then -1 else (hi 104) x.toNatClampNeg)), (pr_S, (if am_bad x 4 then hi else am_si hi 104 x.toNatClampNeg v), hl)) := by
  simp only [en_69, ch_69_0, ch_69_1, ch_69_2, ht_69_0, ht_69_1, ht_69_2, sk_69_1_11]
  by_cases h0 : x < 0
  · have hb : am_bad x 4 := Or.inl h0
    rw [if_pos h0, if_pos hb, if_pos hb]
  · by_cases h1 : 4 ≤ x.toNatClampNeg
    · have h3 : ¬ x ≤ 3 := fun h => by
        obtain ⟨j, hj, rfl⟩ := nI_of h0
        rw [nI_clamp hj] at h1
        exact absurd h (nI_ge (a := 3) (b := j) (by omega) hj)
      have hb : am_bad x 4 := Or.inr h1
      rw [if_neg h0, if_neg h3, if_pos hb, if_pos hb]
    · have h3 : x ≤ 3 := by
        obtain ⟨j, hj, rfl⟩ := nI_of h0
        rw [nI_clamp hj] at h1
        exact nI_le (a := j) (b := 3) (by omega) (by decide)
      have hb : ¬ am_bad x 4 := fun h => h.elim h0 h1
      rw [if_neg h0, if_pos h3, if_neg hb, if_neg hb, if_neg hb, if_neg hb]
theorem tt_clear (d : Nat) (hi : Nat → Nat → Int32) (hl : Nat → Nat → Int64) : am_call tb_P (d + 1) 223 [.ref 1] (pr_S, hi, hl) = some (none, (pr_S, am_si hi 1 0 0, hl)) := by
  simp only [en_223, ch_223_0, ht_223_0]
