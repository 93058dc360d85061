/-! def, row, plant: pairs under what the invariant says of them -/
theorem q_at_nI {f : Nat → Int32} {n j : Nat} (hj : j < n) (hn : n < 2 ^ 31) : q_at f n (nI j) = f j := by
  unfold q_at
  rw [if_neg (nI_in hj hn), nI_clamp (by omega)]
/-- a number is a DEF's, or it is not -/
theorem lk_def {x : Int32} {nd : Nat} (hn : nd < 2 ^ 31) : (¬ (¬ x < 0 ∧ x < nI nd)) ∨ ∃ j, j < nd ∧ x = nI j := by
  by_cases h : ¬ x < 0 ∧ x < nI nd
  · obtain ⟨j, hj, rfl⟩ := nI_of h.1
    exact Or.inr ⟨j, (nI_ltI hj hn).mp h.2, rfl⟩
  · exact Or.inl h
theorem lk_is {j nd : Nat} (h : j < nd) (hn : nd < 2 ^ 31) : ¬ nI j < 0 ∧ nI j < nI nd := ⟨nI_pos (by omega), nI_lt h hn⟩
theorem lk_half {hf d : Nat} : 24 * nI hf + nI d = nI (24 * hf + d) := by
  rw [show (24 : Int32) = nI 24 from rfl, pk_mul, nI_add]
theorem pr_def (d : Nat) (hi : Nat → Nat → Int32) (hl : Nat → Nat → Int64) (a w : Int32) (nd hf : Nat) (hn : nd ≤ 24) (hf2 : hf < 2) (h1 : (hi 17 0) = nI nd) (h2 : (hi 73 7) = nI hf) (h3 : (hi 85) hf = nI nd) (h4 : ∀ d, d < nd → (hi 90) (24 * hf + d) = (hi 20) d) (h5 : ∀ d, d < nd → (hi 87) (24 * hf + d) = (hi 19) d) :
    ∃ r : Int32, am_call tb_P (d + 2) 4 [.ref 0, .int a, .int w] (pr_S, hi, hl) = some (some (.int r), (pr_S, hi, hl)) ∧ am_call tb_P (d + 2) 49 [.ref 73, .int a, .int w] (pr_S, hi, hl) = some (some (.int r), (pr_S, hi, hl)) := by
  have hh : ¬ am_bad (hi 73 7) 2 := by rw [h2]; exact nI_in hf2 (by decide)
  rw [en_4, en_49, ht_4_0, ht_49_0, ch_4_0, ch_49_0, ea_isDef, em_isDef _ _ _ _ hh, ev_rs, ev_rs, ch_4_1, ch_49_1, h2, nI_clamp (show hf < 2 ^ 31 by omega), h3, h1]
  rcases lk_def (x := a) (nd := nd) (by omega) with h | ⟨j, hj, rfl⟩
  · refine ⟨-1, ?_, ?_⟩
    · rw [if_neg h, if_neg (by decide)]
    · rw [if_neg h, if_neg (by decide)]
  · rw [if_pos (lk_is hj (by omega)), if_pos (by decide), if_pos (by decide), ht_4_1, ht_49_1, ch_4_2, ch_49_2, h2, lk_half]
    have hb : ¬ am_bad (nI (24 * hf + j)) 48 := nI_in (by omega) (by decide)
    have hc : (nI (24 * hf + j)).toNatClampNeg = 24 * hf + j := nI_clamp (by omega)
    by_cases w0 : w = 0
    · refine ⟨(hi 20) j, ?_, ?_⟩
      · rw [if_pos w0, ht_4_2, ch_4_3, at_20, ev_rs, ch_4_6, q_at_nI (by omega) (by decide)]
      · rw [if_neg (fun h => h w0), if_neg hb, sk_49_2_55, ht_49_4, ch_49_4, hc, h4 j hj]
    · by_cases w1 : w = 1
      · refine ⟨(hi 19) j, ?_, ?_⟩
        · rw [if_neg w0, if_pos w1, sk_4_2_48, ht_4_3, ch_4_4, at_19, ev_rs, ch_4_7, q_at_nI (by omega) (by decide)]
        · rw [if_pos w0, ht_49_2, ch_49_3, if_neg (fun h => h w1), h2, lk_half, if_neg hb, sk_49_3_55, ht_49_4, ch_49_4, hc, h5 j hj]
      · refine ⟨-2, ?_, ?_⟩
        · rw [if_neg w0, if_neg w1, sk_4_2_60, ht_4_4, ch_4_5]
        · rw [if_pos w0, ht_49_2, ch_49_3, if_pos w1, ht_49_3, ch_49_5, ht_49_4, ch_49_4]
theorem ea_isParameter (d : Nat) (a x : Int32) (nd : Nat) (sz : Nat → Nat) (hi : Nat → Nat → Int32) (hl : Nat → Nat → Int64) (hn : nd ≤ 24) (h1 : (hi 17 0) = nI nd) (h4 : ∀ j, j < nd → (hi 20) j = nI (sz j) ∧ sz j ≤ 4) :
    ((∃ j i, j < nd ∧ i < sz j ∧ a = nI j ∧ x = nI i) ∧ am_call tb_P (d + 2) 16 [.ref 0, .int a, .int x] (pr_S, hi, hl) = some (some (.int 1), (pr_S, hi, hl))) ∨ ((¬ ∃ j i, j < nd ∧ i < sz j ∧ a = nI j ∧ x = nI i) ∧ am_call tb_P (d + 2) 16 [.ref 0, .int a, .int x] (pr_S, hi, hl) = some (some (.int 0), (pr_S, hi, hl))) := by
  rw [en_16, ht_16_0, ch_16_0, ea_isDef, ev_rs, ch_16_1, h1]
  rcases lk_def (x := a) (nd := nd) (by omega) with h | ⟨j, hj, rfl⟩
  · refine Or.inr ⟨fun ⟨j, i, q1, _, q3, _⟩ => h (q3 ▸ lk_is q1 (by omega)), ?_⟩
    rw [if_neg h, if_pos rfl, ht_16_1, ch_16_2, ht_16_2, ch_16_4, if_neg (by decide)]
  · obtain ⟨e1, e2⟩ := h4 j hj
    rw [if_pos (lk_is hj (by omega)), if_neg (by decide)]
    by_cases h0 : x < 0
    · refine Or.inr ⟨fun ⟨j', i, _, q2, _, q4⟩ => absurd (q4 ▸ h0) (nI_pos (by
        have := (nI_eq (a := j) (b := j') (by omega) (by omega)).mp (by assumption)
        subst this
        omega)), ?_⟩
      rw [if_pos h0, ht_16_1, ch_16_2, ht_16_2, ch_16_4, if_neg (by decide)]
    · rw [if_neg h0, at_20, ev_rs, ch_16_3, q_at_nI (by omega) (by decide), e1]
      obtain ⟨i, hi2, rfl⟩ := nI_of h0
      by_cases h2 : sz j ≤ i
      · refine Or.inr ⟨fun ⟨j', i', q1, q2, q3, q4⟩ => ?_, ?_⟩
        · have := (nI_eq (a := j) (b := j') (by omega) (by omega)).mp q3
          subst this
          have := (nI_eq (a := i) (b := i') (by omega) (by omega)).mp q4
          omega
        · rw [if_pos (nI_le h2 (by omega)), ht_16_1, ch_16_2, ht_16_2, ch_16_4, if_neg (by decide)]
      · refine Or.inl ⟨⟨j, i, hj, by omega, rfl, rfl⟩, ?_⟩
        rw [if_neg (nI_ge (by omega) (by omega)), sk_16_1_32, ht_16_2, ch_16_4, if_neg (by decide)]
theorem em_isParameter (d : Nat) (a x : Int32) (nd hf : Nat) (sz : Nat → Nat) (hi : Nat → Nat → Int32) (hl : Nat → Nat → Int64) (hn : nd ≤ 24) (hf2 : hf < 2) (h2 : (hi 73 7) = nI hf) (h3 : (hi 85) hf = nI nd) (h4 : ∀ j, j < nd → (hi 90) (24 * hf + j) = nI (sz j) ∧ sz j ≤ 4) :
    ((∃ j i, j < nd ∧ i < sz j ∧ a = nI j ∧ x = nI i) ∧ am_call tb_P (d + 2) 65 [.ref 73, .int a, .int x] (pr_S, hi, hl) = some (some (.int 1), (pr_S, hi, hl))) ∨ ((¬ ∃ j i, j < nd ∧ i < sz j ∧ a = nI j ∧ x = nI i) ∧ am_call tb_P (d + 2) 65 [.ref 73, .int a, .int x] (pr_S, hi, hl) = some (some (.int 0), (pr_S, hi, hl))) := by
  have hh : ¬ am_bad (hi 73 7) 2 := by rw [h2]; exact nI_in hf2 (by decide)
  rw [en_65, ht_65_0, ch_65_0, em_isDef _ _ _ _ hh, ev_rs, ch_65_1, h2, nI_clamp (show hf < 2 ^ 31 by omega), h3]
  rcases lk_def (x := a) (nd := nd) (by omega) with h | ⟨j, hj, rfl⟩
  · refine Or.inr ⟨fun ⟨j, i, q1, _, q3, _⟩ => h (q3 ▸ lk_is q1 (by omega)), ?_⟩
    rw [if_neg h, if_pos rfl, ht_65_1, ch_65_2, ht_65_2, ch_65_3, if_neg (by decide)]
  · obtain ⟨e1, e2⟩ := h4 j hj
    rw [if_pos (lk_is hj (by omega)), if_neg (by decide)]
    by_cases h0 : x < 0
    · refine Or.inr ⟨fun ⟨j', i, _, q2, _, q4⟩ => absurd (q4 ▸ h0) (nI_pos (by
        have := (nI_eq (a := j) (b := j') (by omega) (by omega)).mp (by assumption)
        subst this
        omega)), ?_⟩
      rw [if_pos h0, ht_65_1, ch_65_2, ht_65_2, ch_65_3, if_neg (by decide)]
    · rw [if_neg h0, lk_half, if_neg (nI_in (c := 24 * hf + j) (N := 48) (by omega) (by decide)), nI_clamp (show 24 * hf + j < 2 ^ 31 by omega), e1]
      obtain ⟨i, hi2, rfl⟩ := nI_of h0
      by_cases h2 : sz j ≤ i
      · refine Or.inr ⟨fun ⟨j', i', q1, q2, q3, q4⟩ => ?_, ?_⟩
        · have := (nI_eq (a := j) (b := j') (by omega) (by omega)).mp q3
          subst this
          have := (nI_eq (a := i) (b := i') (by omega) (by omega)).mp q4
          omega
        · rw [if_pos (nI_le h2 (by omega)), ht_65_1, ch_65_2, ht_65_2, ch_65_3, if_neg (by decide)]
      · refine Or.inl ⟨⟨j, i, hj, by omega, rfl, rfl⟩, ?_⟩
        rw [if_neg (nI_ge (by omega) (by omega)), sk_65_1_35, ht_65_2, ch_65_3, if_neg (by decide)]
/-- a USE as the class has it, and as the reference has it -/
def us_rel (u c e : Int32) : Prop := ∃ a b, a ≤ 2 ∧ b ≤ 4 ∧ (a = 0 → b = 0) ∧ u = nI (8 * a + b) ∧ c = nI a ∧ e = nI b
theorem us_c : ∀ a, a < 3 → ∀ b, b < 5 → nI (8 * a + b) >>> ((3 : Int32) &&& 31) = nI a ∧ nI (8 * a + b) &&& 7 = nI b := by decide +kernel
theorem ea_rowIndex (d : Nat) (x y z : Int32) (hi : Nat → Nat → Int32) (hl : Nat → Nat → Int64) : am_call tb_P (d + 1) 123 [.int x, .int y, .int z] (pr_S, hi, hl) = some (some (.int ((((x * 2) + y) * 4) + z)), (pr_S, hi, hl)) := by
  rw [en_123, ht_123_0, ch_123_0]
theorem lk_ri {j u i : Nat} : ((nI j * 2) + nI u) * 4 + nI i = nI (8 * j + 4 * u + i) := by
  rw [show (2 : Int32) = nI 2 from rfl, show (4 : Int32) = nI 4 from rfl, pk_mul, nI_add, pk_mul, nI_add]
  congr 1
  omega
theorem lk_rm {j u i : Nat} : ((8 * nI j) + (4 * nI u)) + nI i = nI (8 * j + 4 * u + i) := by
  rw [show (8 : Int32) = nI 8 from rfl, show (4 : Int32) = nI 4 from rfl, pk_mul, pk_mul, nI_add, nI_add]
theorem lk_01 {x : Int32} (h0 : ¬ x < 0) (h1 : ¬ 1 < x) : ∃ u, u < 2 ∧ x = nI u := by
  obtain ⟨j, hj, rfl⟩ := nI_of h0
  exact ⟨j, by
    rcases Nat.lt_or_ge 1 j with h | h
    · exact absurd (nI_lt (a := 1) h hj) h1
    · omega, rfl⟩
theorem ea_useOf (d : Nat) (j u i : Nat) (hi : Nat → Nat → Int32) (hl : Nat → Nat → Int64) (hk : 8 * j + 4 * u + i < 192) : am_call tb_P (d + 2) 213 [.ref 35, .int (nI j), .int (nI u), .int (nI i)] (pr_S, hi, hl) = some (some (.int ((hi 36) (8 * j + 4 * u + i))), (pr_S, hi, hl)) := by
  rw [en_213, ht_213_0, ch_213_0, ea_rowIndex, ev_rs, ch_213_1, at_36, ev_rs, ch_213_2, lk_ri, q_at_nI hk (by decide)]
/-- row: the pair -/
theorem pr_row (d : Nat) (a y x w : Int32) (nd hf : Nat) (sz : Nat → Nat) (hi : Nat → Nat → Int32) (hl : Nat → Nat → Int64) (hn : nd ≤ 24) (hf2 : hf < 2) (h1 : (hi 17 0) = nI nd) (h2 : (hi 73 7) = nI hf) (h3 : (hi 85) hf = nI nd) (h4 : ∀ j, j < nd → (hi 20) j = nI (sz j) ∧ sz j ≤ 4) (h5 : ∀ j, j < nd → (hi 90) (24 * hf + j) = nI (sz j) ∧ sz j ≤ 4) (h6 : ∀ k, k < 192 → us_rel ((hi 36) k) ((hi 97) k) ((hi 98) k)) :
    ∃ r : Int32, am_call tb_P (d + 3) 7 [.ref 0, .int a, .int y, .int x, .int w] (pr_S, hi, hl) = some (some (.int r), (pr_S, hi, hl)) ∧ am_call tb_P (d + 3) 66 [.ref 73, .int a, .int y, .int x, .int w] (pr_S, hi, hl) = some (some (.int r), (pr_S, hi, hl)) := by
  rw [en_7, en_66, ht_7_0, ht_66_0, ch_7_0, ch_66_0]
  rcases ea_isParameter d a x nd sz hi hl hn h1 h4 with ⟨⟨j, i, hj, hiz, rfl, rfl⟩, e1⟩ | ⟨hno, e1⟩
  · rcases em_isParameter d (nI j) (nI i) nd hf sz hi hl hn hf2 h2 h3 h5 with ⟨-, e2⟩ | ⟨hno, e2⟩
    · rw [e1, e2, ev_rs, ev_rs, ch_7_1, ch_66_1, if_pos (by decide), if_pos (by decide), ht_7_1, ht_66_1, ch_7_2, ch_66_2]
      have bad : ∃ r : Int32, am_fwd (am_call tb_P (d + 2)) (am_run (am_call tb_P (d + 2)) tb_r7_0 999999) tb_r7_2 31 [(0, .ref 0), (1, .int (nI j)), (2, .int y), (3, .int (nI i)), (4, .int w)] [] (pr_S, hi, hl) = some (some (.int r), (pr_S, hi, hl)) ∧ am_fwd (am_call tb_P (d + 2)) (am_run (am_call tb_P (d + 2)) tb_r66_0 999999) tb_r66_2 31 [(0, .ref 73), (1, .int (nI j)), (2, .int y), (3, .int (nI i)), (4, .int w)] [] (pr_S, hi, hl) = some (some (.int r), (pr_S, hi, hl)) := ⟨-2, by rw [ht_7_2, ch_7_3], by rw [ht_66_2, ch_66_3]⟩
      by_cases y0 : y < 0
      · rw [if_pos y0, if_pos y0]; exact bad
      · rw [if_neg y0, if_neg y0]
        by_cases y1 : 1 < y
        · rw [if_pos y1, if_pos y1]; exact bad
        · rw [if_neg y1, if_neg y1]
          by_cases w0 : w < 0
          · rw [if_pos w0, if_pos w0]; exact bad
          · rw [if_neg w0, if_neg w0]
            by_cases w1 : w ≤ 1
            · obtain ⟨u, hu, rfl⟩ := lk_01 y0 y1
              have hsz := (h4 j hj).2
              have hk : 8 * j + 4 * u + i < 192 := by omega
              obtain ⟨c, e, hc, he, -, q1, q2, q3⟩ := h6 _ hk
              have q4 := us_c c (by omega) e (by omega)
              rw [if_pos w1, if_pos w1, sk_7_2_34, sk_66_2_34, ht_7_3, ht_66_3, ch_7_4, ch_66_4, ea_useOf _ _ _ _ _ _ hk, ev_rs, ch_7_5, lk_rm, q1]
              by_cases wz : w = 0
              · refine ⟨nI c, ?_, ?_⟩
                · rw [if_neg (fun h => h wz), sk_7_4_63, ht_7_5, ch_7_7, q4.1]
                · rw [if_neg (fun h => h wz), if_neg (nI_in hk (by decide)), sk_66_4_72, ht_66_5, ch_66_6, nI_clamp (by omega), q2]
              · refine ⟨nI e, ?_, ?_⟩
                · rw [if_pos wz, ht_7_4, ch_7_6, ht_7_5, ch_7_7, q4.2]
                · rw [if_pos wz, ht_66_4, ch_66_5, lk_rm, if_neg (nI_in hk (by decide)), ht_66_5, ch_66_6, nI_clamp (by omega), q3]
            · rw [if_neg w1, if_neg w1]; exact bad
    · exact absurd ⟨j, i, hj, hiz, rfl, rfl⟩ hno
  · rcases em_isParameter d a x nd hf sz hi hl hn hf2 h2 h3 h5 with ⟨hyes, e2⟩ | ⟨-, e2⟩
    · exact absurd hyes hno
    · refine ⟨-1, ?_, ?_⟩
      · rw [e1, ev_rs, ch_7_1, if_neg (by decide)]
      · rw [e2, ev_rs, ch_66_1, if_neg (by decide)]
theorem ea_setUse (d : Nat) (j u i : Nat) (v : Int32) (hi : Nat → Nat → Int32) (hl : Nat → Nat → Int64) (hk : 8 * j + 4 * u + i < 192) : am_call tb_P (d + 2) 214 [.ref 35, .int (nI j), .int (nI u), .int (nI i), .int v] (pr_S, hi, hl) = some (none, (pr_S, am_si (am_si hi 36 (8 * j + 4 * u + i) v) 35 5 1, hl)) := by
  rw [en_214, ht_214_0, ch_214_0, ea_rowIndex, ev_rs, ch_214_1, put_36, ev_rn, ch_214_2, lk_ri]
  unfold q_put
  rw [if_neg (nI_in hk (by decide)), nI_clamp (by omega)]
theorem lk_n {x : Int32} {n : Nat} (hn : n < 2 ^ 31) (h0 : ¬ x < 0) (h1 : ¬ nI n < x) : ∃ u, u ≤ n ∧ x = nI u := by
  obtain ⟨j, hj, rfl⟩ := nI_of h0
  exact ⟨j, by
    rcases Nat.lt_or_ge n j with h | h
    · exact absurd (nI_lt h hj) h1
    · omega, rfl⟩
/-- plant: the pair; what it changes -/
theorem pr_plant (d : Nat) (a y x c e : Int32) (nd hf : Nat) (sz : Nat → Nat) (hi : Nat → Nat → Int32) (hl : Nat → Nat → Int64) (hn : nd ≤ 24) (hf2 : hf < 2) (h1 : (hi 17 0) = nI nd) (h2 : (hi 73 7) = nI hf) (h3 : (hi 85) hf = nI nd) (h4 : ∀ j, j < nd → (hi 20) j = nI (sz j) ∧ sz j ≤ 4) (h5 : ∀ j, j < nd → (hi 90) (24 * hf + j) = nI (sz j) ∧ sz j ≤ 4) (hi1 : Nat → Nat → Int32) (g1 : hi1 = hi ∨ ∃ k v, hi1 = am_si (am_si hi 36 k v) 35 5 1) :
    ((∃ r : Int32, am_call tb_P (d + 3) 8 [.ref 0, .int a, .int y, .int x, .int c, .int e] (pr_S, hi, hl) = some (some (.int r), (pr_S, hi, hl)) ∧ am_call tb_P (d + 3) 67 [.ref 73, .int a, .int y, .int x, .int c, .int e] (pr_S, hi1, hl) = some (some (.int r), (pr_S, hi1, hl))) ∨
     (∃ k p q, k < 192 ∧ p ≤ 2 ∧ q ≤ 4 ∧ (p = 0 → q = 0) ∧ am_call tb_P (d + 3) 8 [.ref 0, .int a, .int y, .int x, .int c, .int e] (pr_S, hi, hl) = some (some (.int 1), (pr_S, am_si (am_si hi 36 k (nI (8 * p + q))) 35 5 1, hl)) ∧ am_call tb_P (d + 3) 67 [.ref 73, .int a, .int y, .int x, .int c, .int e] (pr_S, hi1, hl) = some (some (.int 1), (pr_S, am_si (am_si hi1 97 k (nI p)) 98 k (nI q), hl)))) := by
  have k2 : (hi1 73 7) = nI hf := by rcases g1 with rfl | ⟨k, v, rfl⟩ <;> exact h2
  have k3 : (hi1 85) hf = nI nd := by rcases g1 with rfl | ⟨k, v, rfl⟩ <;> exact h3
  have k5 : ∀ j, j < nd → (hi1 90) (24 * hf + j) = nI (sz j) ∧ sz j ≤ 4 := by rcases g1 with rfl | ⟨k, v, rfl⟩ <;> exact h5
  rw [en_8, en_67, ht_8_0, ht_67_0, ch_8_0, ch_67_0]
  rcases ea_isParameter d a x nd sz hi hl hn h1 h4 with ⟨⟨j, i, hj, hiz, rfl, rfl⟩, e1⟩ | ⟨hno, e1⟩
  · rcases em_isParameter d (nI j) (nI i) nd hf sz hi1 hl hn hf2 k2 k3 k5 with ⟨-, e2⟩ | ⟨hno, e2⟩
    · rw [e1, e2, ev_rs, ev_rs, ch_8_1, ch_67_1, if_pos (by decide), if_pos (by decide), ht_8_1, ht_67_1, ch_8_2, ch_67_2]
      have b1 : am_fwd (am_call tb_P (d + 2)) (am_run (am_call tb_P (d + 2)) tb_r8_0 999999) tb_r8_2 31 [(0, .ref 0), (1, .int (nI j)), (2, .int y), (3, .int (nI i)), (4, .int c), (5, .int e)] [] (pr_S, hi, hl) = some (some (.int (-2)), (pr_S, hi, hl)) := by rw [ht_8_2, ch_8_3]
      have b2 : am_fwd (am_call tb_P (d + 2)) (am_run (am_call tb_P (d + 2)) tb_r8_0 999999) tb_r8_4 55 [(0, .ref 0), (1, .int (nI j)), (2, .int y), (3, .int (nI i)), (4, .int c), (5, .int e)] [] (pr_S, hi, hl) = some (some (.int (-2)), (pr_S, hi, hl)) := by rw [ht_8_4, ch_8_5]
      have b3 : am_fwd (am_call tb_P (d + 2)) (am_run (am_call tb_P (d + 2)) tb_r67_0 999999) tb_r67_2 52 [(0, .ref 73), (1, .int (nI j)), (2, .int y), (3, .int (nI i)), (4, .int c), (5, .int e)] [] (pr_S, hi1, hl) = some (some (.int (-2)), (pr_S, hi1, hl)) := by rw [ht_67_2, ch_67_3]
      by_cases y0 : y < 0
      · rw [if_pos y0, if_pos y0]; exact Or.inl ⟨_, b1, b3⟩
      rw [if_neg y0, if_neg y0]
      by_cases y1 : 1 < y
      · rw [if_pos y1, if_pos y1]; exact Or.inl ⟨_, b1, b3⟩
      rw [if_neg y1, if_neg y1]
      by_cases c0 : c < 0
      · rw [if_pos c0, if_pos c0]; exact Or.inl ⟨_, b1, b3⟩
      rw [if_neg c0, if_neg c0]
      by_cases c2 : 2 < c
      · rw [if_neg (Int32.not_le.mpr c2), if_pos c2]; exact Or.inl ⟨_, b1, b3⟩
      rw [if_pos (Int32.not_lt.mp c2), if_neg c2, sk_8_2_34, ht_8_3, ch_8_4]
      by_cases e0 : e < 0
      · rw [if_pos e0, if_pos e0]; exact Or.inl ⟨_, b2, b3⟩
      rw [if_neg e0, if_neg e0]
      by_cases e4 : 4 < e
      · rw [if_pos e4, if_pos e4]; exact Or.inl ⟨_, b2, b3⟩
      rw [if_neg e4, if_neg e4]
      obtain ⟨u, hu, rfl⟩ := lk_01 y0 y1
      obtain ⟨p, hp, rfl⟩ := lk_n (n := 2) (by decide) c0 c2
      obtain ⟨q, hq, rfl⟩ := lk_n (n := 4) (by decide) e0 e4
      have hsz := (h4 j hj).2
      have hk : 8 * j + 4 * u + i < 192 := by omega
      have good : am_fwd (am_call tb_P (d + 2)) (am_run (am_call tb_P (d + 2)) tb_r8_0 999999) tb_r8_4 58 [(0, .ref 0), (1, .int (nI j)), (2, .int (nI u)), (3, .int (nI i)), (4, .int (nI p)), (5, .int (nI q))] [] (pr_S, hi, hl) = some (some (.int 1), (pr_S, am_si (am_si hi 36 (8 * j + 4 * u + i) (nI (8 * p + q))) 35 5 1, hl)) := by
        rw [sk_8_4_58, ht_8_5, ch_8_6, ea_setUse _ _ _ _ _ _ _ hk, ev_rn, ch_8_7, show nI p * 8 + nI q = nI (8 * p + q) by rw [show (8 : Int32) = nI 8 from rfl, pk_mul, nI_add, Nat.mul_comm]]
      have goodM : am_fwd (am_call tb_P (d + 2)) (am_run (am_call tb_P (d + 2)) tb_r67_0 999999) tb_r67_2 55 [(0, .ref 73), (1, .int (nI j)), (2, .int (nI u)), (3, .int (nI i)), (4, .int (nI p)), (5, .int (nI q))] [] (pr_S, hi1, hl) = some (some (.int 1), (pr_S, am_si (am_si hi1 97 (8 * j + 4 * u + i) (nI p)) 98 (8 * j + 4 * u + i) (nI q), hl)) := by
        rw [sk_67_2_55, ht_67_3, ch_67_4, lk_rm, if_neg (nI_in hk (by decide)), if_neg (nI_in hk (by decide)), nI_clamp (by omega)]
      by_cases cz : nI p = 0
      · rw [if_neg (c := nI p ≠ 0) (fun h => h cz), if_neg (c := nI p ≠ 0) (fun h => h cz)]
        have hp0 : p = 0 := (nI_eq (b := 0) (by omega) (by decide)).mp cz
        by_cases ez : nI q = 0
        · have hq0 : q = 0 := (nI_eq (b := 0) (by omega) (by decide)).mp ez
          rw [if_pos (c := nI q = 0) ez, if_pos (c := nI q = 0) ez]
          exact Or.inr ⟨_, p, q, hk, hp, hq, fun _ => hq0, good, goodM⟩
        · rw [if_neg (c := nI q = 0) ez, if_neg (c := nI q = 0) ez]; exact Or.inl ⟨_, b2, b3⟩
      · rw [if_pos (c := nI p ≠ 0) cz, if_pos (c := nI p ≠ 0) cz]
        exact Or.inr ⟨_, p, q, hk, hp, hq, fun h => absurd (by rw [h]; rfl) cz, good, goodM⟩
    · exact absurd ⟨j, i, hj, hiz, rfl, rfl⟩ hno
  · rcases em_isParameter d a x nd hf sz hi1 hl hn hf2 k2 k3 k5 with ⟨hyes, e2⟩ | ⟨-, e2⟩
    · exact absurd hyes hno
    · refine Or.inl ⟨-1, ?_, ?_⟩
      · rw [e1, ev_rs, ch_8_1, if_neg (by decide)]
      · rw [e2, ev_rs, ch_67_1, if_neg (by decide)]
