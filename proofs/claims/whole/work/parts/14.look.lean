/-! def, row, plant: pairs under what the invariant says of them -/
theorem q_at_nI {f : Nat → Int32} {n j : Nat} (hj : j < n) (hn : n < 2 ^ 31) : q_at f n (nI j) = f j := by
  unfold q_at
  rw [if_neg (nI_in hj hn), nI_clamp (by omega)]
/-- a number is a DEF's, or it is not -/
theorem lk_def {x : Int32} {nd : Nat} (hn : nd < 2 ^ 31) : (¬ (¬ x < 0 ∧ x < nI nd)) ∨ ∃ j, j < nd ∧ x = nI j := by
  by_cases h : ¬ x < 0 ∧ x < nI nd
  · obtain ⟨j, hj, rfl⟩ := nI_of h.1
    exact Or.inr ⟨j, (nI_ltI hj hn).mp h.2, rfl⟩
  · exact Or.inl h
theorem lk_is {j nd : Nat} (h : j < nd) (hn : nd < 2 ^ 31) : ¬ nI j < 0 ∧ nI j < nI nd := ⟨nI_pos (by omega), nI_lt h hn⟩
theorem lk_half {hf d : Nat} : 24 * nI hf + nI d = nI (24 * hf + d) := by
  rw [show (24 : Int32) = nI 24 from rfl, pk_mul, nI_add]
theorem pr_def (d : Nat) (hi : Nat → Nat → Int32) (hl : Nat → Nat → Int64) (a w : Int32) (nd hf : Nat) (hn : nd ≤ 24) (hf2 : hf < 2) (h1 : (hi 17 0) = nI nd) (h2 : (hi 73 7) = nI hf) (h3 : (hi 85) hf = nI nd) (h4 : ∀ d, d < nd → (hi 90) (24 * hf + d) = (hi 20) d) (h5 : ∀ d, d < nd → (hi 87) (24 * hf + d) = (hi 19) d) :
    ∃ r : Int32, am_call tb_P (d + 2) 4 [.ref 0, .int a, .int w] (pr_S, hi, hl) = some (some (.int r), (pr_S, hi, hl)) ∧ am_call tb_P (d + 2) 49 [.ref 73, .int a, .int w] (pr_S, hi, hl) = some (some (.int r), (pr_S, hi, hl)) := by
  have hh : ¬ am_bad (hi 73 7) 2 := by rw [h2]; exact nI_in hf2 (by decide)
  rw [en_4, en_49, ht_4_0, ht_49_0, ch_4_0, ch_49_0, ea_isDef, em_isDef _ _ _ _ hh, ev_rs, ev_rs, ch_4_1, ch_49_1, h2, nI_clamp (show hf < 2 ^ 31 by omega), h3, h1]
  rcases lk_def (x := a) (nd := nd) (by omega) with h | ⟨j, hj, rfl⟩
  · refine ⟨-1, ?_, ?_⟩
    · rw [if_neg h, if_neg (by decide)]
    · rw [if_neg h, if_neg (by decide)]
  · rw [if_pos (lk_is hj (by omega)), if_pos (by decide), if_pos (by decide), ht_4_1, ht_49_1, ch_4_2, ch_49_2, h2, lk_half]
    have hb : ¬ am_bad (nI (24 * hf + j)) 48 := nI_in (by omega) (by decide)
    have hc : (nI (24 * hf + j)).toNatClampNeg = 24 * hf + j := nI_clamp (by omega)
    by_cases w0 : w = 0
    · refine ⟨(hi 20) j, ?_, ?_⟩
      · rw [if_pos w0, ht_4_2, ch_4_3, at_20, ev_rs, ch_4_6, q_at_nI (by omega) (by decide)]
      · rw [if_neg (fun h => h w0), if_neg hb, sk_49_2_55, ht_49_4, ch_49_4, hc, h4 j hj]
    · by_cases w1 : w = 1
      · refine ⟨(hi 19) j, ?_, ?_⟩
        · rw [if_neg w0, if_pos w1, sk_4_2_48, ht_4_3, ch_4_4, at_19, ev_rs, ch_4_7, q_at_nI (by omega) (by decide)]
        · rw [if_pos w0, ht_49_2, ch_49_3, if_neg (fun h => h w1), h2, lk_half, if_neg hb, sk_49_3_55, ht_49_4, ch_49_4, hc, h5 j hj]
      · refine ⟨-2, ?_, ?_⟩
        · rw [if_neg w0, if_neg w1, sk_4_2_60, ht_4_4, ch_4_5]
        · rw [if_pos w0, ht_49_2, ch_49_3, if_pos w1, ht_49_3, ch_49_5, ht_49_4, ch_49_4]
