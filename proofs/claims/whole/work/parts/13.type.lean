/-! type: the bytes of a long; the loop that lays them -/
theorem ty_bits {v : Int64} {s : UInt64} {t : Int64} {n : Nat} (hs : (s.toBitVec % 64).toNat = n) (ht : (t.toBitVec.smod 64).toNat = n) (hn : n ≤ 56) : ((v.toUInt64 >>> s).toInt64).toInt32.toInt8 = (v >>> t).toInt32.toInt8 := by
  apply Int8.toBitVec_inj.mp
  simp only [Int32.toBitVec_toInt8, Int64.toBitVec_toInt32, UInt64.toBitVec_toInt64, UInt64.toBitVec_shiftRight, Int64.toBitVec_shiftRight, Int64.toBitVec_toUInt64]
  apply BitVec.eq_of_getLsbD_eq
  intro i hi
  rw [BitVec.getLsbD_signExtend, BitVec.getLsbD_signExtend, BitVec.getLsbD_signExtend, BitVec.getLsbD_signExtend, if_pos (show i < 32 by omega), if_pos (show i < 64 by omega), if_pos (show i < 32 by omega), if_pos (show i < 64 by omega)]
  rw [show v.toBitVec >>> (s.toBitVec % 64) = v.toBitVec >>> n by rw [← hs]; rfl]
  rw [show v.toBitVec.sshiftRight' (t.toBitVec.smod 64) = v.toBitVec.sshiftRight n by rw [← ht]; rfl]
  rw [BitVec.getLsbD_ushiftRight, BitVec.getLsbD_sshiftRight]
  have h1 : ¬ (64 ≤ i) := by omega
  have h2 : n + i < 64 := by omega
  simp [h1, h2]
theorem ty_sh : ∀ k, k < 8 → (((8 * nI k).toInt64.toUInt64 &&& Int64.toUInt64 63).toBitVec % 64).toNat = 8 * k ∧ (((8 * nI k).toInt64 &&& 63).toBitVec.smod 64).toNat = 8 * k := by decide +kernel
def ty_b (v : Int64) (k : Nat) : Int32 := vp_nar .byte ((v >>> ((8 * nI k).toInt64 &&& 63)).toInt32.toInt8.toInt32)
theorem ty_b_eq (v : Int64) {k : Nat} (h : k < 8) : vp_nar .byte ((((v.toUInt64 >>> ((8 * nI k).toInt64.toUInt64 &&& Int64.toUInt64 63)).toInt64).toInt32).toInt8.toInt32) = ty_b v k := by
  unfold ty_b
  rw [ty_bits (ty_sh k h).1 (ty_sh k h).2 (by omega)]
/-- the class's loop: bytes k, k - 1, .. 0 come behind the text -/
def ty_lay (f : Nat → Int32) (v : Int64) (L : Nat) : Nat → Nat → Int32
  | 0 => f
  | k + 1 => ty_lay (upd f L (ty_b v k)) v (L + 1) k
theorem ty_loop (C : am_C) (v : Int64) (x3 : Int32) (hl : Nat → Nat → Int64) : ∀ (k n L : Nat) (hi : Nat → Nat → Int32), k ≤ 8 → k ≤ n → L + k ≤ 2000 → (hi 1 0) = nI L →
    ∃ hi' : Nat → Nat → Int32, am_fwd C (am_run C tb_r224_0 n) tb_r224_1 5 [(4, .int (nI k - 1)), (0, .ref 1), (1, .long v), (3, .int x3)] [] (pr_S, hi, hl) = some (none, (pr_S, hi', hl)) ∧ (hi' 1 0) = nI (L + k) ∧ (∀ c j, ¬ (c = 1 ∧ j = 0) → c ≠ 2 → hi' c j = hi c j) ∧ (∀ j, j < L → (hi' 2) j = (hi 2) j) ∧ (∀ j, j < k → (hi' 2) (L + j) = ty_b v (k - 1 - j)) := by
  intro k
  induction k with
  | zero =>
    intro n L hi _ _ _ hL
    refine ⟨hi, ?_, by simpa using hL, fun _ _ _ _ => rfl, fun _ _ => rfl, fun j hj => absurd hj (Nat.not_lt_zero j)⟩
    rw [ht_224_1, ch_224_1, if_pos (show nI 0 - 1 < 0 from by decide), ht_224_2, ch_224_2]
  | succ k ih =>
    intro n L hi h8 hn h2 hL
    have e1 : nI (k + 1) - 1 = nI k := nI_pred k
    have g0 : ¬ nI k < 0 := nI_pos (by omega)
    have g1 : ¬ Int32.ofNat 2000 ≤ nI L := nI_ge (a := L) (b := 2000) (by omega) (by decide)
    have g2 : ¬ am_bad (nI L) 2000 := nI_in (by omega) (by decide)
    obtain ⟨n, rfl⟩ : ∃ n', n = n' + 1 := ⟨n - 1, by omega⟩
    obtain ⟨hi', r1, r2, r3, r4, r5⟩ := ih n (L + 1) (am_si (am_si hi 2 L (ty_b v k)) 1 0 (nI L + 1)) (by omega) (by omega) (by omega) (by simp [am_si, nI_1])
    refine ⟨hi', ?_, by rw [r2]; congr 1; omega, fun c j q1 q2 => ?_, fun j hj => ?_, fun j hj => ?_⟩
    · rw [e1, ht_224_1, ch_224_1, hL, if_neg g0, if_neg g1, if_neg g2, sk_224_2_5, lp_224_5, ty_b_eq v (show k < 8 by omega), nI_clamp (show L < 2 ^ 31 by omega), ← Int32.sub_eq_add_neg]
      exact r1
    · rw [r3 c j q1 q2]
      simp only [am_si]
      rw [if_neg q2]
      split
      · next e => rw [if_neg (fun h => q1 ⟨e, h⟩)]
      · rfl
    · rw [r4 j (by omega)]
      simp [am_si, Nat.ne_of_lt hj]
    · cases j with
      | zero =>
        rw [Nat.add_zero, r4 L (by omega)]
        simp [am_si]
      | succ j =>
        rw [show L + (j + 1) = (L + 1) + j by omega, r5 j (by omega)]
        congr 1
        omega
theorem ty_loopM (C : am_C) (v : Int64) (x3 : Int32) (hl : Nat → Nat → Int64) : ∀ (k n L : Nat) (hi : Nat → Nat → Int32), k ≤ 8 → k ≤ n → L + k ≤ 2000 → (hi 73 1) = nI L →
    ∃ hi' : Nat → Nat → Int32, am_fwd C (am_run C tb_r20_0 n) tb_r20_5 44 [(4, .int (nI k - 1)), (0, .ref 73), (1, .long v), (3, .int x3)] [] (pr_S, hi, hl) = some (some (.int (nI (L + k))), (pr_S, hi', hl)) ∧ (hi' 73 1) = nI (L + k) ∧ (∀ c j, ¬ (c = 73 ∧ j = 1) → c ≠ 74 → hi' c j = hi c j) ∧ (∀ j, j < L → (hi' 74) j = (hi 74) j) ∧ (∀ j, j < k → (hi' 74) (L + j) = ty_b v (k - 1 - j)) := by
  intro k
  induction k with
  | zero =>
    intro n L hi _ _ _ hL
    refine ⟨hi, ?_, by simpa using hL, fun _ _ _ _ => rfl, fun _ _ => rfl, fun j hj => absurd hj (Nat.not_lt_zero j)⟩
    rw [ht_20_5, ch_20_5, if_pos (show nI 0 - 1 < 0 from by decide), ht_20_6, ch_20_6, hL, Nat.add_zero]
  | succ k ih =>
    intro n L hi h8 hn h2 hL
    have e1 : nI (k + 1) - 1 = nI k := nI_pred k
    have g0 : ¬ nI k < 0 := nI_pos (by omega)
    have g2 : ¬ am_bad (nI L) 2000 := nI_in (by omega) (by decide)
    obtain ⟨n, rfl⟩ : ∃ n', n = n' + 1 := ⟨n - 1, by omega⟩
    obtain ⟨hi', r1, r2, r3, r4, r5⟩ := ih n (L + 1) (am_si (am_si hi 74 L (ty_b v k)) 73 1 (nI L + 1)) (by omega) (by omega) (by omega) (by simp [am_si, nI_1])
    refine ⟨hi', ?_, by rw [r2]; congr 1; omega, fun c j q1 q2 => ?_, fun j hj => ?_, fun j hj => ?_⟩
    · rw [e1, ht_20_5, ch_20_5, hL, if_neg g0, if_neg g2, sk_20_6_44, lp_20_44, nI_clamp (show L < 2 ^ 31 by omega), ← Int32.sub_eq_add_neg, show L + (k + 1) = L + 1 + k by omega]
      exact r1
    · rw [r3 c j q1 q2]
      simp only [am_si]
      rw [if_neg q2]
      split
      · next e => rw [if_neg (fun h => q1 ⟨e, h⟩)]
      · rfl
    · rw [r4 j (by omega)]
      simp [am_si, Nat.ne_of_lt hj]
    · cases j with
      | zero =>
        rw [Nat.add_zero, r4 L (by omega)]
        simp [am_si]
      | succ j =>
        rw [show L + (j + 1) = (L + 1) + j by omega, r5 j (by omega)]
        congr 1
        omega
theorem ty_append (d : Nat) (v : Int64) (k L : Nat) (hi : Nat → Nat → Int32) (hl : Nat → Nat → Int64) (h8 : k ≤ 8) (h2 : L + k ≤ 2000) (hL : (hi 1 0) = nI L) :
    ∃ hi' : Nat → Nat → Int32, am_call tb_P (d + 1) 224 [.ref 1, .long v, .int (nI k)] (pr_S, hi, hl) = some (none, (pr_S, hi', hl)) ∧ (hi' 1 0) = nI (L + k) ∧ (∀ c j, ¬ (c = 1 ∧ j = 0) → c ≠ 2 → hi' c j = hi c j) ∧ (∀ j, j < L → (hi' 2) j = (hi 2) j) ∧ (∀ j, j < k → (hi' 2) (L + j) = ty_b v (k - 1 - j)) := by
  obtain ⟨hi', r1, r2⟩ := ty_loop (am_call tb_P d) v (nI k) hl k 999999 L hi h8 (by omega) h2 hL
  refine ⟨hi', ?_, r2⟩
  rw [en_224, ht_224_0, ch_224_0]
  exact r1
/-- which numbers of bytes are good -/
theorem ty_n {x : Int32} (h0 : ¬ x < 0) (h8 : x ≤ 8) : ∃ k, k ≤ 8 ∧ x = nI k := by
  obtain ⟨j, hj, rfl⟩ := nI_of h0
  exact ⟨j, (nI_leI hj (by decide)).mp h8, rfl⟩
/-- the class's type -/
theorem ty_class (d : Nat) (v : Int64) (x : Int32) (L : Nat) (hi : Nat → Nat → Int32) (hl : Nat → Nat → Int64) (hL2 : L ≤ 2000) (hL : (hi 1 0) = nI L) :
    (((x < 0 ∨ 8 < x) ∧ am_call tb_P (d + 2) 1 [.ref 0, .long v, .int x] (pr_S, hi, hl) = some (some (.int (-2)), (pr_S, hi, hl))) ∨
     (x = 0 ∧ am_call tb_P (d + 2) 1 [.ref 0, .long v, .int x] (pr_S, hi, hl) = some (some (.int 0), (pr_S, am_si hi 1 0 0, hl))) ∨
     (∃ k, 0 < k ∧ k ≤ 8 ∧ x = nI k ∧ 2000 < L + k ∧ am_call tb_P (d + 2) 1 [.ref 0, .long v, .int x] (pr_S, hi, hl) = some (some (.int (-4)), (pr_S, hi, hl))) ∨
     (∃ k hi', 0 < k ∧ k ≤ 8 ∧ x = nI k ∧ L + k ≤ 2000 ∧ am_call tb_P (d + 2) 1 [.ref 0, .long v, .int x] (pr_S, hi, hl) = some (some (.int (nI (L + k))), (pr_S, hi', hl)) ∧ (hi' 1 0) = nI (L + k) ∧ (∀ c j, ¬ (c = 1 ∧ j = 0) → c ≠ 2 → hi' c j = hi c j) ∧ (∀ j, j < L → (hi' 2) j = (hi 2) j) ∧ (∀ j, j < k → (hi' 2) (L + j) = ty_b v (k - 1 - j)))) := by
  rw [en_1, ht_1_0, ch_1_0]
  by_cases h0 : x < 0
  · exact Or.inl ⟨Or.inl h0, by rw [if_pos h0, ht_1_1, ch_1_1]⟩
  · rw [if_neg h0]
    by_cases h8 : x ≤ 8
    · rw [if_pos h8, sk_1_1_13, ht_1_2, ch_1_2]
      by_cases hz : x = 0
      · refine Or.inr (Or.inl ⟨hz, ?_⟩)
        rw [if_neg (fun h => h hz), tt_clear, ev_rn, ch_1_4]
      · obtain ⟨k, hk, rfl⟩ := ty_n h0 h8
        have hk0 : 0 < k := Nat.pos_of_ne_zero (fun h => hz (by rw [h]; rfl))
        rw [if_pos hz, ht_1_3, ch_1_3, hL, nI_add]
        by_cases hf : L + k ≤ 2000
        · obtain ⟨hi', r1, r2, r3⟩ := ty_append d v k L hi hl hk hf hL
          refine Or.inr (Or.inr (Or.inr ⟨k, hi', hk0, hk, rfl, hf, ?_, r2, r3⟩))
          rw [if_pos (show nI (L + k) ≤ 2000 from nI_le (b := 2000) hf (by decide)), ht_1_4, ch_1_5, r1, ev_rn, ch_1_6, r2]
        · refine Or.inr (Or.inr (Or.inl ⟨k, hk0, hk, rfl, by omega, ?_⟩))
          rw [if_neg (show ¬ nI (L + k) ≤ 2000 from nI_ge (a := 2000) (by omega) (by omega))]
    · refine Or.inl ⟨Or.inr (Int32.not_le.mp h8), ?_⟩
      rw [if_neg h8, ht_1_1, ch_1_1]
/-- the reference's type -/
theorem ty_model (d : Nat) (v : Int64) (x : Int32) (L : Nat) (hi : Nat → Nat → Int32) (hl : Nat → Nat → Int64) (hL2 : L ≤ 2000) (hL : (hi 73 1) = nI L) :
    (((x < 0 ∨ 8 < x) ∧ am_call tb_P (d + 1) 20 [.ref 73, .long v, .int x] (pr_S, hi, hl) = some (some (.int (-2)), (pr_S, hi, hl))) ∨
     (x = 0 ∧ am_call tb_P (d + 1) 20 [.ref 73, .long v, .int x] (pr_S, hi, hl) = some (some (.int 0), (pr_S, am_si hi 73 1 0, hl))) ∨
     (∃ k, 0 < k ∧ k ≤ 8 ∧ x = nI k ∧ 2000 < L + k ∧ am_call tb_P (d + 1) 20 [.ref 73, .long v, .int x] (pr_S, hi, hl) = some (some (.int (-4)), (pr_S, hi, hl))) ∨
     (∃ k hi', 0 < k ∧ k ≤ 8 ∧ x = nI k ∧ L + k ≤ 2000 ∧ am_call tb_P (d + 1) 20 [.ref 73, .long v, .int x] (pr_S, hi, hl) = some (some (.int (nI (L + k))), (pr_S, hi', hl)) ∧ (hi' 73 1) = nI (L + k) ∧ (∀ c j, ¬ (c = 73 ∧ j = 1) → c ≠ 74 → hi' c j = hi c j) ∧ (∀ j, j < L → (hi' 74) j = (hi 74) j) ∧ (∀ j, j < k → (hi' 74) (L + j) = ty_b v (k - 1 - j)))) := by
  rw [en_20, ht_20_0, ch_20_0]
  by_cases h0 : x < 0
  · exact Or.inl ⟨Or.inl h0, by rw [if_pos h0, ht_20_1, ch_20_1]⟩
  · rw [if_neg h0]
    by_cases h8 : x ≤ 8
    · rw [if_pos h8, sk_20_1_13, ht_20_2, ch_20_2]
      by_cases hz : x = 0
      · refine Or.inr (Or.inl ⟨hz, ?_⟩)
        rw [if_neg (fun h => h hz)]
      · obtain ⟨k, hk, rfl⟩ := ty_n h0 h8
        have hk0 : 0 < k := Nat.pos_of_ne_zero (fun h => hz (by rw [h]; rfl))
        rw [if_pos hz, ht_20_3, ch_20_3, hL, nI_add]
        by_cases hf : L + k ≤ 2000
        · obtain ⟨hi', r1, r2, r3⟩ := ty_loopM (am_call tb_P d) v (nI k) hl k 999999 L hi hk (by omega) hf hL
          refine Or.inr (Or.inr (Or.inr ⟨k, hi', hk0, hk, rfl, hf, ?_, r2, r3⟩))
          rw [if_pos (show nI (L + k) ≤ 2000 from nI_le (b := 2000) hf (by decide)), ht_20_4, ch_20_4]
          exact r1
        · refine Or.inr (Or.inr (Or.inl ⟨k, hk0, hk, rfl, by omega, ?_⟩))
          rw [if_neg (show ¬ nI (L + k) ≤ 2000 from nI_ge (a := 2000) (by omega) (by omega))]
    · refine Or.inl ⟨Or.inr (Int32.not_le.mp h8), ?_⟩
      rw [if_neg h8, ht_20_1, ch_20_1]
