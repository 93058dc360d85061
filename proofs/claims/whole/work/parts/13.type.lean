/-! type: the bytes of a long; the loop that lays them -/
theorem ty_bits {v : Int64} {s : UInt64} {t : Int64} {n : Nat} (hs : (s.toBitVec % 64).toNat = n) (ht : (t.toBitVec.smod 64).toNat = n) (hn : n ≤ 56) : ((v.toUInt64 >>> s).toInt64).toInt32.toInt8 = (v >>> t).toInt32.toInt8 := by
  apply Int8.toBitVec_inj.mp
  simp only [Int32.toBitVec_toInt8, Int64.toBitVec_toInt32, UInt64.toBitVec_toInt64, UInt64.toBitVec_shiftRight, Int64.toBitVec_shiftRight, Int64.toBitVec_toUInt64]
  apply BitVec.eq_of_getLsbD_eq
  intro i hi
  rw [BitVec.getLsbD_signExtend, BitVec.getLsbD_signExtend, BitVec.getLsbD_signExtend, BitVec.getLsbD_signExtend, if_pos (show i < 32 by omega), if_pos (show i < 64 by omega), if_pos (show i < 32 by omega), if_pos (show i < 64 by omega)]
  rw [show v.toBitVec >>> (s.toBitVec % 64) = v.toBitVec >>> n by rw [← hs]; rfl]
  rw [show v.toBitVec.sshiftRight' (t.toBitVec.smod 64) = v.toBitVec.sshiftRight n by rw [← ht]; rfl]
  rw [BitVec.getLsbD_ushiftRight, BitVec.getLsbD_sshiftRight]
  have h1 : ¬ (64 ≤ i) := by omega
  have h2 : n + i < 64 := by omega
  simp [h1, h2]
theorem ty_sh : ∀ k, k < 8 → (((8 * nI k).toInt64.toUInt64 &&& Int64.toUInt64 63).toBitVec % 64).toNat = 8 * k ∧ (((8 * nI k).toInt64 &&& 63).toBitVec.smod 64).toNat = 8 * k := by decide +kernel
def ty_b (v : Int64) (k : Nat) : Int32 := vp_nar .byte ((v >>> ((8 * nI k).toInt64 &&& 63)).toInt32.toInt8.toInt32)
theorem ty_b_eq (v : Int64) {k : Nat} (h : k < 8) : vp_nar .byte ((((v.toUInt64 >>> ((8 * nI k).toInt64.toUInt64 &&& Int64.toUInt64 63)).toInt64).toInt32).toInt8.toInt32) = ty_b v k := by
  unfold ty_b
  rw [ty_bits (ty_sh k h).1 (ty_sh k h).2 (by omega)]
/-- the class's loop: bytes k, k - 1, .. 0 come behind the text -/
def ty_lay (f : Nat → Int32) (v : Int64) (L : Nat) : Nat → Nat → Int32
  | 0 => f
  | k + 1 => ty_lay (upd f L (ty_b v k)) v (L + 1) k
theorem ty_loop (C : am_C) (v : Int64) (x3 : Int32) (hl : Nat → Nat → Int64) : ∀ (k n L : Nat) (hi : Nat → Nat → Int32), k ≤ 8 → k ≤ n → L + k ≤ 2000 → (hi 1 0) = nI L →
    ∃ hi' : Nat → Nat → Int32, am_fwd C (am_run C tb_r224_0 n) tb_r224_1 5 [(4, .int (nI k - 1)), (0, .ref 1), (1, .long v), (3, .int x3)] [] (pr_S, hi, hl) = some (none, (pr_S, hi', hl)) ∧ (hi' 1 0) = nI (L + k) ∧ (∀ c j, ¬ (c = 1 ∧ j = 0) → c ≠ 2 → hi' c j = hi c j) ∧ (∀ j, j < L → (hi' 2) j = (hi 2) j) ∧ (∀ j, j < k → (hi' 2) (L + j) = ty_b v (k - 1 - j)) := by
  intro k
  induction k with
  | zero =>
    intro n L hi _ _ _ hL
    refine ⟨hi, ?_, by simpa using hL, fun _ _ _ _ => rfl, fun _ _ => rfl, fun j hj => absurd hj (Nat.not_lt_zero j)⟩
    rw [ht_224_1, ch_224_1, if_pos (show nI 0 - 1 < 0 from by decide), ht_224_2, ch_224_2]
  | succ k ih =>
    intro n L hi h8 hn h2 hL
    have e1 : nI (k + 1) - 1 = nI k := nI_pred k
    have g0 : ¬ nI k < 0 := nI_pos (by omega)
    have g1 : ¬ Int32.ofNat 2000 ≤ nI L := nI_ge (a := L) (b := 2000) (by omega) (by decide)
    have g2 : ¬ am_bad (nI L) 2000 := nI_in (by omega) (by decide)
    obtain ⟨n, rfl⟩ : ∃ n', n = n' + 1 := ⟨n - 1, by omega⟩
    obtain ⟨hi', r1, r2, r3, r4, r5⟩ := ih n (L + 1) (am_si (am_si hi 2 L (ty_b v k)) 1 0 (nI L + 1)) (by omega) (by omega) (by omega) (by simp [am_si, nI_1])
    refine ⟨hi', ?_, by rw [r2]; congr 1; omega, fun c j q1 q2 => ?_, fun j hj => ?_, fun j hj => ?_⟩
    · rw [e1, ht_224_1, ch_224_1, hL, if_neg g0, if_neg g1, if_neg g2, sk_224_2_5, lp_224_5, ty_b_eq v (show k < 8 by omega), nI_clamp (show L < 2 ^ 31 by omega), ← Int32.sub_eq_add_neg]
      exact r1
    · rw [r3 c j q1 q2]
      simp only [am_si]
      rw [if_neg q2]
      split
      · next e => rw [if_neg (fun h => q1 ⟨e, h⟩)]
      · rfl
    · rw [r4 j (by omega)]
      simp [am_si, Nat.ne_of_lt hj]
    · cases j with
      | zero =>
        rw [Nat.add_zero, r4 L (by omega)]
        simp [am_si]
      | succ j =>
        rw [show L + (j + 1) = (L + 1) + j by omega, r5 j (by omega)]
        congr 1
        omega
