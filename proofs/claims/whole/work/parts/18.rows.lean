/-! the reference's rows: meet, takenOut, emptyRow -/
def us_max (a b : Int32) : Int32 := if a < b then b else a
theorem em_meet (n t : Nat) (c : Int32) (hi : Nat → Nat → Int32) (hl : Nat → Nat → Int64) (h1 : t < 200) : am_call tb_P (n + 1) 54 [.ref 73, .int (nI t), .int c] (pr_S, hi, hl) = some (none, (pr_S, am_si hi 101 t (us_max ((hi 101) t) c), hl)) := by
  have hb : ¬ am_bad (nI t) 200 := nI_in h1 (by decide)
  have hc : (nI t).toNatClampNeg = t := nI_clamp (by omega)
  rw [en_54, ht_54_0, ch_54_0, if_neg hb, ch_54_1, if_neg hb]
  unfold us_max
  rw [hc]
theorem em_takenOut (n r t k : Nat) (hi : Nat → Nat → Int32) (hl : Nat → Nat → Int64) (hk : r + t = k) (h1 : k < 28000) (h2 : t < 200) : am_call tb_P (n + 2) 55 [.ref 73, .int (nI r), .int (nI t)] (pr_S, hi, hl) = some (some (.int (8 * (hi 99) k + (hi 100) k)), (pr_S, am_si (am_si (am_si hi 101 t (us_max ((hi 101) t) ((hi 99) k))) 99 k 0) 100 k 0, hl)) := by
  have hb : ¬ am_bad (nI k) 28000 := nI_in h1 (by decide)
  have hc : (nI k).toNatClampNeg = k := nI_clamp (by omega)
  rw [en_55, ht_55_0, ch_55_0, nI_add, hk, if_neg hb, if_neg hb, if_neg hb, em_meet _ _ _ _ _ h2, ev_rn, ch_55_1, nI_add, hk, if_neg hb, if_neg hb, hc]
theorem em_emptyLoop (C : am_C) (r : Nat) (hr : r + 200 ≤ 28000) (hl : Nat → Nat → Int64) : ∀ (q j n : Nat) (hi : Nat → Nat → Int32), j + q = 200 → q ≤ n →
    ∃ hi' : Nat → Nat → Int32, am_fwd C (am_run C tb_r51_0 n) tb_r51_1 21 [(2, .int (nI j)), (1, .int (nI r)), (0, .ref 73)] [] (pr_S, hi, hl) = some (some (.int (nI r)), (pr_S, hi', hl)) ∧ (∀ c x, c ≠ 99 → c ≠ 100 → hi' c x = hi c x) ∧ (∀ x, ¬ (r + j ≤ x ∧ x < r + 200) → (hi' 99) x = (hi 99) x ∧ (hi' 100) x = (hi 100) x) ∧ (∀ x, r + j ≤ x → x < r + 200 → (hi' 99) x = 0 ∧ (hi' 100) x = 0) := by
  intro q
  induction q with
  | zero =>
    intro j n hi h1 _
    have hj : j = 200 := by omega
    subst hj
    refine ⟨hi, ?_, fun _ _ _ _ => rfl, fun _ _ => ⟨rfl, rfl⟩, fun x h3 h4 => absurd h4 (by omega)⟩
    rw [ht_51_1, ch_51_1, if_pos (show (200 : Int32) ≤ nI 200 from by decide), ht_51_2, ch_51_2]
  | succ q ih =>
    intro j n hi h1 hn
    obtain ⟨n, rfl⟩ : ∃ n', n = n' + 1 := ⟨n - 1, by omega⟩
    have g1 : ¬ (200 : Int32) ≤ nI j := nI_ge (a := j) (b := 200) (by omega) (by decide)
    have g2 : ¬ am_bad (nI (r + j)) 28000 := nI_in (by omega) (by decide)
    have g3 : (nI (r + j)).toNatClampNeg = r + j := nI_clamp (by omega)
    obtain ⟨hi', r1, r2, r3, r4⟩ := ih (j + 1) n (am_si (am_si hi 99 (r + j) 0) 100 (r + j) 0) (by omega) (by omega)
    refine ⟨hi', ?_, fun c x q1 q2 => ?_, fun x hx => ?_, fun x h3 h4 => ?_⟩
    · rw [ht_51_1, ch_51_1, if_neg g1, nI_add, if_neg g2, if_neg g2, sk_51_2_21, lp_51_21, g3, nI_1]
      exact r1
    · rw [r2 c x q1 q2]; simp [am_si, q1, q2]
    · have e := r3 x (by omega)
      have e3 : x ≠ r + j := by omega
      refine ⟨e.1.trans ?_, e.2.trans ?_⟩ <;> simp [am_si, e3]
    · by_cases e3 : x = r + j
      · have e := r3 x (by omega)
        refine ⟨e.1.trans ?_, e.2.trans ?_⟩ <;> simp [am_si, e3]
      · exact r4 x (by omega) h4
theorem em_emptyRow (n R : Nat) (hi : Nat → Nat → Int32) (hl : Nat → Nat → Int64) (h1 : (hi 73 39) = nI R) (h2 : R < 140) :
    ∃ hi' : Nat → Nat → Int32, am_call tb_P (n + 1) 51 [.ref 73] (pr_S, hi, hl) = some (some (.int (nI (200 * R))), (pr_S, hi', hl)) ∧ (hi' 73 39) = nI (R + 1) ∧ (∀ c x, c ≠ 99 → c ≠ 100 → ¬ (c = 73 ∧ x = 39) → hi' c x = hi c x) ∧ (∀ x, ¬ (200 * R ≤ x ∧ x < 200 * R + 200) → (hi' 99) x = (hi 99) x ∧ (hi' 100) x = (hi 100) x) ∧ (∀ x, 200 * R ≤ x → x < 200 * R + 200 → (hi' 99) x = 0 ∧ (hi' 100) x = 0) := by
  obtain ⟨hi', r1, r2, r3, r4⟩ := em_emptyLoop (am_call tb_P n) (200 * R) (by omega) hl 200 0 999999 (am_si hi 73 39 (nI (R + 1))) rfl (by decide)
  refine ⟨hi', ?_, ?_, fun c x q1 q2 q3 => ?_, fun x hx => ?_, fun x h3 h4 => r4 x (by omega) h4⟩
  · rw [en_51, ht_51_0, ch_51_0, h1, show (200 : Int32) = nI 200 from rfl, pk_mul, nI_1]
    exact r1
  · rw [r2 _ _ (by decide) (by decide)]; simp [am_si]
  · rw [r2 c x q1 q2]
    unfold am_si
    split
    · split
      · rename_i u v; exact absurd ⟨u, v⟩ q3
      · rfl
    · rfl
  · have e := r3 x (by omega)
    exact ⟨e.1.trans (by simp [am_si]), e.2.trans (by simp [am_si])⟩
