/-! the class's layers: openLayer, closeMany -/
theorem am_si_at (h : Nat → Nat → Int32) (r k : Nat) (v : Int32) : am_si h r k v r k = v := by simp [am_si]
theorem am_si_off {h : Nat → Nat → Int32} {r k c x : Nat} {v : Int32} (e : ¬ (c = r ∧ x = k)) : am_si h r k v c x = h c x := by
  unfold am_si
  split
  · split
    · rename_i u w; exact absurd ⟨u, w⟩ e
    · rfl
  · rfl
theorem ea_openLoop (d T H : Nat) (hT : T < 82) (hH : H ≤ 200) (hl : Nat → Nat → Int64) : ∀ (q j n : Nat) (hi : Nat → Nat → Int32), j + q = H → q ≤ n → (hi 39 1) = nI T → (hi 39 3) = nI H →
    ∃ hi' : Nat → Nat → Int32, am_fwd (am_call tb_P (d + 1)) (am_run (am_call tb_P (d + 1)) tb_r138_0 n) tb_r138_1 15 [(1, .int (nI j)), (0, .ref 39)] [] (pr_S, hi, hl) = some (none, (pr_S, hi', hl)) ∧ (∀ c x, ¬ (c = 40 ∧ 200 * T + j ≤ x ∧ x < 200 * T + H) → hi' c x = hi c x) ∧ (∀ t, j ≤ t → t < H → (hi' 40) (200 * T + t) = 0) := by
  intro q
  induction q with
  | zero =>
    intro j n hi h1 _ h2 h3
    have hj : j = H := by omega
    subst hj
    refine ⟨hi, ?_, fun _ _ _ => rfl, fun t h4 h5 => absurd h5 (by omega)⟩
    rw [ht_138_1, ch_138_1, h3, if_pos (Int32.le_refl _), ht_138_2, ch_138_2]
  | succ q ih =>
    intro j n hi h1 hn h2 h3
    obtain ⟨n, rfl⟩ : ∃ n', n = n' + 1 := ⟨n - 1, by omega⟩
    have g1 : ¬ nI H ≤ nI j := nI_ge (by omega) (by omega)
    obtain ⟨hi', r1, r2, r3⟩ := ih (j + 1) n (am_si hi 40 (200 * T + j) 0) (by omega) (by omega) ((am_si_off (by omega)).trans h2) ((am_si_off (by omega)).trans h3)
    refine ⟨hi', ?_, fun c x q1 => ?_, fun t h4 h5 => ?_⟩
    · rw [ht_138_1, ch_138_1, h3, if_neg g1, h2, ea_indexOf, ev_rs, ch_138_3, put_40, ev_rn, ch_138_4, sk_138_2_15, lp_138_15, ly_ix, q_put_nI (ly_in hT (by omega)) (by decide), nI_1]
      exact r1
    · rw [r2 c x (fun e => q1 ⟨e.1, by omega, e.2.2⟩)]
      exact am_si_off (fun e => q1 ⟨e.1, by omega, by omega⟩)
    · by_cases e3 : t = j
      · subst e3
        rw [r2 _ _ (fun e => absurd e.2.1 (by omega)), am_si_at]
      · exact r3 t (by omega) h5
theorem ea_openLayer (d T L H : Nat) (hT : T < 82) (hH : H ≤ 200) (hL : L ≤ H) (hi : Nat → Nat → Int32) (hl : Nat → Nat → Int64) (h1 : (hi 39 1) + 1 = nI T) (h2 : (hi 39 2) = nI L) (h3 : (hi 39 3) = nI H) :
    ∃ hi' : Nat → Nat → Int32, am_call tb_P (d + 2) 138 [.ref 39] (pr_S, hi, hl) = some (none, (pr_S, hi', hl)) ∧ (hi' 39 1) = nI T ∧ (∀ c x, ¬ (c = 39 ∧ x = 1) → ¬ (c = 40 ∧ 200 * T + L ≤ x ∧ x < 200 * T + H) → hi' c x = hi c x) ∧ (∀ t, L ≤ t → t < H → (hi' 40) (200 * T + t) = 0) := by
  obtain ⟨hi', r1, r2, r3⟩ := ea_openLoop d T H hT hH hl (H - L) L 999999 (am_si hi 39 1 (nI T)) (by omega) (by omega) (am_si_at _ _ _ _) ((am_si_off (by decide)).trans h3)
  refine ⟨hi', ?_, ?_, fun c x q1 q2 => ?_, r3⟩
  · rw [en_138, ht_138_0, ch_138_0, h1, h2]
    exact r1
  · rw [r2 _ _ (fun e => absurd e.1 (by decide)), am_si_at]
  · rw [r2 c x q2]; exact am_si_off q1
theorem ea_manyLoop (d T H : Nat) (hT : T + 1 < 82) (hH : H ≤ 200) (hl : Nat → Nat → Int64) : ∀ (q j n : Nat) (hi : Nat → Nat → Int32), j + q = H → q ≤ n → (hi 39 1) = nI (T + 1) → (hi 39 3) = nI H →
    ∃ hi' : Nat → Nat → Int32, am_fwd (am_call tb_P (d + 2)) (am_run (am_call tb_P (d + 2)) tb_r143_0 n) tb_r143_1 5 [(1, .int (nI j)), (0, .ref 39)] [] (pr_S, hi, hl) = some (none, (pr_S, hi', hl)) ∧ (hi' 39 1) = nI T ∧ (∀ c x, ¬ (c = 39 ∧ x = 1) → ¬ (c = 40 ∧ 200 * T + j ≤ x ∧ x < 200 * T + H) → hi' c x = hi c x) ∧ (∀ t, j ≤ t → t < H → (hi' 40) (200 * T + t) = us_both ((hi 40) (200 * T + t)) (us_many ((hi 40) (200 * (T + 1) + t)))) := by
  intro q
  induction q with
  | zero =>
    intro j n hi h1 _ h2 h3
    have hj : j = H := by omega
    subst hj
    refine ⟨am_si hi 39 1 (nI T), ?_, am_si_at _ _ _ _, fun c x q1 _ => am_si_off q1, fun t h4 h5 => absurd h5 (by omega)⟩
    rw [ht_143_1, ch_143_1, h3, if_pos (Int32.le_refl _), ht_143_2, ch_143_2, h2, nI_pred]
  | succ q ih =>
    intro j n hi h1 hn h2 h3
    obtain ⟨n, rfl⟩ : ∃ n', n = n' + 1 := ⟨n - 1, by omega⟩
    have g1 : ¬ nI H ≤ nI j := nI_ge (by omega) (by omega)
    have g2 : T < 82 := by omega
    have g3 : j < 200 := by omega
    obtain ⟨hi', r1, r2, r3, r4⟩ := ih (j + 1) n (am_si hi 40 (200 * T + j) (us_both ((hi 40) (200 * T + j)) (us_many ((hi 40) (200 * (T + 1) + j))))) (by omega) (by omega) ((am_si_off (by omega)).trans h2) ((am_si_off (by omega)).trans h3)
    refine ⟨hi', ?_, r2, fun c x q1 q2 => ?_, fun t h4 h5 => ?_⟩
    · rw [ht_143_1, ch_143_1, h3, if_neg g1, h2, ea_indexOf, ev_rs, ch_143_3, at_40, ev_rs, ch_143_4, ea_many, ev_rs, ch_143_5, nI_pred, ea_joinL _ _ _ _ _ _ g2 g3, ev_rn, ch_143_6, sk_143_2_5, lp_143_5, ly_ix, q_at_nI (ly_in hT g3) (by decide), nI_1]
      exact r1
    · rw [r3 c x q1 (fun e => q2 ⟨e.1, by omega, e.2.2⟩)]
      exact am_si_off (fun e => q2 ⟨e.1, by omega, by omega⟩)
    · by_cases e3 : t = j
      · subst e3
        rw [r3 _ _ (fun e => absurd e.1 (by decide)) (fun e => absurd e.2.1 (by omega)), am_si_at]
      · rw [r4 t (by omega) h5, am_si_off (fun e => e3 (by omega)), am_si_off (fun e => absurd e.2 (by omega))]
theorem ea_closeMany (d T L H : Nat) (hT : T + 1 < 82) (hH : H ≤ 200) (hL : L ≤ H) (hi : Nat → Nat → Int32) (hl : Nat → Nat → Int64) (h1 : (hi 39 1) = nI (T + 1)) (h2 : (hi 39 2) = nI L) (h3 : (hi 39 3) = nI H) :
    ∃ hi' : Nat → Nat → Int32, am_call tb_P (d + 3) 143 [.ref 39] (pr_S, hi, hl) = some (none, (pr_S, hi', hl)) ∧ (hi' 39 1) = nI T ∧ (∀ c x, ¬ (c = 39 ∧ x = 1) → ¬ (c = 40 ∧ 200 * T + L ≤ x ∧ x < 200 * T + H) → hi' c x = hi c x) ∧ (∀ t, L ≤ t → t < H → (hi' 40) (200 * T + t) = us_both ((hi 40) (200 * T + t)) (us_many ((hi 40) (200 * (T + 1) + t)))) := by
  obtain ⟨hi', r1, r2, r3, r4⟩ := ea_manyLoop d T H hT hH hl (H - L) L 999999 hi (by omega) (by omega) h1 h3
  refine ⟨hi', ?_, r2, r3, r4⟩
  rw [en_143, ht_143_0, ch_143_0, h2]
  exact r1
