/-! the class's layers: closeEither, start -/
theorem nI_pred2 (T : Nat) : nI (T + 2) - 2 = nI T := by
  rw [show (2 : Int32) = nI 2 from rfl, ← nI_add, Int32.add_sub_cancel]
theorem ea_eithLoop (d T H : Nat) (hT : T + 2 < 82) (hH : H ≤ 200) (hl : Nat → Nat → Int64) : ∀ (q j n : Nat) (x2 : Int32) (hi : Nat → Nat → Int32), j + q = H → q ≤ n → (hi 39 1) = nI (T + 2) → (hi 39 3) = nI H →
    ∃ hi' : Nat → Nat → Int32, am_fwd (am_call tb_P (d + 2)) (am_run (am_call tb_P (d + 2)) tb_r142_0 n) tb_r142_1 5 [(1, .int (nI j)), (2, .int x2), (0, .ref 39)] [] (pr_S, hi, hl) = some (none, (pr_S, hi', hl)) ∧ (hi' 39 1) = nI T ∧ (∀ c x, ¬ (c = 39 ∧ x = 1) → ¬ (c = 40 ∧ 200 * T + j ≤ x ∧ x < 200 * T + H) → hi' c x = hi c x) ∧ (∀ t, j ≤ t → t < H → (hi' 40) (200 * T + t) = us_both ((hi 40) (200 * T + t)) (us_either ((hi 40) (200 * (T + 2) + t)) ((hi 40) (200 * (T + 1) + t)))) := by
  intro q
  induction q with
  | zero =>
    intro j n x2 hi h1 _ h2 h3
    have hj : j = H := by omega
    subst hj
    refine ⟨am_si hi 39 1 (nI T), ?_, am_si_at _ _ _ _, fun c x q1 _ => am_si_off q1, fun t h4 h5 => absurd h5 (by omega)⟩
    rw [ht_142_1, ch_142_9, h3, if_pos (Int32.le_refl _), ht_142_2, ch_142_10, h2, nI_pred2]
  | succ q ih =>
    intro j n x2 hi h1 hn h2 h3
    obtain ⟨n, rfl⟩ : ∃ n', n = n' + 1 := ⟨n - 1, by omega⟩
    have g1 : ¬ nI H ≤ nI j := nI_ge (by omega) (by omega)
    have g2 : T < 82 := by omega
    have g3 : j < 200 := by omega
    have g4 : T + 1 < 82 := by omega
    have e1 : nI (T + 2) - 1 = nI (T + 1) := nI_pred (T + 1)
    obtain ⟨hi', r1, r2, r3, r4⟩ := ih (j + 1) n (us_either ((hi 40) (200 * (T + 2) + j)) ((hi 40) (200 * (T + 1) + j))) (am_si hi 40 (200 * T + j) (us_both ((hi 40) (200 * T + j)) (us_either ((hi 40) (200 * (T + 2) + j)) ((hi 40) (200 * (T + 1) + j))))) (by omega) (by omega) ((am_si_off (by omega)).trans h2) ((am_si_off (by omega)).trans h3)
    refine ⟨hi', ?_, r2, fun c x q1 q2 => ?_, fun t h4 h5 => ?_⟩
    · rw [ht_142_1, ch_142_9, h3, if_neg g1, h2, ea_indexOf, ev_rs, ch_142_11, at_40, ev_rs, ch_142_12, h2, e1, ea_indexOf, ev_rs, ch_142_13, at_40, ev_rs, ch_142_14, ea_either, ev_rs, ch_142_15, h2, nI_pred2, ea_joinL _ _ _ _ _ _ g2 g3, ev_rn, ch_142_8, sk_142_2_5, lp_142_5, ly_ix, ly_ix, q_at_nI (ly_in hT g3) (by decide), q_at_nI (ly_in g4 g3) (by decide), nI_1]
      exact r1
    · rw [r3 c x q1 (fun e => q2 ⟨e.1, by omega, e.2.2⟩)]
      exact am_si_off (fun e => q2 ⟨e.1, by omega, by omega⟩)
    · by_cases e3 : t = j
      · subst e3
        rw [r3 _ _ (fun e => absurd e.1 (by decide)) (fun e => absurd e.2.1 (by omega)), am_si_at]
      · rw [r4 t (by omega) h5, am_si_off (fun e => e3 (by omega)), am_si_off (fun e => absurd e.2 (by omega)), am_si_off (fun e => absurd e.2 (by omega))]
theorem ea_closeEither (d T L H : Nat) (hT : T + 2 < 82) (hH : H ≤ 200) (hL : L ≤ H) (hi : Nat → Nat → Int32) (hl : Nat → Nat → Int64) (h1 : (hi 39 1) = nI (T + 2)) (h2 : (hi 39 2) = nI L) (h3 : (hi 39 3) = nI H) :
    ∃ hi' : Nat → Nat → Int32, am_call tb_P (d + 3) 142 [.ref 39] (pr_S, hi, hl) = some (none, (pr_S, hi', hl)) ∧ (hi' 39 1) = nI T ∧ (∀ c x, ¬ (c = 39 ∧ x = 1) → ¬ (c = 40 ∧ 200 * T + L ≤ x ∧ x < 200 * T + H) → hi' c x = hi c x) ∧ (∀ t, L ≤ t → t < H → (hi' 40) (200 * T + t) = us_both ((hi 40) (200 * T + t)) (us_either ((hi 40) (200 * (T + 2) + t)) ((hi 40) (200 * (T + 1) + t)))) := by
  by_cases hLH : L = H
  · subst hLH
    refine ⟨am_si hi 39 1 (nI T), ?_, am_si_at _ _ _ _, fun c x q1 _ => am_si_off q1, fun t h4 h5 => absurd h5 (by omega)⟩
    rw [en_142, ht_142_0, ch_142_0, h2, ht_142_1, ch_142_1, h3, if_pos (Int32.le_refl _), ht_142_2, ch_142_2, h1, nI_pred2]
  · have g1 : ¬ nI H ≤ nI L := nI_ge (by omega) (by omega)
    have g2 : T < 82 := by omega
    have g3 : L < 200 := by omega
    have g4 : T + 1 < 82 := by omega
    have e1 : nI (T + 2) - 1 = nI (T + 1) := nI_pred (T + 1)
    obtain ⟨hi', r1, r2, r3, r4⟩ := ea_eithLoop d T H hT hH hl (H - (L + 1)) (L + 1) 999998 (us_either ((hi 40) (200 * (T + 2) + L)) ((hi 40) (200 * (T + 1) + L))) (am_si hi 40 (200 * T + L) (us_both ((hi 40) (200 * T + L)) (us_either ((hi 40) (200 * (T + 2) + L)) ((hi 40) (200 * (T + 1) + L))))) (by omega) (by omega) ((am_si_off (by omega)).trans h1) ((am_si_off (by omega)).trans h3)
    refine ⟨hi', ?_, r2, fun c x q1 q2 => ?_, fun t h4 h5 => ?_⟩
    · rw [en_142, ht_142_0, ch_142_0, h2, ht_142_1, ch_142_1, h3, if_neg g1, h1, ea_indexOf, ev_rs, ch_142_3, at_40, ev_rs, ch_142_4, h1, e1, ea_indexOf, ev_rs, ch_142_5, at_40, ev_rs, ch_142_6, ea_either, ev_rs, ch_142_7, h1, nI_pred2, ea_joinL _ _ _ _ _ _ g2 g3, ev_rn, ch_142_8, sk_142_2_5, lp_142_5 _ 999998, ly_ix, ly_ix, q_at_nI (ly_in hT g3) (by decide), q_at_nI (ly_in g4 g3) (by decide), nI_1]
      exact r1
    · rw [r3 c x q1 (fun e => q2 ⟨e.1, by omega, e.2.2⟩)]
      exact am_si_off (fun e => q2 ⟨e.1, by omega, by omega⟩)
    · by_cases e3 : t = L
      · subst e3
        rw [r3 _ _ (fun e => absurd e.1 (by decide)) (fun e => absurd e.2.1 (by omega)), am_si_at]
      · rw [r4 t (by omega) h5, am_si_off (fun e => e3 (by omega)), am_si_off (fun e => absurd e.2 (by omega)), am_si_off (fun e => absurd e.2 (by omega))]
theorem ea_startL (d L H : Nat) (hH : H ≤ 200) (hL : L ≤ H) (hi : Nat → Nat → Int32) (hl : Nat → Nat → Int64) :
    ∃ hi' : Nat → Nat → Int32, am_call tb_P (d + 3) 137 [.ref 39, .int (nI L), .int (nI H)] (pr_S, hi, hl) = some (none, (pr_S, hi', hl)) ∧ (hi' 39 1) = nI 0 ∧ (hi' 39 2) = nI L ∧ (hi' 39 3) = nI H ∧ (∀ c x, c ≠ 39 → ¬ (c = 40 ∧ L ≤ x ∧ x < H) → hi' c x = hi c x) ∧ (∀ t, L ≤ t → t < H → (hi' 40) t = 0) := by
  obtain ⟨hi', r1, r2, r3, r4⟩ := ea_openLayer d 0 L H (by decide) hH hL (am_si (am_si (am_si hi 39 1 (-1)) 39 2 (nI L)) 39 3 (nI H)) hl (by simp [am_si]; decide) (by simp [am_si]) (by simp [am_si])
  refine ⟨hi', ?_, r2, ?_, ?_, fun c x q1 q2 => ?_, fun t h4 h5 => ?_⟩
  · rw [en_137, ht_137_0, ch_137_0, r1, ev_rn, ch_137_1]
  · rw [r3 _ _ (by decide) (fun e => absurd e.1 (by decide))]; simp [am_si]
  · rw [r3 _ _ (by decide) (fun e => absurd e.1 (by decide))]; simp [am_si]
  · rw [r3 c x (fun e => q1 e.1) (fun e => q2 ⟨e.1, by omega, by omega⟩)]; simp [am_si, q1]
  · have e := r4 t h4 h5
    rwa [show 200 * 0 + t = t by omega] at e
