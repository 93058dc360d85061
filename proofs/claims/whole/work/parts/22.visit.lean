/-! the class's foreteller: foretellArgument, afterLet, headDemand, visitPair -/
/-- the heap behind a push at height W -/
def fp_push (hi : Nat → Nat → Int32) (W : Nat) (x y z : Int32) : Nat → Nat → Int32 := am_si (am_si (am_si (am_si hi 42 W x) 43 W y) 44 W z) 38 7 (nI (W + 1))
/-- the heap behind an add at the top layer -/
def fp_add (hi : Nat → Nat → Int32) (T t : Nat) (u : Int32) : Nat → Nat → Int32 := am_si hi 40 (200 * T + t) (us_both ((hi 40) (200 * T + t)) u)
theorem fp_off {hi : Nat → Nat → Int32} {W : Nat} {x y z : Int32} {c : Nat} (h : c ≠ 42 ∧ c ≠ 43 ∧ c ≠ 44 ∧ c ≠ 38) : fp_push hi W x y z c = hi c := by
  unfold fp_push
  rw [am_si_ne h.2.2.2, am_si_ne h.2.2.1, am_si_ne h.2.1, am_si_ne h.1]
theorem fp_wait (hi : Nat → Nat → Int32) (W : Nat) (x y z : Int32) : fp_push hi W x y z 38 7 = nI (W + 1) := am_si_at _ _ _ _
theorem ea_argue (d W k : Nat) (u : Int32) (hi : Nat → Nat → Int32) (hl : Nat → Nat → Int64) (h1 : (hi 38 7) = nI W) (h2 : W < 4000) (h3 : k < 4000) (h4 : (hi 26) k ≠ 1) : am_call tb_P (d + 2) 112 [.ref 38, .int (nI k), .int u] (pr_S, hi, hl) = some (none, (pr_S, (if u = 0 then hi else fp_push hi W 0 (nI k) (u &&& 7)), hl)) := by
  rw [en_112, ht_112_0, ch_112_0]
  by_cases h5 : u = 0
  · rw [if_neg (fun h => h h5), if_pos h5]
  rw [if_pos h5, if_neg h5, ht_112_1, ch_112_1, at_26, ev_rs, ch_112_2, q_at_nI h3 (by decide), if_pos h4, ht_112_2, ch_112_3, ea_push _ W _ _ _ _ _ h1 h2, ev_rn, ch_112_5, ht_112_3, ch_112_7]
  rfl
theorem ea_argueThing (d T k t : Nat) (u : Int32) (hi : Nat → Nat → Int32) (hl : Nat → Nat → Int64) (h1 : (hi 39 1) = nI T) (h2 : T < 82) (h3 : k < 4000) (h4 : (hi 26) k = 1) (h6 : (hi 27) k = nI t) (h7 : t < 200) : am_call tb_P (d + 3) 112 [.ref 38, .int (nI k), .int u] (pr_S, hi, hl) = some (none, (pr_S, (if u = 0 then hi else fp_add hi T t u), hl)) := by
  rw [en_112, ht_112_0, ch_112_0]
  by_cases h5 : u = 0
  · rw [if_neg (fun h => h h5), if_pos h5]
  rw [if_pos h5, if_neg h5, ht_112_1, ch_112_1, at_26, ev_rs, ch_112_2, q_at_nI h3 (by decide), if_neg (fun h => h h4), at_27, ev_rs, ch_112_4, q_at_nI h3 (by decide), h6, ea_addL _ T t _ _ _ h1 h2 h7, ev_rn, ch_112_6, sk_112_2_52, ht_112_3, ch_112_7]
  rfl
theorem ea_afterLet (d W k : Nat) (u : Int32) (hi : Nat → Nat → Int32) (hl : Nat → Nat → Int64) (h1 : (hi 38 7) = nI W) (h2 : W < 4000) (h3 : k < 4000) : am_call tb_P (d + 2) 113 [.ref 38, .int (nI k), .int u] (pr_S, hi, hl) = some (none, (pr_S, (if u = 0 then hi else fp_push hi W 0 ((hi 28) k) (u &&& 7)), hl)) := by
  rw [en_113, ht_113_0, ch_113_0]
  by_cases h5 : u = 0
  · rw [if_pos h5, if_pos h5, ht_113_1, ch_113_1]
  rw [if_neg h5, if_neg h5, at_28, ev_rs, ch_113_2, q_at_nI h3 (by decide), ea_push _ W _ _ _ _ _ h1 h2, ev_rn, ch_113_3, ht_113_1, ch_113_1]
  rfl
def us_hd (m d : Int32) : Int32 := if d = 0 ∧ ¬ 3 < m then m else 4
theorem ea_headDemand (d : Nat) (m D : Int32) (hi : Nat → Nat → Int32) (hl : Nat → Nat → Int64) : am_call tb_P (d + 1) 118 [.int m, .int D] (pr_S, hi, hl) = some (some (.int (us_hd m D)), (pr_S, hi, hl)) := by
  rw [en_118, ht_118_0, ch_118_0]
  unfold us_hd
  by_cases h1 : D = 0
  · rw [if_neg (fun h => h h1)]
    by_cases h2 : 3 < m
    · rw [if_pos h2, if_neg (c := D = 0 ∧ ¬ 3 < m) (fun h => h.2 h2), ht_118_1, ch_118_1, ht_118_2, ch_118_2]
    · rw [if_neg h2, if_pos (c := D = 0 ∧ ¬ 3 < m) ⟨h1, h2⟩, sk_118_1_14, ht_118_2, ch_118_2]
  · rw [if_pos h1, if_neg (c := D = 0 ∧ ¬ 3 < m) (fun h => h1 h.1), ht_118_1, ch_118_1, ht_118_2, ch_118_2]
theorem ea_visitPair (d W k : Nat) (D : Int32) (hi : Nat → Nat → Int32) (hl : Nat → Nat → Int64) (h1 : (hi 38 7) = nI W) (h2 : W + 1 < 4000) (h3 : k < 4000) : am_call tb_P (d + 2) 114 [.ref 38, .int (nI k), .int D] (pr_S, hi, hl) = some (none, (pr_S, (if D = 0 then hi else fp_push (fp_push hi W 1 ((hi 28) k) 20) (W + 1) 1 ((hi 29) k) 20), hl)) := by
  have h2' : W < 4000 := by omega
  rw [en_114, ht_114_0, ch_114_0]
  by_cases h5 : D = 0
  · rw [if_pos h5, if_pos h5, ht_114_1, ch_114_1]
  rw [if_neg h5, if_neg h5, at_28, ev_rs, ch_114_2, q_at_nI h3 (by decide), ea_push _ W _ _ _ _ _ h1 h2', ev_rn, ← fp_push, ch_114_3, at_29, ev_rs, ch_114_4, q_at_nI h3 (by decide), ea_push _ (W + 1) _ _ _ _ _ (fp_wait _ _ _ _ _) h2, ev_rn, ch_114_5, ht_114_1, ch_114_1, fp_off (c := 29) (by decide)]
  rfl
