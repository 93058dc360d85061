/-! Arrays.fill at four rows -/
def fl_h (h : Nat → Nat → Int32) (r : Nat) (v : Int32) (i : Nat) : Nat → Nat → Int32 := fun c x => if c = r ∧ x < i then v else h c x
theorem fl_c {h : Nat → Nat → Int32} {r i c : Nat} {v : Int32} (hc : c ≠ r) : fl_h h r v i c = h c := by
  funext x
  exact if_neg (fun e => hc e.1)
theorem fl_0 (h : Nat → Nat → Int32) (r : Nat) (v : Int32) : fl_h h r v 0 = h := by
  funext c x
  exact if_neg (by omega)
theorem fl_1 (h : Nat → Nat → Int32) (r : Nat) (v : Int32) (i : Nat) : am_si (fl_h h r v i) r i v = fl_h h r v (i + 1) := by
  funext c x
  unfold am_si fl_h
  by_cases c1 : c = r
  · rw [if_pos c1]
    by_cases c2 : x = i
    · rw [if_pos c2, if_pos (by omega)]
    · rw [if_neg c2]
      by_cases c3 : c = r ∧ x < i
      · rw [if_pos c3, if_pos (by omega)]
      · rw [if_neg c3, if_neg (by omega)]
  · rw [if_neg c1, if_neg (fun e => c1 e.1), if_neg (fun e => c1 e.1)]
theorem fl_in {h : Nat → Nat → Int32} {r i x : Nat} {v : Int32} (hx : x < i) : fl_h h r v i r x = v := if_pos ⟨rfl, hx⟩
theorem fl_out {h : Nat → Nat → Int32} {r i x : Nat} {v : Int32} (hx : i ≤ x) : fl_h h r v i r x = h r x := if_neg (by omega)
theorem fl_lp36 (C : am_C) (v : Int32) (h : Nat → Nat → Int32) (hl : Nat → Nat → Int64) : ∀ (q i n : Nat), i + q = 192 → q ≤ n → am_fwd C (am_run C tb_r237_0 n) tb_r237_1 5 [(3, .int (Int32.ofNat 192)), (2, .int (nI i)), (0, .ref 36), (1, .int v)] [] (pr_S, fl_h h 36 v i, hl) = some (none, (pr_S, fl_h h 36 v 192, hl)) := by
  intro q
  induction q with
  | zero =>
    intro i n h1 h2
    have e1 : i = 192 := by omega
    subst e1
    rw [ht_237_36_1, ch_237_36_1, show (Int32.ofNat 192 : Int32) = nI 192 from rfl, if_pos (nI_le (Nat.le_refl _) (by decide)), ht_237_36_2, ch_237_36_2]
  | succ q ih =>
    intro i n h1 h2
    obtain ⟨n, rfl⟩ : ∃ n', n = n' + 1 := ⟨n - 1, by omega⟩
    have p := ih (i + 1) n (by omega) (by omega)
    rw [ht_237_36_1, ch_237_36_1, show (Int32.ofNat 192 : Int32) = nI 192 from rfl, if_neg (nI_ge (b := 192) (by omega) (by decide)), if_neg (nI_in (by omega) (by decide)), sk_237_36_2_5, nI_clamp (by omega), fl_1, nI_1, lp_237_36_5]
    exact mo_f (Nat.le_refl _) (by repeat (first | exact trivial | refine And.intro rfl ?_)) rfl p
theorem fl_36 (d : Nat) (v : Int32) (h : Nat → Nat → Int32) (hl : Nat → Nat → Int64) : am_call tb_P (d + 1) 237 [.ref 36, .int v] (pr_S, h, hl) = some (none, (pr_S, fl_h h 36 v 192, hl)) := by
  have k := fl_lp36 (am_call tb_P d) v h hl 192 0 999999 (by omega) (by omega)
  rw [fl_0] at k
  rw [en_237_36, ht_237_36_0, ch_237_36_0]
  exact k
theorem fl_lp41 (C : am_C) (v : Int32) (h : Nat → Nat → Int32) (hl : Nat → Nat → Int64) : ∀ (q i n : Nat), i + q = 200 → q ≤ n → am_fwd C (am_run C tb_r237_0 n) tb_r237_1 5 [(3, .int (Int32.ofNat 200)), (2, .int (nI i)), (0, .ref 41), (1, .int v)] [] (pr_S, fl_h h 41 v i, hl) = some (none, (pr_S, fl_h h 41 v 200, hl)) := by
  intro q
  induction q with
  | zero =>
    intro i n h1 h2
    have e1 : i = 200 := by omega
    subst e1
    rw [ht_237_41_1, ch_237_41_1, show (Int32.ofNat 200 : Int32) = nI 200 from rfl, if_pos (nI_le (Nat.le_refl _) (by decide)), ht_237_41_2, ch_237_41_2]
  | succ q ih =>
    intro i n h1 h2
    obtain ⟨n, rfl⟩ : ∃ n', n = n' + 1 := ⟨n - 1, by omega⟩
    have p := ih (i + 1) n (by omega) (by omega)
    rw [ht_237_41_1, ch_237_41_1, show (Int32.ofNat 200 : Int32) = nI 200 from rfl, if_neg (nI_ge (b := 200) (by omega) (by decide)), if_neg (nI_in (by omega) (by decide)), sk_237_41_2_5, nI_clamp (by omega), fl_1, nI_1, lp_237_41_5]
    exact mo_f (Nat.le_refl _) (by repeat (first | exact trivial | refine And.intro rfl ?_)) rfl p
theorem fl_41 (d : Nat) (v : Int32) (h : Nat → Nat → Int32) (hl : Nat → Nat → Int64) : am_call tb_P (d + 1) 237 [.ref 41, .int v] (pr_S, h, hl) = some (none, (pr_S, fl_h h 41 v 200, hl)) := by
  have k := fl_lp41 (am_call tb_P d) v h hl 200 0 999999 (by omega) (by omega)
  rw [fl_0] at k
  rw [en_237_41, ht_237_41_0, ch_237_41_0]
  exact k
theorem fl_lp46 (C : am_C) (v : Int32) (h : Nat → Nat → Int32) (hl : Nat → Nat → Int64) : ∀ (q i n : Nat), i + q = 7 → q ≤ n → am_fwd C (am_run C tb_r237_0 n) tb_r237_1 5 [(3, .int (Int32.ofNat 7)), (2, .int (nI i)), (0, .ref 46), (1, .int v)] [] (pr_S, fl_h h 46 v i, hl) = some (none, (pr_S, fl_h h 46 v 7, hl)) := by
  intro q
  induction q with
  | zero =>
    intro i n h1 h2
    have e1 : i = 7 := by omega
    subst e1
    rw [ht_237_46_1, ch_237_46_1, show (Int32.ofNat 7 : Int32) = nI 7 from rfl, if_pos (nI_le (Nat.le_refl _) (by decide)), ht_237_46_2, ch_237_46_2]
  | succ q ih =>
    intro i n h1 h2
    obtain ⟨n, rfl⟩ : ∃ n', n = n' + 1 := ⟨n - 1, by omega⟩
    have p := ih (i + 1) n (by omega) (by omega)
    rw [ht_237_46_1, ch_237_46_1, show (Int32.ofNat 7 : Int32) = nI 7 from rfl, if_neg (nI_ge (b := 7) (by omega) (by decide)), if_neg (nI_in (by omega) (by decide)), sk_237_46_2_5, nI_clamp (by omega), fl_1, nI_1, lp_237_46_5]
    exact mo_f (Nat.le_refl _) (by repeat (first | exact trivial | refine And.intro rfl ?_)) rfl p
theorem fl_46 (d : Nat) (v : Int32) (h : Nat → Nat → Int32) (hl : Nat → Nat → Int64) : am_call tb_P (d + 1) 237 [.ref 46, .int v] (pr_S, h, hl) = some (none, (pr_S, fl_h h 46 v 7, hl)) := by
  have k := fl_lp46 (am_call tb_P d) v h hl 7 0 999999 (by omega) (by omega)
  rw [fl_0] at k
  rw [en_237_46, ht_237_46_0, ch_237_46_0]
  exact k
theorem fl_lp47 (C : am_C) (v : Int32) (h : Nat → Nat → Int32) (hl : Nat → Nat → Int64) : ∀ (q i n : Nat), i + q = 200 → q ≤ n → am_fwd C (am_run C tb_r237_0 n) tb_r237_1 5 [(3, .int (Int32.ofNat 200)), (2, .int (nI i)), (0, .ref 47), (1, .int v)] [] (pr_S, fl_h h 47 v i, hl) = some (none, (pr_S, fl_h h 47 v 200, hl)) := by
  intro q
  induction q with
  | zero =>
    intro i n h1 h2
    have e1 : i = 200 := by omega
    subst e1
    rw [ht_237_47_1, ch_237_47_1, show (Int32.ofNat 200 : Int32) = nI 200 from rfl, if_pos (nI_le (Nat.le_refl _) (by decide)), ht_237_47_2, ch_237_47_2]
  | succ q ih =>
    intro i n h1 h2
    obtain ⟨n, rfl⟩ : ∃ n', n = n' + 1 := ⟨n - 1, by omega⟩
    have p := ih (i + 1) n (by omega) (by omega)
    rw [ht_237_47_1, ch_237_47_1, show (Int32.ofNat 200 : Int32) = nI 200 from rfl, if_neg (nI_ge (b := 200) (by omega) (by decide)), if_neg (nI_in (by omega) (by decide)), sk_237_47_2_5, nI_clamp (by omega), fl_1, nI_1, lp_237_47_5]
    exact mo_f (Nat.le_refl _) (by repeat (first | exact trivial | refine And.intro rfl ?_)) rfl p
theorem fl_47 (d : Nat) (v : Int32) (h : Nat → Nat → Int32) (hl : Nat → Nat → Int64) : am_call tb_P (d + 1) 237 [.ref 47, .int v] (pr_S, h, hl) = some (none, (pr_S, fl_h h 47 v 200, hl)) := by
  have k := fl_lp47 (am_call tb_P d) v h hl 200 0 999999 (by omega) (by omega)
  rw [fl_0] at k
  rw [en_237_47, ht_237_47_0, ch_237_47_0]
  exact k
