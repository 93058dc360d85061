/-! the reference's analyse -/
def tm_h (sz : Nat → Nat) (h : Nat → Nat → Int32) (r i : Nat) : Nat → Nat → Int32 := fun c x => if c = 97 ∧ ((2 * (x / 8) + x % 8 / 4 < r ∧ x % 4 < sz (x / 8)) ∨ (2 * (x / 8) + x % 8 / 4 = r ∧ x % 4 < i)) then h 102 x else if c = 98 ∧ ((2 * (x / 8) + x % 8 / 4 < r ∧ x % 4 < sz (x / 8)) ∨ (2 * (x / 8) + x % 8 / 4 = r ∧ x % 4 < i)) then h 103 x else h c x
section PG
variable {hi : Nat → Nat → Int32} {hl : Nat → Nat → Int64} {nd nt nn hf : Nat} {sz L bd st : Nat → Nat}
theorem tm_c {h : Nat → Nat → Int32} {r i c : Nat} (h1 : c ≠ 97) (h2 : c ≠ 98) : tm_h sz h r i c = h c := by
  funext x
  unfold tm_h
  rw [if_neg (fun e => h1 e.1), if_neg (fun e => h2 e.1)]
theorem tm_0 {h : Nat → Nat → Int32} : tm_h sz h 0 0 = h := by
  funext c x
  unfold tm_h
  rw [if_neg (fun e => by rcases e.2 with a | a <;> omega), if_neg (fun e => by rcases e.2 with a | a <;> omega)]
theorem tm_up {h : Nat → Nat → Int32} {r : Nat} : tm_h sz h r (sz (r / 2)) = tm_h sz h (r + 1) 0 := by
  funext c x
  have e : ((2 * (x / 8) + x % 8 / 4 < r ∧ x % 4 < sz (x / 8)) ∨ (2 * (x / 8) + x % 8 / 4 = r ∧ x % 4 < sz (r / 2))) ↔ ((2 * (x / 8) + x % 8 / 4 < r + 1 ∧ x % 4 < sz (x / 8)) ∨ (2 * (x / 8) + x % 8 / 4 = r + 1 ∧ x % 4 < 0)) := by
    constructor
    · rintro (a | a)
      · exact Or.inl ⟨by omega, a.2⟩
      · refine Or.inl ⟨by omega, ?_⟩
        rw [show x / 8 = r / 2 by omega]; exact a.2
    · rintro (a | a)
      · by_cases q : 2 * (x / 8) + x % 8 / 4 = r
        · refine Or.inr ⟨q, ?_⟩
          rw [show r / 2 = x / 8 by omega]; exact a.2
        · exact Or.inl ⟨by omega, a.2⟩
      · omega
  unfold tm_h
  simp only [e]
theorem tm_1 {h : Nat → Nat → Int32} {r i j : Nat} (hi4 : i < 4) (hj : 8 * (r / 2) + 4 * (r % 2) + i = j) : am_si (am_si (tm_h sz h r i) 97 j (h 102 j)) 98 j (h 103 j) = tm_h sz h r (i + 1) := by
  funext c x
  have e : ¬ x = j → (((2 * (x / 8) + x % 8 / 4 < r ∧ x % 4 < sz (x / 8)) ∨ (2 * (x / 8) + x % 8 / 4 = r ∧ x % 4 < i)) ↔ ((2 * (x / 8) + x % 8 / 4 < r ∧ x % 4 < sz (x / 8)) ∨ (2 * (x / 8) + x % 8 / 4 = r ∧ x % 4 < i + 1))) := by
    intro hx
    constructor
    · rintro (a | a)
      · exact Or.inl a
      · exact Or.inr ⟨a.1, by omega⟩
    · rintro (a | a)
      · exact Or.inl a
      · exact Or.inr ⟨a.1, by omega⟩
  have e2 : x = j → ((2 * (x / 8) + x % 8 / 4 < r ∧ x % 4 < sz (x / 8)) ∨ (2 * (x / 8) + x % 8 / 4 = r ∧ x % 4 < i + 1)) := fun hx => Or.inr ⟨by omega, by omega⟩
  by_cases hx : x = j
  · have e3 := e2 hx
    unfold am_si tm_h
    by_cases c1 : c = 98
    · rw [if_pos c1, if_pos hx, if_neg (by omega), if_pos ⟨c1, e3⟩, hx]
    · rw [if_neg c1]
      by_cases c2 : c = 97
      · rw [if_pos c2, if_pos hx, if_pos ⟨c2, e3⟩, hx]
      · rw [if_neg c2, if_neg (fun z => c2 z.1), if_neg (fun z => c1 z.1), if_neg (fun z => c2 z.1), if_neg (fun z => c1 z.1)]
  · have e3 := e hx
    rw [am_si_off (fun z => hx z.2), am_si_off (fun z => hx z.2)]
    unfold tm_h
    simp only [e3]
theorem tm_in (d r : Nat) (x1 : Int32) (h : Nat → Nat → Int32) (res : Option Value × am_G) (hr : r / 2 < 24) (hw : sz (r / 2) ≤ 4) (hf2 : hf < 2) (g7 : h 73 7 = nI hf) (gs : h 90 (24 * hf + r / 2) = nI (sz (r / 2))) (n2 : Nat) (k : am_fwd (am_call tb_P d) (am_run (am_call tb_P d) tb_r64_0 n2) tb_r64_5 52 [(3, .int (nI (r % 2 + 1))), (2, .int (nI (r / 2))), (1, .int x1), (0, .ref 73)] [] (pr_S, tm_h sz h r (sz (r / 2)), hl) = some res) : ∀ (q i n : Nat), i + q = sz (r / 2) → n2 + q + 1 ≤ n →
    am_fwd (am_call tb_P d) (am_run (am_call tb_P d) tb_r64_0 n) tb_r64_6 60 [(4, .int (nI i)), (3, .int (nI (r % 2))), (2, .int (nI (r / 2))), (1, .int x1), (0, .ref 73)] [] (pr_S, tm_h sz h r i, hl) = some res := by
  intro q
  have G7 : ∀ i, tm_h sz h r i 73 7 = nI hf := fun i => by rw [tm_c (by decide) (by decide)]; exact g7
  have Gs : ∀ i, tm_h sz h r i 90 (24 * hf + r / 2) = nI (sz (r / 2)) := fun i => by rw [tm_c (by decide) (by decide)]; exact gs
  induction q with
  | zero =>
    intro i n h1 h2
    obtain ⟨n, rfl⟩ : ∃ n', n = n' + 1 := ⟨n - 1, by omega⟩
    have e1 : i = sz (r / 2) := by omega
    subst e1
    rw [ht_64_6, ch_64_11]; (try simp +decide (disch := omega) only [ni_bF, nI_clamp, nI_add, pk_mul, dc_ltT, dc_ltF, dc_leT, dc_leF, dc_eqF, dc_neT, dn_eq, dn_ne, dn_lt, dn_ge, si_at, si_c, si_k, q_at_nI, q_put_nI, ne_eq, not_false_eq_true, not_true_eq_false, ↓reduceIte, v0_ltT, v0_ltF, v0_gtT, v0_gtF, v0_leT, v0_leF, v0_geT, v0_geF, v0_eqT, v0_eqF, v0_add, v0_dda, v0_mul, v0_lum, v0_sub, v0_bad, v0_cl, v1_ltT, v1_ltF, v1_gtT, v1_gtF, v1_leT, v1_leF, v1_geT, v1_geF, v1_eqT, v1_eqF, v1_add, v1_dda, v1_mul, v1_lum, v1_sub, v1_bad, v1_cl, v4_ltT, v4_ltF, v4_gtT, v4_gtF, v4_leT, v4_leF, v4_geT, v4_geF, v4_eqT, v4_eqF, v4_add, v4_dda, v4_mul, v4_lum, v4_sub, v4_bad, v4_cl, v8_ltT, v8_ltF, v8_gtT, v8_gtF, v8_leT, v8_leF, v8_geT, v8_geF, v8_eqT, v8_eqF, v8_add, v8_dda, v8_mul, v8_lum, v8_sub, v8_bad, v8_cl, v24_ltT, v24_ltF, v24_gtT, v24_gtF, v24_leT, v24_leF, v24_geT, v24_geF, v24_eqT, v24_eqF, v24_add, v24_dda, v24_mul, v24_lum, v24_sub, v24_bad, v24_cl, G7, Gs]); rw [ht_64_7, ch_64_15]; (try simp +decide (disch := omega) only [ni_bF, nI_clamp, nI_add, pk_mul, dc_ltT, dc_ltF, dc_leT, dc_leF, dc_eqF, dc_neT, dn_eq, dn_ne, dn_lt, dn_ge, si_at, si_c, si_k, q_at_nI, q_put_nI, ne_eq, not_false_eq_true, not_true_eq_false, ↓reduceIte, v0_ltT, v0_ltF, v0_gtT, v0_gtF, v0_leT, v0_leF, v0_geT, v0_geF, v0_eqT, v0_eqF, v0_add, v0_dda, v0_mul, v0_lum, v0_sub, v0_bad, v0_cl, v1_ltT, v1_ltF, v1_gtT, v1_gtF, v1_leT, v1_leF, v1_geT, v1_geF, v1_eqT, v1_eqF, v1_add, v1_dda, v1_mul, v1_lum, v1_sub, v1_bad, v1_cl, G7, Gs]); rw [sk_64_8_52, lp_64_52]
    exact mo_f (by omega) (by repeat (first | exact trivial | refine And.intro rfl ?_)) rfl k
  | succ q ih =>
    intro i n h1 h2
    obtain ⟨n, rfl⟩ : ∃ n', n = n' + 1 := ⟨n - 1, by omega⟩
    have p := ih (i + 1) n (by omega) (by omega)
    have e1 : tm_h sz h r i 102 = h 102 := tm_c (by decide) (by decide)
    have e2 : tm_h sz h r i 103 = h 103 := tm_c (by decide) (by decide)
    have s := tm_1 (sz := sz) (h := h) (r := r) (i := i) (by omega) rfl
    rw [ht_64_6, ch_64_11]; (try simp +decide (disch := omega) only [ni_bF, nI_clamp, nI_add, pk_mul, dc_ltT, dc_ltF, dc_leT, dc_leF, dc_eqF, dc_neT, dn_eq, dn_ne, dn_lt, dn_ge, si_at, si_c, si_k, q_at_nI, q_put_nI, ne_eq, not_false_eq_true, not_true_eq_false, ↓reduceIte, v0_ltT, v0_ltF, v0_gtT, v0_gtF, v0_leT, v0_leF, v0_geT, v0_geF, v0_eqT, v0_eqF, v0_add, v0_dda, v0_mul, v0_lum, v0_sub, v0_bad, v0_cl, v1_ltT, v1_ltF, v1_gtT, v1_gtF, v1_leT, v1_leF, v1_geT, v1_geF, v1_eqT, v1_eqF, v1_add, v1_dda, v1_mul, v1_lum, v1_sub, v1_bad, v1_cl, v4_ltT, v4_ltF, v4_gtT, v4_gtF, v4_leT, v4_leF, v4_geT, v4_geF, v4_eqT, v4_eqF, v4_add, v4_dda, v4_mul, v4_lum, v4_sub, v4_bad, v4_cl, v8_ltT, v8_ltF, v8_gtT, v8_gtF, v8_leT, v8_leF, v8_geT, v8_geF, v8_eqT, v8_eqF, v8_add, v8_dda, v8_mul, v8_lum, v8_sub, v8_bad, v8_cl, v24_ltT, v24_ltF, v24_gtT, v24_gtF, v24_leT, v24_leF, v24_geT, v24_geF, v24_eqT, v24_eqF, v24_add, v24_dda, v24_mul, v24_lum, v24_sub, v24_bad, v24_cl, G7, Gs, e1, e2]); rw [sk_64_7_60, s, lp_64_60]
    exact mo_f (Nat.le_refl _) (by repeat (first | exact trivial | refine And.intro rfl ?_)) rfl p
theorem tm_loop (d : Nat) (x1 : Int32) (h : Nat → Nat → Int32) (res : Option Value × am_G) (hnd : nd ≤ 24) (hw : ∀ e, e < nd → sz e ≤ 4 ∧ h 90 (24 * hf + e) = nI (sz e)) (hf2 : hf < 2) (g7 : h 73 7 = nI hf) (gd : h 85 hf = nI nd) (n2 : Nat) (k : am_fwd (am_call tb_P d) (am_run (am_call tb_P d) tb_r64_0 n2) tb_r64_1 7 [(1, .int x1), (0, .ref 73)] [] (pr_S, tm_h sz h (2 * nd) 0, hl) = some res) : ∀ (q r n : Nat), r + (q + 1) = 2 * nd → n2 + 9 * (q + 1) ≤ n →
    am_fwd (am_call tb_P d) (am_run (am_call tb_P d) tb_r64_0 n) tb_r64_5 52 [(3, .int (nI (r % 2))), (2, .int (nI (r / 2))), (1, .int x1), (0, .ref 73)] [] (pr_S, tm_h sz h r 0, hl) = some res := by
  intro q
  have G7 : ∀ r i, tm_h sz h r i 73 7 = nI hf := fun r i => by rw [tm_c (by decide) (by decide)]; exact g7
  have Gd : ∀ r i, tm_h sz h r i 85 hf = nI nd := fun r i => by rw [tm_c (by decide) (by decide)]; exact gd
  induction q with
  | zero =>
    intro r n h1 h2
    have w := hw (r / 2) (by omega)
    have e1 : r % 2 + 1 = 2 := by omega
    have e2 : r / 2 + 1 = nd := by omega
    have kk : am_fwd (am_call tb_P d) (am_run (am_call tb_P d) tb_r64_0 (n2 + 2)) tb_r64_5 52 [(3, .int (nI (r % 2 + 1))), (2, .int (nI (r / 2))), (1, .int x1), (0, .ref 73)] [] (pr_S, tm_h sz h r (sz (r / 2)), hl) = some res := by
      rw [tm_up, e1, show r + 1 = 2 * nd by omega]
      rw [ht_64_5, ch_64_8]; (try simp +decide (disch := omega) only [ni_bF, nI_clamp, nI_add, pk_mul, dc_ltT, dc_ltF, dc_leT, dc_leF, dc_eqF, dc_neT, dn_eq, dn_ne, dn_lt, dn_ge, si_at, si_c, si_k, q_at_nI, q_put_nI, ne_eq, not_false_eq_true, not_true_eq_false, ↓reduceIte, v0_ltT, v0_ltF, v0_gtT, v0_gtF, v0_leT, v0_leF, v0_geT, v0_geF, v0_eqT, v0_eqF, v0_add, v0_dda, v0_mul, v0_lum, v0_sub, v0_bad, v0_cl, v2_ltT, v2_ltF, v2_gtT, v2_gtF, v2_leT, v2_leF, v2_geT, v2_geF, v2_eqT, v2_eqF, v2_add, v2_dda, v2_mul, v2_lum, v2_sub, v2_bad, v2_cl]); rw [sk_64_6_132, ht_64_8, ch_64_10]; (try simp +decide (disch := omega) only [ni_bF, nI_clamp, nI_add, pk_mul, dc_ltT, dc_ltF, dc_leT, dc_leF, dc_eqF, dc_neT, dn_eq, dn_ne, dn_lt, dn_ge, si_at, si_c, si_k, q_at_nI, q_put_nI, ne_eq, not_false_eq_true, not_true_eq_false, ↓reduceIte, v0_ltT, v0_ltF, v0_gtT, v0_gtF, v0_leT, v0_leF, v0_geT, v0_geF, v0_eqT, v0_eqF, v0_add, v0_dda, v0_mul, v0_lum, v0_sub, v0_bad, v0_cl, v1_ltT, v1_ltF, v1_gtT, v1_gtF, v1_leT, v1_leF, v1_geT, v1_geF, v1_eqT, v1_eqF, v1_add, v1_dda, v1_mul, v1_lum, v1_sub, v1_bad, v1_cl]); rw [sk_64_9_37, lp_64_37]
      rw [e2]
      rw [ht_64_4, ch_64_14]; (try simp +decide (disch := omega) only [ni_bF, nI_clamp, nI_add, pk_mul, dc_ltT, dc_ltF, dc_leT, dc_leF, dc_eqF, dc_neT, dn_eq, dn_ne, dn_lt, dn_ge, si_at, si_c, si_k, q_at_nI, q_put_nI, ne_eq, not_false_eq_true, not_true_eq_false, ↓reduceIte, v0_ltT, v0_ltF, v0_gtT, v0_gtF, v0_leT, v0_leF, v0_geT, v0_geF, v0_eqT, v0_eqF, v0_add, v0_dda, v0_mul, v0_lum, v0_sub, v0_bad, v0_cl, G7, Gd]); rw [sk_64_5_138, ht_64_9, ch_64_19, sk_64_10_7, lp_64_7]
      exact mo_f (Nat.le_refl _) (by repeat (first | exact trivial | refine And.intro rfl ?_)) rfl k
    have l := tm_in (hl := hl) d r x1 h res (by omega) w.1 hf2 g7 w.2 (n2 + 2) kk (sz (r / 2)) 0 n (by omega) (by omega)
    rw [ht_64_5, ch_64_8]; try simp +decide (disch := omega) only [ni_bF, nI_clamp, nI_add, pk_mul, dc_ltT, dc_ltF, dc_leT, dc_leF, dc_eqF, dc_neT, dn_eq, dn_ne, dn_lt, dn_ge, si_at, si_c, si_k, q_at_nI, q_put_nI, ne_eq, not_false_eq_true, not_true_eq_false, ↓reduceIte, v0_ltT, v0_ltF, v0_gtT, v0_gtF, v0_leT, v0_leF, v0_geT, v0_geF, v0_eqT, v0_eqF, v0_add, v0_dda, v0_mul, v0_lum, v0_sub, v0_bad, v0_cl, v2_ltT, v2_ltF, v2_gtT, v2_gtF, v2_leT, v2_leF, v2_geT, v2_geF, v2_eqT, v2_eqF, v2_add, v2_dda, v2_mul, v2_lum, v2_sub, v2_bad, v2_cl]
    exact l
  | succ q ih =>
    intro r n h1 h2
    have w := hw (r / 2) (by omega)
    have i1 := ih (r + 1) (n - 9) (by omega) (by omega)
    have kk : am_fwd (am_call tb_P d) (am_run (am_call tb_P d) tb_r64_0 (n - 8)) tb_r64_5 52 [(3, .int (nI (r % 2 + 1))), (2, .int (nI (r / 2))), (1, .int x1), (0, .ref 73)] [] (pr_S, tm_h sz h r (sz (r / 2)), hl) = some res := by
      rw [tm_up]
      by_cases c : r % 2 = 0
      · rw [show r % 2 + 1 = (r + 1) % 2 by omega, show r / 2 = (r + 1) / 2 by omega]
        exact mo_f (by omega) (by repeat (first | exact trivial | refine And.intro rfl ?_)) rfl i1
      · obtain ⟨n3, hn3⟩ : ∃ n3, n - 8 = n3 + 1 := ⟨n - 9, by omega⟩
        rw [show r % 2 + 1 = 2 by omega, hn3]
        rw [ht_64_5, ch_64_8]; (try simp +decide (disch := omega) only [ni_bF, nI_clamp, nI_add, pk_mul, dc_ltT, dc_ltF, dc_leT, dc_leF, dc_eqF, dc_neT, dn_eq, dn_ne, dn_lt, dn_ge, si_at, si_c, si_k, q_at_nI, q_put_nI, ne_eq, not_false_eq_true, not_true_eq_false, ↓reduceIte, v0_ltT, v0_ltF, v0_gtT, v0_gtF, v0_leT, v0_leF, v0_geT, v0_geF, v0_eqT, v0_eqF, v0_add, v0_dda, v0_mul, v0_lum, v0_sub, v0_bad, v0_cl, v2_ltT, v2_ltF, v2_gtT, v2_gtF, v2_leT, v2_leF, v2_geT, v2_geF, v2_eqT, v2_eqF, v2_add, v2_dda, v2_mul, v2_lum, v2_sub, v2_bad, v2_cl]); rw [sk_64_6_132, ht_64_8, ch_64_10]; (try simp +decide (disch := omega) only [ni_bF, nI_clamp, nI_add, pk_mul, dc_ltT, dc_ltF, dc_leT, dc_leF, dc_eqF, dc_neT, dn_eq, dn_ne, dn_lt, dn_ge, si_at, si_c, si_k, q_at_nI, q_put_nI, ne_eq, not_false_eq_true, not_true_eq_false, ↓reduceIte, v0_ltT, v0_ltF, v0_gtT, v0_gtF, v0_leT, v0_leF, v0_geT, v0_geF, v0_eqT, v0_eqF, v0_add, v0_dda, v0_mul, v0_lum, v0_sub, v0_bad, v0_cl, v1_ltT, v1_ltF, v1_gtT, v1_gtF, v1_leT, v1_leF, v1_geT, v1_geF, v1_eqT, v1_eqF, v1_add, v1_dda, v1_mul, v1_lum, v1_sub, v1_bad, v1_cl]); rw [sk_64_9_37, lp_64_37]
        rw [show r / 2 + 1 = (r + 1) / 2 by omega]
        rw [ht_64_4, ch_64_14]; try simp +decide (disch := omega) only [ni_bF, nI_clamp, nI_add, pk_mul, dc_ltT, dc_ltF, dc_leT, dc_leF, dc_eqF, dc_neT, dn_eq, dn_ne, dn_lt, dn_ge, si_at, si_c, si_k, q_at_nI, q_put_nI, ne_eq, not_false_eq_true, not_true_eq_false, ↓reduceIte, v0_ltT, v0_ltF, v0_gtT, v0_gtF, v0_leT, v0_leF, v0_geT, v0_geF, v0_eqT, v0_eqF, v0_add, v0_dda, v0_mul, v0_lum, v0_sub, v0_bad, v0_cl, G7, Gd]
        rw [show (r + 1) % 2 = 0 by omega] at i1
        exact mo_f (by omega) (by repeat (first | exact trivial | refine And.intro rfl ?_)) rfl i1
    have l := tm_in (hl := hl) d r x1 h res (by omega) w.1 hf2 g7 w.2 (n - 8) kk (sz (r / 2)) 0 n (by omega) (by omega)
    rw [ht_64_5, ch_64_8]; try simp +decide (disch := omega) only [ni_bF, nI_clamp, nI_add, pk_mul, dc_ltT, dc_ltF, dc_leT, dc_leF, dc_eqF, dc_neT, dn_eq, dn_ne, dn_lt, dn_ge, si_at, si_c, si_k, q_at_nI, q_put_nI, ne_eq, not_false_eq_true, not_true_eq_false, ↓reduceIte, v0_ltT, v0_ltF, v0_gtT, v0_gtF, v0_leT, v0_leF, v0_geT, v0_geF, v0_eqT, v0_eqF, v0_add, v0_dda, v0_mul, v0_lum, v0_sub, v0_bad, v0_cl, v2_ltT, v2_ltF, v2_gtT, v2_gtF, v2_leT, v2_leF, v2_geT, v2_geF, v2_eqT, v2_eqF, v2_add, v2_dda, v2_mul, v2_lum, v2_sub, v2_bad, v2_cl]
    exact l
theorem tm_all (d : Nat) (x1 : Int32) (h : Nat → Nat → Int32) (res : Option Value × am_G) (hnd : nd ≤ 24) (hw : ∀ e, e < nd → sz e ≤ 4 ∧ h 90 (24 * hf + e) = nI (sz e)) (hf2 : hf < 2) (g7 : h 73 7 = nI hf) (gd : h 85 hf = nI nd) (n2 n : Nat) (hn : n2 + 18 * nd + 1 ≤ n) (k : am_fwd (am_call tb_P d) (am_run (am_call tb_P d) tb_r64_0 n2) tb_r64_1 7 [(1, .int x1), (0, .ref 73)] [] (pr_S, tm_h sz h (2 * nd) 0, hl) = some res) : am_fwd (am_call tb_P d) (am_run (am_call tb_P d) tb_r64_0 n) tb_r64_4 37 [(2, .int (nI 0)), (1, .int x1), (0, .ref 73)] [] (pr_S, h, hl) = some res := by
  by_cases c : nd = 0
  · subst c
    rw [Nat.mul_zero, tm_0] at k
    obtain ⟨n, rfl⟩ : ∃ n', n = n' + 1 := ⟨n - 1, by omega⟩
    rw [ht_64_4, ch_64_6]; (try simp +decide (disch := omega) only [ni_bF, nI_clamp, nI_add, pk_mul, dc_ltT, dc_ltF, dc_leT, dc_leF, dc_eqF, dc_neT, dn_eq, dn_ne, dn_lt, dn_ge, si_at, si_c, si_k, q_at_nI, q_put_nI, ne_eq, not_false_eq_true, not_true_eq_false, ↓reduceIte, v0_ltT, v0_ltF, v0_gtT, v0_gtF, v0_leT, v0_leF, v0_geT, v0_geF, v0_eqT, v0_eqF, v0_add, v0_dda, v0_mul, v0_lum, v0_sub, v0_bad, v0_cl, g7, gd]); rw [sk_64_5_138, ht_64_9, ch_64_7, sk_64_10_7, lp_64_7]
    exact mo_f (by omega) (by repeat (first | exact trivial | refine And.intro rfl ?_)) rfl k
  · have l := tm_loop (hl := hl) (nd := nd) d x1 h res hnd hw hf2 g7 gd n2 k (2 * nd - 1) 0 n (by omega) (by omega)
    rw [tm_0] at l
    rw [ht_64_4, ch_64_6]; try simp +decide (disch := omega) only [ni_bF, nI_clamp, nI_add, pk_mul, dc_ltT, dc_ltF, dc_leT, dc_leF, dc_eqF, dc_neT, dn_eq, dn_ne, dn_lt, dn_ge, si_at, si_c, si_k, q_at_nI, q_put_nI, ne_eq, not_false_eq_true, not_true_eq_false, ↓reduceIte, v0_ltT, v0_ltF, v0_gtT, v0_gtF, v0_leT, v0_leF, v0_geT, v0_geF, v0_eqT, v0_eqF, v0_add, v0_dda, v0_mul, v0_lum, v0_sub, v0_bad, v0_cl, g7, gd]
    exact l
end PG
section PG
variable {hi : Nat → Nat → Int32} {hl : Nat → Nat → Int64} {nd nt nn hf : Nat} {sz L bd st : Nat → Nat}
/-- the reference's heap in analyse: R the rows -/
def ma_S (hi h : Nat → Nat → Int32) (R : Nat → Int32) (j : Nat) : Prop := (∀ c, c ≠ 73 → c ≠ 97 → c ≠ 98 → c ≠ 99 → c ≠ 100 → c ≠ 101 → c ≠ 102 → c ≠ 103 → h c = hi c) ∧ (∀ x, x ≠ 39 → x ≠ 36 → h 73 x = hi 73 x) ∧ h 73 36 = nI j ∧ (∀ i, i < 192 → h 97 i = uk_c (R i) ∧ h 98 i = uk_d (R i)) ∧ (∀ t, t < 200 → h 101 t ∈ ([0, 1, 2] : List Int32))
theorem ma_lp (d : Nat) (hd : 1300 ≤ d) (P : pg_I hi nd nt nn hf sz L bd st) : ∀ (k : Nat) (R : Nat → Int32) (j n : Nat) (h : Nat → Nat → Int32), ra_K hi nd sz L bd k R → (∀ i, R i ∈ us_codes) → j + k < 1000 → 500 * k + 1 ≤ n → ma_S hi h R j →
    ∃ h', am_fwd (am_call tb_P (d + 1)) (am_run (am_call tb_P (d + 1)) tb_r64_0 n) tb_r64_1 7 [(1, .int 1), (0, .ref 73)] [] (pr_S, h, hl) = some (some (.int (nI (j + k))), (pr_S, h', hl)) ∧ ma_S hi h' (ra_I hi nd sz L bd k R) (j + k)
  | 0, _, _, _, _, h, _, _, _, _ => h.elim
  | k + 1, R, j, n, h, hk, hR, hj, hn, s => by
    have pc : ∀ c, pg_c c → c ≠ 73 ∧ c ≠ 97 ∧ c ≠ 98 ∧ c ≠ 99 ∧ c ≠ 100 ∧ c ≠ 101 ∧ c ≠ 102 ∧ c ≠ 103 := fun c hc => by unfold pg_c at hc; omega
    have Ph : pg_I h nd nt nn hf sz L bd st := pg_fr (fun c hc => s.1 c (pc c hc).1 (pc c hc).2.1 (pc c hc).2.2.1 (pc c hc).2.2.2.1 (pc c hc).2.2.2.2.1 (pc c hc).2.2.2.2.2.1 (pc c hc).2.2.2.2.2.2.1 (pc c hc).2.2.2.2.2.2.2) (s.2.1 _ (by decide) (by decide)) P
    obtain ⟨x, h1, c1, c2, r1, r2, r3, r4⟩ := mr_round (hl := hl) R d hd Ph hR s.2.2.2.1 s.2.2.2.2
    have P1 : pg_I h1 nd nt nn hf sz L bd st := pg_fr (fun c hc => r1 c (pc c hc).1 (pc c hc).2.2.2.1 (pc c hc).2.2.2.2.1 (pc c hc).2.2.2.2.2.1 (pc c hc).2.2.2.2.2.2.1 (pc c hc).2.2.2.2.2.2.2) (r2 _ (by decide)) Ph
    have pS := fun e he => (P1.2.2.2.2.2.2.2.2.2.2.2.1 e he)
    have eFT : ∀ e u, ft (h 26) (h 27) (h 28) (h 29) (h 30) (h 20) R 4000 (bd e) (rd_D u) = ft (hi 26) (hi 27) (hi 28) (hi 29) (hi 30) (hi 20) R 4000 (bd e) (rd_D u) := fun e u => by
      have q := fun c hc => s.1 c (pc c hc).1 (pc c hc).2.1 (pc c hc).2.2.1 (pc c hc).2.2.2.1 (pc c hc).2.2.2.2.1 (pc c hc).2.2.2.2.2.1 (pc c hc).2.2.2.2.2.2.1 (pc c hc).2.2.2.2.2.2.2
      rw [q 26 (by unfold pg_c; omega), q 27 (by unfold pg_c; omega), q 28 (by unfold pg_c; omega), q 29 (by unfold pg_c; omega), q 30 (by unfold pg_c; omega), q 20 (by unfold pg_c; omega)]
    have hf' : ∀ e u i, e < nd → u < 2 → i < sz e → ra_N hi nd sz L bd R (8 * e + 4 * u + i) = us_either (R (8 * e + 4 * u + i)) (ft (hi 26) (hi 27) (hi 28) (hi 29) (hi 30) (hi 20) R 4000 (bd e) (rd_D u) (L e + i)) := by
      intro e u i a1 a2 a3
      have := (P.2.2.2.2.2.2.2.2.2.2.2.1 e a1).2.1
      unfold ra_N
      rw [show (8 * e + 4 * u + i) / 8 = e by omega, show (8 * e + 4 * u + i) % 4 = i by omega, show (8 * e + 4 * u + i) % 8 / 4 = u by omega, if_pos ⟨a1, a3⟩]
    have ch := ra_ch P hf'
    have ch2 : ∀ r, r < 2 * nd → (rd_C h R sz L bd r ↔ cg_C R (ra_N hi nd sz L bd R) sz r) := by
      intro r hr
      unfold rd_C cg_C nx_r
      constructor
      · rintro ⟨i, a, b⟩
        exact ⟨i, a, by rw [hf' _ _ _ (by omega) (by omega) a, ← eFT]; exact b⟩
      · rintro ⟨i, a, b⟩
        exact ⟨i, a, by rw [hf' _ _ _ (by omega) (by omega) a, ← eFT] at b; exact b⟩
    have s2 : ma_S hi (tm_h sz (am_si h1 73 36 (nI (j + 1))) (2 * nd) 0) (ra_N hi nd sz L bd R) (j + 1) := by
      refine ⟨fun c z1 z2 z3 z4 z5 z6 z7 z8 => ?_, fun x hx hx2 => ?_, ?_, fun x hx => ?_, fun t ht => ?_⟩
      · rw [tm_c z2 z3, am_si_ne z1, r1 c z1 z4 z5 z6 z7 z8]; exact s.1 c z1 z2 z3 z4 z5 z6 z7 z8
      · rw [tm_c (by decide) (by decide), am_si_off (by omega), r2 x hx]; exact s.2.1 x hx hx2
      · rw [tm_c (by decide) (by decide)]; exact am_si_at _ _ _ _
      · by_cases c : x / 8 < nd ∧ x % 4 < sz (x / 8)
        · have a := r3 (x / 8) (x % 8 / 4) (x % 4) c.1 (by omega) c.2 (by omega)
          have b := hf' (x / 8) (x % 8 / 4) (x % 4) c.1 (by omega) c.2
          unfold nx_r at a
          rw [eFT, ← b, show 8 * (x / 8) + 4 * (x % 8 / 4) + x % 4 = x by omega] at a
          unfold tm_h
          rw [if_pos ⟨rfl, Or.inl ⟨by omega, c.2⟩⟩, if_neg (by omega), if_pos ⟨rfl, Or.inl ⟨by omega, c.2⟩⟩, am_si_ne (by decide), am_si_ne (by decide)]
          exact a
        · have n1 : ¬ ((2 * (x / 8) + x % 8 / 4 < 2 * nd ∧ x % 4 < sz (x / 8)) ∨ (2 * (x / 8) + x % 8 / 4 = 2 * nd ∧ x % 4 < 0)) := by
            rintro (z | z)
            · exact c ⟨by omega, z.2⟩
            · omega
          rw [show ra_N hi nd sz L bd R x = R x from if_neg c]
          unfold tm_h
          rw [if_neg (fun z => n1 z.2), if_neg (fun z => n1 z.2), if_neg (fun z => n1 z.2), if_neg (fun z => n1 z.2), am_si_ne (by decide), am_si_ne (by decide), r1 _ (by decide) (by decide) (by decide) (by decide) (by decide) (by decide), r1 _ (by decide) (by decide) (by decide) (by decide) (by decide) (by decide)]
          exact s.2.2.2.1 x hx
      · rw [tm_c (by decide) (by decide), am_si_ne (by decide)]; exact r4 t ht
    have g36 : h1 73 36 = nI j := by rw [r2 _ (by decide)]; exact s.2.2.1
    have a7 : am_si h1 73 36 (nI (j + 1)) 73 7 = nI hf := by rw [am_si_off (by decide)]; exact P1.2.2.2.2.2.2.1
    have ad : am_si h1 73 36 (nI (j + 1)) 85 hf = nI nd := by rw [am_si_ne (by decide)]; exact P1.2.2.2.2.2.2.2.1
    have aw : ∀ e, e < nd → sz e ≤ 4 ∧ am_si h1 73 36 (nI (j + 1)) 90 (24 * hf + e) = nI (sz e) := fun e he => ⟨(pS e he).2.1, by rw [am_si_ne (by decide)]; exact (pS e he).2.2.1⟩
    have nd24 := P.1
    rcases hk with ⟨a, b⟩ | ⟨a, b⟩
    · subst b
      have x1 : x = -1 := by
        rcases c2 with ⟨z, _⟩ | ⟨r, z1, z2, z3, z4⟩
        · exact z
        · exact absurd (ch.mp ⟨r, z1, (ch2 r z1).mp z3⟩) a
      refine ⟨_, ?_, s2⟩
      have kk : am_fwd (am_call tb_P (d + 1)) (am_run (am_call tb_P (d + 1)) tb_r64_0 0) tb_r64_1 7 [(1, .int 0), (0, .ref 73)] [] (pr_S, tm_h sz (am_si h1 73 36 (nI (j + 1))) (2 * nd) 0, hl) = some (some (.int (nI (j + (0 + 1)))), (pr_S, tm_h sz (am_si h1 73 36 (nI (j + 1))) (2 * nd) 0, hl)) := by
        have e1 := s2.2.2.1
        rw [ht_64_1, ch_64_1]; (try simp +decide (disch := omega) only [ni_bF, nI_clamp, nI_add, pk_mul, dc_ltT, dc_ltF, dc_leT, dc_leF, dc_eqF, dc_neT, dn_eq, dn_ne, dn_lt, dn_ge, si_at, si_c, si_k, q_at_nI, q_put_nI, ne_eq, not_false_eq_true, not_true_eq_false, ↓reduceIte, v0_ltT, v0_ltF, v0_gtT, v0_gtF, v0_leT, v0_leF, v0_geT, v0_geF, v0_eqT, v0_eqF, v0_add, v0_dda, v0_mul, v0_lum, v0_sub, v0_bad, v0_cl, e1]); rw [sk_64_2_141, ht_64_10, ch_64_2]
        rw [e1]
      have l := tm_all (hl := hl) (nd := nd) (sz := sz) (hf := hf) (d + 1) 0 _ _ P.1 aw P.2.2.2.1 a7 ad 0 n (by omega) kk
      rw [ht_64_1, ch_64_1]; (try simp +decide (disch := omega) only [ni_bF, nI_clamp, nI_add, pk_mul, dc_ltT, dc_ltF, dc_leT, dc_leF, dc_eqF, dc_neT, dn_eq, dn_ne, dn_lt, dn_ge, si_at, si_c, si_k, q_at_nI, q_put_nI, ne_eq, not_false_eq_true, not_true_eq_false, ↓reduceIte, v0_ltT, v0_ltF, v0_gtT, v0_gtF, v0_leT, v0_leF, v0_geT, v0_geF, v0_eqT, v0_eqF, v0_add, v0_dda, v0_mul, v0_lum, v0_sub, v0_bad, v0_cl]); rw [c1, ev_rs, ch_64_3]; (try simp +decide (disch := omega) only [ni_bF, nI_clamp, nI_add, pk_mul, dc_ltT, dc_ltF, dc_leT, dc_leF, dc_eqF, dc_neT, dn_eq, dn_ne, dn_lt, dn_ge, si_at, si_c, si_k, q_at_nI, q_put_nI, ne_eq, not_false_eq_true, not_true_eq_false, ↓reduceIte, v0_ltT, v0_ltF, v0_gtT, v0_gtF, v0_leT, v0_leF, v0_geT, v0_geF, v0_eqT, v0_eqF, v0_add, v0_dda, v0_mul, v0_lum, v0_sub, v0_bad, v0_cl]); rw [x1, if_pos rfl, ht_64_2, ch_64_4, ht_64_3, ch_64_5]; (try simp +decide (disch := omega) only [ni_bF, nI_clamp, nI_add, pk_mul, dc_ltT, dc_ltF, dc_leT, dc_leF, dc_eqF, dc_neT, dn_eq, dn_ne, dn_lt, dn_ge, si_at, si_c, si_k, q_at_nI, q_put_nI, ne_eq, not_false_eq_true, not_true_eq_false, ↓reduceIte, v0_ltT, v0_ltF, v0_gtT, v0_gtF, v0_leT, v0_leF, v0_geT, v0_geF, v0_eqT, v0_eqF, v0_add, v0_dda, v0_mul, v0_lum, v0_sub, v0_bad, v0_cl, v1_ltT, v1_ltF, v1_gtT, v1_gtF, v1_leT, v1_leF, v1_geT, v1_geF, v1_eqT, v1_eqF, v1_add, v1_dda, v1_mul, v1_lum, v1_sub, v1_bad, v1_cl]); rw [g36, nI_1]
      exact l
    · have x1 : ¬ x = -1 := by
        rcases c2 with ⟨z, z2⟩ | ⟨r, z1, z2, z3, z4⟩
        · obtain ⟨r, y1, y2⟩ := ch.mpr a
          exact absurd ((ch2 r y1).mpr y2) (z2 r y1)
        · rw [z2]; exact fun z => by rw [nl_m1 (by omega)] at z; exact z
      obtain ⟨h', l1, l2⟩ := ma_lp d hd P k _ (j + 1) (n - 450) _ b (ra_in P hR) (by omega) (by omega) s2
      refine ⟨h', ?_, ?_⟩
      · have l := tm_all (hl := hl) (nd := nd) (sz := sz) (hf := hf) (d + 1) 1 _ _ P.1 aw P.2.2.2.1 a7 ad (n - 450) n (by omega) l1
        rw [ht_64_1, ch_64_1]; (try simp +decide (disch := omega) only [ni_bF, nI_clamp, nI_add, pk_mul, dc_ltT, dc_ltF, dc_leT, dc_leF, dc_eqF, dc_neT, dn_eq, dn_ne, dn_lt, dn_ge, si_at, si_c, si_k, q_at_nI, q_put_nI, ne_eq, not_false_eq_true, not_true_eq_false, ↓reduceIte, v0_ltT, v0_ltF, v0_gtT, v0_gtF, v0_leT, v0_leF, v0_geT, v0_geF, v0_eqT, v0_eqF, v0_add, v0_dda, v0_mul, v0_lum, v0_sub, v0_bad, v0_cl]); rw [c1, ev_rs, ch_64_3]; (try simp +decide (disch := omega) only [ni_bF, nI_clamp, nI_add, pk_mul, dc_ltT, dc_ltF, dc_leT, dc_leF, dc_eqF, dc_neT, dn_eq, dn_ne, dn_lt, dn_ge, si_at, si_c, si_k, q_at_nI, q_put_nI, ne_eq, not_false_eq_true, not_true_eq_false, ↓reduceIte, v0_ltT, v0_ltF, v0_gtT, v0_gtF, v0_leT, v0_leF, v0_geT, v0_geF, v0_eqT, v0_eqF, v0_add, v0_dda, v0_mul, v0_lum, v0_sub, v0_bad, v0_cl]); rw [if_neg x1, sk_64_2_24, ht_64_3, ch_64_5]; (try simp +decide (disch := omega) only [ni_bF, nI_clamp, nI_add, pk_mul, dc_ltT, dc_ltF, dc_leT, dc_leF, dc_eqF, dc_neT, dn_eq, dn_ne, dn_lt, dn_ge, si_at, si_c, si_k, q_at_nI, q_put_nI, ne_eq, not_false_eq_true, not_true_eq_false, ↓reduceIte, v0_ltT, v0_ltF, v0_gtT, v0_gtF, v0_leT, v0_leF, v0_geT, v0_geF, v0_eqT, v0_eqF, v0_add, v0_dda, v0_mul, v0_lum, v0_sub, v0_bad, v0_cl, v1_ltT, v1_ltF, v1_gtT, v1_gtF, v1_leT, v1_leF, v1_geT, v1_geF, v1_eqT, v1_eqF, v1_add, v1_dda, v1_mul, v1_lum, v1_sub, v1_bad, v1_cl]); rw [g36, nI_1]
        rw [show j + (k + 1) = j + 1 + k by omega]
        exact l
      · rw [show j + (k + 1) = j + 1 + k by omega]
        exact l2
theorem ma_analyse (R : Nat → Int32) (k d : Nat) (hd : 1300 ≤ d) (P : pg_I hi nd nt nn hf sz L bd st) (hk : ra_K hi nd sz L bd k R) (hk2 : k < 1000) (hR : ∀ i, R i ∈ us_codes) (hRm : ∀ i, i < 192 → hi 97 i = uk_c (R i) ∧ hi 98 i = uk_d (R i)) (hu : ∀ t, t < 200 → hi 101 t ∈ ([0, 1, 2] : List Int32)) : ∃ h', am_call tb_P (d + 2) 64 [.ref 73] (pr_S, hi, hl) = some (some (.int (nI k)), (pr_S, h', hl)) ∧ ma_S hi h' (ra_I hi nd sz L bd k R) k := by
  obtain ⟨h', l1, l2⟩ := ma_lp (hl := hl) d hd P k R 0 999999 (am_si hi 73 36 0) hk hR (by omega) (by omega) ⟨fun c z _ _ _ _ _ _ _ => am_si_ne z, fun x _ hx => am_si_off (by omega), am_si_at _ _ _ _, fun i hi' => by rw [am_si_ne (by decide), am_si_ne (by decide)]; exact hRm i hi', fun t ht => by rw [am_si_ne (by decide)]; exact hu t ht⟩
  rw [Nat.zero_add] at l1 l2
  refine ⟨h', ?_, l2⟩
  rw [en_64, ht_64_0, ch_64_0]
  exact l1
end PG
