/-! the class: changes, firstChange, takeRound -/
/-- the first r that changes, or -1 -/
def fc_R (c : Nat → Prop) (N : Nat) (x : Int32) : Prop := (x = -1 ∧ ∀ r, r < N → ¬ c r) ∨ ∃ r, r < N ∧ x = nI r ∧ c r ∧ ∀ q, q < r → ¬ c q
theorem fc_u {c : Nat → Prop} {N : Nat} {x y : Int32} (h1 : fc_R c N x) (h2 : fc_R c N y) : x = y := by
  rcases h1 with ⟨a1, a2⟩ | ⟨r, a1, a2, a3, a4⟩
  · rcases h2 with ⟨b1, b2⟩ | ⟨q, b1, b2, b3, b4⟩
    · rw [a1, b1]
    · exact absurd b3 (a2 q b1)
  · rcases h2 with ⟨b1, b2⟩ | ⟨q, b1, b2, b3, b4⟩
    · exact absurd a3 (b2 r a1)
    · have : r = q := by
        rcases Nat.lt_trichotomy r q with h | h | h
        · exact absurd a3 (b4 r h)
        · exact h
        · exact absurd b3 (a4 q h)
      rw [a2, b2, this]
def cg_C (f g : Nat → Int32) (sz : Nat → Nat) (r : Nat) : Prop := ∃ i, i < sz (r / 2) ∧ f (8 * (r / 2) + 4 * (r % 2) + i) ≠ g (8 * (r / 2) + 4 * (r % 2) + i)
section PG
variable {hi : Nat → Nat → Int32} {hl : Nat → Nat → Int64} {nd : Nat} {sz : Nat → Nat}
theorem cg_loop (d e u w : Nat) (h : Nat → Nat → Int32) (he : e < 24) (hu : u < 2) (hw : w ≤ 4) : ∀ (q i n : Nat), i + q = w → q ≤ n → ∃ b : Int32, am_fwd (am_call tb_P (d + 1)) (am_run (am_call tb_P (d + 1)) tb_r217_0 n) tb_r217_1 15 [(4, .int (nI i)), (3, .int (nI w)), (0, .ref 35), (1, .int (nI e)), (2, .int (nI u))] [] (pr_S, h, hl) = some (some (.int b), (pr_S, h, hl)) ∧ ((b = 0 ∧ ∀ j, i ≤ j → j < w → h 36 (8 * e + 4 * u + j) = h 37 (8 * e + 4 * u + j)) ∨ (b = 1 ∧ ∃ j, i ≤ j ∧ j < w ∧ h 36 (8 * e + 4 * u + j) ≠ h 37 (8 * e + 4 * u + j))) := by
  intro q
  induction q with
  | zero =>
    intro i n h1 h2
    refine ⟨0, ?_, Or.inl ⟨rfl, fun j a b => absurd a (by omega)⟩⟩
    rw [ht_217_1, ch_217_2]; (try simp +decide (disch := omega) only [ni_bF, nI_clamp, nI_add, pk_mul, dc_ltT, dc_ltF, dc_leT, dc_leF, dc_eqF, dc_neT, dn_eq, dn_ne, dn_lt, dn_ge, si_at, si_c, si_k, q_at_nI, q_put_nI, ne_eq, not_false_eq_true, not_true_eq_false, ↓reduceIte, v0_ltT, v0_ltF, v0_gtT, v0_gtF, v0_leT, v0_leF, v0_geT, v0_geF, v0_eqT, v0_eqF, v0_add, v0_dda, v0_mul, v0_lum, v0_sub, v0_bad, v0_cl]); rw [sk_217_2_59, ht_217_3, ch_217_3]
  | succ q ih =>
    intro i n h1 h2
    obtain ⟨n, rfl⟩ : ∃ n', n = n' + 1 := ⟨n - 1, by omega⟩
    by_cases c : h 36 (8 * e + 4 * u + i) = h 37 (8 * e + 4 * u + i)
    · obtain ⟨b, k1, k2⟩ := ih (i + 1) n (by omega) (by omega)
      refine ⟨b, ?_, ?_⟩
      · rw [ht_217_1, ch_217_2]; (try simp +decide (disch := omega) only [ni_bF, nI_clamp, nI_add, pk_mul, dc_ltT, dc_ltF, dc_leT, dc_leF, dc_eqF, dc_neT, dn_eq, dn_ne, dn_lt, dn_ge, si_at, si_c, si_k, q_at_nI, q_put_nI, ne_eq, not_false_eq_true, not_true_eq_false, ↓reduceIte, v0_ltT, v0_ltF, v0_gtT, v0_gtF, v0_leT, v0_leF, v0_geT, v0_geF, v0_eqT, v0_eqF, v0_add, v0_dda, v0_mul, v0_lum, v0_sub, v0_bad, v0_cl, c]); rw [ea_rowIndex _ _ _ _ _ _, lk_ri, ev_rs, ch_217_4, at_36, ev_rs, ch_217_5]; (try simp +decide (disch := omega) only [ni_bF, nI_clamp, nI_add, pk_mul, dc_ltT, dc_ltF, dc_leT, dc_leF, dc_eqF, dc_neT, dn_eq, dn_ne, dn_lt, dn_ge, si_at, si_c, si_k, q_at_nI, q_put_nI, ne_eq, not_false_eq_true, not_true_eq_false, ↓reduceIte, v0_ltT, v0_ltF, v0_gtT, v0_gtF, v0_leT, v0_leF, v0_geT, v0_geF, v0_eqT, v0_eqF, v0_add, v0_dda, v0_mul, v0_lum, v0_sub, v0_bad, v0_cl, c]); rw [at_37, ev_rs, ch_217_6]; (try simp +decide (disch := omega) only [ni_bF, nI_clamp, nI_add, pk_mul, dc_ltT, dc_ltF, dc_leT, dc_leF, dc_eqF, dc_neT, dn_eq, dn_ne, dn_lt, dn_ge, si_at, si_c, si_k, q_at_nI, q_put_nI, ne_eq, not_false_eq_true, not_true_eq_false, ↓reduceIte, v0_ltT, v0_ltF, v0_gtT, v0_gtF, v0_leT, v0_leF, v0_geT, v0_geF, v0_eqT, v0_eqF, v0_add, v0_dda, v0_mul, v0_lum, v0_sub, v0_bad, v0_cl, c]); rw [ht_217_2, ch_217_7]; (try simp +decide (disch := omega) only [ni_bF, nI_clamp, nI_add, pk_mul, dc_ltT, dc_ltF, dc_leT, dc_leF, dc_eqF, dc_neT, dn_eq, dn_ne, dn_lt, dn_ge, si_at, si_c, si_k, q_at_nI, q_put_nI, ne_eq, not_false_eq_true, not_true_eq_false, ↓reduceIte, v0_ltT, v0_ltF, v0_gtT, v0_gtF, v0_leT, v0_leF, v0_geT, v0_geF, v0_eqT, v0_eqF, v0_add, v0_dda, v0_mul, v0_lum, v0_sub, v0_bad, v0_cl, v1_ltT, v1_ltF, v1_gtT, v1_gtF, v1_leT, v1_leF, v1_geT, v1_geF, v1_eqT, v1_eqF, v1_add, v1_dda, v1_mul, v1_lum, v1_sub, v1_bad, v1_cl, c]); rw [sk_217_3_15, lp_217_15]
        exact mo_f (Nat.le_refl _) (by repeat (first | exact trivial | refine And.intro rfl ?_)) rfl k1
      · rcases k2 with ⟨a1, a2⟩ | ⟨a1, j, a2, a3, a4⟩
        · refine Or.inl ⟨a1, fun j x y => ?_⟩
          by_cases z : j = i
          · rw [z]; exact c
          · exact a2 j (by omega) y
        · exact Or.inr ⟨a1, j, by omega, a3, a4⟩
    · refine ⟨1, ?_, Or.inr ⟨rfl, i, Nat.le_refl _, by omega, c⟩⟩
      rw [ht_217_1, ch_217_2]; (try simp +decide (disch := omega) only [ni_bF, nI_clamp, nI_add, pk_mul, dc_ltT, dc_ltF, dc_leT, dc_leF, dc_eqF, dc_neT, dn_eq, dn_ne, dn_lt, dn_ge, si_at, si_c, si_k, q_at_nI, q_put_nI, ne_eq, not_false_eq_true, not_true_eq_false, ↓reduceIte, v0_ltT, v0_ltF, v0_gtT, v0_gtF, v0_leT, v0_leF, v0_geT, v0_geF, v0_eqT, v0_eqF, v0_add, v0_dda, v0_mul, v0_lum, v0_sub, v0_bad, v0_cl, c]); rw [ea_rowIndex _ _ _ _ _ _, lk_ri, ev_rs, ch_217_4, at_36, ev_rs, ch_217_5]; (try simp +decide (disch := omega) only [ni_bF, nI_clamp, nI_add, pk_mul, dc_ltT, dc_ltF, dc_leT, dc_leF, dc_eqF, dc_neT, dn_eq, dn_ne, dn_lt, dn_ge, si_at, si_c, si_k, q_at_nI, q_put_nI, ne_eq, not_false_eq_true, not_true_eq_false, ↓reduceIte, v0_ltT, v0_ltF, v0_gtT, v0_gtF, v0_leT, v0_leF, v0_geT, v0_geF, v0_eqT, v0_eqF, v0_add, v0_dda, v0_mul, v0_lum, v0_sub, v0_bad, v0_cl, c]); rw [at_37, ev_rs, ch_217_6]; try simp +decide (disch := omega) only [ni_bF, nI_clamp, nI_add, pk_mul, dc_ltT, dc_ltF, dc_leT, dc_leF, dc_eqF, dc_neT, dn_eq, dn_ne, dn_lt, dn_ge, si_at, si_c, si_k, q_at_nI, q_put_nI, ne_eq, not_false_eq_true, not_true_eq_false, ↓reduceIte, v0_ltT, v0_ltF, v0_gtT, v0_gtF, v0_leT, v0_leF, v0_geT, v0_geF, v0_eqT, v0_eqF, v0_add, v0_dda, v0_mul, v0_lum, v0_sub, v0_bad, v0_cl, c]
theorem ea_changes (d e u : Nat) (h : Nat → Nat → Int32) (he : e < 24) (hu : u < 2) (hw : sz e ≤ 4) (hS : h 20 e = nI (sz e)) : ∃ b : Int32, am_call tb_P (d + 2) 217 [.ref 35, .int (nI e), .int (nI u)] (pr_S, h, hl) = some (some (.int b), (pr_S, h, hl)) ∧ ((b = 0 ∧ ¬ cg_C (h 36) (h 37) sz (2 * e + u)) ∨ (b = 1 ∧ cg_C (h 36) (h 37) sz (2 * e + u))) := by
  obtain ⟨b, k1, k2⟩ := cg_loop (hl := hl) d e u (sz e) h he hu hw (sz e) 0 999999 (by omega) (by omega)
  refine ⟨b, ?_, ?_⟩
  · rw [en_217, ht_217_0, ch_217_0, at_20, ev_rs, ch_217_1]; try simp +decide (disch := omega) only [ni_bF, nI_clamp, nI_add, pk_mul, dc_ltT, dc_ltF, dc_leT, dc_leF, dc_eqF, dc_neT, dn_eq, dn_ne, dn_lt, dn_ge, si_at, si_c, si_k, q_at_nI, q_put_nI, ne_eq, not_false_eq_true, not_true_eq_false, ↓reduceIte, v0_ltT, v0_ltF, v0_gtT, v0_gtF, v0_leT, v0_leF, v0_geT, v0_geF, v0_eqT, v0_eqF, v0_add, v0_dda, v0_mul, v0_lum, v0_sub, v0_bad, v0_cl, hS]
    exact k1
  · have e1 : (2 * e + u) / 2 = e := by omega
    have e2 : (2 * e + u) % 2 = u := by omega
    unfold cg_C
    rw [e1, e2]
    rcases k2 with ⟨a1, a2⟩ | ⟨a1, j, a2, a3, a4⟩
    · exact Or.inl ⟨a1, fun ⟨i, x, y⟩ => y (a2 i (by omega) x)⟩
    · exact Or.inr ⟨a1, j, a3, a4⟩
theorem fc_in (d e : Nat) (h : Nat → Nat → Int32) (res : Int32 → Prop) (he : e < nd) (hnd : nd ≤ 24) (hw : sz e ≤ 4) (hS : h 20 e = nI (sz e)) (n2 : Nat) (k : (¬ cg_C (h 36) (h 37) sz (2 * e)) → (¬ cg_C (h 36) (h 37) sz (2 * e + 1)) → ∃ x, am_fwd (am_call tb_P (d + 2)) (am_run (am_call tb_P (d + 2)) tb_r216_0 n2) tb_r216_1 2 [(1, .int (nI (e + 1))), (0, .ref 35)] [] (pr_S, h, hl) = some (some (.int x), (pr_S, h, hl)) ∧ res x) (r0 : cg_C (h 36) (h 37) sz (2 * e) → res (nI (2 * e))) (r1 : (¬ cg_C (h 36) (h 37) sz (2 * e)) → cg_C (h 36) (h 37) sz (2 * e + 1) → res (nI (2 * e + 1))) (n : Nat) (hn : n2 + 3 ≤ n) :
    ∃ x, am_fwd (am_call tb_P (d + 2)) (am_run (am_call tb_P (d + 2)) tb_r216_0 n) tb_r216_2 15 [(2, .int (nI 0)), (1, .int (nI e)), (0, .ref 35)] [] (pr_S, h, hl) = some (some (.int x), (pr_S, h, hl)) ∧ res x := by
  obtain ⟨n, rfl⟩ : ∃ n', n = n' + 3 := ⟨n - 3, by omega⟩
  obtain ⟨b0, k0, c0⟩ := ea_changes (hl := hl) (sz := sz) d e 0 h (by omega) (by omega) hw hS
  obtain ⟨b1, k1, c1⟩ := ea_changes (hl := hl) (sz := sz) d e 1 h (by omega) (by omega) hw hS
  rcases c0 with ⟨a1, a2⟩ | ⟨a1, a2⟩
  · rcases c1 with ⟨d1, d2⟩ | ⟨d1, d2⟩
    · obtain ⟨x, m1, m2⟩ := k a2 d2
      refine ⟨x, ?_, m2⟩
      rw [ht_216_2, ch_216_3]; (try simp +decide (disch := omega) only [ni_bF, nI_clamp, nI_add, pk_mul, dc_ltT, dc_ltF, dc_leT, dc_leF, dc_eqF, dc_neT, dn_eq, dn_ne, dn_lt, dn_ge, si_at, si_c, si_k, q_at_nI, q_put_nI, ne_eq, not_false_eq_true, not_true_eq_false, ↓reduceIte, v0_ltT, v0_ltF, v0_gtT, v0_gtF, v0_leT, v0_leF, v0_geT, v0_geF, v0_eqT, v0_eqF, v0_add, v0_dda, v0_mul, v0_lum, v0_sub, v0_bad, v0_cl, v2_ltT, v2_ltF, v2_gtT, v2_gtF, v2_leT, v2_leF, v2_geT, v2_geF, v2_eqT, v2_eqF, v2_add, v2_dda, v2_mul, v2_lum, v2_sub, v2_bad, v2_cl, a1]); rw [k0, ev_rs, ch_216_5]; (try simp +decide (disch := omega) only [ni_bF, nI_clamp, nI_add, pk_mul, dc_ltT, dc_ltF, dc_leT, dc_leF, dc_eqF, dc_neT, dn_eq, dn_ne, dn_lt, dn_ge, si_at, si_c, si_k, q_at_nI, q_put_nI, ne_eq, not_false_eq_true, not_true_eq_false, ↓reduceIte, v0_ltT, v0_ltF, v0_gtT, v0_gtF, v0_leT, v0_leF, v0_geT, v0_geF, v0_eqT, v0_eqF, v0_add, v0_dda, v0_mul, v0_lum, v0_sub, v0_bad, v0_cl, v2_ltT, v2_ltF, v2_gtT, v2_gtF, v2_leT, v2_leF, v2_geT, v2_geF, v2_eqT, v2_eqF, v2_add, v2_dda, v2_mul, v2_lum, v2_sub, v2_bad, v2_cl, a1]); rw [ht_216_3, ch_216_7]; (try simp +decide (disch := omega) only [ni_bF, nI_clamp, nI_add, pk_mul, dc_ltT, dc_ltF, dc_leT, dc_leF, dc_eqF, dc_neT, dn_eq, dn_ne, dn_lt, dn_ge, si_at, si_c, si_k, q_at_nI, q_put_nI, ne_eq, not_false_eq_true, not_true_eq_false, ↓reduceIte, v0_ltT, v0_ltF, v0_gtT, v0_gtF, v0_leT, v0_leF, v0_geT, v0_geF, v0_eqT, v0_eqF, v0_add, v0_dda, v0_mul, v0_lum, v0_sub, v0_bad, v0_cl, v1_ltT, v1_ltF, v1_gtT, v1_gtF, v1_leT, v1_leF, v1_geT, v1_geF, v1_eqT, v1_eqF, v1_add, v1_dda, v1_mul, v1_lum, v1_sub, v1_bad, v1_cl, a1]); rw [sk_216_4_15, lp_216_15]
      rw [ht_216_2, ch_216_3]; (try simp +decide (disch := omega) only [ni_bF, nI_clamp, nI_add, pk_mul, dc_ltT, dc_ltF, dc_leT, dc_leF, dc_eqF, dc_neT, dn_eq, dn_ne, dn_lt, dn_ge, si_at, si_c, si_k, q_at_nI, q_put_nI, ne_eq, not_false_eq_true, not_true_eq_false, ↓reduceIte, v0_ltT, v0_ltF, v0_gtT, v0_gtF, v0_leT, v0_leF, v0_geT, v0_geF, v0_eqT, v0_eqF, v0_add, v0_dda, v0_mul, v0_lum, v0_sub, v0_bad, v0_cl, v2_ltT, v2_ltF, v2_gtT, v2_gtF, v2_leT, v2_leF, v2_geT, v2_geF, v2_eqT, v2_eqF, v2_add, v2_dda, v2_mul, v2_lum, v2_sub, v2_bad, v2_cl, d1]); rw [k1, ev_rs, ch_216_5]; (try simp +decide (disch := omega) only [ni_bF, nI_clamp, nI_add, pk_mul, dc_ltT, dc_ltF, dc_leT, dc_leF, dc_eqF, dc_neT, dn_eq, dn_ne, dn_lt, dn_ge, si_at, si_c, si_k, q_at_nI, q_put_nI, ne_eq, not_false_eq_true, not_true_eq_false, ↓reduceIte, v0_ltT, v0_ltF, v0_gtT, v0_gtF, v0_leT, v0_leF, v0_geT, v0_geF, v0_eqT, v0_eqF, v0_add, v0_dda, v0_mul, v0_lum, v0_sub, v0_bad, v0_cl, v2_ltT, v2_ltF, v2_gtT, v2_gtF, v2_leT, v2_leF, v2_geT, v2_geF, v2_eqT, v2_eqF, v2_add, v2_dda, v2_mul, v2_lum, v2_sub, v2_bad, v2_cl, d1]); rw [ht_216_3, ch_216_7]; (try simp +decide (disch := omega) only [ni_bF, nI_clamp, nI_add, pk_mul, dc_ltT, dc_ltF, dc_leT, dc_leF, dc_eqF, dc_neT, dn_eq, dn_ne, dn_lt, dn_ge, si_at, si_c, si_k, q_at_nI, q_put_nI, ne_eq, not_false_eq_true, not_true_eq_false, ↓reduceIte, v0_ltT, v0_ltF, v0_gtT, v0_gtF, v0_leT, v0_leF, v0_geT, v0_geF, v0_eqT, v0_eqF, v0_add, v0_dda, v0_mul, v0_lum, v0_sub, v0_bad, v0_cl, v1_ltT, v1_ltF, v1_gtT, v1_gtF, v1_leT, v1_leF, v1_geT, v1_geF, v1_eqT, v1_eqF, v1_add, v1_dda, v1_mul, v1_lum, v1_sub, v1_bad, v1_cl, d1]); rw [sk_216_4_15, lp_216_15]
      rw [ht_216_2, ch_216_3]; (try simp +decide (disch := omega) only [ni_bF, nI_clamp, nI_add, pk_mul, dc_ltT, dc_ltF, dc_leT, dc_leF, dc_eqF, dc_neT, dn_eq, dn_ne, dn_lt, dn_ge, si_at, si_c, si_k, q_at_nI, q_put_nI, ne_eq, not_false_eq_true, not_true_eq_false, ↓reduceIte, v0_ltT, v0_ltF, v0_gtT, v0_gtF, v0_leT, v0_leF, v0_geT, v0_geF, v0_eqT, v0_eqF, v0_add, v0_dda, v0_mul, v0_lum, v0_sub, v0_bad, v0_cl, v2_ltT, v2_ltF, v2_gtT, v2_gtF, v2_leT, v2_leF, v2_geT, v2_geF, v2_eqT, v2_eqF, v2_add, v2_dda, v2_mul, v2_lum, v2_sub, v2_bad, v2_cl]); rw [sk_216_3_41, ht_216_4, ch_216_4]; (try simp +decide (disch := omega) only [ni_bF, nI_clamp, nI_add, pk_mul, dc_ltT, dc_ltF, dc_leT, dc_leF, dc_eqF, dc_neT, dn_eq, dn_ne, dn_lt, dn_ge, si_at, si_c, si_k, q_at_nI, q_put_nI, ne_eq, not_false_eq_true, not_true_eq_false, ↓reduceIte, v0_ltT, v0_ltF, v0_gtT, v0_gtF, v0_leT, v0_leF, v0_geT, v0_geF, v0_eqT, v0_eqF, v0_add, v0_dda, v0_mul, v0_lum, v0_sub, v0_bad, v0_cl, v1_ltT, v1_ltF, v1_gtT, v1_gtF, v1_leT, v1_leF, v1_geT, v1_geF, v1_eqT, v1_eqF, v1_add, v1_dda, v1_mul, v1_lum, v1_sub, v1_bad, v1_cl]); rw [sk_216_5_2, lp_216_2]
      exact mo_f (by omega) (by repeat (first | exact trivial | refine And.intro rfl ?_)) rfl m1
    · refine ⟨_, ?_, r1 a2 d2⟩
      rw [ht_216_2, ch_216_3]; (try simp +decide (disch := omega) only [ni_bF, nI_clamp, nI_add, pk_mul, dc_ltT, dc_ltF, dc_leT, dc_leF, dc_eqF, dc_neT, dn_eq, dn_ne, dn_lt, dn_ge, si_at, si_c, si_k, q_at_nI, q_put_nI, ne_eq, not_false_eq_true, not_true_eq_false, ↓reduceIte, v0_ltT, v0_ltF, v0_gtT, v0_gtF, v0_leT, v0_leF, v0_geT, v0_geF, v0_eqT, v0_eqF, v0_add, v0_dda, v0_mul, v0_lum, v0_sub, v0_bad, v0_cl, v2_ltT, v2_ltF, v2_gtT, v2_gtF, v2_leT, v2_leF, v2_geT, v2_geF, v2_eqT, v2_eqF, v2_add, v2_dda, v2_mul, v2_lum, v2_sub, v2_bad, v2_cl, a1]); rw [k0, ev_rs, ch_216_5]; (try simp +decide (disch := omega) only [ni_bF, nI_clamp, nI_add, pk_mul, dc_ltT, dc_ltF, dc_leT, dc_leF, dc_eqF, dc_neT, dn_eq, dn_ne, dn_lt, dn_ge, si_at, si_c, si_k, q_at_nI, q_put_nI, ne_eq, not_false_eq_true, not_true_eq_false, ↓reduceIte, v0_ltT, v0_ltF, v0_gtT, v0_gtF, v0_leT, v0_leF, v0_geT, v0_geF, v0_eqT, v0_eqF, v0_add, v0_dda, v0_mul, v0_lum, v0_sub, v0_bad, v0_cl, v2_ltT, v2_ltF, v2_gtT, v2_gtF, v2_leT, v2_leF, v2_geT, v2_geF, v2_eqT, v2_eqF, v2_add, v2_dda, v2_mul, v2_lum, v2_sub, v2_bad, v2_cl, a1]); rw [ht_216_3, ch_216_7]; (try simp +decide (disch := omega) only [ni_bF, nI_clamp, nI_add, pk_mul, dc_ltT, dc_ltF, dc_leT, dc_leF, dc_eqF, dc_neT, dn_eq, dn_ne, dn_lt, dn_ge, si_at, si_c, si_k, q_at_nI, q_put_nI, ne_eq, not_false_eq_true, not_true_eq_false, ↓reduceIte, v0_ltT, v0_ltF, v0_gtT, v0_gtF, v0_leT, v0_leF, v0_geT, v0_geF, v0_eqT, v0_eqF, v0_add, v0_dda, v0_mul, v0_lum, v0_sub, v0_bad, v0_cl, v1_ltT, v1_ltF, v1_gtT, v1_gtF, v1_leT, v1_leF, v1_geT, v1_geF, v1_eqT, v1_eqF, v1_add, v1_dda, v1_mul, v1_lum, v1_sub, v1_bad, v1_cl, a1]); rw [sk_216_4_15, lp_216_15]
      rw [ht_216_2, ch_216_3]; (try simp +decide (disch := omega) only [ni_bF, nI_clamp, nI_add, pk_mul, dc_ltT, dc_ltF, dc_leT, dc_leF, dc_eqF, dc_neT, dn_eq, dn_ne, dn_lt, dn_ge, si_at, si_c, si_k, q_at_nI, q_put_nI, ne_eq, not_false_eq_true, not_true_eq_false, ↓reduceIte, v0_ltT, v0_ltF, v0_gtT, v0_gtF, v0_leT, v0_leF, v0_geT, v0_geF, v0_eqT, v0_eqF, v0_add, v0_dda, v0_mul, v0_lum, v0_sub, v0_bad, v0_cl, v2_ltT, v2_ltF, v2_gtT, v2_gtF, v2_leT, v2_leF, v2_geT, v2_geF, v2_eqT, v2_eqF, v2_add, v2_dda, v2_mul, v2_lum, v2_sub, v2_bad, v2_cl, d1]); rw [k1, ev_rs, ch_216_5]; try simp +decide (disch := omega) only [ni_bF, nI_clamp, nI_add, pk_mul, dc_ltT, dc_ltF, dc_leT, dc_leF, dc_eqF, dc_neT, dn_eq, dn_ne, dn_lt, dn_ge, si_at, si_c, si_k, q_at_nI, q_put_nI, ne_eq, not_false_eq_true, not_true_eq_false, ↓reduceIte, v0_ltT, v0_ltF, v0_gtT, v0_gtF, v0_leT, v0_leF, v0_geT, v0_geF, v0_eqT, v0_eqF, v0_add, v0_dda, v0_mul, v0_lum, v0_sub, v0_bad, v0_cl, v2_ltT, v2_ltF, v2_gtT, v2_gtF, v2_leT, v2_leF, v2_geT, v2_geF, v2_eqT, v2_eqF, v2_add, v2_dda, v2_mul, v2_lum, v2_sub, v2_bad, v2_cl, d1]
      rw [Nat.mul_comm]
  · refine ⟨_, ?_, r0 a2⟩
    rw [ht_216_2, ch_216_3]; (try simp +decide (disch := omega) only [ni_bF, nI_clamp, nI_add, pk_mul, dc_ltT, dc_ltF, dc_leT, dc_leF, dc_eqF, dc_neT, dn_eq, dn_ne, dn_lt, dn_ge, si_at, si_c, si_k, q_at_nI, q_put_nI, ne_eq, not_false_eq_true, not_true_eq_false, ↓reduceIte, v0_ltT, v0_ltF, v0_gtT, v0_gtF, v0_leT, v0_leF, v0_geT, v0_geF, v0_eqT, v0_eqF, v0_add, v0_dda, v0_mul, v0_lum, v0_sub, v0_bad, v0_cl, v2_ltT, v2_ltF, v2_gtT, v2_gtF, v2_leT, v2_leF, v2_geT, v2_geF, v2_eqT, v2_eqF, v2_add, v2_dda, v2_mul, v2_lum, v2_sub, v2_bad, v2_cl, a1]); rw [k0, ev_rs, ch_216_5]; try simp +decide (disch := omega) only [ni_bF, nI_clamp, nI_add, pk_mul, dc_ltT, dc_ltF, dc_leT, dc_leF, dc_eqF, dc_neT, dn_eq, dn_ne, dn_lt, dn_ge, si_at, si_c, si_k, q_at_nI, q_put_nI, ne_eq, not_false_eq_true, not_true_eq_false, ↓reduceIte, v0_ltT, v0_ltF, v0_gtT, v0_gtF, v0_leT, v0_leF, v0_geT, v0_geF, v0_eqT, v0_eqF, v0_add, v0_dda, v0_mul, v0_lum, v0_sub, v0_bad, v0_cl, v2_ltT, v2_ltF, v2_gtT, v2_gtF, v2_leT, v2_leF, v2_geT, v2_geF, v2_eqT, v2_eqF, v2_add, v2_dda, v2_mul, v2_lum, v2_sub, v2_bad, v2_cl, a1]
    rw [Nat.mul_comm, Nat.add_zero]
theorem fc_loop (d : Nat) (h : Nat → Nat → Int32) (hnd : nd ≤ 24) (hN : h 17 0 = nI nd) (hS : ∀ e, e < nd → h 20 e = nI (sz e) ∧ sz e ≤ 4) : ∀ (q e n : Nat), e + q = nd → 4 * q ≤ n → (∀ r, r < 2 * e → ¬ cg_C (h 36) (h 37) sz r) → ∃ x, am_fwd (am_call tb_P (d + 2)) (am_run (am_call tb_P (d + 2)) tb_r216_0 n) tb_r216_1 2 [(1, .int (nI e)), (0, .ref 35)] [] (pr_S, h, hl) = some (some (.int x), (pr_S, h, hl)) ∧ fc_R (cg_C (h 36) (h 37) sz) (2 * nd) x := by
  intro q
  induction q with
  | zero =>
    intro e n h1 h2 h3
    refine ⟨-1, ?_, Or.inl ⟨rfl, fun r hr => h3 r (by omega)⟩⟩
    rw [ht_216_1, ch_216_1]; (try simp +decide (disch := omega) only [ni_bF, nI_clamp, nI_add, pk_mul, dc_ltT, dc_ltF, dc_leT, dc_leF, dc_eqF, dc_neT, dn_eq, dn_ne, dn_lt, dn_ge, si_at, si_c, si_k, q_at_nI, q_put_nI, ne_eq, not_false_eq_true, not_true_eq_false, ↓reduceIte, v0_ltT, v0_ltF, v0_gtT, v0_gtF, v0_leT, v0_leF, v0_geT, v0_geF, v0_eqT, v0_eqF, v0_add, v0_dda, v0_mul, v0_lum, v0_sub, v0_bad, v0_cl, hN]); rw [sk_216_2_47, ht_216_5, ch_216_2]
  | succ q ih =>
    intro e n h1 h2 h3
    obtain ⟨x, m1, m2⟩ := fc_in (hl := hl) (nd := nd) (sz := sz) d e h (fc_R (cg_C (h 36) (h 37) sz) (2 * nd)) (by omega) hnd (hS e (by omega)).2 (hS e (by omega)).1 (n - 4) (fun a b => ih (e + 1) (n - 4) (by omega) (by omega) (fun r hr => by
      rcases Nat.lt_trichotomy r (2 * e) with c | c | c
      · exact h3 r c
      · rw [c]; exact a
      · rw [show r = 2 * e + 1 by omega]; exact b)) (fun a => Or.inr ⟨2 * e, by omega, rfl, a, h3⟩) (fun a b => Or.inr ⟨2 * e + 1, by omega, rfl, b, fun r hr => by
      by_cases c : r < 2 * e
      · exact h3 r c
      · rw [show r = 2 * e by omega]; exact a⟩) n (by omega)
    refine ⟨x, ?_, m2⟩
    rw [ht_216_1, ch_216_1]; try simp +decide (disch := omega) only [ni_bF, nI_clamp, nI_add, pk_mul, dc_ltT, dc_ltF, dc_leT, dc_leF, dc_eqF, dc_neT, dn_eq, dn_ne, dn_lt, dn_ge, si_at, si_c, si_k, q_at_nI, q_put_nI, ne_eq, not_false_eq_true, not_true_eq_false, ↓reduceIte, v0_ltT, v0_ltF, v0_gtT, v0_gtF, v0_leT, v0_leF, v0_geT, v0_geF, v0_eqT, v0_eqF, v0_add, v0_dda, v0_mul, v0_lum, v0_sub, v0_bad, v0_cl, hN]
    exact m1
theorem ea_firstChange (d : Nat) (h : Nat → Nat → Int32) (hnd : nd ≤ 24) (hN : h 17 0 = nI nd) (hS : ∀ e, e < nd → h 20 e = nI (sz e) ∧ sz e ≤ 4) : ∃ x, am_call tb_P (d + 3) 216 [.ref 35] (pr_S, h, hl) = some (some (.int x), (pr_S, h, hl)) ∧ fc_R (cg_C (h 36) (h 37) sz) (2 * nd) x := by
  obtain ⟨x, m1, m2⟩ := fc_loop (hl := hl) d h hnd hN hS nd 0 999999 (by omega) (by omega) (fun r hr => absurd hr (by omega))
  refine ⟨x, ?_, m2⟩
  rw [en_216, ht_216_0, ch_216_0]
  exact m1
/-! takeRound -/
def tk_h (sz : Nat → Nat) (h : Nat → Nat → Int32) (D i : Nat) : Nat → Nat → Int32 := fun c x => if c = 36 ∧ ((x / 8 < D ∧ x % 4 < sz (x / 8)) ∨ (x / 8 = D ∧ x % 4 < i)) then h 37 x else h c x
theorem tk_c {h : Nat → Nat → Int32} {D i c : Nat} (hc : c ≠ 36) : tk_h sz h D i c = h c := by
  funext x
  exact if_neg (fun e => hc e.1)
theorem tk_1 {h : Nat → Nat → Int32} {D i : Nat} (hi4 : i < 4) : am_si (am_si (tk_h sz h D i) 36 (8 * D + 4 * 0 + i) (h 37 (8 * D + 4 * 0 + i))) 36 (8 * D + 4 * 1 + i) (h 37 (8 * D + 4 * 1 + i)) = tk_h sz h D (i + 1) := by
  funext c x
  unfold am_si tk_h
  by_cases c1 : c = 36
  · rw [if_pos c1]
    by_cases c2 : x = 8 * D + 4 * 1 + i
    · rw [if_pos c2, if_pos (by omega), c2]
    · rw [if_neg c2]
      by_cases c3 : x = 8 * D + 4 * 0 + i
      · rw [if_pos c1, if_pos c3, if_pos (by omega), c3]
      · rw [if_pos c1, if_neg c3]
        by_cases c4 : c = 36 ∧ ((x / 8 < D ∧ x % 4 < sz (x / 8)) ∨ (x / 8 = D ∧ x % 4 < i))
        · rw [if_pos c4, if_pos (by omega)]
        · rw [if_neg c4, if_neg (fun e => c4 ⟨c1, by omega⟩)]
  · rw [if_neg c1, if_neg c1, if_neg (fun e => c1 e.1), if_neg (fun e => c1 e.1)]
theorem tk_up {h : Nat → Nat → Int32} {D : Nat} : tk_h sz h D (sz D) = tk_h sz h (D + 1) 0 := by
  funext c x
  unfold tk_h
  by_cases c4 : c = 36 ∧ ((x / 8 < D ∧ x % 4 < sz (x / 8)) ∨ (x / 8 = D ∧ x % 4 < sz D))
  · rw [if_pos c4, if_pos]
    refine ⟨c4.1, Or.inl ?_⟩
    rcases c4.2 with a | a
    · exact ⟨by omega, a.2⟩
    · exact ⟨by omega, by rw [a.1]; exact a.2⟩
  · rw [if_neg c4, if_neg]
    intro e
    rcases e.2 with a | a
    · by_cases q : x / 8 = D
      · exact c4 ⟨e.1, Or.inr ⟨q, by rw [← q]; exact a.2⟩⟩
      · exact c4 ⟨e.1, Or.inl ⟨by omega, a.2⟩⟩
    · omega
theorem tk_0 {h : Nat → Nat → Int32} : tk_h sz h 0 0 = h := by
  funext c x
  exact if_neg (fun e => by rcases e.2 with a | a <;> omega)
theorem ea_takeUse (d x : Nat) (h : Nat → Nat → Int32) (hx : x < 192) : am_call tb_P (d + 2) 219 [.ref 35, .int (nI x)] (pr_S, h, hl) = some (none, (pr_S, am_si h 36 x (h 37 x), hl)) := by
  rw [en_219, ht_219_0, ch_219_0, at_37, ev_rs, ch_219_1]; (try simp +decide (disch := omega) only [ni_bF, nI_clamp, nI_add, pk_mul, dc_ltT, dc_ltF, dc_leT, dc_leF, dc_eqF, dc_neT, dn_eq, dn_ne, dn_lt, dn_ge, si_at, si_c, si_k, q_at_nI, q_put_nI, ne_eq, not_false_eq_true, not_true_eq_false, ↓reduceIte, v0_ltT, v0_ltF, v0_gtT, v0_gtF, v0_leT, v0_leF, v0_geT, v0_geF, v0_eqT, v0_eqF, v0_add, v0_dda, v0_mul, v0_lum, v0_sub, v0_bad, v0_cl]); rw [put_36, ev_rn, ch_219_2]; try simp +decide (disch := omega) only [ni_bF, nI_clamp, nI_add, pk_mul, dc_ltT, dc_ltF, dc_leT, dc_leF, dc_eqF, dc_neT, dn_eq, dn_ne, dn_lt, dn_ge, si_at, si_c, si_k, q_at_nI, q_put_nI, ne_eq, not_false_eq_true, not_true_eq_false, ↓reduceIte, v0_ltT, v0_ltF, v0_gtT, v0_gtF, v0_leT, v0_leF, v0_geT, v0_geF, v0_eqT, v0_eqF, v0_add, v0_dda, v0_mul, v0_lum, v0_sub, v0_bad, v0_cl]
theorem tr_in (d e w : Nat) (h : Nat → Nat → Int32) (res : Option Value × am_G) (he : e < 24) (hw : w ≤ 4) (n2 : Nat) (k : am_fwd (am_call tb_P (d + 2)) (am_run (am_call tb_P (d + 2)) tb_r218_0 n2) tb_r218_1 2 [(1, .int (nI (e + 1))), (0, .ref 35)] [] (pr_S, tk_h sz h e w, hl) = some res) : ∀ (q i n : Nat), i + q = w → n2 + q + 1 ≤ n →
    am_fwd (am_call tb_P (d + 2)) (am_run (am_call tb_P (d + 2)) tb_r218_0 n) tb_r218_2 27 [(3, .int (nI i)), (2, .int (nI w)), (1, .int (nI e)), (0, .ref 35)] [] (pr_S, tk_h sz h e i, hl) = some res := by
  intro q
  induction q with
  | zero =>
    intro i n h1 h2
    obtain ⟨n, rfl⟩ : ∃ n', n = n' + 1 := ⟨n - 1, by omega⟩
    have e1 : i = w := by omega
    subst e1
    rw [ht_218_2, ch_218_4]; (try simp +decide (disch := omega) only [ni_bF, nI_clamp, nI_add, pk_mul, dc_ltT, dc_ltF, dc_leT, dc_leF, dc_eqF, dc_neT, dn_eq, dn_ne, dn_lt, dn_ge, si_at, si_c, si_k, q_at_nI, q_put_nI, ne_eq, not_false_eq_true, not_true_eq_false, ↓reduceIte, v0_ltT, v0_ltF, v0_gtT, v0_gtF, v0_leT, v0_leF, v0_geT, v0_geF, v0_eqT, v0_eqF, v0_add, v0_dda, v0_mul, v0_lum, v0_sub, v0_bad, v0_cl]); rw [ht_218_3, ch_218_5]; (try simp +decide (disch := omega) only [ni_bF, nI_clamp, nI_add, pk_mul, dc_ltT, dc_ltF, dc_leT, dc_leF, dc_eqF, dc_neT, dn_eq, dn_ne, dn_lt, dn_ge, si_at, si_c, si_k, q_at_nI, q_put_nI, ne_eq, not_false_eq_true, not_true_eq_false, ↓reduceIte, v0_ltT, v0_ltF, v0_gtT, v0_gtF, v0_leT, v0_leF, v0_geT, v0_geF, v0_eqT, v0_eqF, v0_add, v0_dda, v0_mul, v0_lum, v0_sub, v0_bad, v0_cl, v1_ltT, v1_ltF, v1_gtT, v1_gtF, v1_leT, v1_leF, v1_geT, v1_geF, v1_eqT, v1_eqF, v1_add, v1_dda, v1_mul, v1_lum, v1_sub, v1_bad, v1_cl]); rw [sk_218_4_2, lp_218_2]
    exact mo_f (by omega) (by repeat (first | exact trivial | refine And.intro rfl ?_)) rfl k
  | succ q ih =>
    intro i n h1 h2
    obtain ⟨n, rfl⟩ : ∃ n', n = n' + 1 := ⟨n - 1, by omega⟩
    have p := ih (i + 1) n (by omega) (by omega)
    rw [ht_218_2, ch_218_4]; (try simp +decide (disch := omega) only [ni_bF, nI_clamp, nI_add, pk_mul, dc_ltT, dc_ltF, dc_leT, dc_leF, dc_eqF, dc_neT, dn_eq, dn_ne, dn_lt, dn_ge, si_at, si_c, si_k, q_at_nI, q_put_nI, ne_eq, not_false_eq_true, not_true_eq_false, ↓reduceIte, v0_ltT, v0_ltF, v0_gtT, v0_gtF, v0_leT, v0_leF, v0_geT, v0_geF, v0_eqT, v0_eqF, v0_add, v0_dda, v0_mul, v0_lum, v0_sub, v0_bad, v0_cl]); rw [ea_rowIndex _ _ _ _ _ _, show (0 : Int32) = nI 0 from rfl, lk_ri, ev_rs, ch_218_6, ea_takeUse _ (8 * e + 4 * 0 + i) _ (by omega), ev_rn, ch_218_8, ea_rowIndex _ _ _ _ _ _, show (1 : Int32) = nI 1 from rfl, lk_ri, ev_rs, ch_218_11, ea_takeUse _ (8 * e + 4 * 1 + i) _ (by omega), ev_rn, ch_218_12]; (try simp +decide (disch := omega) only [ni_bF, nI_clamp, nI_add, pk_mul, dc_ltT, dc_ltF, dc_leT, dc_leF, dc_eqF, dc_neT, dn_eq, dn_ne, dn_lt, dn_ge, si_at, si_c, si_k, q_at_nI, q_put_nI, ne_eq, not_false_eq_true, not_true_eq_false, ↓reduceIte, v0_ltT, v0_ltF, v0_gtT, v0_gtF, v0_leT, v0_leF, v0_geT, v0_geF, v0_eqT, v0_eqF, v0_add, v0_dda, v0_mul, v0_lum, v0_sub, v0_bad, v0_cl, v1_ltT, v1_ltF, v1_gtT, v1_gtF, v1_leT, v1_leF, v1_geT, v1_geF, v1_eqT, v1_eqF, v1_add, v1_dda, v1_mul, v1_lum, v1_sub, v1_bad, v1_cl]); rw [sk_218_3_27, tk_c (c := 37) (by decide), tk_1 (by omega), lp_218_27]
    exact mo_f (Nat.le_refl _) (by repeat (first | exact trivial | refine And.intro rfl ?_)) rfl p
theorem tr_loop (d : Nat) (h : Nat → Nat → Int32) (hnd : nd ≤ 24) (hN : h 17 0 = nI nd) (hS : ∀ e, e < nd → h 20 e = nI (sz e) ∧ sz e ≤ 4) : ∀ (q e n : Nat), e + q = nd → 6 * q ≤ n → am_fwd (am_call tb_P (d + 2)) (am_run (am_call tb_P (d + 2)) tb_r218_0 n) tb_r218_1 2 [(1, .int (nI e)), (0, .ref 35)] [] (pr_S, tk_h sz h e 0, hl) = some (none, (pr_S, am_si (tk_h sz h nd 0) 35 5 1, hl)) := by
  intro q
  induction q with
  | zero =>
    intro e n h1 h2
    have e1 : e = nd := by omega
    subst e1
    have g1 : tk_h sz h e 0 17 0 = nI e := by rw [tk_c (by decide)]; exact hN
    rw [ht_218_1, ch_218_1]; (try simp +decide (disch := omega) only [ni_bF, nI_clamp, nI_add, pk_mul, dc_ltT, dc_ltF, dc_leT, dc_leF, dc_eqF, dc_neT, dn_eq, dn_ne, dn_lt, dn_ge, si_at, si_c, si_k, q_at_nI, q_put_nI, ne_eq, not_false_eq_true, not_true_eq_false, ↓reduceIte, v0_ltT, v0_ltF, v0_gtT, v0_gtF, v0_leT, v0_leF, v0_geT, v0_geF, v0_eqT, v0_eqF, v0_add, v0_dda, v0_mul, v0_lum, v0_sub, v0_bad, v0_cl, g1]); rw [sk_218_2_64, ht_218_4, ch_218_2]
  | succ q ih =>
    intro e n h1 h2
    have k := ih (e + 1) (n - 6) (by omega) (by omega)
    rw [← tk_up] at k
    have p := tr_in (hl := hl) (sz := sz) d e (sz e) h _ (by omega) (hS e (by omega)).2 (n - 6) k (sz e) 0 n (by omega) (by have := (hS e (by omega)).2; omega)
    have g1 : tk_h sz h e 0 17 0 = nI nd := by rw [tk_c (by decide)]; exact hN
    have g2 : tk_h sz h e 0 20 e = nI (sz e) := by rw [tk_c (by decide)]; exact (hS e (by omega)).1
    rw [ht_218_1, ch_218_1]; (try simp +decide (disch := omega) only [ni_bF, nI_clamp, nI_add, pk_mul, dc_ltT, dc_ltF, dc_leT, dc_leF, dc_eqF, dc_neT, dn_eq, dn_ne, dn_lt, dn_ge, si_at, si_c, si_k, q_at_nI, q_put_nI, ne_eq, not_false_eq_true, not_true_eq_false, ↓reduceIte, v0_ltT, v0_ltF, v0_gtT, v0_gtF, v0_leT, v0_leF, v0_geT, v0_geF, v0_eqT, v0_eqF, v0_add, v0_dda, v0_mul, v0_lum, v0_sub, v0_bad, v0_cl, g1, g2]); rw [at_20, ev_rs, ch_218_3]; try simp +decide (disch := omega) only [ni_bF, nI_clamp, nI_add, pk_mul, dc_ltT, dc_ltF, dc_leT, dc_leF, dc_eqF, dc_neT, dn_eq, dn_ne, dn_lt, dn_ge, si_at, si_c, si_k, q_at_nI, q_put_nI, ne_eq, not_false_eq_true, not_true_eq_false, ↓reduceIte, v0_ltT, v0_ltF, v0_gtT, v0_gtF, v0_leT, v0_leF, v0_geT, v0_geF, v0_eqT, v0_eqF, v0_add, v0_dda, v0_mul, v0_lum, v0_sub, v0_bad, v0_cl, g1, g2]
    exact p
theorem ea_takeRound (d : Nat) (h : Nat → Nat → Int32) (hnd : nd ≤ 24) (hN : h 17 0 = nI nd) (hS : ∀ e, e < nd → h 20 e = nI (sz e) ∧ sz e ≤ 4) : am_call tb_P (d + 3) 218 [.ref 35] (pr_S, h, hl) = some (none, (pr_S, am_si (tk_h sz h nd 0) 35 5 1, hl)) := by
  have k := tr_loop (hl := hl) (sz := sz) d h hnd hN hS nd 0 999999 (by omega) (by omega)
  rw [tk_0] at k
  rw [en_218, ht_218_0, ch_218_0]
  exact k
end PG
