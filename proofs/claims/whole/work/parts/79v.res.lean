/-! both parsers side by side: what the NAMES mean -/
section RV
variable {hC hM : Nat → Nat → Int32} {gC gM : Nat → Nat → Int64} {B : Nat → Nat} {N M rd k o n t w π D e s : Nat} {nam : Nat → Int64}
def rv_C (hC : Nat → Nat → Int32) (gC : Nat → Nat → Int64) (D N i : Nat) (nam : Nat → Int64) (h : Nat → Nat → Int32) (g : Nat → Nat → Int64) : Prop := (∀ c, c ≠ 1 → c ≠ 13 → h c = hC c) ∧ h 1 0 = nI N ∧ (∀ c, c ≠ 1 → g c = gC c) ∧ (∀ i', i' < i ∧ hC 12 i' = 2 → h 13 i' = fs_r (ff (gC 4) (nam i') D 0)) ∧ (∀ i', ¬ (i' < i ∧ hC 12 i' = 2) → h 13 i' = hC 13 i')
theorem rv_loop (d : Nat) (hD : D ≤ 24) (s0 : hC 3 0 = nI D) (s2 : hC 3 2 = nI n) (hn : n ≤ 2900) (f0 : hC 32 1 = 0) (hNN : N ≤ 2000) (tx : ∀ p, p < N → B p < 256 ∧ hC 2 p = by_c (B p)) (hN : ∀ i, i < n → hC 12 i = 2 → ∃ p, p < N ∧ hC 14 i = nI p ∧ tok B N p = 2 ∧ nm B p (la B N p - p) = nam i ∧ sk B N p = p) : ∀ (m i : Nat), i + m = n → ∀ (h : Nat → Nat → Int32) (g : Nat → Nat → Int64), rv_C hC gC D N i nam h g → (∀ i', i' < i → hC 12 i' = 2 → ff (gC 4) (nam i') D 0 ≠ none) → ∃ (h' : Nat → Nat → Int32) (g' : Nat → Nat → Int64), (∀ nn, m ≤ nn → am_fwd (am_call tb_P (d + 4)) (am_run (am_call tb_P (d + 4)) tb_r195_0 nn) tb_r195_1 2 [(1, .int (nI i)), (0, .ref 32)] [] (pr_S, h, g) = some (none, (pr_S, h', g'))) ∧ ((rv_C hC gC D N n nam h' g' ∧ ∀ i', i' < n → hC 12 i' = 2 → ff (gC 4) (nam i') D 0 ≠ none) ∨ (∃ i', i' < n ∧ hC 12 i' = 2 ∧ ff (gC 4) (nam i') D 0 = none ∧ (∀ i'', i'' < i' → hC 12 i'' = 2 → ff (gC 4) (nam i'') D 0 ≠ none) ∧ h' 32 1 = 3 ∧ h' 32 0 = hC 14 i' ∧ (∀ c, c ≠ 1 → c ≠ 13 → c ≠ 32 → h' c = hC c) ∧ (∀ c, c ≠ 1 → g' c = gC c) ∧ h' 1 0 = nI N)) := by
  intro m
  induction m with
  | zero =>
    intro i e h g S nf
    obtain rfl : i = n := by omega
    have s2' : h 3 2 = nI i := by rw [S.1 _ (by decide) (by decide)]; exact s2
    refine ⟨h, g, fun nn _ => ?_, Or.inl ⟨S, nf⟩⟩
    rw [ht_195_1, ch_195_1]; (try simp +decide (disch := omega) only [ni_bF, nI_clamp, nI_add, pk_mul, dc_ltT, dc_ltF, dc_leT, dc_leF, dc_eqF, dc_neT, dn_eq, dn_ne, dn_lt, dn_ge, si_at, si_c, si_k, q_at_nI, q_put_nI, ne_eq, not_false_eq_true, not_true_eq_false, ↓reduceIte, v0_ltT, v0_ltF, v0_gtT, v0_gtF, v0_leT, v0_leF, v0_geT, v0_geF, v0_eqT, v0_eqF, v0_add, v0_dda, v0_mul, v0_lum, v0_sub, v0_bad, v0_cl, s2']); rw [sk_195_2_95, ht_195_4, ch_195_2]
  | succ m ih =>
    intro i e h g S nf
    obtain ⟨S1, S2, S3, S4, S5⟩ := id S
    have s2' : h 3 2 = nI n := by rw [S1 _ (by decide) (by decide)]; exact s2
    have f0' : h 32 1 = 0 := by rw [S1 _ (by decide) (by decide)]; exact f0
    have s0' : h 3 0 = nI D := by rw [S1 _ (by decide) (by decide)]; exact s0
    have ki : h 12 i = hC 12 i := by rw [S1 _ (by decide) (by decide)]
    have ai : h 14 i = hC 14 i := by rw [S1 _ (by decide) (by decide)]
    by_cases c : hC 12 i = 2
    · obtain ⟨p, p1, p2, p3, p4, p5⟩ := hN i (by omega) c
      have ki2 : h 12 i = 2 := ki.trans c
      have ai2 : h 14 i = nI p := ai.trans p2
      have T : tx_C h B N := ⟨S2, hNN, fun p hp => by rw [S1 _ (by decide) (by decide)]; exact tx p hp⟩
      obtain ⟨h2, g2, u1, u2, u3, u4, u5⟩ := ea_scanFrom (hl := g) d T (show p ≤ N by omega)
      rw [p5] at u5
      obtain ⟨c1, c2, c3⟩ := tok_n p3
      have nmE : g2 1 3 = nam i := (u5.2.2.2.1 c1 c2).trans p4
      have s02 : h2 3 0 = nI D := by rw [u2 _ (by decide)]; exact s0'
      have fd := ea_findDef (gC := g2) (d + 3) (g2 1 3) hD s02
      rw [u4 4 (by decide), S3 4 (by decide), nmE] at fd
      cases hf : ff (gC 4) (nam i) D 0 with
      | some j =>
        rw [hf] at fd
        have hj := ff_lt hf
        have fd' : am_call tb_P (d + 4) 207 [.ref 3, .long (nam i)] (pr_S, h2, g2) = some (some (.int (nI j)), (pr_S, h2, g2)) := fd
        obtain ⟨h', g', v1, v2⟩ := ih (i + 1) (by omega) (am_si h2 13 i (nI j)) g2 ⟨fun c q1 q2 => by rw [am_si_ne q2, u2 c q1]; exact S1 c q1 q2, by rw [am_si_ne (by decide), u3]; exact S2, fun c q => by rw [u4 c q]; exact S3 c q, fun i' q => by
            by_cases ee : i' = i
            · subst ee; rw [am_si_at, hf]; rfl
            · rw [am_si_off (by omega), u2 _ (by decide)]; exact S4 i' ⟨by omega, q.2⟩, fun i' q => by
            by_cases ee : i' = i
            · subst ee; exact absurd ⟨by omega, c⟩ q
            · rw [am_si_off (by omega), u2 _ (by decide)]; exact S5 i' (fun z => q ⟨by omega, z.2⟩)⟩ (fun i' q1 q2 => by
            by_cases ee : i' = i
            · subst ee; rw [hf]; exact fun z => by cases z
            · exact nf i' (by omega) q2)
        refine ⟨h', g', fun nn hn => ?_, v2⟩
        obtain ⟨q, rfl⟩ : ∃ q, nn = q + 1 := ⟨nn - 1, by omega⟩
        have p := v1 q (by omega)
        rw [ht_195_1, ch_195_1]; (try simp +decide (disch := omega) only [ni_bF, nI_clamp, nI_add, pk_mul, dc_ltT, dc_ltF, dc_leT, dc_leF, dc_eqF, dc_neT, dn_eq, dn_ne, dn_lt, dn_ge, si_at, si_c, si_k, q_at_nI, q_put_nI, ne_eq, not_false_eq_true, not_true_eq_false, ↓reduceIte, v0_ltT, v0_ltF, v0_gtT, v0_gtF, v0_leT, v0_leF, v0_geT, v0_geF, v0_eqT, v0_eqF, v0_add, v0_dda, v0_mul, v0_lum, v0_sub, v0_bad, v0_cl, s2', f0', ki2, ai2, nmE]); rw [at_12, ev_rs, ch_195_3]; (try simp +decide (disch := omega) only [ni_bF, nI_clamp, nI_add, pk_mul, dc_ltT, dc_ltF, dc_leT, dc_leF, dc_eqF, dc_neT, dn_eq, dn_ne, dn_lt, dn_ge, si_at, si_c, si_k, q_at_nI, q_put_nI, ne_eq, not_false_eq_true, not_true_eq_false, ↓reduceIte, v0_ltT, v0_ltF, v0_gtT, v0_gtF, v0_leT, v0_leF, v0_geT, v0_geF, v0_eqT, v0_eqF, v0_add, v0_dda, v0_mul, v0_lum, v0_sub, v0_bad, v0_cl, v2_ltT, v2_ltF, v2_gtT, v2_gtF, v2_leT, v2_leF, v2_geT, v2_geF, v2_eqT, v2_eqF, v2_add, v2_dda, v2_mul, v2_lum, v2_sub, v2_bad, v2_cl, s2', f0', ki2, ai2, nmE]); rw [at_14, ev_rs, ch_195_5]; (try simp +decide (disch := omega) only [ni_bF, nI_clamp, nI_add, pk_mul, dc_ltT, dc_ltF, dc_leT, dc_leF, dc_eqF, dc_neT, dn_eq, dn_ne, dn_lt, dn_ge, si_at, si_c, si_k, q_at_nI, q_put_nI, ne_eq, not_false_eq_true, not_true_eq_false, ↓reduceIte, v0_ltT, v0_ltF, v0_gtT, v0_gtF, v0_leT, v0_leF, v0_geT, v0_geF, v0_eqT, v0_eqF, v0_add, v0_dda, v0_mul, v0_lum, v0_sub, v0_bad, v0_cl, s2', f0', ki2, ai2, nmE]); rw [u1, ev_rn, ch_195_6, nmE, fd', ev_rs, ch_195_7]; (try simp +decide (disch := omega) only [ni_bF, nI_clamp, nI_add, pk_mul, dc_ltT, dc_ltF, dc_leT, dc_leF, dc_eqF, dc_neT, dn_eq, dn_ne, dn_lt, dn_ge, si_at, si_c, si_k, q_at_nI, q_put_nI, ne_eq, not_false_eq_true, not_true_eq_false, ↓reduceIte, v0_ltT, v0_ltF, v0_gtT, v0_gtF, v0_leT, v0_leF, v0_geT, v0_geF, v0_eqT, v0_eqF, v0_add, v0_dda, v0_mul, v0_lum, v0_sub, v0_bad, v0_cl, s2', f0', ki2, ai2, nmE]); rw [ht_195_2, ch_195_8, put_13, ev_rn, ch_195_10]; (try simp +decide (disch := omega) only [ni_bF, nI_clamp, nI_add, pk_mul, dc_ltT, dc_ltF, dc_leT, dc_leF, dc_eqF, dc_neT, dn_eq, dn_ne, dn_lt, dn_ge, si_at, si_c, si_k, q_at_nI, q_put_nI, ne_eq, not_false_eq_true, not_true_eq_false, ↓reduceIte, v0_ltT, v0_ltF, v0_gtT, v0_gtF, v0_leT, v0_leF, v0_geT, v0_geF, v0_eqT, v0_eqF, v0_add, v0_dda, v0_mul, v0_lum, v0_sub, v0_bad, v0_cl, s2', f0', ki2, ai2, nmE]); rw [ht_195_3, ch_195_11]; (try simp +decide (disch := omega) only [ni_bF, nI_clamp, nI_add, pk_mul, dc_ltT, dc_ltF, dc_leT, dc_leF, dc_eqF, dc_neT, dn_eq, dn_ne, dn_lt, dn_ge, si_at, si_c, si_k, q_at_nI, q_put_nI, ne_eq, not_false_eq_true, not_true_eq_false, ↓reduceIte, v0_ltT, v0_ltF, v0_gtT, v0_gtF, v0_leT, v0_leF, v0_geT, v0_geF, v0_eqT, v0_eqF, v0_add, v0_dda, v0_mul, v0_lum, v0_sub, v0_bad, v0_cl, v1_ltT, v1_ltF, v1_gtT, v1_gtF, v1_leT, v1_leF, v1_geT, v1_geF, v1_eqT, v1_eqF, v1_add, v1_dda, v1_mul, v1_lum, v1_sub, v1_bad, v1_cl, s2', f0', ki2, ai2, nmE]); rw [sk_195_4_2, lp_195_2]
        exact mo_f (Nat.le_refl _) (by repeat (first | exact trivial | refine And.intro rfl ?_)) rfl p
      | none =>
        rw [hf] at fd
        have fd' : am_call tb_P (d + 4) 207 [.ref 3, .long (nam i)] (pr_S, h2, g2) = some (some (.int (-1)), (pr_S, h2, g2)) := fd
        have f02 : h2 32 1 = 0 := by rw [u2 _ (by decide)]; exact f0'
        refine ⟨am_si (xfl h2 3 (h2 1 2)) 13 i (-1), g2, fun nn hn => ?_, Or.inr ⟨i, by omega, c, hf, nf, ?_, ?_, ?_, ?_, ?_⟩⟩
        · obtain ⟨q, rfl⟩ : ∃ q, nn = q + 1 := ⟨nn - 1, by omega⟩
          have nz : (am_si (xfl h2 3 (h2 1 2)) 13 i (-1)) 32 1 ≠ 0 := by unfold xfl; rw [am_si_ne (by decide), am_si_ne (by decide), am_si_off (by decide), am_si_at]; decide
          have p : am_fwd (am_call tb_P (d + 4)) (am_run (am_call tb_P (d + 4)) tb_r195_0 q) tb_r195_1 2 [(1, .int (nI (i + 1))), (0, .ref 32)] [] (pr_S, am_si (xfl h2 3 (h2 1 2)) 13 i (-1), g2) = some (none, (pr_S, am_si (xfl h2 3 (h2 1 2)) 13 i (-1), g2)) := by
            by_cases l : (am_si (xfl h2 3 (h2 1 2)) 13 i (-1)) 3 2 ≤ nI (i + 1)
            · rw [ht_195_1, ch_195_1, if_pos l, sk_195_2_95, ht_195_4, ch_195_2]
            · rw [ht_195_1, ch_195_1, if_neg l, if_pos nz, sk_195_2_95, ht_195_4, ch_195_2]
          rw [ht_195_1, ch_195_1]; (try simp +decide (disch := omega) only [ni_bF, nI_clamp, nI_add, pk_mul, dc_ltT, dc_ltF, dc_leT, dc_leF, dc_eqF, dc_neT, dn_eq, dn_ne, dn_lt, dn_ge, si_at, si_c, si_k, q_at_nI, q_put_nI, ne_eq, not_false_eq_true, not_true_eq_false, ↓reduceIte, v0_ltT, v0_ltF, v0_gtT, v0_gtF, v0_leT, v0_leF, v0_geT, v0_geF, v0_eqT, v0_eqF, v0_add, v0_dda, v0_mul, v0_lum, v0_sub, v0_bad, v0_cl, s2', f0', ki2, ai2, nmE]); rw [at_12, ev_rs, ch_195_3]; (try simp +decide (disch := omega) only [ni_bF, nI_clamp, nI_add, pk_mul, dc_ltT, dc_ltF, dc_leT, dc_leF, dc_eqF, dc_neT, dn_eq, dn_ne, dn_lt, dn_ge, si_at, si_c, si_k, q_at_nI, q_put_nI, ne_eq, not_false_eq_true, not_true_eq_false, ↓reduceIte, v0_ltT, v0_ltF, v0_gtT, v0_gtF, v0_leT, v0_leF, v0_geT, v0_geF, v0_eqT, v0_eqF, v0_add, v0_dda, v0_mul, v0_lum, v0_sub, v0_bad, v0_cl, v2_ltT, v2_ltF, v2_gtT, v2_gtF, v2_leT, v2_leF, v2_geT, v2_geF, v2_eqT, v2_eqF, v2_add, v2_dda, v2_mul, v2_lum, v2_sub, v2_bad, v2_cl, s2', f0', ki2, ai2, nmE]); rw [at_14, ev_rs, ch_195_5]; (try simp +decide (disch := omega) only [ni_bF, nI_clamp, nI_add, pk_mul, dc_ltT, dc_ltF, dc_leT, dc_leF, dc_eqF, dc_neT, dn_eq, dn_ne, dn_lt, dn_ge, si_at, si_c, si_k, q_at_nI, q_put_nI, ne_eq, not_false_eq_true, not_true_eq_false, ↓reduceIte, v0_ltT, v0_ltF, v0_gtT, v0_gtF, v0_leT, v0_leF, v0_geT, v0_geF, v0_eqT, v0_eqF, v0_add, v0_dda, v0_mul, v0_lum, v0_sub, v0_bad, v0_cl, s2', f0', ki2, ai2, nmE]); rw [u1, ev_rn, ch_195_6, nmE, fd', ev_rs, ch_195_7]; (try simp +decide (disch := omega) only [ni_bF, nI_clamp, nI_add, pk_mul, dc_ltT, dc_ltF, dc_leT, dc_leF, dc_eqF, dc_neT, dn_eq, dn_ne, dn_lt, dn_ge, si_at, si_c, si_k, q_at_nI, q_put_nI, ne_eq, not_false_eq_true, not_true_eq_false, ↓reduceIte, v0_ltT, v0_ltF, v0_gtT, v0_gtF, v0_leT, v0_leF, v0_geT, v0_geF, v0_eqT, v0_eqF, v0_add, v0_dda, v0_mul, v0_lum, v0_sub, v0_bad, v0_cl, s2', f0', ki2, ai2, nmE]); rw [ea_pfail _ f02, ev_rn, ch_195_9, ht_195_2, ch_195_8, put_13, ev_rn, ch_195_10]; (try simp +decide (disch := omega) only [ni_bF, nI_clamp, nI_add, pk_mul, dc_ltT, dc_ltF, dc_leT, dc_leF, dc_eqF, dc_neT, dn_eq, dn_ne, dn_lt, dn_ge, si_at, si_c, si_k, q_at_nI, q_put_nI, ne_eq, not_false_eq_true, not_true_eq_false, ↓reduceIte, v0_ltT, v0_ltF, v0_gtT, v0_gtF, v0_leT, v0_leF, v0_geT, v0_geF, v0_eqT, v0_eqF, v0_add, v0_dda, v0_mul, v0_lum, v0_sub, v0_bad, v0_cl, s2', f0', ki2, ai2, nmE]); rw [ht_195_3, ch_195_11]; (try simp +decide (disch := omega) only [ni_bF, nI_clamp, nI_add, pk_mul, dc_ltT, dc_ltF, dc_leT, dc_leF, dc_eqF, dc_neT, dn_eq, dn_ne, dn_lt, dn_ge, si_at, si_c, si_k, q_at_nI, q_put_nI, ne_eq, not_false_eq_true, not_true_eq_false, ↓reduceIte, v0_ltT, v0_ltF, v0_gtT, v0_gtF, v0_leT, v0_leF, v0_geT, v0_geF, v0_eqT, v0_eqF, v0_add, v0_dda, v0_mul, v0_lum, v0_sub, v0_bad, v0_cl, v1_ltT, v1_ltF, v1_gtT, v1_gtF, v1_leT, v1_leF, v1_geT, v1_geF, v1_eqT, v1_eqF, v1_add, v1_dda, v1_mul, v1_lum, v1_sub, v1_bad, v1_cl, s2', f0', ki2, ai2, nmE]); rw [sk_195_4_2, lp_195_2]
          exact mo_f (Nat.le_refl _) (by repeat (first | exact trivial | refine And.intro rfl ?_)) rfl p
        · unfold xfl; rw [am_si_ne (by decide), am_si_ne (by decide), am_si_off (by decide), am_si_at]
        · unfold xfl; rw [am_si_ne (by decide), am_si_ne (by decide), am_si_at, u5.1, p2]
        · intro c q1 q2 q3
          unfold xfl; rw [am_si_ne q2, am_si_ne q1, am_si_ne q3, am_si_ne q3, u2 c q1]; exact S1 c q1 q2
        · intro c q
          rw [u4 c q]; exact S3 c q
        · unfold xfl; rw [am_si_ne (by decide), am_si_off (by decide), am_si_ne (by decide), am_si_ne (by decide), u3]; exact S2
    · obtain ⟨h', g', v1, v2⟩ := ih (i + 1) (by omega) h g ⟨S1, S2, S3, fun i' q => S4 i' ⟨by
          by_cases ee : i' = i
          · subst ee; exact absurd q.2 c
          · omega, q.2⟩, fun i' q => S5 i' (fun z => q ⟨by omega, z.2⟩)⟩ (fun i' q1 q2 => by
          by_cases ee : i' = i
          · subst ee; exact absurd q2 c
          · exact nf i' (by omega) q2)
      refine ⟨h', g', fun nn hn => ?_, v2⟩
      obtain ⟨q, rfl⟩ : ∃ q, nn = q + 1 := ⟨nn - 1, by omega⟩
      have p := v1 q (by omega)
      have kn : h 12 i ≠ 2 := by rw [ki]; exact c
      rw [ht_195_1, ch_195_1]; (try simp +decide (disch := omega) only [ni_bF, nI_clamp, nI_add, pk_mul, dc_ltT, dc_ltF, dc_leT, dc_leF, dc_eqF, dc_neT, dn_eq, dn_ne, dn_lt, dn_ge, si_at, si_c, si_k, q_at_nI, q_put_nI, ne_eq, not_false_eq_true, not_true_eq_false, ↓reduceIte, v0_ltT, v0_ltF, v0_gtT, v0_gtF, v0_leT, v0_leF, v0_geT, v0_geF, v0_eqT, v0_eqF, v0_add, v0_dda, v0_mul, v0_lum, v0_sub, v0_bad, v0_cl, s2', f0']); rw [at_12, ev_rs, ch_195_3]; (try simp +decide (disch := omega) only [ni_bF, nI_clamp, nI_add, pk_mul, dc_ltT, dc_ltF, dc_leT, dc_leF, dc_eqF, dc_neT, dn_eq, dn_ne, dn_lt, dn_ge, si_at, si_c, si_k, q_at_nI, q_put_nI, ne_eq, not_false_eq_true, not_true_eq_false, ↓reduceIte, v0_ltT, v0_ltF, v0_gtT, v0_gtF, v0_leT, v0_leF, v0_geT, v0_geF, v0_eqT, v0_eqF, v0_add, v0_dda, v0_mul, v0_lum, v0_sub, v0_bad, v0_cl, v2_ltT, v2_ltF, v2_gtT, v2_gtF, v2_leT, v2_leF, v2_geT, v2_geF, v2_eqT, v2_eqF, v2_add, v2_dda, v2_mul, v2_lum, v2_sub, v2_bad, v2_cl, s2', f0']); rw [if_pos kn, sk_195_2_89, ht_195_3, ch_195_4]; (try simp +decide (disch := omega) only [ni_bF, nI_clamp, nI_add, pk_mul, dc_ltT, dc_ltF, dc_leT, dc_leF, dc_eqF, dc_neT, dn_eq, dn_ne, dn_lt, dn_ge, si_at, si_c, si_k, q_at_nI, q_put_nI, ne_eq, not_false_eq_true, not_true_eq_false, ↓reduceIte, v0_ltT, v0_ltF, v0_gtT, v0_gtF, v0_leT, v0_leF, v0_geT, v0_geF, v0_eqT, v0_eqF, v0_add, v0_dda, v0_mul, v0_lum, v0_sub, v0_bad, v0_cl, v1_ltT, v1_ltF, v1_gtT, v1_gtF, v1_leT, v1_leF, v1_geT, v1_geF, v1_eqT, v1_eqF, v1_add, v1_dda, v1_mul, v1_lum, v1_sub, v1_bad, v1_cl, s2', f0']); rw [sk_195_4_2, lp_195_2]
      exact p
end RV
