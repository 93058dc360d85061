/-! USES of THINGS, the reference -/
section PG
variable {hi : Nat → Nat → Int32} {hl : Nat → Nat → Int64} {nd nt nn hf : Nat} {sz L bd st : Nat → Nat} {R : Nat → Int32}
def mu_S (hi h : Nat → Nat → Int32) (R : Nat → Int32) (bd : Nat → Nat) (r : Nat) : Prop := (∀ c, c ≠ 73 → c ≠ 99 → c ≠ 100 → c ≠ 101 → h c = hi c) ∧ (∀ x, x ≠ 39 → h 73 x = hi 73 x) ∧ (∀ t, t < 200 → h 101 t = us_M hi R bd t r)
theorem mu_step (d : Nat) (hd : 1300 ≤ d) (P : pg_I hi nd nt nn hf sz L bd st) (hR : ∀ i, R i ∈ us_codes) (hRm : ∀ i, i < 192 → hi 97 i = uk_c (R i) ∧ hi 98 i = uk_d (R i)) (r n : Nat) (h : Nat → Nat → Int32) (res : Nat → Nat → Int32) (hr : r < 2 * nd) (s : mu_S hi h R bd r) (Q : (Nat → Nat → Int32) → Prop) (k : ∀ h2, mu_S hi h2 R bd (r + 1) → ∃ h', am_fwd (am_call tb_P d) (am_run (am_call tb_P d) tb_r62_0 n) tb_r62_4 39 [(2, .int (nI (r % 2 + 1))), (1, .int (nI (r / 2))), (0, .ref 73)] [] (pr_S, h2, hl) = some (none, (pr_S, h', hl)) ∧ Q h') :
    ∃ h', am_fwd (am_call tb_P d) (am_run (am_call tb_P d) tb_r62_0 (n + 1)) tb_r62_4 39 [(2, .int (nI (r % 2))), (1, .int (nI (r / 2))), (0, .ref 73)] [] (pr_S, h, hl) = some (none, (pr_S, h', hl)) ∧ Q h' := by
  have P0 := P
  obtain ⟨p1, p2, p3, p4, p5, p6, p7, p8, p9, p10, p11, p12, p13, p14⟩ := P
  have he : r / 2 < nd := by omega
  obtain ⟨q1, q2, q3, q4, q5, q6, q7, q8, q9, q10, q11, q14⟩ := p12 (r / 2) he
  have Ph : pg_I h nd nt nn hf sz L bd st := pg_fr (fun c hc => s.1 c (by unfold pg_c at hc; omega) (by unfold pg_c at hc; omega) (by unfold pg_c at hc; omega) (by unfold pg_c at hc; omega)) (s.2.1 _ (by decide)) P0
  have hRmh : ∀ i, i < 192 → h 97 i = uk_c (R i) ∧ h 98 i = uk_d (R i) := fun i hi' => by rw [s.1 97 (by decide) (by decide) (by decide) (by decide), s.1 98 (by decide) (by decide) (by decide) (by decide)]; exact hRm i hi'
  obtain ⟨h1, h2, t1, t2, t3, t4, t5, t6, t7, t8⟩ := mf_def (hl := hl) R d (r / 2) (r % 2) hd Ph he hR hRmh (fun t ht => by rw [s.2.2 t ht]; exact us_Mc P0 hR t _ (by omega))
  have eF : ft (h 26) (h 27) (h 28) (h 29) (h 30) (h 20) R 4000 (bd (r / 2)) (rd_D (r % 2)) = ft (hi 26) (hi 27) (hi 28) (hi 29) (hi 30) (hi 20) R 4000 (bd (r / 2)) (rd_D (r % 2)) := by
    rw [s.1 26 (by decide) (by decide) (by decide) (by decide), s.1 27 (by decide) (by decide) (by decide) (by decide), s.1 28 (by decide) (by decide) (by decide) (by decide), s.1 29 (by decide) (by decide) (by decide) (by decide), s.1 30 (by decide) (by decide) (by decide) (by decide), s.1 20 (by decide) (by decide) (by decide) (by decide)]
  rw [eF] at t8
  obtain ⟨h', l1, l2⟩ := k h2 ⟨fun c z1 z2 z3 z4 => by rw [t5 c z2 z3 z4 z1]; exact s.1 c z1 z2 z3 z4, fun x hx => by rw [t6 x hx]; exact s.2.1 x hx, fun t ht => by rw [t8 t ht, s.2.2 t ht]; rfl⟩
  refine ⟨h', ?_, l2⟩
  have v7 : h1 73 7 = nI hf := by rw [t3 _ (by decide), s.2.1 _ (by decide)]; exact p7
  have vb : h1 88 (24 * hf + r / 2) = nI (2900 * hf + bd (r / 2)) := by rw [t2 _ (by decide) (by decide) (by decide), s.1 _ (by decide) (by decide) (by decide) (by decide)]; exact q8
  have e1 : rd_D (r % 2) = nI (4 * (r % 2)) := by
    rcases Nat.mod_two_eq_zero_or_one r with c | c <;> rw [c] <;> decide
  rw [e1] at t4
  rw [ht_62_4, ch_62_5]; (try simp +decide (disch := omega) only [ni_bF, nI_clamp, nI_add, pk_mul, dc_ltT, dc_ltF, dc_leT, dc_leF, dc_eqF, dc_neT, dn_eq, dn_ne, dn_lt, dn_ge, si_at, si_c, si_k, q_at_nI, q_put_nI, ne_eq, not_false_eq_true, not_true_eq_false, ↓reduceIte, v0_ltT, v0_ltF, v0_gtT, v0_gtF, v0_leT, v0_leF, v0_geT, v0_geF, v0_eqT, v0_eqF, v0_add, v0_dda, v0_mul, v0_lum, v0_sub, v0_bad, v0_cl, v2_ltT, v2_ltF, v2_gtT, v2_gtF, v2_leT, v2_leF, v2_geT, v2_geF, v2_eqT, v2_eqF, v2_add, v2_dda, v2_mul, v2_lum, v2_sub, v2_bad, v2_cl]); rw [t1, ev_rs, ch_62_8]; (try simp +decide (disch := omega) only [ni_bF, nI_clamp, nI_add, pk_mul, dc_ltT, dc_ltF, dc_leT, dc_leF, dc_eqF, dc_neT, dn_eq, dn_ne, dn_lt, dn_ge, si_at, si_c, si_k, q_at_nI, q_put_nI, ne_eq, not_false_eq_true, not_true_eq_false, ↓reduceIte, v0_ltT, v0_ltF, v0_gtT, v0_gtF, v0_leT, v0_leF, v0_geT, v0_geF, v0_eqT, v0_eqF, v0_add, v0_dda, v0_mul, v0_lum, v0_sub, v0_bad, v0_cl, v4_ltT, v4_ltF, v4_gtT, v4_gtF, v4_leT, v4_leF, v4_geT, v4_geF, v4_eqT, v4_eqF, v4_add, v4_dda, v4_mul, v4_lum, v4_sub, v4_bad, v4_cl, v24_ltT, v24_ltF, v24_gtT, v24_gtF, v24_leT, v24_leF, v24_geT, v24_geF, v24_eqT, v24_eqF, v24_add, v24_dda, v24_mul, v24_lum, v24_sub, v24_bad, v24_cl]); rw [v7]
  simp +decide (disch := omega) only [ni_bF, nI_clamp, nI_add, v24_lum, vb, ↓reduceIte]
  rw [t4, ev_rn]
  rw [ch_62_12, sk_62_5_39, nI_1, lp_62_39]
  exact l1
theorem mu_loop (d : Nat) (hd : 1300 ≤ d) (P : pg_I hi nd nt nn hf sz L bd st) (hR : ∀ i, R i ∈ us_codes) (hRm : ∀ i, i < 192 → hi 97 i = uk_c (R i) ∧ hi 98 i = uk_d (R i)) (Q : (Nat → Nat → Int32) → Prop) (n2 : Nat) (k : ∀ h2, mu_S hi h2 R bd (2 * nd) → ∃ h', am_fwd (am_call tb_P d) (am_run (am_call tb_P d) tb_r62_0 n2) tb_r62_7 88 [(1, .int (nI 0)), (0, .ref 73)] [] (pr_S, h2, hl) = some (none, (pr_S, h', hl)) ∧ Q h') : ∀ (q r n : Nat) (h : Nat → Nat → Int32), r + (q + 1) = 2 * nd → n2 + 4 * (q + 1) ≤ n → mu_S hi h R bd r →
    ∃ h', am_fwd (am_call tb_P d) (am_run (am_call tb_P d) tb_r62_0 n) tb_r62_4 39 [(2, .int (nI (r % 2))), (1, .int (nI (r / 2))), (0, .ref 73)] [] (pr_S, h, hl) = some (none, (pr_S, h', hl)) ∧ Q h' := by
  have P0 := P
  obtain ⟨p1, p2, p3, p4, p5, p6, p7, p8, p9, p10, p11, p12, p13, p14⟩ := P
  intro q
  induction q with
  | zero =>
    intro r n h h1 h2 h3
    obtain ⟨n, rfl⟩ : ∃ n', n = n' + 1 := ⟨n - 1, by omega⟩
    refine mu_step d hd P0 hR hRm r n h h (by omega) h3 Q (fun h' s' => ?_)
    rw [show r + 1 = 2 * nd by omega] at s'
    obtain ⟨h5, l1, l2⟩ := k h' s'
    refine ⟨h5, ?_, l2⟩
    have g7 : h' 73 7 = nI hf := by rw [s'.2.1 _ (by decide)]; exact p7
    have gd : h' 85 hf = nI nd := by rw [s'.1 _ (by decide) (by decide) (by decide) (by decide)]; exact p8
    obtain ⟨n3, rfl⟩ : ∃ n3, n = n3 + 1 := ⟨n - 1, by omega⟩
    rw [show r % 2 + 1 = 2 by omega]
    rw [ht_62_4, ch_62_5]; (try simp +decide (disch := omega) only [ni_bF, nI_clamp, nI_add, pk_mul, dc_ltT, dc_ltF, dc_leT, dc_leF, dc_eqF, dc_neT, dn_eq, dn_ne, dn_lt, dn_ge, si_at, si_c, si_k, q_at_nI, q_put_nI, ne_eq, not_false_eq_true, not_true_eq_false, ↓reduceIte, v0_ltT, v0_ltF, v0_gtT, v0_gtF, v0_leT, v0_leF, v0_geT, v0_geF, v0_eqT, v0_eqF, v0_add, v0_dda, v0_mul, v0_lum, v0_sub, v0_bad, v0_cl, v2_ltT, v2_ltF, v2_gtT, v2_gtF, v2_leT, v2_leF, v2_geT, v2_geF, v2_eqT, v2_eqF, v2_add, v2_dda, v2_mul, v2_lum, v2_sub, v2_bad, v2_cl]); rw [ht_62_5, ch_62_7]; (try simp +decide (disch := omega) only [ni_bF, nI_clamp, nI_add, pk_mul, dc_ltT, dc_ltF, dc_leT, dc_leF, dc_eqF, dc_neT, dn_eq, dn_ne, dn_lt, dn_ge, si_at, si_c, si_k, q_at_nI, q_put_nI, ne_eq, not_false_eq_true, not_true_eq_false, ↓reduceIte, v0_ltT, v0_ltF, v0_gtT, v0_gtF, v0_leT, v0_leF, v0_geT, v0_geF, v0_eqT, v0_eqF, v0_add, v0_dda, v0_mul, v0_lum, v0_sub, v0_bad, v0_cl, v1_ltT, v1_ltF, v1_gtT, v1_gtF, v1_leT, v1_leF, v1_geT, v1_geF, v1_eqT, v1_eqF, v1_add, v1_dda, v1_mul, v1_lum, v1_sub, v1_bad, v1_cl]); rw [sk_62_6_24, lp_62_24]
    rw [show r / 2 + 1 = nd by omega]
    rw [ht_62_3, ch_62_11]; (try simp +decide (disch := omega) only [ni_bF, nI_clamp, nI_add, pk_mul, dc_ltT, dc_ltF, dc_leT, dc_leF, dc_eqF, dc_neT, dn_eq, dn_ne, dn_lt, dn_ge, si_at, si_c, si_k, q_at_nI, q_put_nI, ne_eq, not_false_eq_true, not_true_eq_false, ↓reduceIte, v0_ltT, v0_ltF, v0_gtT, v0_gtF, v0_leT, v0_leF, v0_geT, v0_geF, v0_eqT, v0_eqF, v0_add, v0_dda, v0_mul, v0_lum, v0_sub, v0_bad, v0_cl, g7, gd]); rw [sk_62_4_86, ht_62_6, ch_62_15]
    exact mo_f (by omega) (by repeat (first | exact trivial | refine And.intro rfl ?_)) rfl l1
  | succ q ih =>
    intro r n h h1 h2 h3
    obtain ⟨n, rfl⟩ : ∃ n', n = n' + 1 := ⟨n - 1, by omega⟩
    refine mu_step d hd P0 hR hRm r n h h (by omega) h3 Q (fun h' s' => ?_)
    obtain ⟨h5, l1, l2⟩ := ih (r + 1) (n - 2) h' (by omega) (by omega) s'
    refine ⟨h5, ?_, l2⟩
    by_cases c : r % 2 = 0
    · rw [show r % 2 + 1 = (r + 1) % 2 by omega, show r / 2 = (r + 1) / 2 by omega]
      exact mo_f (by omega) (by repeat (first | exact trivial | refine And.intro rfl ?_)) rfl l1
    · have g7 : h' 73 7 = nI hf := by rw [s'.2.1 _ (by decide)]; exact p7
      have gd : h' 85 hf = nI nd := by rw [s'.1 _ (by decide) (by decide) (by decide) (by decide)]; exact p8
      obtain ⟨n3, rfl⟩ : ∃ n3, n = n3 + 1 := ⟨n - 1, by omega⟩
      rw [show r % 2 + 1 = 2 by omega]
      rw [ht_62_4, ch_62_5]; (try simp +decide (disch := omega) only [ni_bF, nI_clamp, nI_add, pk_mul, dc_ltT, dc_ltF, dc_leT, dc_leF, dc_eqF, dc_neT, dn_eq, dn_ne, dn_lt, dn_ge, si_at, si_c, si_k, q_at_nI, q_put_nI, ne_eq, not_false_eq_true, not_true_eq_false, ↓reduceIte, v0_ltT, v0_ltF, v0_gtT, v0_gtF, v0_leT, v0_leF, v0_geT, v0_geF, v0_eqT, v0_eqF, v0_add, v0_dda, v0_mul, v0_lum, v0_sub, v0_bad, v0_cl, v2_ltT, v2_ltF, v2_gtT, v2_gtF, v2_leT, v2_leF, v2_geT, v2_geF, v2_eqT, v2_eqF, v2_add, v2_dda, v2_mul, v2_lum, v2_sub, v2_bad, v2_cl]); rw [ht_62_5, ch_62_7]; (try simp +decide (disch := omega) only [ni_bF, nI_clamp, nI_add, pk_mul, dc_ltT, dc_ltF, dc_leT, dc_leF, dc_eqF, dc_neT, dn_eq, dn_ne, dn_lt, dn_ge, si_at, si_c, si_k, q_at_nI, q_put_nI, ne_eq, not_false_eq_true, not_true_eq_false, ↓reduceIte, v0_ltT, v0_ltF, v0_gtT, v0_gtF, v0_leT, v0_leF, v0_geT, v0_geF, v0_eqT, v0_eqF, v0_add, v0_dda, v0_mul, v0_lum, v0_sub, v0_bad, v0_cl, v1_ltT, v1_ltF, v1_gtT, v1_gtF, v1_leT, v1_leF, v1_geT, v1_geF, v1_eqT, v1_eqF, v1_add, v1_dda, v1_mul, v1_lum, v1_sub, v1_bad, v1_cl]); rw [sk_62_6_24, lp_62_24]
      rw [show r / 2 + 1 = (r + 1) / 2 by omega]
      rw [ht_62_3, ch_62_11]; try simp +decide (disch := omega) only [ni_bF, nI_clamp, nI_add, pk_mul, dc_ltT, dc_ltF, dc_leT, dc_leF, dc_eqF, dc_neT, dn_eq, dn_ne, dn_lt, dn_ge, si_at, si_c, si_k, q_at_nI, q_put_nI, ne_eq, not_false_eq_true, not_true_eq_false, ↓reduceIte, v0_ltT, v0_ltF, v0_gtT, v0_gtF, v0_leT, v0_leF, v0_geT, v0_geF, v0_eqT, v0_eqF, v0_add, v0_dda, v0_mul, v0_lum, v0_sub, v0_bad, v0_cl, g7, gd]
      rw [show (r + 1) % 2 = 0 by omega] at l1
      exact mo_f (by omega) (by repeat (first | exact trivial | refine And.intro rfl ?_)) rfl l1
theorem us_kk : ∀ a ∈ us_codes, ∀ b ∈ us_codes, us_max (uk_c a) (uk_c b) ∈ ([0, 1, 2] : List Int32) := by decide +kernel
/-- the last loop: PARAMETERS -/
def mp_S (hi h0 h : Nat → Nat → Int32) (R : Nat → Int32) (nd : Nat) (sz L bd : Nat → Nat) (e i : Nat) : Prop := (∀ c, c ≠ 101 → h c = h0 c) ∧ (∀ e' t, e' < nd → L e' ≤ t → t < L (e' + 1) → h 101 t = if t < L e' + sz e' ∧ (e' < e ∨ (e' = e ∧ t < L e + i)) then us_max (uk_c (R (8 * e' + (t - L e')))) (uk_c (R (8 * e' + 4 + (t - L e')))) else us_M hi R bd t (2 * nd)) ∧ (∀ t, L nd ≤ t → h 101 t = h0 101 t)
theorem mp_loop (d : Nat) (P : pg_I hi nd nt nn hf sz L bd st) (hRm : ∀ i, i < 192 → hi 97 i = uk_c (R i) ∧ hi 98 i = uk_d (R i)) (h0 : Nat → Nat → Int32) (s0 : mu_S hi h0 R bd (2 * nd)) : ∀ (q e n : Nat) (h : Nat → Nat → Int32), e + q = nd → 6 * q ≤ n → mp_S hi h0 h R nd sz L bd e 0 → ∃ h', am_fwd (am_call tb_P d) (am_run (am_call tb_P d) tb_r62_0 n) tb_r62_7 88 [(1, .int (nI e)), (0, .ref 73)] [] (pr_S, h, hl) = some (none, (pr_S, h', hl)) ∧ mp_S hi h0 h' R nd sz L bd nd 0 := by
  have P0 := P
  obtain ⟨p1, p2, p3, p4, p5, p6, p7, p8, p9, p10, p11, p12, p13, p14⟩ := P
  have G7 : ∀ h e i, mp_S hi h0 h R nd sz L bd e i → h 73 7 = nI hf := fun h e i s => by rw [s.1 _ (by decide), s0.2.1 _ (by decide)]; exact p7
  intro q
  induction q with
  | zero =>
    intro e n h h1 h2 h3
    have e1 : e = nd := by omega
    subst e1
    refine ⟨h, ?_, h3⟩
    have g7 := G7 h _ _ h3
    have gd : h 85 hf = nI e := by rw [h3.1 _ (by decide), s0.1 _ (by decide) (by decide) (by decide) (by decide)]; exact p8
    rw [ht_62_7, ch_62_6]; (try simp +decide (disch := omega) only [ni_bF, nI_clamp, nI_add, pk_mul, dc_ltT, dc_ltF, dc_leT, dc_leF, dc_eqF, dc_neT, dn_eq, dn_ne, dn_lt, dn_ge, si_at, si_c, si_k, q_at_nI, q_put_nI, ne_eq, not_false_eq_true, not_true_eq_false, ↓reduceIte, v0_ltT, v0_ltF, v0_gtT, v0_gtF, v0_leT, v0_leF, v0_geT, v0_geF, v0_eqT, v0_eqF, v0_add, v0_dda, v0_mul, v0_lum, v0_sub, v0_bad, v0_cl, g7, gd]); rw [sk_62_8_181, ht_62_10, ch_62_9]
  | succ q ih =>
    intro e n h h1 h2 h3
    obtain ⟨q1, q2, q3, q4, q5, q6, q7, q8, q9, q10, q11, q14⟩ := p12 e (by omega)
    have m1 : L (e + 1) ≤ L nd := pg_mono (sz := sz) (fun d hd => (p12 d hd).2.2.2.2.2.2.2.2.2.1) (by omega) (Nat.le_refl _)
    -- the inner loop
    have inn : ∀ (w i n : Nat) (h : Nat → Nat → Int32), i + w = sz e → 6 * q + w + 1 ≤ n → mp_S hi h0 h R nd sz L bd e i → ∃ h', am_fwd (am_call tb_P d) (am_run (am_call tb_P d) tb_r62_0 n) tb_r62_8 103 [(2, .int (nI i)), (1, .int (nI e)), (0, .ref 73)] [] (pr_S, h, hl) = some (none, (pr_S, h', hl)) ∧ mp_S hi h0 h' R nd sz L bd nd 0 := by
      intro w
      induction w with
      | zero =>
        intro i n h h1 h2 h3
        obtain ⟨n, rfl⟩ : ∃ n', n = n' + 1 := ⟨n - 1, by omega⟩
        obtain ⟨h', l1, l2⟩ := ih (e + 1) n h (by omega) (by omega) ⟨h3.1, (fun e' t y1 y2 y3 => by
          rw [h3.2.1 e' t y1 y2 y3]
          by_cases z : t < L e' + sz e' ∧ (e' < e ∨ (e' = e ∧ t < L e + i))
          · rw [if_pos z, if_pos ⟨z.1, Or.inl (by omega)⟩]
          · rw [if_neg z, if_neg]
            rintro ⟨a, b | b⟩
            · by_cases y : e' = e
              · exact z ⟨a, Or.inr ⟨y, by subst y; omega⟩⟩
              · exact z ⟨a, Or.inl (by omega)⟩
            · have := b.1
              subst this
              have := p12 (e + 1) y1
              omega), h3.2.2⟩
        refine ⟨h', ?_, l2⟩
        have g7 := G7 h _ _ h3
        have gs : h 90 (24 * hf + e) = nI (sz e) := by rw [h3.1 _ (by decide), s0.1 _ (by decide) (by decide) (by decide) (by decide)]; exact q3
        rw [ht_62_8, ch_62_10]; (try simp +decide (disch := omega) only [ni_bF, nI_clamp, nI_add, pk_mul, dc_ltT, dc_ltF, dc_leT, dc_leF, dc_eqF, dc_neT, dn_eq, dn_ne, dn_lt, dn_ge, si_at, si_c, si_k, q_at_nI, q_put_nI, ne_eq, not_false_eq_true, not_true_eq_false, ↓reduceIte, v0_ltT, v0_ltF, v0_gtT, v0_gtF, v0_leT, v0_leF, v0_geT, v0_geF, v0_eqT, v0_eqF, v0_add, v0_dda, v0_mul, v0_lum, v0_sub, v0_bad, v0_cl, v4_ltT, v4_ltF, v4_gtT, v4_gtF, v4_leT, v4_leF, v4_geT, v4_geF, v4_eqT, v4_eqF, v4_add, v4_dda, v4_mul, v4_lum, v4_sub, v4_bad, v4_cl, v8_ltT, v8_ltF, v8_gtT, v8_gtF, v8_leT, v8_leF, v8_geT, v8_geF, v8_eqT, v8_eqF, v8_add, v8_dda, v8_mul, v8_lum, v8_sub, v8_bad, v8_cl, v24_ltT, v24_ltF, v24_gtT, v24_gtF, v24_leT, v24_leF, v24_geT, v24_geF, v24_eqT, v24_eqF, v24_add, v24_dda, v24_mul, v24_lum, v24_sub, v24_bad, v24_cl, g7, gs]); rw [ht_62_9, ch_62_13]; (try simp +decide (disch := omega) only [ni_bF, nI_clamp, nI_add, pk_mul, dc_ltT, dc_ltF, dc_leT, dc_leF, dc_eqF, dc_neT, dn_eq, dn_ne, dn_lt, dn_ge, si_at, si_c, si_k, q_at_nI, q_put_nI, ne_eq, not_false_eq_true, not_true_eq_false, ↓reduceIte, v0_ltT, v0_ltF, v0_gtT, v0_gtF, v0_leT, v0_leF, v0_geT, v0_geF, v0_eqT, v0_eqF, v0_add, v0_dda, v0_mul, v0_lum, v0_sub, v0_bad, v0_cl, v1_ltT, v1_ltF, v1_gtT, v1_gtF, v1_leT, v1_leF, v1_geT, v1_geF, v1_eqT, v1_eqF, v1_add, v1_dda, v1_mul, v1_lum, v1_sub, v1_bad, v1_cl, g7, gs]); rw [sk_62_10_88, lp_62_88]
        exact mo_f (Nat.le_refl _) (by repeat (first | exact trivial | refine And.intro rfl ?_)) rfl l1
      | succ w ihw =>
        intro i n h h1 h2 h3
        obtain ⟨n, rfl⟩ : ∃ n', n = n' + 1 := ⟨n - 1, by omega⟩
        have s4 : mp_S hi h0 (am_si h 101 (L e + i) (us_max (uk_c (R (8 * e + i))) (uk_c (R (8 * e + 4 + i))))) R nd sz L bd e (i + 1) := by
          refine ⟨fun c hc => by rw [am_si_ne hc]; exact h3.1 c hc, fun e' t y1 y2 y3 => ?_, fun t ht => by rw [am_si_off (by omega)]; exact h3.2.2 t ht⟩
          by_cases z : t = L e + i
          · have : e' = e := by
              rcases Nat.lt_trichotomy e' e with z2 | z2 | z2
              · have := pg_mono (nd := nd) (sz := sz) (L := L) (fun d hd => (p12 d hd).2.2.2.2.2.2.2.2.2.1) (a := e' + 1) (b := e) (by omega) (by omega)
                omega
              · exact z2
              · have := pg_mono (nd := nd) (sz := sz) (L := L) (fun d hd => (p12 d hd).2.2.2.2.2.2.2.2.2.1) (a := e + 1) (b := e') (by omega) (by omega)
                omega
            subst this
            rw [z, am_si_at, if_pos (by omega), Nat.add_sub_cancel_left]
          · rw [am_si_off (by omega), h3.2.1 e' t y1 y2 y3]
            by_cases x : t < L e' + sz e' ∧ (e' < e ∨ (e' = e ∧ t < L e + i))
            · rw [if_pos x, if_pos (by omega)]
            · rw [if_neg x, if_neg (by omega)]
        obtain ⟨h', l1, l2⟩ := ihw (i + 1) n _ (by omega) (by omega) s4
        refine ⟨h', ?_, l2⟩
        have g7 := G7 h _ _ h3
        have gs : h 90 (24 * hf + e) = nI (sz e) := by rw [h3.1 _ (by decide), s0.1 _ (by decide) (by decide) (by decide) (by decide)]; exact q3
        have gl : h 89 (24 * hf + e) = nI (L e) := by rw [h3.1 _ (by decide), s0.1 _ (by decide) (by decide) (by decide) (by decide)]; exact q6
        have r1 : h 97 (8 * e + i) = uk_c (R (8 * e + i)) := by rw [h3.1 _ (by decide), s0.1 _ (by decide) (by decide) (by decide) (by decide)]; exact (hRm _ (by omega)).1
        have r2 : h 97 (8 * e + 4 + i) = uk_c (R (8 * e + 4 + i)) := by rw [h3.1 _ (by decide), s0.1 _ (by decide) (by decide) (by decide) (by decide)]; exact (hRm _ (by omega)).1
        rw [ht_62_8, ch_62_10]; (try simp +decide (disch := omega) only [ni_bF, nI_clamp, nI_add, pk_mul, dc_ltT, dc_ltF, dc_leT, dc_leF, dc_eqF, dc_neT, dn_eq, dn_ne, dn_lt, dn_ge, si_at, si_c, si_k, q_at_nI, q_put_nI, ne_eq, not_false_eq_true, not_true_eq_false, ↓reduceIte, v0_ltT, v0_ltF, v0_gtT, v0_gtF, v0_leT, v0_leF, v0_geT, v0_geF, v0_eqT, v0_eqF, v0_add, v0_dda, v0_mul, v0_lum, v0_sub, v0_bad, v0_cl, v4_ltT, v4_ltF, v4_gtT, v4_gtF, v4_leT, v4_leF, v4_geT, v4_geF, v4_eqT, v4_eqF, v4_add, v4_dda, v4_mul, v4_lum, v4_sub, v4_bad, v4_cl, v8_ltT, v8_ltF, v8_gtT, v8_gtF, v8_leT, v8_leF, v8_geT, v8_geF, v8_eqT, v8_eqF, v8_add, v8_dda, v8_mul, v8_lum, v8_sub, v8_bad, v8_cl, v24_ltT, v24_ltF, v24_gtT, v24_gtF, v24_leT, v24_leF, v24_geT, v24_geF, v24_eqT, v24_eqF, v24_add, v24_dda, v24_mul, v24_lum, v24_sub, v24_bad, v24_cl, g7, gs, gl, r1, r2]); rw [ch_62_14]; (try simp +decide (disch := omega) only [ni_bF, nI_clamp, nI_add, pk_mul, dc_ltT, dc_ltF, dc_leT, dc_leF, dc_eqF, dc_neT, dn_eq, dn_ne, dn_lt, dn_ge, si_at, si_c, si_k, q_at_nI, q_put_nI, ne_eq, not_false_eq_true, not_true_eq_false, ↓reduceIte, v0_ltT, v0_ltF, v0_gtT, v0_gtF, v0_leT, v0_leF, v0_geT, v0_geF, v0_eqT, v0_eqF, v0_add, v0_dda, v0_mul, v0_lum, v0_sub, v0_bad, v0_cl, v1_ltT, v1_ltF, v1_gtT, v1_gtF, v1_leT, v1_leF, v1_geT, v1_geF, v1_eqT, v1_eqF, v1_add, v1_dda, v1_mul, v1_lum, v1_sub, v1_bad, v1_cl, g7, gs, gl, r1, r2]); rw [sk_62_9_103, lp_62_103]
        exact l1
    obtain ⟨h', l1, l2⟩ := inn (sz e) 0 n h (by omega) (by omega) h3
    refine ⟨h', ?_, l2⟩
    have g7 := G7 h _ _ h3
    have gd : h 85 hf = nI nd := by rw [h3.1 _ (by decide), s0.1 _ (by decide) (by decide) (by decide) (by decide)]; exact p8
    rw [ht_62_7, ch_62_6]; try simp +decide (disch := omega) only [ni_bF, nI_clamp, nI_add, pk_mul, dc_ltT, dc_ltF, dc_leT, dc_leF, dc_eqF, dc_neT, dn_eq, dn_ne, dn_lt, dn_ge, si_at, si_c, si_k, q_at_nI, q_put_nI, ne_eq, not_false_eq_true, not_true_eq_false, ↓reduceIte, v0_ltT, v0_ltF, v0_gtT, v0_gtF, v0_leT, v0_leF, v0_geT, v0_geF, v0_eqT, v0_eqF, v0_add, v0_dda, v0_mul, v0_lum, v0_sub, v0_bad, v0_cl, g7, gd]
    exact l1
theorem mu_fill (C : am_C) (h : Nat → Nat → Int32) (res : Option Value × am_G) (n2 : Nat) (k : am_fwd C (am_run C tb_r62_0 n2) tb_r62_3 24 [(1, .int (nI 0)), (0, .ref 73)] [] (pr_S, fl_h h 101 0 200, hl) = some res) : ∀ (q i n : Nat), i + q = 200 → n2 + q ≤ n → am_fwd C (am_run C tb_r62_0 n) tb_r62_1 2 [(1, .int (nI i)), (0, .ref 73)] [] (pr_S, fl_h h 101 0 i, hl) = some res := by
  intro q
  induction q with
  | zero =>
    intro i n h1 h2
    have e1 : i = 200 := by omega
    subst e1
    rw [ht_62_1, ch_62_1]; (try simp +decide (disch := omega) only [ni_bF, nI_clamp, nI_add, pk_mul, dc_ltT, dc_ltF, dc_leT, dc_leF, dc_eqF, dc_neT, dn_eq, dn_ne, dn_lt, dn_ge, si_at, si_c, si_k, q_at_nI, q_put_nI, ne_eq, not_false_eq_true, not_true_eq_false, ↓reduceIte, v0_ltT, v0_ltF, v0_gtT, v0_gtF, v0_leT, v0_leF, v0_geT, v0_geF, v0_eqT, v0_eqF, v0_add, v0_dda, v0_mul, v0_lum, v0_sub, v0_bad, v0_cl, v1_ltT, v1_ltF, v1_gtT, v1_gtF, v1_leT, v1_leF, v1_geT, v1_geF, v1_eqT, v1_eqF, v1_add, v1_dda, v1_mul, v1_lum, v1_sub, v1_bad, v1_cl, v200_ltT, v200_ltF, v200_gtT, v200_gtF, v200_leT, v200_leF, v200_geT, v200_geF, v200_eqT, v200_eqF, v200_add, v200_dda, v200_mul, v200_lum, v200_sub, v200_bad, v200_cl]); rw [ht_62_2, ch_62_2]
    exact mo_f (by omega) (by repeat (first | exact trivial | refine And.intro rfl ?_)) rfl k
  | succ q ih =>
    intro i n h1 h2
    obtain ⟨n, rfl⟩ : ∃ n', n = n' + 1 := ⟨n - 1, by omega⟩
    have p := ih (i + 1) n (by omega) (by omega)
    rw [ht_62_1, ch_62_1]; (try simp +decide (disch := omega) only [ni_bF, nI_clamp, nI_add, pk_mul, dc_ltT, dc_ltF, dc_leT, dc_leF, dc_eqF, dc_neT, dn_eq, dn_ne, dn_lt, dn_ge, si_at, si_c, si_k, q_at_nI, q_put_nI, ne_eq, not_false_eq_true, not_true_eq_false, ↓reduceIte, v0_ltT, v0_ltF, v0_gtT, v0_gtF, v0_leT, v0_leF, v0_geT, v0_geF, v0_eqT, v0_eqF, v0_add, v0_dda, v0_mul, v0_lum, v0_sub, v0_bad, v0_cl, v1_ltT, v1_ltF, v1_gtT, v1_gtF, v1_leT, v1_leF, v1_geT, v1_geF, v1_eqT, v1_eqF, v1_add, v1_dda, v1_mul, v1_lum, v1_sub, v1_bad, v1_cl, v200_ltT, v200_ltF, v200_gtT, v200_gtF, v200_leT, v200_leF, v200_geT, v200_geF, v200_eqT, v200_eqF, v200_add, v200_dda, v200_mul, v200_lum, v200_sub, v200_bad, v200_cl, fl_1]); rw [sk_62_2_2, lp_62_2]
    exact p
theorem em_findUses (d : Nat) (hd : 1300 ≤ d) (P : pg_I hi nd nt nn hf sz L bd st) (hR : ∀ i, R i ∈ us_codes) (hRm : ∀ i, i < 192 → hi 97 i = uk_c (R i) ∧ hi 98 i = uk_d (R i)) : ∃ h', am_call tb_P (d + 1) 62 [.ref 73] (pr_S, hi, hl) = some (none, (pr_S, h', hl)) ∧ (∀ c, c ≠ 73 → c ≠ 99 → c ≠ 100 → c ≠ 101 → h' c = hi c) ∧ (∀ x, x ≠ 39 → h' 73 x = hi 73 x) ∧ (∀ t, t < nt → us_P hi R nd sz L bd t (h' 101 t)) ∧ (∀ t, t < 200 → h' 101 t ∈ ([0, 1, 2] : List Int32)) := by
  have pn := P.1
  have fin : ∀ h2, mu_S hi h2 R bd (2 * nd) → ∃ h', am_fwd (am_call tb_P d) (am_run (am_call tb_P d) tb_r62_0 400000) tb_r62_7 88 [(1, .int (nI 0)), (0, .ref 73)] [] (pr_S, h2, hl) = some (none, (pr_S, h', hl)) ∧ ((∀ c, c ≠ 73 → c ≠ 99 → c ≠ 100 → c ≠ 101 → h' c = hi c) ∧ (∀ x, x ≠ 39 → h' 73 x = hi 73 x) ∧ (∀ t, t < nt → us_P hi R nd sz L bd t (h' 101 t)) ∧ (∀ t, t < 200 → h' 101 t ∈ ([0, 1, 2] : List Int32))) := by
    intro h2 s
    have m : ∀ t e', e' < nd → t < L (e' + 1) → t < 200 := fun t e' y1 y3 => by
      have := pg_mono (nd := nd) (sz := sz) (L := L) (fun d hd => (P.2.2.2.2.2.2.2.2.2.2.2.1 d hd).2.2.2.2.2.2.2.2.2.1) (a := e' + 1) (b := nd) (by omega) (Nat.le_refl _)
      have := P.2.1
      have := P.2.2.2.2.2.2.2.2.2.2.1
      omega
    obtain ⟨h', l1, l2, l3, l4⟩ := mp_loop (hl := hl) d P hRm h2 s nd 0 400000 h2 (by omega) (by omega) ⟨fun _ _ => rfl, (fun e' t y1 y2 y3 => by
      have := P.2.2.2.2.2.2.2.2.2.1
      rw [if_neg (by omega)]
      exact s.2.2 t (m t e' y1 y3)), fun _ _ => rfl⟩
    refine ⟨h', l1, fun c z1 z2 z3 z4 => by rw [l2 c z4]; exact s.1 c z1 z2 z3 z4, fun x hx => by rw [l2 _ (by decide)]; exact s.2.1 x hx, fun t ht e' y1 y2 y3 => ?_, fun t ht => ?_⟩
    · rw [l3 e' t y1 y2 y3]
      by_cases z : t < L e' + sz e'
      · rw [if_pos z, if_pos ⟨z, Or.inl y1⟩]
      · rw [if_neg z, if_neg (fun x => z x.1)]
    · by_cases c : t < L nd
      · obtain ⟨e', y1, y2, y3⟩ := pg_of P.2.2.2.2.2.2.2.2.2.1 t nd c
        rw [l3 e' t y1 y2 y3]
        split
        · exact us_kk _ (hR _) _ (hR _)
        · exact us_Mc P hR t _ (Nat.le_refl _)
      · rw [l4 t (by omega), s.2.2 t ht]
        exact us_Mc P hR t _ (Nat.le_refl _)
  have s0 : mu_S hi (fl_h hi 101 0 200) R bd 0 := ⟨fun c _ _ _ z => fl_c z, fun x _ => by rw [fl_c (by decide)], fun t ht => fl_in ht⟩
  have g7 : fl_h hi 101 0 200 73 7 = nI hf := by rw [fl_c (by decide)]; exact P.2.2.2.2.2.2.1
  have gd : fl_h hi 101 0 200 85 hf = nI nd := by rw [fl_c (by decide)]; exact P.2.2.2.2.2.2.2.1
  have hf2 := P.2.2.2.1
  have mid : ∃ h', am_fwd (am_call tb_P d) (am_run (am_call tb_P d) tb_r62_0 900000) tb_r62_3 24 [(1, .int (nI 0)), (0, .ref 73)] [] (pr_S, fl_h hi 101 0 200, hl) = some (none, (pr_S, h', hl)) ∧ ((∀ c, c ≠ 73 → c ≠ 99 → c ≠ 100 → c ≠ 101 → h' c = hi c) ∧ (∀ x, x ≠ 39 → h' 73 x = hi 73 x) ∧ (∀ t, t < nt → us_P hi R nd sz L bd t (h' 101 t)) ∧ (∀ t, t < 200 → h' 101 t ∈ ([0, 1, 2] : List Int32))) := by
    by_cases c : nd = 0
    · obtain ⟨h', l1, l2⟩ := fin _ (by rw [c]; exact s0)
      refine ⟨h', ?_, l2⟩
      rw [c] at gd
      rw [ht_62_3, ch_62_3]; (try simp +decide (disch := omega) only [ni_bF, nI_clamp, nI_add, pk_mul, dc_ltT, dc_ltF, dc_leT, dc_leF, dc_eqF, dc_neT, dn_eq, dn_ne, dn_lt, dn_ge, si_at, si_c, si_k, q_at_nI, q_put_nI, ne_eq, not_false_eq_true, not_true_eq_false, ↓reduceIte, v0_ltT, v0_ltF, v0_gtT, v0_gtF, v0_leT, v0_leF, v0_geT, v0_geF, v0_eqT, v0_eqF, v0_add, v0_dda, v0_mul, v0_lum, v0_sub, v0_bad, v0_cl, g7, gd]); rw [sk_62_4_86, ht_62_6, ch_62_4]
      exact mo_f (by omega) (by repeat (first | exact trivial | refine And.intro rfl ?_)) rfl l1
    · obtain ⟨h', l1, l2⟩ := mu_loop (hl := hl) d hd P hR hRm _ 400000 fin (2 * nd - 1) 0 900000 _ (by omega) (by omega) s0
      refine ⟨h', ?_, l2⟩
      rw [ht_62_3, ch_62_3]; try simp +decide (disch := omega) only [ni_bF, nI_clamp, nI_add, pk_mul, dc_ltT, dc_ltF, dc_leT, dc_leF, dc_eqF, dc_neT, dn_eq, dn_ne, dn_lt, dn_ge, si_at, si_c, si_k, q_at_nI, q_put_nI, ne_eq, not_false_eq_true, not_true_eq_false, ↓reduceIte, v0_ltT, v0_ltF, v0_gtT, v0_gtF, v0_leT, v0_leF, v0_geT, v0_geF, v0_eqT, v0_eqF, v0_add, v0_dda, v0_mul, v0_lum, v0_sub, v0_bad, v0_cl, g7, gd]
      exact l1
  obtain ⟨h', l1, l2⟩ := mid
  refine ⟨h', ?_, l2⟩
  have k := mu_fill (hl := hl) (am_call tb_P d) hi _ 900000 l1 200 0 999999 (by omega) (by omega)
  rw [fl_0] at k
  rw [en_62, ht_62_0, ch_62_0]
  exact k
end PG
