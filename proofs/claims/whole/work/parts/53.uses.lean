/-! USES of THINGS -/
def us_M (hi : Nat → Nat → Int32) (R : Nat → Int32) (bd : Nat → Nat) (t : Nat) : Nat → Int32
  | 0 => 0
  | r + 1 => us_max (us_M hi R bd t r) (ft (hi 26) (hi 27) (hi 28) (hi 29) (hi 30) (hi 20) R 4000 (bd (r / 2)) (rd_D (r % 2)) (200 + t))
/-- v is the USE of t -/
def us_P (hi : Nat → Nat → Int32) (R : Nat → Int32) (nd : Nat) (sz L bd : Nat → Nat) (t : Nat) (v : Int32) : Prop := ∀ e, e < nd → L e ≤ t → t < L (e + 1) → v = if t < L e + sz e then us_max (uk_c (R (8 * e + (t - L e)))) (uk_c (R (8 * e + 4 + (t - L e)))) else us_M hi R bd t (2 * nd)
section PG
variable {hi : Nat → Nat → Int32} {hl : Nat → Nat → Int64} {nd nt nn hf : Nat} {sz L bd st : Nat → Nat}
theorem us_Mc {R : Nat → Int32} (P : pg_I hi nd nt nn hf sz L bd st) (hR : ∀ i, R i ∈ us_codes) (t : Nat) : ∀ r, r ≤ 2 * nd → us_M hi R bd t r ∈ ([0, 1, 2] : List Int32)
  | 0, _ => us_s0
  | r + 1, h => us_sn_max _ (us_Mc P hR t r (by omega)) _ ((ft_okR (r / 2) (r % 2) P (by omega) hR _).2 (by omega))
/-- the class's heap while it looks at all DEFS -/
def cu_S (hi h : Nat → Nat → Int32) (bd : Nat → Nat) (r : Nat) : Prop := (∀ c, c ≠ 35 → (c < 38 ∨ 44 < c) → h c = hi c) ∧ (∀ x, x ≠ 5 → h 35 x = hi 35 x) ∧ h 35 5 = 0 ∧ (∀ t, t < 200 → h 41 t = us_M hi (hi 36) bd t r)
theorem cu_l1 (d : Nat) (P : pg_I hi nd nt nn hf sz L bd st) (hR : ∀ i, hi 36 i ∈ us_codes) (Q : (Nat → Nat → Int32) → Prop) (n2 : Nat) (k : ∀ h, cu_S hi h bd (2 * nd) → ∃ h', am_fwd (am_call tb_P (d + 6)) (am_run (am_call tb_P (d + 6)) tb_r220_0 n2) tb_r220_4 63 [(1, .int (nI 0)), (0, .ref 35)] [] (pr_S, h, hl) = some (none, (pr_S, h', hl)) ∧ Q h') : ∀ (q e n : Nat) (h : Nat → Nat → Int32), e + q = nd → n2 + q ≤ n → cu_S hi h bd (2 * e) → ∃ h', am_fwd (am_call tb_P (d + 6)) (am_run (am_call tb_P (d + 6)) tb_r220_0 n) tb_r220_2 26 [(1, .int (nI e)), (0, .ref 35)] [] (pr_S, h, hl) = some (none, (pr_S, h', hl)) ∧ Q h' := by
  have pcc : ∀ c, pg_c c → c ≠ 35 ∧ (c < 38 ∨ 44 < c) := fun c hc => by unfold pg_c at hc; omega
  have pn := P.1
  intro q
  induction q with
  | zero =>
    intro e n h h1 h2 s
    have e1 : e = nd := by omega
    subst e1
    obtain ⟨h', l1, l2⟩ := k h s
    refine ⟨h', ?_, l2⟩
    have g1 : h 17 0 = nI e := by rw [s.1 _ (by decide) (by decide)]; exact P.2.2.2.2.1
    rw [ht_220_2, ch_220_3]; (try simp +decide (disch := omega) only [ni_bF, nI_clamp, nI_add, pk_mul, dc_ltT, dc_ltF, dc_leT, dc_leF, dc_eqF, dc_neT, dn_eq, dn_ne, dn_lt, dn_ge, si_at, si_c, si_k, q_at_nI, q_put_nI, ne_eq, not_false_eq_true, not_true_eq_false, ↓reduceIte, v0_ltT, v0_ltF, v0_gtT, v0_gtF, v0_leT, v0_leF, v0_geT, v0_geF, v0_eqT, v0_eqF, v0_add, v0_dda, v0_mul, v0_lum, v0_sub, v0_bad, v0_cl, g1]); rw [ht_220_3, ch_220_4]
    exact mo_f (by omega) (by repeat (first | exact trivial | refine And.intro rfl ?_)) rfl l1
  | succ q ih =>
    intro e n h h1 h2 s
    obtain ⟨n, rfl⟩ : ∃ n', n = n' + 1 := ⟨n - 1, by omega⟩
    have Ph : pg_I h nd nt nn hf sz L bd st := pg_fr (fun c hc => s.1 c (pcc c hc).1 (pcc c hc).2) (by rw [s.1 73 (by decide) (by decide)]) P
    have hRh : ∀ i, h 36 i ∈ us_codes := fun i => by rw [s.1 36 (by decide) (by decide)]; exact hR i
    obtain ⟨ha, a1, a2, a3, a4, a5⟩ := cf_def (hl := hl) d e 0 Ph (by omega) hRh (fun t ht => by rw [s.2.2.2 t ht]; exact us_Mc P hR t _ (by omega))
    have Pa : pg_I ha nd nt nn hf sz L bd st := pg_fr (fun c hc => a2 c (pcc c hc).2) (by rw [a2 73 (by decide)]) Ph
    have eF : ∀ u, ft (h 26) (h 27) (h 28) (h 29) (h 30) (h 20) (h 36) 4000 (bd e) (rd_D u) = ft (hi 26) (hi 27) (hi 28) (hi 29) (hi 30) (hi 20) (hi 36) 4000 (bd e) (rd_D u) := fun u => by
      rw [s.1 26 (by decide) (by decide), s.1 27 (by decide) (by decide), s.1 28 (by decide) (by decide), s.1 29 (by decide) (by decide), s.1 30 (by decide) (by decide), s.1 20 (by decide) (by decide), s.1 36 (by decide) (by decide)]
    have sa : ∀ t, t < 200 → ha 41 t = us_M hi (hi 36) bd t (2 * e + 1) := fun t ht => by
      rw [a5 t ht, s.2.2.2 t ht, eF, show us_M hi (hi 36) bd t (2 * e + 1) = us_max (us_M hi (hi 36) bd t (2 * e)) (ft (hi 26) (hi 27) (hi 28) (hi 29) (hi 30) (hi 20) (hi 36) 4000 (bd (2 * e / 2)) (rd_D (2 * e % 2)) (200 + t)) from rfl, show 2 * e / 2 = e by omega, show 2 * e % 2 = 0 by omega]
    obtain ⟨hb, b1, b2, b3, b4, b5⟩ := cf_def (hl := hl) d e 1 Pa (by omega) (fun i => by rw [a2 36 (by decide)]; exact hRh i) (fun t ht => by rw [sa t ht]; exact us_Mc P hR t _ (by omega))
    have eG : ft (ha 26) (ha 27) (ha 28) (ha 29) (ha 30) (ha 20) (ha 36) 4000 (bd e) (rd_D 1) = ft (hi 26) (hi 27) (hi 28) (hi 29) (hi 30) (hi 20) (hi 36) 4000 (bd e) (rd_D 1) := by
      rw [a2 26 (by decide), a2 27 (by decide), a2 28 (by decide), a2 29 (by decide), a2 30 (by decide), a2 20 (by decide), a2 36 (by decide), eF]
    have sb : cu_S hi hb bd (2 * (e + 1)) := by
      refine ⟨fun c z1 z2 => ?_, fun x hx => ?_, ?_, fun t ht => ?_⟩
      · rw [b2 c z2, a2 c z2]; exact s.1 c z1 z2
      · rw [b2 35 (by decide), a2 35 (by decide)]; exact s.2.1 x hx
      · rw [b2 35 (by decide), a2 35 (by decide)]; exact s.2.2.1
      · rw [b5 t ht, sa t ht, eG, show 2 * (e + 1) = 2 * e + 1 + 1 by omega, show us_M hi (hi 36) bd t (2 * e + 1 + 1) = us_max (us_M hi (hi 36) bd t (2 * e + 1)) (ft (hi 26) (hi 27) (hi 28) (hi 29) (hi 30) (hi 20) (hi 36) 4000 (bd ((2 * e + 1) / 2)) (rd_D ((2 * e + 1) % 2)) (200 + t)) from rfl, show (2 * e + 1) / 2 = e by omega, show (2 * e + 1) % 2 = 1 by omega]
    obtain ⟨h', l1, l2⟩ := ih (e + 1) n hb (by omega) (by omega) sb
    refine ⟨h', ?_, l2⟩
    have g1 : h 17 0 = nI nd := by rw [s.1 _ (by decide) (by decide)]; exact P.2.2.2.2.1
    rw [show rd_D 0 = 0 from rfl] at a1
    rw [show rd_D 1 = 4 from rfl] at b1
    rw [ht_220_2, ch_220_3]; (try simp +decide (disch := omega) only [ni_bF, nI_clamp, nI_add, pk_mul, dc_ltT, dc_ltF, dc_leT, dc_leF, dc_eqF, dc_neT, dn_eq, dn_ne, dn_lt, dn_ge, si_at, si_c, si_k, q_at_nI, q_put_nI, ne_eq, not_false_eq_true, not_true_eq_false, ↓reduceIte, v0_ltT, v0_ltF, v0_gtT, v0_gtF, v0_leT, v0_leF, v0_geT, v0_geF, v0_eqT, v0_eqF, v0_add, v0_dda, v0_mul, v0_lum, v0_sub, v0_bad, v0_cl, g1]); rw [a1, ev_rn, ch_220_5, b1, ev_rn, ch_220_7]; (try simp +decide (disch := omega) only [ni_bF, nI_clamp, nI_add, pk_mul, dc_ltT, dc_ltF, dc_leT, dc_leF, dc_eqF, dc_neT, dn_eq, dn_ne, dn_lt, dn_ge, si_at, si_c, si_k, q_at_nI, q_put_nI, ne_eq, not_false_eq_true, not_true_eq_false, ↓reduceIte, v0_ltT, v0_ltF, v0_gtT, v0_gtF, v0_leT, v0_leF, v0_geT, v0_geF, v0_eqT, v0_eqF, v0_add, v0_dda, v0_mul, v0_lum, v0_sub, v0_bad, v0_cl, v1_ltT, v1_ltF, v1_gtT, v1_gtF, v1_leT, v1_leF, v1_geT, v1_geF, v1_eqT, v1_eqF, v1_add, v1_dda, v1_mul, v1_lum, v1_sub, v1_bad, v1_cl, g1]); rw [sk_220_3_26, lp_220_26]
    exact l1
theorem ea_paramUses (d e i : Nat) (h : Nat → Nat → Int32) (hR : ∀ i, h 36 i ∈ us_codes) (he : e < 24) (hi4 : i < 4) (t Lo : Nat) (hL : t = Lo + i) (ht : t < 200) (h1 : h 24 t = nI e) (h2 : h 21 e = nI Lo) : am_call tb_P (d + 3) 221 [.ref 35, .int (nI t)] (pr_S, h, hl) = some (some (.int (us_max (uk_c (h 36 (8 * e + i))) (uk_c (h 36 (8 * e + 4 + i))))), (pr_S, h, hl)) := by
  have e1 := ea_useOf d e 0 i h hl (by omega)
  have e2 := ea_useOf d e 1 i h hl (by omega)
  rw [show (8 * e + 4 * 0 + i) = 8 * e + i by omega, show nI 0 = (0 : Int32) from rfl] at e1
  rw [show (8 * e + 4 * 1 + i) = 8 * e + 4 + i by omega, show nI 1 = (1 : Int32) from rfl] at e2
  have s1 : nI t - nI Lo = nI i := by rw [hL, nI_sub (by omega), Nat.add_sub_cancel_left]
  rw [en_221, ht_221_0, ch_221_0, at_24, ev_rs, ch_221_1]; (try simp +decide (disch := omega) only [ni_bF, nI_clamp, nI_add, pk_mul, dc_ltT, dc_ltF, dc_leT, dc_leF, dc_eqF, dc_neT, dn_eq, dn_ne, dn_lt, dn_ge, si_at, si_c, si_k, q_at_nI, q_put_nI, ne_eq, not_false_eq_true, not_true_eq_false, ↓reduceIte, v0_ltT, v0_ltF, v0_gtT, v0_gtF, v0_leT, v0_leF, v0_geT, v0_geF, v0_eqT, v0_eqF, v0_add, v0_dda, v0_mul, v0_lum, v0_sub, v0_bad, v0_cl, h1, h2, s1]); rw [at_21, ev_rs, ch_221_2]; (try simp +decide (disch := omega) only [ni_bF, nI_clamp, nI_add, pk_mul, dc_ltT, dc_ltF, dc_leT, dc_leF, dc_eqF, dc_neT, dn_eq, dn_ne, dn_lt, dn_ge, si_at, si_c, si_k, q_at_nI, q_put_nI, ne_eq, not_false_eq_true, not_true_eq_false, ↓reduceIte, v0_ltT, v0_ltF, v0_gtT, v0_gtF, v0_leT, v0_leF, v0_geT, v0_geF, v0_eqT, v0_eqF, v0_add, v0_dda, v0_mul, v0_lum, v0_sub, v0_bad, v0_cl, h1, h2, s1]); rw [e1, ev_rs, ch_221_3, e2, ev_rs, ch_221_4]; (try simp +decide (disch := omega) only [ni_bF, nI_clamp, nI_add, pk_mul, dc_ltT, dc_ltF, dc_leT, dc_leF, dc_eqF, dc_neT, dn_eq, dn_ne, dn_lt, dn_ge, si_at, si_c, si_k, q_at_nI, q_put_nI, ne_eq, not_false_eq_true, not_true_eq_false, ↓reduceIte, v0_ltT, v0_ltF, v0_gtT, v0_gtF, v0_leT, v0_leF, v0_geT, v0_geF, v0_eqT, v0_eqF, v0_add, v0_dda, v0_mul, v0_lum, v0_sub, v0_bad, v0_cl, h1, h2, s1]); rw [ch_221_5]
  rfl
theorem cu_l2 (d : Nat) (P : pg_I hi nd nt nn hf sz L bd st) (hR : ∀ i, hi 36 i ∈ us_codes) (h0 : Nat → Nat → Int32) (s0 : cu_S hi h0 bd (2 * nd)) : ∀ (q i n : Nat) (h : Nat → Nat → Int32), i + q = nt → q ≤ n → (∀ c, c ≠ 31 → h c = h0 c) → (∀ x, x < i → us_P hi (hi 36) nd sz L bd x (h 31 x)) → ∃ h', am_fwd (am_call tb_P (d + 6)) (am_run (am_call tb_P (d + 6)) tb_r220_0 n) tb_r220_4 63 [(1, .int (nI i)), (0, .ref 35)] [] (pr_S, h, hl) = some (none, (pr_S, h', hl)) ∧ (∀ c, c ≠ 31 → h' c = h0 c) ∧ (∀ x, x < nt → us_P hi (hi 36) nd sz L bd x (h' 31 x)) := by
  have P0 := P
  obtain ⟨p1, p2, p3, p4, p5, p6, p7, p8, p9, p10, p11, p12, p13, p14⟩ := P
  intro q
  induction q with
  | zero =>
    intro i n h h1 h2 h3 h4
    refine ⟨h, ?_, h3, fun x hx => h4 x (by omega)⟩
    have g1 : h 17 1 = nI nt := by rw [h3 _ (by decide), s0.1 _ (by decide) (by decide)]; exact p6
    rw [ht_220_4, ch_220_6]; (try simp +decide (disch := omega) only [ni_bF, nI_clamp, nI_add, pk_mul, dc_ltT, dc_ltF, dc_leT, dc_leF, dc_eqF, dc_neT, dn_eq, dn_ne, dn_lt, dn_ge, si_at, si_c, si_k, q_at_nI, q_put_nI, ne_eq, not_false_eq_true, not_true_eq_false, ↓reduceIte, v0_ltT, v0_ltF, v0_gtT, v0_gtF, v0_leT, v0_leF, v0_geT, v0_geF, v0_eqT, v0_eqF, v0_add, v0_dda, v0_mul, v0_lum, v0_sub, v0_bad, v0_cl, g1]); rw [sk_220_5_131, ht_220_9, ch_220_8]
  | succ q ih =>
    intro i n h h1 h2 h3 h4
    obtain ⟨n, rfl⟩ : ∃ n', n = n' + 1 := ⟨n - 1, by omega⟩
    have g1 : h 17 1 = nI nt := by rw [h3 _ (by decide), s0.1 _ (by decide) (by decide)]; exact p6
    obtain ⟨e, x1, x2, x3⟩ := pg_of p10 i nd (by rw [p11]; omega)
    obtain ⟨q1, q2, q3, q4, q5, q6, q7, q8, q9, q10, q11, q14⟩ := p12 e x1
    have k1 := (q14 i x2 x3).1
    have k2 := (q14 i x2 x3).2
    -- the others' intervals
    have un : ∀ e', e' < nd → L e' ≤ i → i < L (e' + 1) → e' = e := by
      intro e' y1 y2 y3
      rcases Nat.lt_trichotomy e' e with z | z | z
      · have := pg_mono (nd := nd) (sz := sz) (L := L) (fun d hd => (p12 d hd).2.2.2.2.2.2.2.2.2.1) (a := e' + 1) (b := e) (by omega) (by omega)
        omega
      · exact z
      · have := pg_mono (nd := nd) (sz := sz) (L := L) (fun d hd => (p12 d hd).2.2.2.2.2.2.2.2.2.1) (a := e + 1) (b := e') (by omega) (by omega)
        omega
    have fin : ∀ v, (v = if i < L e + sz e then us_max (uk_c (hi 36 (8 * e + (i - L e)))) (uk_c (hi 36 (8 * e + 4 + (i - L e)))) else us_M hi (hi 36) bd i (2 * nd)) → ∃ h', am_fwd (am_call tb_P (d + 6)) (am_run (am_call tb_P (d + 6)) tb_r220_0 n) tb_r220_4 63 [(1, .int (nI (i + 1))), (0, .ref 35)] [] (pr_S, am_si h 31 i v, hl) = some (none, (pr_S, h', hl)) ∧ (∀ c, c ≠ 31 → h' c = h0 c) ∧ (∀ x, x < nt → us_P hi (hi 36) nd sz L bd x (h' 31 x)) := by
      intro v hv
      refine ih (i + 1) n _ (by omega) (by omega) (fun c hc => by rw [am_si_ne hc]; exact h3 c hc) (fun x hx => ?_)
      by_cases y : x = i
      · subst y
        rw [am_si_at]
        intro e' y1 y2 y3
        rw [un e' y1 y2 y3]; exact hv
      · rw [am_si_off (by omega)]; exact h4 x (by omega)
    have kk : h 23 i = hi 23 i := by rw [h3 _ (by decide), s0.1 _ (by decide) (by decide)]
    by_cases c : i < L e + sz e
    · have gk : h 23 i = 0 := by rw [kk]; exact k2.mpr c
      have pu := ea_paramUses (hl := hl) (d + 3) e (i - L e) h (fun j => by rw [h3 _ (by decide), s0.1 _ (by decide) (by decide)]; exact hR j) (by omega) (by omega) i (L e) (by omega) (by omega) (by rw [h3 _ (by decide), s0.1 _ (by decide) (by decide)]; exact k1) (by rw [h3 _ (by decide), s0.1 _ (by decide) (by decide)]; exact q5)
      rw [h3 36 (by decide), s0.1 36 (by decide) (by decide)] at pu
      obtain ⟨h', l1, l2⟩ := fin _ (if_pos c).symm
      refine ⟨h', ?_, l2⟩
      rw [ht_220_4, ch_220_6]; (try simp +decide (disch := omega) only [ni_bF, nI_clamp, nI_add, pk_mul, dc_ltT, dc_ltF, dc_leT, dc_leF, dc_eqF, dc_neT, dn_eq, dn_ne, dn_lt, dn_ge, si_at, si_c, si_k, q_at_nI, q_put_nI, ne_eq, not_false_eq_true, not_true_eq_false, ↓reduceIte, v0_ltT, v0_ltF, v0_gtT, v0_gtF, v0_leT, v0_leF, v0_geT, v0_geF, v0_eqT, v0_eqF, v0_add, v0_dda, v0_mul, v0_lum, v0_sub, v0_bad, v0_cl, g1, gk]); rw [at_23, ev_rs, ch_220_9]; (try simp +decide (disch := omega) only [ni_bF, nI_clamp, nI_add, pk_mul, dc_ltT, dc_ltF, dc_leT, dc_leF, dc_eqF, dc_neT, dn_eq, dn_ne, dn_lt, dn_ge, si_at, si_c, si_k, q_at_nI, q_put_nI, ne_eq, not_false_eq_true, not_true_eq_false, ↓reduceIte, v0_ltT, v0_ltF, v0_gtT, v0_gtF, v0_leT, v0_leF, v0_geT, v0_geF, v0_eqT, v0_eqF, v0_add, v0_dda, v0_mul, v0_lum, v0_sub, v0_bad, v0_cl, g1, gk]); rw [sk_220_5_93, ht_220_6, ch_220_11]; (try simp +decide (disch := omega) only [ni_bF, nI_clamp, nI_add, pk_mul, dc_ltT, dc_ltF, dc_leT, dc_leF, dc_eqF, dc_neT, dn_eq, dn_ne, dn_lt, dn_ge, si_at, si_c, si_k, q_at_nI, q_put_nI, ne_eq, not_false_eq_true, not_true_eq_false, ↓reduceIte, v0_ltT, v0_ltF, v0_gtT, v0_gtF, v0_leT, v0_leF, v0_geT, v0_geF, v0_eqT, v0_eqF, v0_add, v0_dda, v0_mul, v0_lum, v0_sub, v0_bad, v0_cl, g1, gk]); rw [pu, ev_rs, ch_220_13, sk_220_7_122, ht_220_8, ch_220_15, put_31, ev_rn, ch_220_16]; (try simp +decide (disch := omega) only [ni_bF, nI_clamp, nI_add, pk_mul, dc_ltT, dc_ltF, dc_leT, dc_leF, dc_eqF, dc_neT, dn_eq, dn_ne, dn_lt, dn_ge, si_at, si_c, si_k, q_at_nI, q_put_nI, ne_eq, not_false_eq_true, not_true_eq_false, ↓reduceIte, v0_ltT, v0_ltF, v0_gtT, v0_gtF, v0_leT, v0_leF, v0_geT, v0_geF, v0_eqT, v0_eqF, v0_add, v0_dda, v0_mul, v0_lum, v0_sub, v0_bad, v0_cl, v1_ltT, v1_ltF, v1_gtT, v1_gtF, v1_leT, v1_leF, v1_geT, v1_geF, v1_eqT, v1_eqF, v1_add, v1_dda, v1_mul, v1_lum, v1_sub, v1_bad, v1_cl, g1, gk]); rw [sk_220_9_63, lp_220_63]
      exact mo_f (Nat.le_refl _) (by repeat (first | exact trivial | refine And.intro rfl ?_)) rfl l1
    · have gk : ¬ h 23 i = 0 := by rw [kk]; exact fun z => c (k2.mp z)
      obtain ⟨h', l1, l2⟩ := fin _ (if_neg c).symm
      refine ⟨h', ?_, l2⟩
      have gs : h 41 i = us_M hi (hi 36) bd i (2 * nd) := by rw [h3 _ (by decide)]; exact s0.2.2.2 i (by omega)
      rw [ht_220_4, ch_220_6]; (try simp +decide (disch := omega) only [ni_bF, nI_clamp, nI_add, pk_mul, dc_ltT, dc_ltF, dc_leT, dc_leF, dc_eqF, dc_neT, dn_eq, dn_ne, dn_lt, dn_ge, si_at, si_c, si_k, q_at_nI, q_put_nI, ne_eq, not_false_eq_true, not_true_eq_false, ↓reduceIte, v0_ltT, v0_ltF, v0_gtT, v0_gtF, v0_leT, v0_leF, v0_geT, v0_geF, v0_eqT, v0_eqF, v0_add, v0_dda, v0_mul, v0_lum, v0_sub, v0_bad, v0_cl, g1, gk, gs]); rw [at_23, ev_rs, ch_220_9]; (try simp +decide (disch := omega) only [ni_bF, nI_clamp, nI_add, pk_mul, dc_ltT, dc_ltF, dc_leT, dc_leF, dc_eqF, dc_neT, dn_eq, dn_ne, dn_lt, dn_ge, si_at, si_c, si_k, q_at_nI, q_put_nI, ne_eq, not_false_eq_true, not_true_eq_false, ↓reduceIte, v0_ltT, v0_ltF, v0_gtT, v0_gtF, v0_leT, v0_leF, v0_geT, v0_geF, v0_eqT, v0_eqF, v0_add, v0_dda, v0_mul, v0_lum, v0_sub, v0_bad, v0_cl, g1, gk, gs]); rw [ht_220_5, ch_220_10, ht_220_6, ch_220_11]; (try simp +decide (disch := omega) only [ni_bF, nI_clamp, nI_add, pk_mul, dc_ltT, dc_ltF, dc_leT, dc_leF, dc_eqF, dc_neT, dn_eq, dn_ne, dn_lt, dn_ge, si_at, si_c, si_k, q_at_nI, q_put_nI, ne_eq, not_false_eq_true, not_true_eq_false, ↓reduceIte, v0_ltT, v0_ltF, v0_gtT, v0_gtF, v0_leT, v0_leF, v0_geT, v0_geF, v0_eqT, v0_eqF, v0_add, v0_dda, v0_mul, v0_lum, v0_sub, v0_bad, v0_cl, g1, gk, gs]); rw [ht_220_7, ch_220_12, at_41, ev_rs, ch_220_14]; (try simp +decide (disch := omega) only [ni_bF, nI_clamp, nI_add, pk_mul, dc_ltT, dc_ltF, dc_leT, dc_leF, dc_eqF, dc_neT, dn_eq, dn_ne, dn_lt, dn_ge, si_at, si_c, si_k, q_at_nI, q_put_nI, ne_eq, not_false_eq_true, not_true_eq_false, ↓reduceIte, v0_ltT, v0_ltF, v0_gtT, v0_gtF, v0_leT, v0_leF, v0_geT, v0_geF, v0_eqT, v0_eqF, v0_add, v0_dda, v0_mul, v0_lum, v0_sub, v0_bad, v0_cl, g1, gk, gs]); rw [ht_220_8, ch_220_15, put_31, ev_rn, ch_220_16]; (try simp +decide (disch := omega) only [ni_bF, nI_clamp, nI_add, pk_mul, dc_ltT, dc_ltF, dc_leT, dc_leF, dc_eqF, dc_neT, dn_eq, dn_ne, dn_lt, dn_ge, si_at, si_c, si_k, q_at_nI, q_put_nI, ne_eq, not_false_eq_true, not_true_eq_false, ↓reduceIte, v0_ltT, v0_ltF, v0_gtT, v0_gtF, v0_leT, v0_leF, v0_geT, v0_geF, v0_eqT, v0_eqF, v0_add, v0_dda, v0_mul, v0_lum, v0_sub, v0_bad, v0_cl, v1_ltT, v1_ltF, v1_gtT, v1_gtF, v1_leT, v1_leF, v1_geT, v1_geF, v1_eqT, v1_eqF, v1_add, v1_dda, v1_mul, v1_lum, v1_sub, v1_bad, v1_cl, g1, gk, gs]); rw [sk_220_9_63, lp_220_63]
      exact mo_f (Nat.le_refl _) (by repeat (first | exact trivial | refine And.intro rfl ?_)) rfl l1
theorem ea_refresh (d : Nat) (P : pg_I hi nd nt nn hf sz L bd st) (hR : ∀ i, hi 36 i ∈ us_codes) (hs : hi 35 5 = 1 ∨ (hi 35 5 = 0 ∧ ∀ t, t < nt → us_P hi (hi 36) nd sz L bd t (hi 31 t))) (hse : ∀ t, t < 200 → hi 41 t ∈ ([0, 1, 2] : List Int32)) : ∃ h', am_call tb_P (d + 7) 220 [.ref 35] (pr_S, hi, hl) = some (none, (pr_S, h', hl)) ∧ (∀ c, c ≠ 35 → c ≠ 31 → (c < 38 ∨ 44 < c) → h' c = hi c) ∧ (∀ x, x ≠ 5 → h' 35 x = hi 35 x) ∧ h' 35 5 = 0 ∧ (∀ t, t < nt → us_P hi (hi 36) nd sz L bd t (h' 31 t)) ∧ (∀ t, t < 200 → h' 41 t ∈ ([0, 1, 2] : List Int32)) := by
  rcases hs with hs | ⟨hs, hu⟩
  · have sf : cu_S hi (fl_h (am_si hi 35 5 0) 41 0 200) bd (2 * 0) := by
      refine ⟨fun c z1 z2 => ?_, fun x hx => ?_, ?_, fun t ht => ?_⟩
      · rw [fl_c (by omega), am_si_ne z1]
      · rw [fl_c (by decide), am_si_off (by omega)]
      · rw [fl_c (by decide)]; exact am_si_at _ _ _ _
      · rw [fl_in ht]; rfl
    obtain ⟨h', l1, h1, l2, l3⟩ := cu_l1 (hl := hl) d P hR (fun h' => ∃ h1, cu_S hi h1 bd (2 * nd) ∧ (∀ c, c ≠ 31 → h' c = h1 c) ∧ (∀ x, x < nt → us_P hi (hi 36) nd sz L bd x (h' 31 x))) 500000 (fun h s => by
      obtain ⟨h', m1, m2, m3⟩ := cu_l2 (hl := hl) d P hR h s nt 0 500000 h (by omega) (by have := P.2.1; omega) (fun _ _ => rfl) (fun x hx => absurd hx (Nat.not_lt_zero _))
      exact ⟨h', m1, h, s, m2, m3⟩) nd 0 999999 _ (by omega) (by have := P.1; omega) sf
    refine ⟨h', ?_, fun c z1 z2 z3 => ?_, fun x hx => ?_, ?_, l3.2, fun t ht => ?_⟩
    · rw [en_220, ht_220_0, ch_220_0]; (try simp +decide (disch := omega) only [ni_bF, nI_clamp, nI_add, pk_mul, dc_ltT, dc_ltF, dc_leT, dc_leF, dc_eqF, dc_neT, dn_eq, dn_ne, dn_lt, dn_ge, si_at, si_c, si_k, q_at_nI, q_put_nI, ne_eq, not_false_eq_true, not_true_eq_false, ↓reduceIte, v0_ltT, v0_ltF, v0_gtT, v0_gtF, v0_leT, v0_leF, v0_geT, v0_geF, v0_eqT, v0_eqF, v0_add, v0_dda, v0_mul, v0_lum, v0_sub, v0_bad, v0_cl, hs]); rw [ht_220_1, ch_220_1, fl_41 _ _ _ _, ev_rn, ch_220_2]
      exact l1
    · rw [l3.1 c z2]; exact l2.1 c z1 z3
    · rw [l3.1 _ (by decide)]; exact l2.2.1 x hx
    · rw [l3.1 _ (by decide)]; exact l2.2.2.1
    · rw [l3.1 _ (by decide), l2.2.2.2 t ht]; exact us_Mc P hR t _ (Nat.le_refl _)
  · refine ⟨hi, ?_, fun _ _ _ _ => rfl, fun _ _ => rfl, hs, hu, hse⟩
    rw [en_220, ht_220_0, ch_220_0]; try simp +decide (disch := omega) only [ni_bF, nI_clamp, nI_add, pk_mul, dc_ltT, dc_ltF, dc_leT, dc_leF, dc_eqF, dc_neT, dn_eq, dn_ne, dn_lt, dn_ge, si_at, si_c, si_k, q_at_nI, q_put_nI, ne_eq, not_false_eq_true, not_true_eq_false, ↓reduceIte, v0_ltT, v0_ltF, v0_gtT, v0_gtF, v0_leT, v0_leF, v0_geT, v0_geF, v0_eqT, v0_eqF, v0_add, v0_dda, v0_mul, v0_lum, v0_sub, v0_bad, v0_cl, hs]
end PG
