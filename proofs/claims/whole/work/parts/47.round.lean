/-! a ROUND of the class -/
theorem v2_div {a : Nat} (ha : a < 2 ^ 31) : nI a / (2 : Int32) = nI (a / 2) := pk_div (d := 2) ha (by decide) (by decide)
theorem nI_subI {a b : Nat} (h : b ≤ a) : nI a - nI b = nI (a - b) := nI_sub h
/-- the heap in the inner loop of foretellRound: i USES are made -/
def rr_h (h : Nat → Nat → Int32) (j L i : Nat) : Nat → Nat → Int32 := fun c x => if c = 37 ∧ j ≤ x ∧ x < j + i then us_either (h 36 x) (h 40 (L + (x - j))) else h c x
theorem rr_0 (h : Nat → Nat → Int32) (j L : Nat) : rr_h h j L 0 = h := by
  funext c x
  exact if_neg (by omega)
theorem rr_1 (h : Nat → Nat → Int32) (j L i : Nat) : am_si (rr_h h j L i) 37 (j + i) (us_either (h 36 (j + i)) (h 40 (L + i))) = rr_h h j L (i + 1) := by
  funext c x
  unfold am_si rr_h
  by_cases c1 : c = 37
  · rw [if_pos c1]
    by_cases c2 : x = j + i
    · rw [if_pos c2, if_pos (by omega), c2, Nat.add_sub_cancel_left]
    · rw [if_neg c2]
      by_cases c3 : c = 37 ∧ j ≤ x ∧ x < j + i
      · rw [if_pos c3, if_pos (by omega)]
      · rw [if_neg c3, if_neg (by omega)]
  · rw [if_neg c1, if_neg (fun e => c1 e.1), if_neg (fun e => c1 e.1)]
theorem rr_c {h : Nat → Nat → Int32} {j L i c : Nat} (hc : c ≠ 37) : rr_h h j L i c = h c := by
  funext x
  exact if_neg (fun e => hc e.1)
section PG
variable {hi : Nat → Nat → Int32} {hl : Nat → Nat → Int64} {nd nt nn hf : Nat} {sz L bd st : Nat → Nat}
theorem rr_in (d e u w Lo : Nat) (x1 : Int32) (h : Nat → Nat → Int32) (res : Option Value × am_G) (he : e < 24) (hu : u < 2) (hw : w ≤ 4) (hLo : Lo + w ≤ 200) (hT : h 39 1 = nI 0) (n2 : Nat) (k : am_fwd (am_call tb_P (d + 2)) (am_run (am_call tb_P (d + 2)) tb_r215_0 n2) tb_r215_1 2 [(1, .int (x1 + 1)), (0, .ref 35)] [] (pr_S, rr_h h (8 * e + 4 * u) Lo w, hl) = some res) : ∀ (q i n : Nat), i + q = w → n2 + q + 1 ≤ n →
    am_fwd (am_call tb_P (d + 2)) (am_run (am_call tb_P (d + 2)) tb_r215_0 n) tb_r215_4 69 [(6, .int (nI i)), (5, .int (nI w)), (4, .int (nI Lo)), (3, .int (nI u)), (2, .int (nI e)), (1, .int x1), (0, .ref 35)] [] (pr_S, rr_h h (8 * e + 4 * u) Lo i, hl) = some res := by
  intro q
  induction q with
  | zero =>
    intro i n h1 h2
    obtain ⟨n, rfl⟩ : ∃ n', n = n' + 1 := ⟨n - 1, by omega⟩
    have e1 : i = w := by omega
    subst e1
    rw [ht_215_4, ch_215_8]; (try simp +decide (disch := omega) only [ni_bF, nI_clamp, nI_add, pk_mul, dc_ltT, dc_ltF, dc_leT, dc_leF, dc_eqF, dc_neT, dn_eq, dn_ne, dn_lt, dn_ge, si_at, si_c, si_k, q_at_nI, q_put_nI, ne_eq, not_false_eq_true, not_true_eq_false, ↓reduceIte, v0_ltT, v0_ltF, v0_gtT, v0_gtF, v0_leT, v0_leF, v0_geT, v0_geF, v0_eqT, v0_eqF, v0_add, v0_dda, v0_mul, v0_lum, v0_sub, v0_bad, v0_cl]); rw [ht_215_5, ch_215_9]; (try simp +decide (disch := omega) only [ni_bF, nI_clamp, nI_add, pk_mul, dc_ltT, dc_ltF, dc_leT, dc_leF, dc_eqF, dc_neT, dn_eq, dn_ne, dn_lt, dn_ge, si_at, si_c, si_k, q_at_nI, q_put_nI, ne_eq, not_false_eq_true, not_true_eq_false, ↓reduceIte, v0_ltT, v0_ltF, v0_gtT, v0_gtF, v0_leT, v0_leF, v0_geT, v0_geF, v0_eqT, v0_eqF, v0_add, v0_dda, v0_mul, v0_lum, v0_sub, v0_bad, v0_cl, v1_ltT, v1_ltF, v1_gtT, v1_gtF, v1_leT, v1_leF, v1_geT, v1_geF, v1_eqT, v1_eqF, v1_add, v1_dda, v1_mul, v1_lum, v1_sub, v1_bad, v1_cl]); rw [sk_215_6_2, lp_215_2]
    exact mo_f (by omega) (by repeat (first | exact trivial | refine And.intro rfl ?_)) rfl k
  | succ q ih =>
    intro i n h1 h2
    obtain ⟨n, rfl⟩ : ∃ n', n = n' + 1 := ⟨n - 1, by omega⟩
    have p := ih (i + 1) n (by omega) (by omega)
    have t0 : rr_h h (8 * e + 4 * u) Lo i 39 1 = nI 0 := by rw [rr_c (by decide)]; exact hT
    rw [ht_215_4, ch_215_8]; (try simp +decide (disch := omega) only [ni_bF, nI_clamp, nI_add, pk_mul, dc_ltT, dc_ltF, dc_leT, dc_leF, dc_eqF, dc_neT, dn_eq, dn_ne, dn_lt, dn_ge, si_at, si_c, si_k, q_at_nI, q_put_nI, ne_eq, not_false_eq_true, not_true_eq_false, ↓reduceIte, v0_ltT, v0_ltF, v0_gtT, v0_gtF, v0_leT, v0_leF, v0_geT, v0_geF, v0_eqT, v0_eqF, v0_add, v0_dda, v0_mul, v0_lum, v0_sub, v0_bad, v0_cl]); rw [ea_rowIndex _ _ _ _ _ _, lk_ri, ev_rs, ch_215_10, at_36, ev_rs, ch_215_12]; (try simp +decide (disch := omega) only [ni_bF, nI_clamp, nI_add, pk_mul, dc_ltT, dc_ltF, dc_leT, dc_leF, dc_eqF, dc_neT, dn_eq, dn_ne, dn_lt, dn_ge, si_at, si_c, si_k, q_at_nI, q_put_nI, ne_eq, not_false_eq_true, not_true_eq_false, ↓reduceIte, v0_ltT, v0_ltF, v0_gtT, v0_gtF, v0_leT, v0_leF, v0_geT, v0_geF, v0_eqT, v0_eqF, v0_add, v0_dda, v0_mul, v0_lum, v0_sub, v0_bad, v0_cl]); rw [ea_useOfL _ 0 (Lo + i) _ _ t0 (by decide) (by omega), ev_rs, ch_215_16, ea_either _ _ _ _ _, ev_rs, ch_215_18, put_37, ev_rn, ch_215_20]; (try simp +decide (disch := omega) only [ni_bF, nI_clamp, nI_add, pk_mul, dc_ltT, dc_ltF, dc_leT, dc_leF, dc_eqF, dc_neT, dn_eq, dn_ne, dn_lt, dn_ge, si_at, si_c, si_k, q_at_nI, q_put_nI, ne_eq, not_false_eq_true, not_true_eq_false, ↓reduceIte, v0_ltT, v0_ltF, v0_gtT, v0_gtF, v0_leT, v0_leF, v0_geT, v0_geF, v0_eqT, v0_eqF, v0_add, v0_dda, v0_mul, v0_lum, v0_sub, v0_bad, v0_cl, v1_ltT, v1_ltF, v1_gtT, v1_gtF, v1_leT, v1_leF, v1_geT, v1_geF, v1_eqT, v1_eqF, v1_add, v1_dda, v1_mul, v1_lum, v1_sub, v1_bad, v1_cl]); rw [sk_215_5_69, show (200 * 0 + (Lo + i)) = Lo + i by omega, rr_c (c := 36) (by decide), rr_c (c := 40) (by decide), rr_1, lp_215_69]
    exact mo_f (Nat.le_refl _) (by repeat (first | exact trivial | refine And.intro rfl ?_)) rfl p
/-- what a ROUND makes of a USE -/
def nx_u (hi : Nat → Nat → Int32) (L bd : Nat → Nat) (e u i : Nat) : Int32 := us_either (hi 36 (8 * e + 4 * u + i)) (ft (hi 26) (hi 27) (hi 28) (hi 29) (hi 30) (hi 20) (hi 36) 4000 (bd e) (rd_D u) (L e + i))
theorem cr_loop (d : Nat) (P : pg_I hi nd nt nn hf sz L bd st) (hR : ∀ i, hi 36 i ∈ us_codes) : ∀ (q r n : Nat) (h : Nat → Nat → Int32), r + q = 2 * nd → 6 * q ≤ n → (∀ c, c < 37 ∨ 44 < c → h c = hi c) → (∀ e u i, e < nd → u < 2 → i < sz e → 2 * e + u < r → h 37 (8 * e + 4 * u + i) = nx_u hi L bd e u i) → (∀ t, t < 200 → h 41 t ∈ ([0, 1, 2] : List Int32)) →
    ∃ h' : Nat → Nat → Int32, am_fwd (am_call tb_P (d + 6)) (am_run (am_call tb_P (d + 6)) tb_r215_0 n) tb_r215_1 2 [(1, .int (nI r)), (0, .ref 35)] [] (pr_S, h, hl) = some (none, (pr_S, h', hl)) ∧ (∀ c, c < 37 ∨ 44 < c → h' c = hi c) ∧ (∀ e u i, e < nd → u < 2 → i < sz e → h' 37 (8 * e + 4 * u + i) = nx_u hi L bd e u i) ∧ (∀ t, t < 200 → h' 41 t ∈ ([0, 1, 2] : List Int32)) := by
  have P0 := P
  obtain ⟨p1, p2, p3, p4, p5, p6, p7, p8, p9, p10, p11, p12, p13, p14⟩ := P
  intro q
  induction q with
  | zero =>
    intro r n h h1 h2 h3 h4 h5
    refine ⟨h, ?_, h3, fun e u i a1 a2 a3 => h4 e u i a1 a2 a3 (by omega), h5⟩
    have g1 : h 17 0 = nI nd := by rw [h3 17 (by decide)]; exact p5
    rw [ht_215_1, ch_215_1]; (try simp +decide (disch := omega) only [ni_bF, nI_clamp, nI_add, pk_mul, dc_ltT, dc_ltF, dc_leT, dc_leF, dc_eqF, dc_neT, dn_eq, dn_ne, dn_lt, dn_ge, si_at, si_c, si_k, q_at_nI, q_put_nI, ne_eq, not_false_eq_true, not_true_eq_false, ↓reduceIte, v0_ltT, v0_ltF, v0_gtT, v0_gtF, v0_leT, v0_leF, v0_geT, v0_geF, v0_eqT, v0_eqF, v0_add, v0_dda, v0_mul, v0_lum, v0_sub, v0_bad, v0_cl, v2_ltT, v2_ltF, v2_gtT, v2_gtF, v2_leT, v2_leF, v2_geT, v2_geF, v2_eqT, v2_eqF, v2_add, v2_dda, v2_mul, v2_lum, v2_sub, v2_bad, v2_cl, g1, v2_div, nI_subI]); rw [sk_215_2_133, ht_215_6, ch_215_2]
  | succ q ih =>
    intro r n h h1 h2 h3 h4 h5
    have he : r / 2 < nd := by omega
    obtain ⟨q1, q2, q3, q4, q5, q6, q7, q8, q9, q10, q11, q14⟩ := p12 (r / 2) he
    have m1 : L (r / 2 + 1) ≤ L nd := pg_mono (sz := sz) (fun d hd => (p12 d hd).2.2.2.2.2.2.2.2.2.1) (by omega) (Nat.le_refl _)
    have Ph : pg_I h nd nt nn hf sz L bd st := pg_fr (fun c hc => h3 c (by unfold pg_c at hc; omega)) (by rw [h3 73 (by decide)]) P0
    have hRh : ∀ i, h 36 i ∈ us_codes := fun i => by rw [h3 36 (by decide)]; exact hR i
    obtain ⟨h6, t1, t2, t3, t4, t5⟩ := cf_def (hl := hl) d (r / 2) (r % 2) Ph he hRh h5
    have eF : ∀ x, ft (h 26) (h 27) (h 28) (h 29) (h 30) (h 20) (h 36) 4000 (bd (r / 2)) (rd_D (r % 2)) x = ft (hi 26) (hi 27) (hi 28) (hi 29) (hi 30) (hi 20) (hi 36) 4000 (bd (r / 2)) (rd_D (r % 2)) x := by
      intro x
      rw [h3 26 (by decide), h3 27 (by decide), h3 28 (by decide), h3 29 (by decide), h3 30 (by decide), h3 20 (by decide), h3 36 (by decide)]
    have gg := ft_ok (r / 2) (r % 2) Ph he hRh
    have fr : ∀ c, c < 37 ∨ 44 < c → rr_h h6 (8 * (r / 2) + 4 * (r % 2)) (L (r / 2)) (sz (r / 2)) c = hi c := fun c hc => by rw [rr_c (by omega), t2 c (by omega), h3 c hc]
    obtain ⟨h', k1, k2⟩ := ih (r + 1) (n - 6) (rr_h h6 (8 * (r / 2) + 4 * (r % 2)) (L (r / 2)) (sz (r / 2))) (by omega) (by omega) fr (fun e u i a1 a2 a3 a4 => by
      by_cases c : 2 * e + u = r
      · have ee : r / 2 = e := by omega
        have eu : r % 2 = u := by omega
        have := q10
        rw [ee, eu] at t4 eF ⊢
        rw [ee] at this
        unfold rr_h
        rw [if_pos (by omega), t2 36 (by decide), h3 36 (by decide), Nat.add_sub_cancel_left, t4 _ (by omega) (by omega), eF]
        rfl
      · unfold rr_h
        have := (p12 e a1).2.1
        rw [if_neg (by omega), t2 37 (by decide)]
        exact h4 e u i a1 a2 a3 (by omega)) (fun t ht => by
      rw [rr_c (by decide), t5 t ht]
      exact us_sn_max _ (h5 t ht) _ ((gg _).2 (by omega)))
    refine ⟨h', ?_, k2⟩
    have g1 : h 17 0 = nI nd := by rw [h3 17 (by decide)]; exact p5
    have g2 : h6 21 (r / 2) = nI (L (r / 2)) := by rw [t2 21 (by decide), h3 21 (by decide)]; exact q5
    have g3 : h6 20 (r / 2) = nI (sz (r / 2)) := by rw [t2 20 (by decide), h3 20 (by decide)]; exact q1
    have lp := rr_in (hl := hl) (d + 4) (r / 2) (r % 2) (sz (r / 2)) (L (r / 2)) (nI r) h6 (none, (pr_S, h', hl)) (by omega) (by omega) q2 (by omega) t3 (n - 6) (by rw [nI_1]; exact k1) (sz (r / 2)) 0 n (by omega) (by omega)
    rw [rr_0] at lp
    by_cases c0 : r % 2 = 0
    · have e0 : r - r / 2 * 2 = r % 2 := by omega
      have e1 : rd_D (r % 2) = 0 := if_pos c0
      rw [e1] at t1
      rw [ht_215_1, ch_215_1]; (try simp +decide (disch := omega) only [ni_bF, nI_clamp, nI_add, pk_mul, dc_ltT, dc_ltF, dc_leT, dc_leF, dc_eqF, dc_neT, dn_eq, dn_ne, dn_lt, dn_ge, si_at, si_c, si_k, q_at_nI, q_put_nI, ne_eq, not_false_eq_true, not_true_eq_false, ↓reduceIte, v0_ltT, v0_ltF, v0_gtT, v0_gtF, v0_leT, v0_leF, v0_geT, v0_geF, v0_eqT, v0_eqF, v0_add, v0_dda, v0_mul, v0_lum, v0_sub, v0_bad, v0_cl, v2_ltT, v2_ltF, v2_gtT, v2_gtF, v2_leT, v2_leF, v2_geT, v2_geF, v2_eqT, v2_eqF, v2_add, v2_dda, v2_mul, v2_lum, v2_sub, v2_bad, v2_cl, g1, g2, g3, v2_div, nI_subI, e0]); rw [sk_215_2_37, ht_215_3, ch_215_4, t1, ev_rn, ch_215_5, at_21, ev_rs, ch_215_6]; (try simp +decide (disch := omega) only [ni_bF, nI_clamp, nI_add, pk_mul, dc_ltT, dc_ltF, dc_leT, dc_leF, dc_eqF, dc_neT, dn_eq, dn_ne, dn_lt, dn_ge, si_at, si_c, si_k, q_at_nI, q_put_nI, ne_eq, not_false_eq_true, not_true_eq_false, ↓reduceIte, v0_ltT, v0_ltF, v0_gtT, v0_gtF, v0_leT, v0_leF, v0_geT, v0_geF, v0_eqT, v0_eqF, v0_add, v0_dda, v0_mul, v0_lum, v0_sub, v0_bad, v0_cl, g1, g2, g3, v2_div, nI_subI, e0]); rw [at_20, ev_rs, ch_215_7]; try simp +decide (disch := omega) only [ni_bF, nI_clamp, nI_add, pk_mul, dc_ltT, dc_ltF, dc_leT, dc_leF, dc_eqF, dc_neT, dn_eq, dn_ne, dn_lt, dn_ge, si_at, si_c, si_k, q_at_nI, q_put_nI, ne_eq, not_false_eq_true, not_true_eq_false, ↓reduceIte, v0_ltT, v0_ltF, v0_gtT, v0_gtF, v0_leT, v0_leF, v0_geT, v0_geF, v0_eqT, v0_eqF, v0_add, v0_dda, v0_mul, v0_lum, v0_sub, v0_bad, v0_cl, g1, g2, g3, v2_div, nI_subI, e0]
      exact lp
    · have e0 : r - r / 2 * 2 = r % 2 := by omega
      have e1 : rd_D (r % 2) = 4 := if_neg c0
      rw [e1] at t1
      rw [ht_215_1, ch_215_1]; (try simp +decide (disch := omega) only [ni_bF, nI_clamp, nI_add, pk_mul, dc_ltT, dc_ltF, dc_leT, dc_leF, dc_eqF, dc_neT, dn_eq, dn_ne, dn_lt, dn_ge, si_at, si_c, si_k, q_at_nI, q_put_nI, ne_eq, not_false_eq_true, not_true_eq_false, ↓reduceIte, v0_ltT, v0_ltF, v0_gtT, v0_gtF, v0_leT, v0_leF, v0_geT, v0_geF, v0_eqT, v0_eqF, v0_add, v0_dda, v0_mul, v0_lum, v0_sub, v0_bad, v0_cl, v2_ltT, v2_ltF, v2_gtT, v2_gtF, v2_leT, v2_leF, v2_geT, v2_geF, v2_eqT, v2_eqF, v2_add, v2_dda, v2_mul, v2_lum, v2_sub, v2_bad, v2_cl, g1, g2, g3, v2_div, nI_subI, e0]); rw [ht_215_2, ch_215_3, ht_215_3, ch_215_4, t1, ev_rn, ch_215_5, at_21, ev_rs, ch_215_6]; (try simp +decide (disch := omega) only [ni_bF, nI_clamp, nI_add, pk_mul, dc_ltT, dc_ltF, dc_leT, dc_leF, dc_eqF, dc_neT, dn_eq, dn_ne, dn_lt, dn_ge, si_at, si_c, si_k, q_at_nI, q_put_nI, ne_eq, not_false_eq_true, not_true_eq_false, ↓reduceIte, v0_ltT, v0_ltF, v0_gtT, v0_gtF, v0_leT, v0_leF, v0_geT, v0_geF, v0_eqT, v0_eqF, v0_add, v0_dda, v0_mul, v0_lum, v0_sub, v0_bad, v0_cl, g1, g2, g3, v2_div, nI_subI, e0]); rw [at_20, ev_rs, ch_215_7]; try simp +decide (disch := omega) only [ni_bF, nI_clamp, nI_add, pk_mul, dc_ltT, dc_ltF, dc_leT, dc_leF, dc_eqF, dc_neT, dn_eq, dn_ne, dn_lt, dn_ge, si_at, si_c, si_k, q_at_nI, q_put_nI, ne_eq, not_false_eq_true, not_true_eq_false, ↓reduceIte, v0_ltT, v0_ltF, v0_gtT, v0_gtF, v0_leT, v0_leF, v0_geT, v0_geF, v0_eqT, v0_eqF, v0_add, v0_dda, v0_mul, v0_lum, v0_sub, v0_bad, v0_cl, g1, g2, g3, v2_div, nI_subI, e0]
      exact lp
theorem cr_round (d : Nat) (P : pg_I hi nd nt nn hf sz L bd st) (hR : ∀ i, hi 36 i ∈ us_codes) (hse : ∀ t, t < 200 → hi 41 t ∈ ([0, 1, 2] : List Int32)) : ∃ h' : Nat → Nat → Int32, am_call tb_P (d + 7) 215 [.ref 35] (pr_S, hi, hl) = some (none, (pr_S, h', hl)) ∧ (∀ c, c < 37 ∨ 44 < c → h' c = hi c) ∧ (∀ e u i, e < nd → u < 2 → i < sz e → h' 37 (8 * e + 4 * u + i) = nx_u hi L bd e u i) ∧ (∀ t, t < 200 → h' 41 t ∈ ([0, 1, 2] : List Int32)) := by
  have p1 := P.1
  obtain ⟨h', k1, k2⟩ := cr_loop (hl := hl) d P hR (2 * nd) 0 999999 hi (by omega) (by omega) (fun _ _ => rfl) (fun e u i _ _ _ h => absurd h (Nat.not_lt_zero _)) hse
  refine ⟨h', ?_, k2⟩
  rw [en_215, ht_215_0, ch_215_0]
  exact k1
end PG
