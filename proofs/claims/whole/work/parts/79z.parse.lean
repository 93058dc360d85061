/-! parse of the class and the reading of the reference, side by side -/
section PP
variable {H0 H1 hi hC hM : Nat → Nat → Int32} {G0 G1 gl gC gM : Nat → Nat → Int64} {B : Nat → Nat} {N M rd D e k n t w0 : Nat} {sz L bd st : Nat → Nat}
theorem fx_base {hC' hM' : Nat → Nat → Int32} {gC' gM' : Nat → Nat → Int64} (a : ∀ c, c ≠ 1 → c ≠ 3 → c ≠ 32 → hC c = hi c) (b : ∀ c, c ≠ 1 → gC c = gl c) (F : fx hC gC H1 G1 N rd hC' gC' hM' gM') : fx hi gl H1 G1 N rd hC' gC' hM' gM' := by
  obtain ⟨e1, e2, e3, e4⟩ := F
  exact ⟨fun c q1 q2 q3 q4 q5 => by rw [e1 c q1 q2 q3 q4 q5, a c q1 q2 q4], e2, fun c q1 q2 q3 => by rw [e3 c q1 q2 q3, b c q1], e4⟩
/-- where the reference has failed it goes through both loops over the nodes -/
theorem rd_fail (C : am_C) (h25 : hM 73 25 = nI rd) (hrd : rd < 2) (h24 : hM 73 24 = nI n) (hn : n ≤ 2900) (nz : hM 73 26 ≠ 0) (R : Option Value × am_G) (hR : ∀ x1 x2 : Int32, am_fwd C (am_run C tb_r46_0 960000) tb_r46_10 273 [(2, .int x2), (1, .int x1), (0, .ref 73)] [] (pr_S, hM, gM) = some R) : am_fwd C (am_run C tb_r46_0 990000) tb_r46_2 80 [(0, .ref 73)] [] (pr_S, hM, gM) = some R := by
  have e1 : nI rd * 2900 = nI (2900 * rd) := by rcases (by omega : rd = 0 ∨ rd = 1) with rfl | rfl <;> rfl
  have p258 : ∀ x2 : Int32, am_fwd C (am_run C tb_r46_0 990000) tb_r46_9 258 [(2, .int x2), (1, .int (-1)), (0, .ref 73)] [] (pr_S, hM, gM) = some R := fun x2 => by
    rw [ht_46_9, ch_46_10]; try simp +decide (disch := omega) only [ni_bF, nI_clamp, nI_add, pk_mul, dc_ltT, dc_ltF, dc_leT, dc_leF, dc_eqF, dc_neT, dn_eq, dn_ne, dn_lt, dn_ge, si_at, si_c, si_k, q_at_nI, q_put_nI, ne_eq, not_false_eq_true, not_true_eq_false, ↓reduceIte, v0_ltT, v0_ltF, v0_gtT, v0_gtF, v0_leT, v0_leF, v0_geT, v0_geF, v0_eqT, v0_eqF, v0_add, v0_dda, v0_mul, v0_lum, v0_sub, v0_bad, v0_cl]
    exact mo_f (by omega) (by repeat (first | exact trivial | refine And.intro rfl ?_)) rfl (hR _ _)
  have p179 : am_fwd C (am_run C tb_r46_0 990000) tb_r46_6 179 [(2, .int (nI (2900 * rd))), (1, .int (-1)), (0, .ref 73)] [] (pr_S, hM, gM) = some R := by
    by_cases c : n = 0
    · subst c
      rw [ht_46_6, ch_46_9]; (try simp +decide (disch := omega) only [ni_bF, nI_clamp, nI_add, pk_mul, dc_ltT, dc_ltF, dc_leT, dc_leF, dc_eqF, dc_neT, dn_eq, dn_ne, dn_lt, dn_ge, si_at, si_c, si_k, q_at_nI, q_put_nI, ne_eq, not_false_eq_true, not_true_eq_false, ↓reduceIte, v0_ltT, v0_ltF, v0_gtT, v0_gtF, v0_leT, v0_leF, v0_geT, v0_geF, v0_eqT, v0_eqF, v0_add, v0_dda, v0_mul, v0_lum, v0_sub, v0_bad, v0_cl, v24_ltT, v24_ltF, v24_gtT, v24_gtF, v24_leT, v24_leF, v24_geT, v24_geF, v24_eqT, v24_eqF, v24_add, v24_dda, v24_mul, v24_lum, v24_sub, v24_bad, v24_cl, v2900_ltT, v2900_ltF, v2900_gtT, v2900_gtF, v2900_leT, v2900_leF, v2900_geT, v2900_geF, v2900_eqT, v2900_eqF, v2900_add, v2900_dda, v2900_mul, v2900_lum, v2900_sub, v2900_bad, v2900_cl, h25, h24, e1]); rw [sk_46_7_258]
      exact p258 _
    · rw [ht_46_6, ch_46_9]; (try simp +decide (disch := omega) only [ni_bF, nI_clamp, nI_add, pk_mul, dc_ltT, dc_ltF, dc_leT, dc_leF, dc_eqF, dc_neT, dn_eq, dn_ne, dn_lt, dn_ge, si_at, si_c, si_k, q_at_nI, q_put_nI, ne_eq, not_false_eq_true, not_true_eq_false, ↓reduceIte, v0_ltT, v0_ltF, v0_gtT, v0_gtF, v0_leT, v0_leF, v0_geT, v0_geF, v0_eqT, v0_eqF, v0_add, v0_dda, v0_mul, v0_lum, v0_sub, v0_bad, v0_cl, v24_ltT, v24_ltF, v24_gtT, v24_gtF, v24_leT, v24_leF, v24_geT, v24_geF, v24_eqT, v24_eqF, v24_add, v24_dda, v24_mul, v24_lum, v24_sub, v24_bad, v24_cl, v2900_ltT, v2900_ltF, v2900_gtT, v2900_gtF, v2900_leT, v2900_leF, v2900_geT, v2900_geF, v2900_eqT, v2900_eqF, v2900_add, v2900_dda, v2900_mul, v2900_lum, v2900_sub, v2900_bad, v2900_cl, h25, h24, e1]); rw [if_pos nz, sk_46_7_258]
      exact p258 _
  have p168 : ∀ x1 : Int32, am_fwd C (am_run C tb_r46_0 990000) tb_r46_5 168 [(1, .int x1), (0, .ref 73)] [] (pr_S, hM, gM) = some R := fun x1 => by
    rw [ht_46_5, ch_46_6]; try simp +decide (disch := omega) only [ni_bF, nI_clamp, nI_add, pk_mul, dc_ltT, dc_ltF, dc_leT, dc_leF, dc_eqF, dc_neT, dn_eq, dn_ne, dn_lt, dn_ge, si_at, si_c, si_k, q_at_nI, q_put_nI, ne_eq, not_false_eq_true, not_true_eq_false, ↓reduceIte, v0_ltT, v0_ltF, v0_gtT, v0_gtF, v0_leT, v0_leF, v0_geT, v0_geF, v0_eqT, v0_eqF, v0_add, v0_dda, v0_mul, v0_lum, v0_sub, v0_bad, v0_cl, v2900_ltT, v2900_ltF, v2900_gtT, v2900_gtF, v2900_leT, v2900_leF, v2900_geT, v2900_geF, v2900_eqT, v2900_eqF, v2900_add, v2900_dda, v2900_mul, v2900_lum, v2900_sub, v2900_bad, v2900_cl, h25, e1]
    exact p179
  by_cases c : n = 0
  · subst c
    rw [ht_46_2, ch_46_3]; (try simp +decide (disch := omega) only [ni_bF, nI_clamp, nI_add, pk_mul, dc_ltT, dc_ltF, dc_leT, dc_leF, dc_eqF, dc_neT, dn_eq, dn_ne, dn_lt, dn_ge, si_at, si_c, si_k, q_at_nI, q_put_nI, ne_eq, not_false_eq_true, not_true_eq_false, ↓reduceIte, v0_ltT, v0_ltF, v0_gtT, v0_gtF, v0_leT, v0_leF, v0_geT, v0_geF, v0_eqT, v0_eqF, v0_add, v0_dda, v0_mul, v0_lum, v0_sub, v0_bad, v0_cl, v2900_ltT, v2900_ltF, v2900_gtT, v2900_gtF, v2900_leT, v2900_leF, v2900_geT, v2900_geF, v2900_eqT, v2900_eqF, v2900_add, v2900_dda, v2900_mul, v2900_lum, v2900_sub, v2900_bad, v2900_cl, h25, h24, e1]); rw [ht_46_3, ch_46_5]; (try simp +decide (disch := omega) only [ni_bF, nI_clamp, nI_add, pk_mul, dc_ltT, dc_ltF, dc_leT, dc_leF, dc_eqF, dc_neT, dn_eq, dn_ne, dn_lt, dn_ge, si_at, si_c, si_k, q_at_nI, q_put_nI, ne_eq, not_false_eq_true, not_true_eq_false, ↓reduceIte, v0_ltT, v0_ltF, v0_gtT, v0_gtF, v0_leT, v0_leF, v0_geT, v0_geF, v0_eqT, v0_eqF, v0_add, v0_dda, v0_mul, v0_lum, v0_sub, v0_bad, v0_cl, v24_ltT, v24_ltF, v24_gtT, v24_gtF, v24_leT, v24_leF, v24_geT, v24_geF, v24_eqT, v24_eqF, v24_add, v24_dda, v24_mul, v24_lum, v24_sub, v24_bad, v24_cl, v2900_ltT, v2900_ltF, v2900_gtT, v2900_gtF, v2900_leT, v2900_leF, v2900_geT, v2900_geF, v2900_eqT, v2900_eqF, v2900_add, v2900_dda, v2900_mul, v2900_lum, v2900_sub, v2900_bad, v2900_cl, h25, h24, e1]); rw [sk_46_4_168]
    exact p168 _
  · rw [ht_46_2, ch_46_3]; (try simp +decide (disch := omega) only [ni_bF, nI_clamp, nI_add, pk_mul, dc_ltT, dc_ltF, dc_leT, dc_leF, dc_eqF, dc_neT, dn_eq, dn_ne, dn_lt, dn_ge, si_at, si_c, si_k, q_at_nI, q_put_nI, ne_eq, not_false_eq_true, not_true_eq_false, ↓reduceIte, v0_ltT, v0_ltF, v0_gtT, v0_gtF, v0_leT, v0_leF, v0_geT, v0_geF, v0_eqT, v0_eqF, v0_add, v0_dda, v0_mul, v0_lum, v0_sub, v0_bad, v0_cl, v2900_ltT, v2900_ltF, v2900_gtT, v2900_gtF, v2900_leT, v2900_leF, v2900_geT, v2900_geF, v2900_eqT, v2900_eqF, v2900_add, v2900_dda, v2900_mul, v2900_lum, v2900_sub, v2900_bad, v2900_cl, h25, h24, e1]); rw [ht_46_3, ch_46_5]; (try simp +decide (disch := omega) only [ni_bF, nI_clamp, nI_add, pk_mul, dc_ltT, dc_ltF, dc_leT, dc_leF, dc_eqF, dc_neT, dn_eq, dn_ne, dn_lt, dn_ge, si_at, si_c, si_k, q_at_nI, q_put_nI, ne_eq, not_false_eq_true, not_true_eq_false, ↓reduceIte, v0_ltT, v0_ltF, v0_gtT, v0_gtF, v0_leT, v0_leF, v0_geT, v0_geF, v0_eqT, v0_eqF, v0_add, v0_dda, v0_mul, v0_lum, v0_sub, v0_bad, v0_cl, v24_ltT, v24_ltF, v24_gtT, v24_gtF, v24_leT, v24_leF, v24_geT, v24_geF, v24_eqT, v24_eqF, v24_add, v24_dda, v24_mul, v24_lum, v24_sub, v24_bad, v24_cl, v2900_ltT, v2900_ltF, v2900_gtT, v2900_gtF, v2900_leT, v2900_leF, v2900_geT, v2900_geF, v2900_eqT, v2900_eqF, v2900_add, v2900_dda, v2900_mul, v2900_lum, v2900_sub, v2900_bad, v2900_cl, h25, h24, e1]); rw [if_pos nz, sk_46_4_168]
    exact p168 _
theorem parse_pair (X : px hi hM gM B N M rd) (t0 : hi 1 0 = nI N) (m6 : hM 73 6 = 0) (m26 : hM 73 26 = 0) (m29 : hM 73 29 = 0) (m24 : hM 73 24 = 0) (m32 : hM 73 32 = nI w0) (mg : hM 86 rd = 0) (ms : hM 85 rd = 0) : ∃ (r : Int32) (hC' : Nat → Nat → Int32) (gC' : Nat → Nat → Int64) (hM' : Nat → Nat → Int32) (gM' : Nat → Nat → Int64), am_call tb_P (e + 341) 174 [.ref 32] (pr_S, hi, gl) = some (some (.int r), (pr_S, hC', gC')) ∧ fx hi gl hM gM N rd hC' gC' hM' gM' ∧ (∃ w, hM' 73 32 = nI w) ∧ hM' 73 26 = r ∧ ((r = 0 ∧ hC' 32 0 = -1 ∧ (∃ D t n sz L bd st, pd_I hC' hM' D t n rd sz L bd st) ∧ ∀ R, (∀ x2 : Int32, am_fwd (am_call tb_P (e + 340)) (am_run (am_call tb_P (e + 340)) tb_r46_0 960000) tb_r46_10 273 [(2, .int x2), (1, .int (-1)), (0, .ref 73)] [] (pr_S, hM', gM') = some R) → am_fwd (am_call tb_P (e + 340)) (am_run (am_call tb_P (e + 340)) tb_r46_0 999999) tb_r46_1 54 [(0, .ref 73)] [] (pr_S, hM, gM) = some R) ∨ (r ≠ 0 ∧ hM' 73 27 = hC' 32 0 ∧ ∀ R, (∀ x1 x2 : Int32, am_fwd (am_call tb_P (e + 340)) (am_run (am_call tb_P (e + 340)) tb_r46_0 960000) tb_r46_10 273 [(2, .int x2), (1, .int x1), (0, .ref 73)] [] (pr_S, hM', gM') = some R) → am_fwd (am_call tb_P (e + 340)) (am_run (am_call tb_P (e + 340)) tb_r46_0 999999) tb_r46_1 54 [(0, .ref 73)] [] (pr_S, hM, gM) = some R)) := by
  have cl : am_call tb_P (e + 340) 203 [.ref 3] (pr_S, hi, gl) = some (none, (pr_S, am_si (am_si (am_si hi 3 0 0) 3 1 0) 3 2 0, gl)) := by
    rw [en_203_3, ht_203_3_0, ch_203_3_0]
  obtain ⟨h1, hh1⟩ : ∃ h, h = am_si (am_si (am_si (am_si (am_si (am_si (am_si hi 3 0 0) 3 1 0) 3 2 0) 32 1 0) 32 0 (-1)) 32 2 0) 32 3 0 := ⟨_, rfl⟩
  have o1 : ∀ c, c ≠ 3 → c ≠ 32 → h1 c = hi c := fun c q1 q2 => by rw [hh1, am_si_ne q2, am_si_ne q2, am_si_ne q2, am_si_ne q2, am_si_ne q1, am_si_ne q1, am_si_ne q1]
  have T : tx_C h1 B N := ⟨by rw [o1 _ (by decide) (by decide)]; exact t0, X.2.2.2.2.2.2.2.2, fun p hp => by rw [o1 _ (by decide) (by decide)]; exact X.1 p hp⟩
  obtain ⟨h2, g2, u1, u2, u3, u4, u5⟩ := ea_scanFrom (hl := gl) (p := 0) (e + 336) T (Nat.zero_le _)
  have u5 : at_C h2 g2 B N (tp B N 0) := u5
  have u1' : am_call tb_P (e + 340) 225 [.ref 1, .int 0] (pr_S, h1, gl) = some (none, (pr_S, h2, g2)) := u1
  rw [hh1] at u1'
  have X2 : px h2 hM gM B N M rd := ⟨by rw [u2 _ (by decide), o1 _ (by decide) (by decide)]; exact X.1, X.2⟩
  have t02 : h2 1 0 = nI N := by rw [u3, o1 _ (by decide) (by decide)]; exact t0
  have oA : ∀ c, c ≠ 1 → c ≠ 3 → c ≠ 32 → h2 c = hi c := fun c q1 q2 q3 => by rw [u2 c q1, o1 c q2 q3]
  have pa1 : h2 32 1 = 0 := by rw [u2 _ (by decide), hh1, am_si_off (by decide), am_si_off (by decide), am_si_off (by decide), am_si_at]
  have pa0 : h2 32 0 = -1 := by rw [u2 _ (by decide), hh1, am_si_off (by decide), am_si_off (by decide), am_si_at]
  have pa2 : h2 32 2 = 0 := by rw [u2 _ (by decide), hh1, am_si_off (by decide), am_si_at]
  have pa3 : h2 32 3 = 0 := by rw [u2 _ (by decide), hh1, am_si_at]
  have sp : h2 3 0 = 0 ∧ h2 3 1 = 0 ∧ h2 3 2 = 0 := by
    rw [u2 _ (by decide), hh1, am_si_ne (by decide), am_si_ne (by decide), am_si_ne (by decide), am_si_ne (by decide)]
    refine ⟨?_, ?_, am_si_at _ _ _ _⟩
    · rw [am_si_off (by decide), am_si_off (by decide), am_si_at]
    · rw [am_si_off (by decide), am_si_at]
  have rbT : tok B N (tp B N 0) = 1 → am_call tb_P (e + 340) 176 [.ref 32] (pr_S, h2, g2) = some (none, (pr_S, xfl h2 1 (h2 1 2), g2)) := fun c => by
    have t1 : h2 1 1 = 257 := by rw [u5.2.1, c]; rfl
    rw [en_176, ht_176_0, ch_176_0]; (try simp +decide (disch := omega) only [ni_bF, nI_clamp, nI_add, pk_mul, dc_ltT, dc_ltF, dc_leT, dc_leF, dc_eqF, dc_neT, dn_eq, dn_ne, dn_lt, dn_ge, si_at, si_c, si_k, q_at_nI, q_put_nI, ne_eq, not_false_eq_true, not_true_eq_false, ↓reduceIte, v0_ltT, v0_ltF, v0_gtT, v0_gtF, v0_leT, v0_leF, v0_geT, v0_geF, v0_eqT, v0_eqF, v0_add, v0_dda, v0_mul, v0_lum, v0_sub, v0_bad, v0_cl, v257_ltT, v257_ltF, v257_gtT, v257_gtF, v257_leT, v257_leF, v257_geT, v257_geF, v257_eqT, v257_eqF, v257_add, v257_dda, v257_mul, v257_lum, v257_sub, v257_bad, v257_cl, t1]); rw [ea_pfail _ pa1, ev_rn, ch_176_2, ht_176_1, ch_176_1]
  have rbF : tok B N (tp B N 0) ≠ 1 → am_call tb_P (e + 340) 176 [.ref 32] (pr_S, h2, g2) = some (none, (pr_S, h2, g2)) := fun c => by
    have t1 : h2 1 1 ≠ 257 := by rw [u5.2.1]; exact fun q => c ((cl_e (b := 1) (tok_l X2 _) (by decide)).mp q)
    rw [en_176, ht_176_0, ch_176_0, if_pos t1, ht_176_1, ch_176_1]
  have DL : ∃ (h3 : Nat → Nat → Int32) (g3 : Nat → Nat → Int64) (hM3 : Nat → Nat → Int32) (gM3 : Nat → Nat → Int64), (∀ R, (∀ x1 : Int32, am_fwd (am_call tb_P (e + 340)) (am_run (am_call tb_P (e + 340)) tb_r174_0 0) tb_r174_2 78 [(1, .int x1), (0, .ref 32)] [] (pr_S, h3, g3) = some R) → am_call tb_P (e + 341) 174 [.ref 32] (pr_S, hi, gl) = some R) ∧ (∀ R, am_fwd (am_call tb_P (e + 340)) (am_run (am_call tb_P (e + 340)) tb_r46_0 990000) tb_r46_2 80 [(0, .ref 73)] [] (pr_S, hM3, gM3) = some R → am_fwd (am_call tb_P (e + 340)) (am_run (am_call tb_P (e + 340)) tb_r46_0 999999) tb_r46_1 54 [(0, .ref 73)] [] (pr_S, hM, gM) = some R) ∧ ((∃ D k n t sz L bd st, df_R h2 g2 hM gM B N M rd D k n t sz L bd st h3 g3 hM3 gM3) ∨ (pp_D h2 g2 hM gM B N M rd 0 h3 g3 hM3 gM3 ∧ hM3 73 26 ≠ 0)) := by
    by_cases c : tok B N (tp B N 0) = 1
    · have S := rd_bad (M := M) (rd := rd) (gM := gM) t02 u5 m6 m26 m24 m32 c
      obtain ⟨hM3, v1, v2, v3⟩ := lo_end (e := e) X2 S
      refine ⟨_, _, hM3, gM, fun R hR => ?_, fun R hR => v1 999999 R (by omega) hR, Or.inr ⟨v2, v3⟩⟩
      have p := lo_bad (e := e) (D := 0) S (by omega) 999999 R hR
      rw [en_174, ht_174_0, ch_174_0, cl, ev_rn, ch_174_1, u1', ev_rn, ch_174_2, rbT c, ev_rn, ch_174_3]
      exact p
    · have S := rd_start X2 t02 u5 pa1 pa2 pa3 pa0 sp.1 sp.2.1 sp.2.2 m6 m26 m29 m24 m32 mg ms c
      obtain ⟨h3, g3, hM3, gM3, v1, v2, v3⟩ := lo_defs (e := e) X2 24 0 rfl _ _ _ _ _ _ _ _ _ _ _ S
      refine ⟨h3, g3, hM3, gM3, fun R hR => ?_, fun R hR => v2 999999 R (by omega) hR, ?_⟩
      · have p := v1 999999 R (by omega) hR
        rw [en_174, ht_174_0, ch_174_0, cl, ev_rn, ch_174_1, u1', ev_rn, ch_174_2, rbF c, ev_rn, ch_174_3]
        exact p
      · rcases v3 with ⟨D, k, n, t, sz, L, bd, st, v4, _⟩ | v4
        · exact Or.inl ⟨D, k, n, t, sz, L, bd, st, v4⟩
        · exact Or.inr v4
  obtain ⟨h3, g3, hM3, gM3, w1, w2, w3⟩ := DL
  have hrd := X.2.2.2.2.2.2.1
  have hN2 := X.2.2.2.2.2.2.2.2
  rcases w3 with ⟨D, k, n, t, sz, L, bd, st, S⟩ | ⟨S, nz⟩
  · obtain ⟨hC', gC', hM', y1, y2, y3, y4, y5⟩ := rs_pair (e + 335) (e + 339) X2 S
    have f0 : h3 32 1 = 0 := S.2.1.2.1.1
    have p0 : h3 32 0 = -1 := S.2.1.2.1.2.2.2
    have pc : am_call tb_P (e + 341) 174 [.ref 32] (pr_S, hi, gl) = some (some (.int (hC' 32 1)), (pr_S, hC', gC')) := w1 _ (fun x1 => by
      rw [ht_174_2, ch_174_5]; (try simp +decide (disch := omega) only [ni_bF, nI_clamp, nI_add, pk_mul, dc_ltT, dc_ltF, dc_leT, dc_leF, dc_eqF, dc_neT, dn_eq, dn_ne, dn_lt, dn_ge, si_at, si_c, si_k, q_at_nI, q_put_nI, ne_eq, not_false_eq_true, not_true_eq_false, ↓reduceIte, v0_ltT, v0_ltF, v0_gtT, v0_gtF, v0_leT, v0_leF, v0_geT, v0_geF, v0_eqT, v0_eqF, v0_add, v0_dda, v0_mul, v0_lum, v0_sub, v0_bad, v0_cl, f0]); rw [y1, ev_rn, ch_174_8, ht_174_3, ch_174_7])
    rcases y5 with ⟨z1, z2, z3, z4⟩ | ⟨z1, j, z2, z3, z4⟩
    · refine ⟨_, hC', gC', hM', gM3, pc, fx_base oA u4 y2, y4, by rw [y3, z1], Or.inl ⟨z1, by rw [z2]; exact p0, ⟨D, t, n, sz, L, bd, st, z3⟩, fun R hR => w2 R (z4 R (fun x2 => ?_))⟩⟩
      rw [ht_46_9, ch_46_10]; try simp +decide (disch := omega) only [ni_bF, nI_clamp, nI_add, pk_mul, dc_ltT, dc_ltF, dc_leT, dc_leF, dc_eqF, dc_neT, dn_eq, dn_ne, dn_lt, dn_ge, si_at, si_c, si_k, q_at_nI, q_put_nI, ne_eq, not_false_eq_true, not_true_eq_false, ↓reduceIte, v0_ltT, v0_ltF, v0_gtT, v0_gtF, v0_leT, v0_leF, v0_geT, v0_geF, v0_eqT, v0_eqF, v0_add, v0_dda, v0_mul, v0_lum, v0_sub, v0_bad, v0_cl]
      exact mo_f (by omega) (by repeat (first | exact trivial | refine And.intro rfl ?_)) rfl (hR _)
    · have e6 : (am_si hM' 73 6 (nI j)) 73 6 = nI j := am_si_at _ _ _ _
      have e26 : (am_si hM' 73 6 (nI j)) 73 26 = 0 := by rw [am_si_off (by decide)]; exact y3
      have pl : (am_si hM' 73 6 (nI j)) 76 j = hM' 76 j := by rw [am_si_ne (by decide)]
      have fl := em_pfail (gM := gM3) (f := 3) (e + 339) e26 e6 z2
      refine ⟨_, hC', gC', xfm2 (am_si hM' 73 6 (nI j)) 3 ((am_si hM' 73 6 (nI j)) 76 j), gM3, pc, fx_base oA u4 (fx_pf y2 (pf_Cr y2.2.1) (pf_Mo (by decide) (pf_Mo (by decide) (pf_Mo (by decide) pf_Mr)))), ?_, ?_, Or.inr ⟨by rw [z1]; decide, ?_, fun R hR => w2 R (z4 R (fun x2 => ?_))⟩⟩
      · obtain ⟨w, hw⟩ := y4
        exact ⟨w, by unfold xfm2; rw [am_si_off (by decide), am_si_off (by decide), am_si_off (by decide)]; exact hw⟩
      · unfold xfm2; rw [am_si_off (by decide), am_si_at, z1]
      · unfold xfm2; rw [am_si_at, pl, z3]
      · have jm : nI j ≠ -1 := fun z => by rw [nl_m1 (by omega)] at z; exact z
        rw [ht_46_9, ch_46_10, if_neg jm, fl, ev_rn, ch_46_14]
        exact mo_f (by omega) (by repeat (first | exact trivial | refine And.intro rfl ?_)) rfl (hR _ _)
  · obtain ⟨F, k, n, w, ⟨f, p, a1, a2, a3, a4, a5, a6, a7, a8, a9⟩, J⟩ := S
    have qb := qk_N (B := B) (k := k) hN2
    obtain ⟨b1, b2⟩ : hM3 73 26 = f ∧ hM3 73 27 = nI p := by
      rcases a9 with ⟨z, _⟩ | z
      · exact absurd z nz
      · exact z
    have m25 : hM3 73 25 = nI rd := (px_fx X2 F).2.2.2.2.2.2.2.1
    have n1 : h3 32 1 ≠ 0 := by rw [a1]; exact a2
    refine ⟨h3 32 1, h3, g3, hM3, gM3, w1 _ (fun x1 => ?_), fx_base oA u4 F, ⟨w, a8⟩, by rw [b1, a1], Or.inr ⟨n1, by rw [b2, a3], fun R hR => w2 R (rd_fail _ m25 hrd a7 (by omega) nz R hR)⟩⟩
    rw [ht_174_2, ch_174_5, if_pos n1, ht_174_3, ch_174_7]
end PP
