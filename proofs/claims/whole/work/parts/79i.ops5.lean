/-! both parsers side by side: products, sums, comparisons -/
section LP
variable {h0 h1 hC hM : Nat → Nat → Int32} {g0 g1 gC gM : Nat → Nat → Int64} {B : Nat → Nat} {N M rd k o n t w π D e s : Nat} {G : List Nat}
/-- an OPERATOR and its right side -/
theorem op_step (ed fr fR τ : Nat) (mC mM : Nat) (X : px h0 h1 g1 B N M rd) (hf : fR < fr) (H : cnC mC mM h0 g0 h1 g1 B N M rd D o (ed + 8) fR) (hfC : ∀ (hC : Nat → Nat → Int32) (gC : Nat → Nat → Int64), hC 32 1 ≠ 0 → hC 1 1 = 257 → am_call tb_P (ed + 8) mC [.ref 32] (pr_S, hC, gC) = some (some (.int (-1)), (pr_S, hC, gC))) (hfM : ∀ (hC : Nat → Nat → Int32) (gC : Nat → Nat → Int64) (hM : Nat → Nat → Int32) (gM : Nat → Nat → Int64) (k n w : Nat), ps_B h0 g0 h1 g1 B N M rd hC gC hM gM k n w → ∃ hM', am_call tb_P (ed + 8) mM [.ref 73] (pr_S, hM, gM) = some (some (.int 0), (pr_S, hM', gM)) ∧ ps_B h0 g0 h1 g1 B N M rd hC gC hM' gM k n w)
    (hC0 : Nat → Nat → Int32) {rC rM : Int32} {k' n' t' : Nat} (S : lo_S h0 g0 h1 g1 B N M rd D (fun _ => True) hC0 n t w o π fr (40 - o) G rC rM hC gC hM gM k' n' t') (c : tok B N (tp B N k') = τ) (hτ : τ = 42 ∨ τ = 43 ∨ τ = 45 ∨ τ = 60) :
    ∃ (hC1 : Nat → Nat → Int32) (gC1 : Nat → Nat → Int64) (rC2 rM2 : Int32) (hC2 : Nat → Nat → Int32) (gC2 : Nat → Nat → Int64) (hM2 : Nat → Nat → Int32) (gM2 : Nat → Nat → Int64) (rC3 rM3 : Int32) (hC3 hM3 : Nat → Nat → Int32) (k3 n3 t3 : Nat), am_call tb_P (ed + 8) 177 [.ref 32] (pr_S, hC, gC) = some (none, (pr_S, hC1, gC1)) ∧ am_call tb_P (ed + 8) mC [.ref 32] (pr_S, hC1, gC1) = some (some (.int rC2), (pr_S, hC2, gC2)) ∧ am_call tb_P (ed + 8) mM [.ref 73] (pr_S, am_si hM 73 6 (nI (k' + 1)), gM) = some (some (.int rM2), (pr_S, hM2, gM2)) ∧ am_call tb_P (ed + 8) 199 [.ref 32, .int 8, .int (nI τ), .int rC, .int rC2] (pr_S, hC2, gC2) = some (some (.int rC3), (pr_S, hC3, gC2)) ∧ am_call tb_P (ed + 8) 30 [.ref 73, .int (nI τ), .int rM, .int rM2, .int 0] (pr_S, hM2, gM2) = some (some (.int rM3), (pr_S, hM3, gM2)) ∧ (lo_S h0 g0 h1 g1 B N M rd D (fun _ => True) hC0 n t w o π fr (40 - o) G rC3 rM3 hC3 gC2 hM3 gM2 k3 n3 t3 ∨ ps_D h0 g0 h1 g1 B N M rd hC3 gC2 hM3 gM2 w π) ∧ n' + 2 ≤ n3 := by
  obtain ⟨P, J, s1, s2, rfl, rfl, ⟨f1, wl, f1l, _⟩, gwl, gal⟩ := S
  have q1 := qk_s (B := B) (N := N) (k := k') (by rw [c]; omega) (by rw [c]; omega) (by rw [c]; omega) (by rw [c]; omega)
  obtain ⟨hC1, gC1, a1, a2, a3⟩ := ps_adv (ed + 3) X P (by rw [c]; omega)
  have R : ∃ (rC2 rM2 : Int32) (hC2 : Nat → Nat → Int32) (gC2 : Nat → Nat → Int64) (hM2 : Nat → Nat → Int32) (gM2 : Nat → Nat → Int64), am_call tb_P (ed + 8) mC [.ref 32] (pr_S, hC1, gC1) = some (some (.int rC2), (pr_S, hC2, gC2)) ∧ am_call tb_P (ed + 8) mM [.ref 73] (pr_S, am_si hM 73 6 (nI (k' + 1)), gM) = some (some (.int rM2), (pr_S, hM2, gM2)) ∧ ps_R h0 g0 h1 g1 B N M rd D hC1 n' t' w o (π + 1) fR (40 - o) G rC2 rM2 hC2 gC2 hM2 gM2 := by
    rcases a3 with a3 | a3
    · exact H hC1 gC1 _ gM (k' + 1) n' t' w G (π + 1) a3 (by omega)
    · obtain ⟨c1, c2⟩ := cf_0 a3
      obtain ⟨hM', o1, o2⟩ := hfM _ _ _ _ _ _ _ a3
      exact ⟨-1, 0, hC1, gC1, hM', gM, hfC _ _ c1 c2, o1, Or.inr ⟨k' + 1, n', o2, by omega⟩⟩
  obtain ⟨rC2, rM2, hC2, gC2, hM2, gM2, b1, b2, R⟩ := R
  rcases R with ⟨k1, n1, t1, P1, J1, n1l, t1l, r1, r2, wf1, gw1, ga1⟩ | R
  · obtain ⟨rC3, rM3, hC3, hM3, v1, v2, v3⟩ := st_two (i := n' - 1) (j := n1 - 1) (kd := 8) (m := nI τ) (wh := nI τ) (ed + 6) X (Or.inr (Or.inl ⟨rfl, rfl, by rcases hτ with rfl | rfl | rfl | rfl <;> decide⟩)) (Or.inl ⟨P1, J1, rfl, r1, rfl, r2⟩)
    refine ⟨hC1, gC1, rC2, rM2, hC2, gC2, hM2, gM2, rC3, rM3, hC3, hM3, k1, n1 + 1, t1, a1, b1, b2, v1, v2, ?_, by omega⟩
    rcases v3 with ⟨p1, p2, p3, p4, p5⟩ | v3
    · refine Or.inl ⟨p1, p2, by omega, by omega, p3, p4, ⟨fr, ?_, Nat.le_refl _, trivial⟩, ?_, ga1⟩
      · show wfx hC3 _ _ n1 n t t1 G
        have xa := xn_at (hC := hC2) (n := n1) 8 (nI τ) (nI (n' - 1)) (nI (n1 - 1)) (-1)
        rw [p5]
        have g5 : ∀ c i, 12 ≤ c → c ≤ 16 → i < n1 → (xn hC2 n1 8 (nI τ) (nI (n' - 1)) (nI (n1 - 1)) (-1)) c i = hC2 c i := fun c i q1 q2 q3 => xn_i (by omega) (by omega)
        have wl' : wfx (xn hC2 n1 8 (nI τ) (nI (n' - 1)) (nI (n1 - 1)) (-1)) f1 (40 - o) (n' - 1) n t t' G := wfx_cg (n := n') wl (by omega) (fun c i q1 q2 q3 => by rw [g5 c i q1 q2 (by omega), gw1.2.2 c i q1 q2 q3, a2 c (by omega) (by omega)])
        have w1 : wfx (xn hC2 n1 8 (nI τ) (nI (n' - 1)) (nI (n1 - 1)) (-1)) fR (40 - o) (n1 - 1) n' t' t1 G := wfx_cg (n := n1) wf1 (by omega) g5
        refine Or.inr (Or.inr (Or.inr (Or.inr (Or.inr (Or.inr (Or.inr (Or.inr (Or.inl ⟨xa.1, ?_, f1, fR, n' - 1, n1 - 1, t', f1l, hf, xa.2.2.1, xa.2.2.2.1, by omega, wf_le (show n' - 1 + 1 ≤ n1 by omega) wl', by rw [show n' - 1 + 1 = n' by omega]; exact wf_le (show n1 - 1 + 1 ≤ n1 by omega) w1⟩))))))))
        unfold mk
        rw [xa.1, if_neg (by decide), xa.2.1]
        rcases hτ with rfl | rfl | rfl | rfl
        · exact Or.inr (Or.inr (Or.inl rfl))
        · exact Or.inl rfl
        · exact Or.inr (Or.inl rfl)
        · exact Or.inr (Or.inr (Or.inr rfl))
      · have g6 : gw hC2 hC3 n1 t1 t1 D := ⟨fun c i q1 q2 _ => by rw [p5, xn_c (by omega) (by omega)], fun i q1 q2 => absurd q1 (by omega), fun c i q1 q2 q3 => by rw [p5, xn_i (by omega) (by omega)]⟩
        exact gw_t (gw_t (gw_t gwl (gw_0 (n := n') (t := t') a2) (by omega) (by omega)) gw1 (by omega) (by omega)) g6 (by omega) (by omega)
    · exact Or.inr v3
  · obtain ⟨rC3, rM3, hC3, hM3, v1, v2, v3⟩ := st_two (i := n' - 1) (j := 0) (n := 0) (k := 0) (o := o) (t := t) (G := G) (kd := 8) (m := nI τ) (wh := nI τ) (a := nI (n' - 1)) (b := rC2) (a' := nI (2900 * rd + (n' - 1))) (b' := rM2) (ed + 6) X (Or.inr (Or.inl ⟨rfl, rfl, by rcases hτ with rfl | rfl | rfl | rfl <;> decide⟩)) (Or.inr R)
    refine ⟨hC1, gC1, rC2, rM2, hC2, gC2, hM2, gM2, rC3, rM3, hC3, hM3, 0, n' + 2, 0, a1, b1, b2, v1, v2, Or.inr ?_, Nat.le_refl _⟩
    rcases v3 with ⟨p1, _⟩ | v3
    · obtain ⟨_, _, W2, _⟩ := R
      have z := ea_newNodeB (hC := hC2) (gC := gC2) (kd := 8) (m := nI τ) (a := nI (n' - 1)) (b := rC2) (ed + 7) (cf_0 W2).1
      have z2 := Option.some.inj (v1.symm.trans z)
      have z3 : hC3 = hC2 := (Prod.mk.inj (Prod.mk.inj (Prod.mk.inj z2).2).2).1
      exact absurd (by rw [← z3]; exact p1.2.2.2.1.1) (cf_0 W2).1
    · exact v3

theorem pr_loop (X : px h0 h1 g1 B N M rd) (IH : o < 40 → exC h0 g0 h1 g1 B N M rd D (o + 1) (e + 10)) (hC0 : Nat → Nat → Int32) : ∀ (q i nC nM : Nat) (hC : Nat → Nat → Int32) (gC : Nat → Nat → Int64) (hM : Nat → Nat → Int32) (gM : Nat → Nat → Int64) (rC0 rM0 : Int32) (k' n' t' : Nat), 2700 ≤ q + n' → 2 * i ≤ n' → q ≤ nC → q ≤ nM → lo_S h0 g0 h1 g1 B N M rd D (fun _ => True) hC0 n t w o π (5 * (40 - o) + 3) (40 - o) G rC0 rM0 hC gC hM gM k' n' t' ∨ ps_D h0 g0 h1 g1 B N M rd hC gC hM gM w π →
    ∃ (rC rM : Int32) (hC' : Nat → Nat → Int32) (gC' : Nat → Nat → Int64) (hM' : Nat → Nat → Int32) (gM' : Nat → Nat → Int64), am_fwd (am_call tb_P (e + 13)) (am_run (am_call tb_P (e + 13)) tb_r189_0 nC) tb_r189_1 7 [(2, .int (nI i)), (1, .int rC0), (0, .ref 32)] [] (pr_S, hC, gC) = some (some (.int rC), (pr_S, hC', gC')) ∧ am_fwd (am_call tb_P (e + 13)) (am_run (am_call tb_P (e + 13)) tb_r41_0 nM) tb_r41_1 5 [(1, .int rM0), (0, .ref 73)] [] (pr_S, hM, gM) = some (some (.int rM), (pr_S, hM', gM')) ∧ ps_R h0 g0 h1 g1 B N M rd D hC0 n t w o π (5 * (40 - o) + 3) (40 - o) G rC rM hC' gC' hM' gM' := by
  have hN := X.2.2.2.2.2.2.2.2
  intro q
  induction q with
  | zero =>
    intro i nC nM hC gC hM gM rC0 rM0 k' n' t' h1' h2 h3 h4 S
    rcases S with S | ⟨k, n'', P, J⟩
    · have := qk_N (B := B) (k := k') hN
      have := S.2.1
      omega
    · obtain ⟨c1, c2⟩ := cf_0 P
      have i42 : am_call tb_P (e + 13) 27 [.ref 73, .int 42] (pr_S, hM, gM) = some (some (.int 0), (pr_S, hM, gM)) := ps_isB (τ := 42) (e + 12) X P (by decide) (by decide)
      refine ⟨rC0, rM0, hC, gC, hM, gM, ?_, ?_, Or.inr ⟨k, n'', P, J⟩⟩
      · by_cases ci : (2000 : Int32) < nI i
        · rw [ht_189_1, ch_189_2, if_pos ci, ht_189_2, ch_189_3]
        · rw [ht_189_1, ch_189_2]; (try simp +decide (disch := omega) only [ni_bF, nI_clamp, nI_add, pk_mul, dc_ltT, dc_ltF, dc_leT, dc_leF, dc_eqF, dc_neT, dn_eq, dn_ne, dn_lt, dn_ge, si_at, si_c, si_k, q_at_nI, q_put_nI, ne_eq, not_false_eq_true, not_true_eq_false, ↓reduceIte, v0_ltT, v0_ltF, v0_gtT, v0_gtF, v0_leT, v0_leF, v0_geT, v0_geF, v0_eqT, v0_eqF, v0_add, v0_dda, v0_mul, v0_lum, v0_sub, v0_bad, v0_cl, v42_ltT, v42_ltF, v42_gtT, v42_gtF, v42_leT, v42_leF, v42_geT, v42_geF, v42_eqT, v42_eqF, v42_add, v42_dda, v42_mul, v42_lum, v42_sub, v42_bad, v42_cl, v2000_ltT, v2000_ltF, v2000_gtT, v2000_gtF, v2000_leT, v2000_leF, v2000_geT, v2000_geF, v2000_eqT, v2000_eqF, v2000_add, v2000_dda, v2000_mul, v2000_lum, v2000_sub, v2000_bad, v2000_cl, c2]); rw [if_neg ci, ht_189_2, ch_189_3]
      · rw [ht_41_1, ch_41_2, i42, ev_rs, ch_41_3]; (try simp +decide (disch := omega) only [ni_bF, nI_clamp, nI_add, pk_mul, dc_ltT, dc_ltF, dc_leT, dc_leF, dc_eqF, dc_neT, dn_eq, dn_ne, dn_lt, dn_ge, si_at, si_c, si_k, q_at_nI, q_put_nI, ne_eq, not_false_eq_true, not_true_eq_false, ↓reduceIte, v0_ltT, v0_ltF, v0_gtT, v0_gtF, v0_leT, v0_leF, v0_geT, v0_geF, v0_eqT, v0_eqF, v0_add, v0_dda, v0_mul, v0_lum, v0_sub, v0_bad, v0_cl, v1_ltT, v1_ltF, v1_gtT, v1_gtF, v1_leT, v1_leF, v1_geT, v1_geF, v1_eqT, v1_eqF, v1_add, v1_dda, v1_mul, v1_lum, v1_sub, v1_bad, v1_cl]); rw [ht_41_2, ch_41_4]
  | succ q ih =>
    intro i nC nM hC gC hM gM rC0 rM0 k' n' t' h1' h2 h3 h4 S
    rcases S with S | ⟨k, n'', P, J⟩
    case inr =>
      obtain ⟨c1, c2⟩ := cf_0 P
      have i42 : am_call tb_P (e + 13) 27 [.ref 73, .int 42] (pr_S, hM, gM) = some (some (.int 0), (pr_S, hM, gM)) := ps_isB (τ := 42) (e + 12) X P (by decide) (by decide)
      refine ⟨rC0, rM0, hC, gC, hM, gM, ?_, ?_, Or.inr ⟨k, n'', P, J⟩⟩
      · by_cases ci : (2000 : Int32) < nI i
        · rw [ht_189_1, ch_189_2, if_pos ci, ht_189_2, ch_189_3]
        · rw [ht_189_1, ch_189_2]; (try simp +decide (disch := omega) only [ni_bF, nI_clamp, nI_add, pk_mul, dc_ltT, dc_ltF, dc_leT, dc_leF, dc_eqF, dc_neT, dn_eq, dn_ne, dn_lt, dn_ge, si_at, si_c, si_k, q_at_nI, q_put_nI, ne_eq, not_false_eq_true, not_true_eq_false, ↓reduceIte, v0_ltT, v0_ltF, v0_gtT, v0_gtF, v0_leT, v0_leF, v0_geT, v0_geF, v0_eqT, v0_eqF, v0_add, v0_dda, v0_mul, v0_lum, v0_sub, v0_bad, v0_cl, v42_ltT, v42_ltF, v42_gtT, v42_gtF, v42_leT, v42_leF, v42_geT, v42_geF, v42_eqT, v42_eqF, v42_add, v42_dda, v42_mul, v42_lum, v42_sub, v42_bad, v42_cl, v2000_ltT, v2000_ltF, v2000_gtT, v2000_gtF, v2000_leT, v2000_leF, v2000_geT, v2000_geF, v2000_eqT, v2000_eqF, v2000_add, v2000_dda, v2000_mul, v2000_lum, v2000_sub, v2000_bad, v2000_cl, c2]); rw [if_neg ci, ht_189_2, ch_189_3]
      · rw [ht_41_1, ch_41_2, i42, ev_rs, ch_41_3]; (try simp +decide (disch := omega) only [ni_bF, nI_clamp, nI_add, pk_mul, dc_ltT, dc_ltF, dc_leT, dc_leF, dc_eqF, dc_neT, dn_eq, dn_ne, dn_lt, dn_ge, si_at, si_c, si_k, q_at_nI, q_put_nI, ne_eq, not_false_eq_true, not_true_eq_false, ↓reduceIte, v0_ltT, v0_ltF, v0_gtT, v0_gtF, v0_leT, v0_leF, v0_geT, v0_geF, v0_eqT, v0_eqF, v0_add, v0_dda, v0_mul, v0_lum, v0_sub, v0_bad, v0_cl, v1_ltT, v1_ltF, v1_gtT, v1_gtF, v1_leT, v1_leF, v1_geT, v1_geF, v1_eqT, v1_eqF, v1_add, v1_dda, v1_mul, v1_lum, v1_sub, v1_bad, v1_cl]); rw [ht_41_2, ch_41_4]
    case inl =>
      have S0 := S
      obtain ⟨P, J, s1, s2, e1, e2, ⟨f1, wl, f1l, _⟩, gwl, gal⟩ := S
      have qb := qk_N (B := B) (k := k') hN
      have tl := tok_l X (tp B N k')
      have tc := P.2.2.1.1.2.1
      have e6 := P.2.2.2.2.1.1
      have hk : k' < 2001 := by have := X.2.2.2.1; have := P.2.2.1.2.2; omega
      obtain ⟨nC, rfl⟩ : ∃ n', nC = n' + 1 := ⟨nC - 1, by omega⟩
      obtain ⟨nM, rfl⟩ : ∃ n', nM = n' + 1 := ⟨nM - 1, by omega⟩
      have i42 : am_call tb_P (e + 13) 27 [.ref 73, .int 42] (pr_S, hM, gM) = _ := ps_is (τ := 42) (e + 12) X P (by decide)
      by_cases c42 : tok B N (tp B N k') = 42
      · obtain ⟨hC1, gC1, rC2, rM2, hC2, gC2, hM2, gM2, rC3, rM3, hC3, hM3, k3, n3, t3, a1, a2, a3, a4, a5, a6, a7⟩ := op_step (e + 5) (5 * (40 - o) + 3) (5 * (40 - o) + 2) 42 190 42 X (by omega) (ct_app X IH) (fun hC gC q1 q2 => cf_app (e + 10) q1 q2) (fun hC gC hM gM k n w P => pb_app (e + 9) X P) hC0 S0 c42 (by decide)
        obtain ⟨rC9, rM9, hC9, gC9, hM9, gM9, x1, x2, R9⟩ := ih (i + 1) nC nM hC3 gC2 hM3 gM2 rC3 rM3 k3 n3 t3 (by omega) (by omega) (by omega) (by omega) a6
        have tv : hC 1 1 = 42 := by rw [tc, c42]; rfl
        have tm : hM 75 k' = 42 := by rw [(px_t X P.2.1 P.2.2.1.2.2).1, c42]; rfl
        rw [if_pos c42] at i42
        have a4' : am_call tb_P (e + 13) 199 [.ref 32, .int 8, .int 42, .int rC0, .int rC2] (pr_S, hC2, gC2) = _ := a4
        have a5' : am_call tb_P (e + 13) 30 [.ref 73, .int 42, .int rM0, .int rM2, .int 0] (pr_S, hM2, gM2) = _ := a5
        refine ⟨rC9, rM9, hC9, gC9, hM9, gM9, ?_, ?_, R9⟩
        · rw [ht_189_1, ch_189_2]; (try simp +decide (disch := omega) only [ni_bF, nI_clamp, nI_add, pk_mul, dc_ltT, dc_ltF, dc_leT, dc_leF, dc_eqF, dc_neT, dn_eq, dn_ne, dn_lt, dn_ge, si_at, si_c, si_k, q_at_nI, q_put_nI, ne_eq, not_false_eq_true, not_true_eq_false, ↓reduceIte, v0_ltT, v0_ltF, v0_gtT, v0_gtF, v0_leT, v0_leF, v0_geT, v0_geF, v0_eqT, v0_eqF, v0_add, v0_dda, v0_mul, v0_lum, v0_sub, v0_bad, v0_cl, v42_ltT, v42_ltF, v42_gtT, v42_gtF, v42_leT, v42_leF, v42_geT, v42_geF, v42_eqT, v42_eqF, v42_add, v42_dda, v42_mul, v42_lum, v42_sub, v42_bad, v42_cl, v2000_ltT, v2000_ltF, v2000_gtT, v2000_gtF, v2000_leT, v2000_leF, v2000_geT, v2000_geF, v2000_eqT, v2000_eqF, v2000_add, v2000_dda, v2000_mul, v2000_lum, v2000_sub, v2000_bad, v2000_cl, tv]); rw [a1, ev_rn, ch_189_4, a2, ev_rs, ch_189_5, a4', ev_rs, ch_189_6]; (try simp +decide (disch := omega) only [ni_bF, nI_clamp, nI_add, pk_mul, dc_ltT, dc_ltF, dc_leT, dc_leF, dc_eqF, dc_neT, dn_eq, dn_ne, dn_lt, dn_ge, si_at, si_c, si_k, q_at_nI, q_put_nI, ne_eq, not_false_eq_true, not_true_eq_false, ↓reduceIte, v0_ltT, v0_ltF, v0_gtT, v0_gtF, v0_leT, v0_leF, v0_geT, v0_geF, v0_eqT, v0_eqF, v0_add, v0_dda, v0_mul, v0_lum, v0_sub, v0_bad, v0_cl, v1_ltT, v1_ltF, v1_gtT, v1_gtF, v1_leT, v1_leF, v1_geT, v1_geF, v1_eqT, v1_eqF, v1_add, v1_dda, v1_mul, v1_lum, v1_sub, v1_bad, v1_cl, tv]); rw [sk_189_2_7, lp_189_7]
          exact mo_f (Nat.le_refl _) (by repeat (first | exact trivial | refine And.intro rfl ?_)) rfl x1
        · rw [ht_41_1, ch_41_2, i42, ev_rs, ch_41_3]; (try simp +decide (disch := omega) only [ni_bF, nI_clamp, nI_add, pk_mul, dc_ltT, dc_ltF, dc_leT, dc_leF, dc_eqF, dc_neT, dn_eq, dn_ne, dn_lt, dn_ge, si_at, si_c, si_k, q_at_nI, q_put_nI, ne_eq, not_false_eq_true, not_true_eq_false, ↓reduceIte, v0_ltT, v0_ltF, v0_gtT, v0_gtF, v0_leT, v0_leF, v0_geT, v0_geF, v0_eqT, v0_eqF, v0_add, v0_dda, v0_mul, v0_lum, v0_sub, v0_bad, v0_cl, v1_ltT, v1_ltF, v1_gtT, v1_gtF, v1_leT, v1_leF, v1_geT, v1_geF, v1_eqT, v1_eqF, v1_add, v1_dda, v1_mul, v1_lum, v1_sub, v1_bad, v1_cl, e6]); rw [a3, ev_rs, ch_41_5, a5', ev_rs, ch_41_6, sk_41_2_5, lp_41_5]
          exact mo_f (Nat.le_refl _) (by repeat (first | exact trivial | refine And.intro rfl ?_)) rfl x2
      rw [if_neg c42] at i42
      have n42 : hC 1 1 ≠ 42 := by rw [tc]; exact fun q => c42 ((cl_e (b := 42) tl (by decide)).mp q)
      refine ⟨rC0, rM0, hC, gC, hM, gM, ?_, ?_, Or.inl ⟨k', n', t', P, J, s1, s2, e1, e2, wf_fg f1l (Nat.le_refl _) wl, gwl, gal⟩⟩
      · rw [ht_189_1, ch_189_2]; (try simp +decide (disch := omega) only [ni_bF, nI_clamp, nI_add, pk_mul, dc_ltT, dc_ltF, dc_leT, dc_leF, dc_eqF, dc_neT, dn_eq, dn_ne, dn_lt, dn_ge, si_at, si_c, si_k, q_at_nI, q_put_nI, ne_eq, not_false_eq_true, not_true_eq_false, ↓reduceIte, v0_ltT, v0_ltF, v0_gtT, v0_gtF, v0_leT, v0_leF, v0_geT, v0_geF, v0_eqT, v0_eqF, v0_add, v0_dda, v0_mul, v0_lum, v0_sub, v0_bad, v0_cl, v42_ltT, v42_ltF, v42_gtT, v42_gtF, v42_leT, v42_leF, v42_geT, v42_geF, v42_eqT, v42_eqF, v42_add, v42_dda, v42_mul, v42_lum, v42_sub, v42_bad, v42_cl, v2000_ltT, v2000_ltF, v2000_gtT, v2000_gtF, v2000_leT, v2000_leF, v2000_geT, v2000_geF, v2000_eqT, v2000_eqF, v2000_add, v2000_dda, v2000_mul, v2000_lum, v2000_sub, v2000_bad, v2000_cl]); rw [if_pos n42, ht_189_2, ch_189_3]
      · rw [ht_41_1, ch_41_2, i42, ev_rs, ch_41_3]; (try simp +decide (disch := omega) only [ni_bF, nI_clamp, nI_add, pk_mul, dc_ltT, dc_ltF, dc_leT, dc_leF, dc_eqF, dc_neT, dn_eq, dn_ne, dn_lt, dn_ge, si_at, si_c, si_k, q_at_nI, q_put_nI, ne_eq, not_false_eq_true, not_true_eq_false, ↓reduceIte, v0_ltT, v0_ltF, v0_gtT, v0_gtF, v0_leT, v0_leF, v0_geT, v0_geF, v0_eqT, v0_eqF, v0_add, v0_dda, v0_mul, v0_lum, v0_sub, v0_bad, v0_cl, v1_ltT, v1_ltF, v1_gtT, v1_gtF, v1_leT, v1_leF, v1_geT, v1_geF, v1_eqT, v1_eqF, v1_add, v1_dda, v1_mul, v1_lum, v1_sub, v1_bad, v1_cl]); rw [ht_41_2, ch_41_4]
theorem ct_prod (X : px h0 h1 g1 B N M rd) (IH : o < 40 → exC h0 g0 h1 g1 B N M rd D (o + 1) (e + 10)) : cnC 189 41 h0 g0 h1 g1 B N M rd D o (e + 14) (5 * (40 - o) + 3) := by
  intro hC gC hM gM k n t w G π P J
  obtain ⟨rC1, rM1, hC1, gC1, hM1, gM1, u1, u2, R⟩ := ct_app X IH hC gC hM gM k n t w G π P J
  have S : ∃ k1 n1 t1, lo_S h0 g0 h1 g1 B N M rd D (fun _ => True) hC n t w o π (5 * (40 - o) + 3) (40 - o) G rC1 rM1 hC1 gC1 hM1 gM1 k1 n1 t1 ∨ ps_D h0 g0 h1 g1 B N M rd hC1 gC1 hM1 gM1 w π := by
    rcases R with ⟨k1, n1, t1, P1, J1, n1l, t1l, r1, r2, wf1, gw1, ga1⟩ | R
    · exact ⟨k1, n1, t1, Or.inl ⟨P1, J1, n1l, t1l, r1, r2, ⟨5 * (40 - o) + 2, wf1, by omega, trivial⟩, gw1, ga1⟩⟩
    · exact ⟨0, 0, 0, Or.inr R⟩
  obtain ⟨k1, n1, t1, S⟩ := S
  obtain ⟨rC3, rM3, hC3, gC3, hM3, gM3, x1, x2, R3⟩ := pr_loop X IH hC 2700 0 999999 999999 hC1 gC1 hM1 gM1 rC1 rM1 k1 n1 t1 (by omega) (by omega) (by omega) (by omega) S
  refine ⟨rC3, rM3, hC3, gC3, hM3, gM3, ?_, ?_, R3⟩
  · rw [en_189, ht_189_0, ch_189_0, u1, ev_rs, ch_189_1]
    exact x1
  · rw [en_41, ht_41_0, ch_41_0, u2, ev_rs, ch_41_1]
    exact x2
theorem su_loop2 (X : px h0 h1 g1 B N M rd) (IH : o < 40 → exC h0 g0 h1 g1 B N M rd D (o + 1) (e + 10)) (hC0 : Nat → Nat → Int32) : ∀ (q i nC nM : Nat) (hC : Nat → Nat → Int32) (gC : Nat → Nat → Int64) (hM : Nat → Nat → Int32) (gM : Nat → Nat → Int64) (rC0 rM0 : Int32) (k' n' t' : Nat), 2700 ≤ q + n' → 2 * i ≤ n' → q ≤ nC → q ≤ nM → lo_S h0 g0 h1 g1 B N M rd D (fun _ => True) hC0 n t w o π (5 * (40 - o) + 4) (40 - o) G rC0 rM0 hC gC hM gM k' n' t' ∨ ps_D h0 g0 h1 g1 B N M rd hC gC hM gM w π →
    ∃ (rC rM : Int32) (hC' : Nat → Nat → Int32) (gC' : Nat → Nat → Int64) (hM' : Nat → Nat → Int32) (gM' : Nat → Nat → Int64), am_fwd (am_call tb_P (e + 14)) (am_run (am_call tb_P (e + 14)) tb_r188_0 nC) tb_r188_1 7 [(2, .int (nI i)), (1, .int rC0), (0, .ref 32)] [] (pr_S, hC, gC) = some (some (.int rC), (pr_S, hC', gC')) ∧ am_fwd (am_call tb_P (e + 14)) (am_run (am_call tb_P (e + 14)) tb_r40_0 nM) tb_r40_1 5 [(1, .int rM0), (0, .ref 73)] [] (pr_S, hM, gM) = some (some (.int rM), (pr_S, hM', gM')) ∧ ps_R h0 g0 h1 g1 B N M rd D hC0 n t w o π (5 * (40 - o) + 4) (40 - o) G rC rM hC' gC' hM' gM' := by
  have hN := X.2.2.2.2.2.2.2.2
  intro q
  induction q with
  | zero =>
    intro i nC nM hC gC hM gM rC0 rM0 k' n' t' h1' h2 h3 h4 S
    rcases S with S | ⟨k, n'', P, J⟩
    · have := qk_N (B := B) (k := k') hN
      have := S.2.1
      omega
    · obtain ⟨c1, c2⟩ := cf_0 P
      have i43 : am_call tb_P (e + 14) 27 [.ref 73, .int 43] (pr_S, hM, gM) = some (some (.int 0), (pr_S, hM, gM)) := ps_isB (τ := 43) (e + 13) X P (by decide) (by decide)
      have i45 : am_call tb_P (e + 14) 27 [.ref 73, .int 45] (pr_S, hM, gM) = some (some (.int 0), (pr_S, hM, gM)) := ps_isB (τ := 45) (e + 13) X P (by decide) (by decide)
      refine ⟨rC0, rM0, hC, gC, hM, gM, ?_, ?_, Or.inr ⟨k, n'', P, J⟩⟩
      · by_cases ci : (2000 : Int32) < nI i
        · rw [ht_188_1, ch_188_2, if_pos ci, sk_188_2_73, ht_188_3, ch_188_3]
        · rw [ht_188_1, ch_188_2]; (try simp +decide (disch := omega) only [ni_bF, nI_clamp, nI_add, pk_mul, dc_ltT, dc_ltF, dc_leT, dc_leF, dc_eqF, dc_neT, dn_eq, dn_ne, dn_lt, dn_ge, si_at, si_c, si_k, q_at_nI, q_put_nI, ne_eq, not_false_eq_true, not_true_eq_false, ↓reduceIte, v0_ltT, v0_ltF, v0_gtT, v0_gtF, v0_leT, v0_leF, v0_geT, v0_geF, v0_eqT, v0_eqF, v0_add, v0_dda, v0_mul, v0_lum, v0_sub, v0_bad, v0_cl, v43_ltT, v43_ltF, v43_gtT, v43_gtF, v43_leT, v43_leF, v43_geT, v43_geF, v43_eqT, v43_eqF, v43_add, v43_dda, v43_mul, v43_lum, v43_sub, v43_bad, v43_cl, v45_ltT, v45_ltF, v45_gtT, v45_gtF, v45_leT, v45_leF, v45_geT, v45_geF, v45_eqT, v45_eqF, v45_add, v45_dda, v45_mul, v45_lum, v45_sub, v45_bad, v45_cl, v2000_ltT, v2000_ltF, v2000_gtT, v2000_gtF, v2000_leT, v2000_leF, v2000_geT, v2000_geF, v2000_eqT, v2000_eqF, v2000_add, v2000_dda, v2000_mul, v2000_lum, v2000_sub, v2000_bad, v2000_cl, c2]); rw [if_neg ci, sk_188_2_73, ht_188_3, ch_188_3]
      · rw [ht_40_1, ch_40_2, i43, ev_rs, ch_40_3]; (try simp +decide (disch := omega) only [ni_bF, nI_clamp, nI_add, pk_mul, dc_ltT, dc_ltF, dc_leT, dc_leF, dc_eqF, dc_neT, dn_eq, dn_ne, dn_lt, dn_ge, si_at, si_c, si_k, q_at_nI, q_put_nI, ne_eq, not_false_eq_true, not_true_eq_false, ↓reduceIte, v0_ltT, v0_ltF, v0_gtT, v0_gtF, v0_leT, v0_leF, v0_geT, v0_geF, v0_eqT, v0_eqF, v0_add, v0_dda, v0_mul, v0_lum, v0_sub, v0_bad, v0_cl]); rw [i45, ev_rs, ch_40_5]; (try simp +decide (disch := omega) only [ni_bF, nI_clamp, nI_add, pk_mul, dc_ltT, dc_ltF, dc_leT, dc_leF, dc_eqF, dc_neT, dn_eq, dn_ne, dn_lt, dn_ge, si_at, si_c, si_k, q_at_nI, q_put_nI, ne_eq, not_false_eq_true, not_true_eq_false, ↓reduceIte, v0_ltT, v0_ltF, v0_gtT, v0_gtF, v0_leT, v0_leF, v0_geT, v0_geF, v0_eqT, v0_eqF, v0_add, v0_dda, v0_mul, v0_lum, v0_sub, v0_bad, v0_cl]); rw [sk_40_2_60, ht_40_3, ch_40_7]
  | succ q ih =>
    intro i nC nM hC gC hM gM rC0 rM0 k' n' t' h1' h2 h3 h4 S
    rcases S with S | ⟨k, n'', P, J⟩
    case inr =>
      obtain ⟨c1, c2⟩ := cf_0 P
      have i43 : am_call tb_P (e + 14) 27 [.ref 73, .int 43] (pr_S, hM, gM) = some (some (.int 0), (pr_S, hM, gM)) := ps_isB (τ := 43) (e + 13) X P (by decide) (by decide)
      have i45 : am_call tb_P (e + 14) 27 [.ref 73, .int 45] (pr_S, hM, gM) = some (some (.int 0), (pr_S, hM, gM)) := ps_isB (τ := 45) (e + 13) X P (by decide) (by decide)
      refine ⟨rC0, rM0, hC, gC, hM, gM, ?_, ?_, Or.inr ⟨k, n'', P, J⟩⟩
      · by_cases ci : (2000 : Int32) < nI i
        · rw [ht_188_1, ch_188_2, if_pos ci, sk_188_2_73, ht_188_3, ch_188_3]
        · rw [ht_188_1, ch_188_2]; (try simp +decide (disch := omega) only [ni_bF, nI_clamp, nI_add, pk_mul, dc_ltT, dc_ltF, dc_leT, dc_leF, dc_eqF, dc_neT, dn_eq, dn_ne, dn_lt, dn_ge, si_at, si_c, si_k, q_at_nI, q_put_nI, ne_eq, not_false_eq_true, not_true_eq_false, ↓reduceIte, v0_ltT, v0_ltF, v0_gtT, v0_gtF, v0_leT, v0_leF, v0_geT, v0_geF, v0_eqT, v0_eqF, v0_add, v0_dda, v0_mul, v0_lum, v0_sub, v0_bad, v0_cl, v43_ltT, v43_ltF, v43_gtT, v43_gtF, v43_leT, v43_leF, v43_geT, v43_geF, v43_eqT, v43_eqF, v43_add, v43_dda, v43_mul, v43_lum, v43_sub, v43_bad, v43_cl, v45_ltT, v45_ltF, v45_gtT, v45_gtF, v45_leT, v45_leF, v45_geT, v45_geF, v45_eqT, v45_eqF, v45_add, v45_dda, v45_mul, v45_lum, v45_sub, v45_bad, v45_cl, v2000_ltT, v2000_ltF, v2000_gtT, v2000_gtF, v2000_leT, v2000_leF, v2000_geT, v2000_geF, v2000_eqT, v2000_eqF, v2000_add, v2000_dda, v2000_mul, v2000_lum, v2000_sub, v2000_bad, v2000_cl, c2]); rw [if_neg ci, sk_188_2_73, ht_188_3, ch_188_3]
      · rw [ht_40_1, ch_40_2, i43, ev_rs, ch_40_3]; (try simp +decide (disch := omega) only [ni_bF, nI_clamp, nI_add, pk_mul, dc_ltT, dc_ltF, dc_leT, dc_leF, dc_eqF, dc_neT, dn_eq, dn_ne, dn_lt, dn_ge, si_at, si_c, si_k, q_at_nI, q_put_nI, ne_eq, not_false_eq_true, not_true_eq_false, ↓reduceIte, v0_ltT, v0_ltF, v0_gtT, v0_gtF, v0_leT, v0_leF, v0_geT, v0_geF, v0_eqT, v0_eqF, v0_add, v0_dda, v0_mul, v0_lum, v0_sub, v0_bad, v0_cl]); rw [i45, ev_rs, ch_40_5]; (try simp +decide (disch := omega) only [ni_bF, nI_clamp, nI_add, pk_mul, dc_ltT, dc_ltF, dc_leT, dc_leF, dc_eqF, dc_neT, dn_eq, dn_ne, dn_lt, dn_ge, si_at, si_c, si_k, q_at_nI, q_put_nI, ne_eq, not_false_eq_true, not_true_eq_false, ↓reduceIte, v0_ltT, v0_ltF, v0_gtT, v0_gtF, v0_leT, v0_leF, v0_geT, v0_geF, v0_eqT, v0_eqF, v0_add, v0_dda, v0_mul, v0_lum, v0_sub, v0_bad, v0_cl]); rw [sk_40_2_60, ht_40_3, ch_40_7]
    case inl =>
      have S0 := S
      obtain ⟨P, J, s1, s2, e1, e2, ⟨f1, wl, f1l, _⟩, gwl, gal⟩ := S
      have qb := qk_N (B := B) (k := k') hN
      have tl := tok_l X (tp B N k')
      have tc := P.2.2.1.1.2.1
      have e6 := P.2.2.2.2.1.1
      have hk : k' < 2001 := by have := X.2.2.2.1; have := P.2.2.1.2.2; omega
      obtain ⟨nC, rfl⟩ : ∃ n', nC = n' + 1 := ⟨nC - 1, by omega⟩
      obtain ⟨nM, rfl⟩ : ∃ n', nM = n' + 1 := ⟨nM - 1, by omega⟩
      have i43 : am_call tb_P (e + 14) 27 [.ref 73, .int 43] (pr_S, hM, gM) = _ := ps_is (τ := 43) (e + 13) X P (by decide)
      have i45 : am_call tb_P (e + 14) 27 [.ref 73, .int 45] (pr_S, hM, gM) = _ := ps_is (τ := 45) (e + 13) X P (by decide)
      by_cases c43 : tok B N (tp B N k') = 43
      · obtain ⟨hC1, gC1, rC2, rM2, hC2, gC2, hM2, gM2, rC3, rM3, hC3, hM3, k3, n3, t3, a1, a2, a3, a4, a5, a6, a7⟩ := op_step (e + 6) (5 * (40 - o) + 4) (5 * (40 - o) + 3) 43 189 41 X (by omega) (ct_prod X IH) (fun hC gC q1 q2 => cf_prod (e + 10) q1 q2) (fun hC gC hM gM k n w P => pb_prod (e + 9) X P) hC0 S0 c43 (by decide)
        obtain ⟨rC9, rM9, hC9, gC9, hM9, gM9, x1, x2, R9⟩ := ih (i + 1) nC nM hC3 gC2 hM3 gM2 rC3 rM3 k3 n3 t3 (by omega) (by omega) (by omega) (by omega) a6
        have tv : hC 1 1 = 43 := by rw [tc, c43]; rfl
        have tm : hM 75 k' = 43 := by rw [(px_t X P.2.1 P.2.2.1.2.2).1, c43]; rfl
        rw [if_pos c43] at i43
        have a4' : am_call tb_P (e + 14) 199 [.ref 32, .int 8, .int 43, .int rC0, .int rC2] (pr_S, hC2, gC2) = _ := a4
        have a5' : am_call tb_P (e + 14) 30 [.ref 73, .int 43, .int rM0, .int rM2, .int 0] (pr_S, hM2, gM2) = _ := a5
        refine ⟨rC9, rM9, hC9, gC9, hM9, gM9, ?_, ?_, R9⟩
        · rw [ht_188_1, ch_188_2]; (try simp +decide (disch := omega) only [ni_bF, nI_clamp, nI_add, pk_mul, dc_ltT, dc_ltF, dc_leT, dc_leF, dc_eqF, dc_neT, dn_eq, dn_ne, dn_lt, dn_ge, si_at, si_c, si_k, q_at_nI, q_put_nI, ne_eq, not_false_eq_true, not_true_eq_false, ↓reduceIte, v0_ltT, v0_ltF, v0_gtT, v0_gtF, v0_leT, v0_leF, v0_geT, v0_geF, v0_eqT, v0_eqF, v0_add, v0_dda, v0_mul, v0_lum, v0_sub, v0_bad, v0_cl, v43_ltT, v43_ltF, v43_gtT, v43_gtF, v43_leT, v43_leF, v43_geT, v43_geF, v43_eqT, v43_eqF, v43_add, v43_dda, v43_mul, v43_lum, v43_sub, v43_bad, v43_cl, v45_ltT, v45_ltF, v45_gtT, v45_gtF, v45_leT, v45_leF, v45_geT, v45_geF, v45_eqT, v45_eqF, v45_add, v45_dda, v45_mul, v45_lum, v45_sub, v45_bad, v45_cl, v2000_ltT, v2000_ltF, v2000_gtT, v2000_gtF, v2000_leT, v2000_leF, v2000_geT, v2000_geF, v2000_eqT, v2000_eqF, v2000_add, v2000_dda, v2000_mul, v2000_lum, v2000_sub, v2000_bad, v2000_cl, tv]); rw [ht_188_2, ch_188_4, a1, ev_rn, ch_188_5, a2, ev_rs, ch_188_6, tv, a4', ev_rs, ch_188_7]; (try simp +decide (disch := omega) only [ni_bF, nI_clamp, nI_add, pk_mul, dc_ltT, dc_ltF, dc_leT, dc_leF, dc_eqF, dc_neT, dn_eq, dn_ne, dn_lt, dn_ge, si_at, si_c, si_k, q_at_nI, q_put_nI, ne_eq, not_false_eq_true, not_true_eq_false, ↓reduceIte, v0_ltT, v0_ltF, v0_gtT, v0_gtF, v0_leT, v0_leF, v0_geT, v0_geF, v0_eqT, v0_eqF, v0_add, v0_dda, v0_mul, v0_lum, v0_sub, v0_bad, v0_cl, v1_ltT, v1_ltF, v1_gtT, v1_gtF, v1_leT, v1_leF, v1_geT, v1_geF, v1_eqT, v1_eqF, v1_add, v1_dda, v1_mul, v1_lum, v1_sub, v1_bad, v1_cl, tv]); rw [sk_188_3_7, lp_188_7]
          exact mo_f (Nat.le_refl _) (by repeat (first | exact trivial | refine And.intro rfl ?_)) rfl x1
        · rw [ht_40_1, ch_40_2, i43, ev_rs, ch_40_3]; (try simp +decide (disch := omega) only [ni_bF, nI_clamp, nI_add, pk_mul, dc_ltT, dc_ltF, dc_leT, dc_leF, dc_eqF, dc_neT, dn_eq, dn_ne, dn_lt, dn_ge, si_at, si_c, si_k, q_at_nI, q_put_nI, ne_eq, not_false_eq_true, not_true_eq_false, ↓reduceIte, v0_ltT, v0_ltF, v0_gtT, v0_gtF, v0_leT, v0_leF, v0_geT, v0_geF, v0_eqT, v0_eqF, v0_add, v0_dda, v0_mul, v0_lum, v0_sub, v0_bad, v0_cl, e6, tm]); rw [ht_40_2, ch_40_4]; (try simp +decide (disch := omega) only [ni_bF, nI_clamp, nI_add, pk_mul, dc_ltT, dc_ltF, dc_leT, dc_leF, dc_eqF, dc_neT, dn_eq, dn_ne, dn_lt, dn_ge, si_at, si_c, si_k, q_at_nI, q_put_nI, ne_eq, not_false_eq_true, not_true_eq_false, ↓reduceIte, v0_ltT, v0_ltF, v0_gtT, v0_gtF, v0_leT, v0_leF, v0_geT, v0_geF, v0_eqT, v0_eqF, v0_add, v0_dda, v0_mul, v0_lum, v0_sub, v0_bad, v0_cl, v1_ltT, v1_ltF, v1_gtT, v1_gtF, v1_leT, v1_leF, v1_geT, v1_geF, v1_eqT, v1_eqF, v1_add, v1_dda, v1_mul, v1_lum, v1_sub, v1_bad, v1_cl, e6, tm]); rw [a3, ev_rs, ch_40_6, a5', ev_rs, ch_40_8, sk_40_3_5, lp_40_5]
          exact mo_f (Nat.le_refl _) (by repeat (first | exact trivial | refine And.intro rfl ?_)) rfl x2
      by_cases c45 : tok B N (tp B N k') = 45
      · obtain ⟨hC1, gC1, rC2, rM2, hC2, gC2, hM2, gM2, rC3, rM3, hC3, hM3, k3, n3, t3, a1, a2, a3, a4, a5, a6, a7⟩ := op_step (e + 6) (5 * (40 - o) + 4) (5 * (40 - o) + 3) 45 189 41 X (by omega) (ct_prod X IH) (fun hC gC q1 q2 => cf_prod (e + 10) q1 q2) (fun hC gC hM gM k n w P => pb_prod (e + 9) X P) hC0 S0 c45 (by decide)
        obtain ⟨rC9, rM9, hC9, gC9, hM9, gM9, x1, x2, R9⟩ := ih (i + 1) nC nM hC3 gC2 hM3 gM2 rC3 rM3 k3 n3 t3 (by omega) (by omega) (by omega) (by omega) a6
        have tv : hC 1 1 = 45 := by rw [tc, c45]; rfl
        have tm : hM 75 k' = 45 := by rw [(px_t X P.2.1 P.2.2.1.2.2).1, c45]; rfl
        rw [if_pos c45] at i45
        rw [if_neg c43] at i43
        have a4' : am_call tb_P (e + 14) 199 [.ref 32, .int 8, .int 45, .int rC0, .int rC2] (pr_S, hC2, gC2) = _ := a4
        have a5' : am_call tb_P (e + 14) 30 [.ref 73, .int 45, .int rM0, .int rM2, .int 0] (pr_S, hM2, gM2) = _ := a5
        refine ⟨rC9, rM9, hC9, gC9, hM9, gM9, ?_, ?_, R9⟩
        · rw [ht_188_1, ch_188_2]; (try simp +decide (disch := omega) only [ni_bF, nI_clamp, nI_add, pk_mul, dc_ltT, dc_ltF, dc_leT, dc_leF, dc_eqF, dc_neT, dn_eq, dn_ne, dn_lt, dn_ge, si_at, si_c, si_k, q_at_nI, q_put_nI, ne_eq, not_false_eq_true, not_true_eq_false, ↓reduceIte, v0_ltT, v0_ltF, v0_gtT, v0_gtF, v0_leT, v0_leF, v0_geT, v0_geF, v0_eqT, v0_eqF, v0_add, v0_dda, v0_mul, v0_lum, v0_sub, v0_bad, v0_cl, v43_ltT, v43_ltF, v43_gtT, v43_gtF, v43_leT, v43_leF, v43_geT, v43_geF, v43_eqT, v43_eqF, v43_add, v43_dda, v43_mul, v43_lum, v43_sub, v43_bad, v43_cl, v45_ltT, v45_ltF, v45_gtT, v45_gtF, v45_leT, v45_leF, v45_geT, v45_geF, v45_eqT, v45_eqF, v45_add, v45_dda, v45_mul, v45_lum, v45_sub, v45_bad, v45_cl, v2000_ltT, v2000_ltF, v2000_gtT, v2000_gtF, v2000_leT, v2000_leF, v2000_geT, v2000_geF, v2000_eqT, v2000_eqF, v2000_add, v2000_dda, v2000_mul, v2000_lum, v2000_sub, v2000_bad, v2000_cl, tv]); rw [ht_188_2, ch_188_4, a1, ev_rn, ch_188_5, a2, ev_rs, ch_188_6, tv, a4', ev_rs, ch_188_7]; (try simp +decide (disch := omega) only [ni_bF, nI_clamp, nI_add, pk_mul, dc_ltT, dc_ltF, dc_leT, dc_leF, dc_eqF, dc_neT, dn_eq, dn_ne, dn_lt, dn_ge, si_at, si_c, si_k, q_at_nI, q_put_nI, ne_eq, not_false_eq_true, not_true_eq_false, ↓reduceIte, v0_ltT, v0_ltF, v0_gtT, v0_gtF, v0_leT, v0_leF, v0_geT, v0_geF, v0_eqT, v0_eqF, v0_add, v0_dda, v0_mul, v0_lum, v0_sub, v0_bad, v0_cl, v1_ltT, v1_ltF, v1_gtT, v1_gtF, v1_leT, v1_leF, v1_geT, v1_geF, v1_eqT, v1_eqF, v1_add, v1_dda, v1_mul, v1_lum, v1_sub, v1_bad, v1_cl, tv]); rw [sk_188_3_7, lp_188_7]
          exact mo_f (Nat.le_refl _) (by repeat (first | exact trivial | refine And.intro rfl ?_)) rfl x1
        · rw [ht_40_1, ch_40_2, i43, ev_rs, ch_40_3]; (try simp +decide (disch := omega) only [ni_bF, nI_clamp, nI_add, pk_mul, dc_ltT, dc_ltF, dc_leT, dc_leF, dc_eqF, dc_neT, dn_eq, dn_ne, dn_lt, dn_ge, si_at, si_c, si_k, q_at_nI, q_put_nI, ne_eq, not_false_eq_true, not_true_eq_false, ↓reduceIte, v0_ltT, v0_ltF, v0_gtT, v0_gtF, v0_leT, v0_leF, v0_geT, v0_geF, v0_eqT, v0_eqF, v0_add, v0_dda, v0_mul, v0_lum, v0_sub, v0_bad, v0_cl, e6, tm]); rw [i45, ev_rs, ch_40_5]; (try simp +decide (disch := omega) only [ni_bF, nI_clamp, nI_add, pk_mul, dc_ltT, dc_ltF, dc_leT, dc_leF, dc_eqF, dc_neT, dn_eq, dn_ne, dn_lt, dn_ge, si_at, si_c, si_k, q_at_nI, q_put_nI, ne_eq, not_false_eq_true, not_true_eq_false, ↓reduceIte, v0_ltT, v0_ltF, v0_gtT, v0_gtF, v0_leT, v0_leF, v0_geT, v0_geF, v0_eqT, v0_eqF, v0_add, v0_dda, v0_mul, v0_lum, v0_sub, v0_bad, v0_cl, e6, tm]); rw [ht_40_2, ch_40_4]; (try simp +decide (disch := omega) only [ni_bF, nI_clamp, nI_add, pk_mul, dc_ltT, dc_ltF, dc_leT, dc_leF, dc_eqF, dc_neT, dn_eq, dn_ne, dn_lt, dn_ge, si_at, si_c, si_k, q_at_nI, q_put_nI, ne_eq, not_false_eq_true, not_true_eq_false, ↓reduceIte, v0_ltT, v0_ltF, v0_gtT, v0_gtF, v0_leT, v0_leF, v0_geT, v0_geF, v0_eqT, v0_eqF, v0_add, v0_dda, v0_mul, v0_lum, v0_sub, v0_bad, v0_cl, v1_ltT, v1_ltF, v1_gtT, v1_gtF, v1_leT, v1_leF, v1_geT, v1_geF, v1_eqT, v1_eqF, v1_add, v1_dda, v1_mul, v1_lum, v1_sub, v1_bad, v1_cl, e6, tm]); rw [a3, ev_rs, ch_40_6, a5', ev_rs, ch_40_8, sk_40_3_5, lp_40_5]
          exact mo_f (Nat.le_refl _) (by repeat (first | exact trivial | refine And.intro rfl ?_)) rfl x2
      rw [if_neg c43] at i43
      rw [if_neg c45] at i45
      have n43 : hC 1 1 ≠ 43 := by rw [tc]; exact fun q => c43 ((cl_e (b := 43) tl (by decide)).mp q)
      have n45 : hC 1 1 ≠ 45 := by rw [tc]; exact fun q => c45 ((cl_e (b := 45) tl (by decide)).mp q)
      refine ⟨rC0, rM0, hC, gC, hM, gM, ?_, ?_, Or.inl ⟨k', n', t', P, J, s1, s2, e1, e2, wf_fg f1l (Nat.le_refl _) wl, gwl, gal⟩⟩
      · rw [ht_188_1, ch_188_2]; (try simp +decide (disch := omega) only [ni_bF, nI_clamp, nI_add, pk_mul, dc_ltT, dc_ltF, dc_leT, dc_leF, dc_eqF, dc_neT, dn_eq, dn_ne, dn_lt, dn_ge, si_at, si_c, si_k, q_at_nI, q_put_nI, ne_eq, not_false_eq_true, not_true_eq_false, ↓reduceIte, v0_ltT, v0_ltF, v0_gtT, v0_gtF, v0_leT, v0_leF, v0_geT, v0_geF, v0_eqT, v0_eqF, v0_add, v0_dda, v0_mul, v0_lum, v0_sub, v0_bad, v0_cl, v43_ltT, v43_ltF, v43_gtT, v43_gtF, v43_leT, v43_leF, v43_geT, v43_geF, v43_eqT, v43_eqF, v43_add, v43_dda, v43_mul, v43_lum, v43_sub, v43_bad, v43_cl, v45_ltT, v45_ltF, v45_gtT, v45_gtF, v45_leT, v45_leF, v45_geT, v45_geF, v45_eqT, v45_eqF, v45_add, v45_dda, v45_mul, v45_lum, v45_sub, v45_bad, v45_cl, v2000_ltT, v2000_ltF, v2000_gtT, v2000_gtF, v2000_leT, v2000_leF, v2000_geT, v2000_geF, v2000_eqT, v2000_eqF, v2000_add, v2000_dda, v2000_mul, v2000_lum, v2000_sub, v2000_bad, v2000_cl]); rw [if_neg n43, if_pos n45, sk_188_2_73, ht_188_3, ch_188_3]
      · rw [ht_40_1, ch_40_2, i43, ev_rs, ch_40_3]; (try simp +decide (disch := omega) only [ni_bF, nI_clamp, nI_add, pk_mul, dc_ltT, dc_ltF, dc_leT, dc_leF, dc_eqF, dc_neT, dn_eq, dn_ne, dn_lt, dn_ge, si_at, si_c, si_k, q_at_nI, q_put_nI, ne_eq, not_false_eq_true, not_true_eq_false, ↓reduceIte, v0_ltT, v0_ltF, v0_gtT, v0_gtF, v0_leT, v0_leF, v0_geT, v0_geF, v0_eqT, v0_eqF, v0_add, v0_dda, v0_mul, v0_lum, v0_sub, v0_bad, v0_cl]); rw [i45, ev_rs, ch_40_5]; (try simp +decide (disch := omega) only [ni_bF, nI_clamp, nI_add, pk_mul, dc_ltT, dc_ltF, dc_leT, dc_leF, dc_eqF, dc_neT, dn_eq, dn_ne, dn_lt, dn_ge, si_at, si_c, si_k, q_at_nI, q_put_nI, ne_eq, not_false_eq_true, not_true_eq_false, ↓reduceIte, v0_ltT, v0_ltF, v0_gtT, v0_gtF, v0_leT, v0_leF, v0_geT, v0_geF, v0_eqT, v0_eqF, v0_add, v0_dda, v0_mul, v0_lum, v0_sub, v0_bad, v0_cl]); rw [sk_40_2_60, ht_40_3, ch_40_7]
theorem ct_sum (X : px h0 h1 g1 B N M rd) (IH : o < 40 → exC h0 g0 h1 g1 B N M rd D (o + 1) (e + 10)) : cnC 188 40 h0 g0 h1 g1 B N M rd D o (e + 15) (5 * (40 - o) + 4) := by
  intro hC gC hM gM k n t w G π P J
  obtain ⟨rC1, rM1, hC1, gC1, hM1, gM1, u1, u2, R⟩ := ct_prod X IH hC gC hM gM k n t w G π P J
  have S : ∃ k1 n1 t1, lo_S h0 g0 h1 g1 B N M rd D (fun _ => True) hC n t w o π (5 * (40 - o) + 4) (40 - o) G rC1 rM1 hC1 gC1 hM1 gM1 k1 n1 t1 ∨ ps_D h0 g0 h1 g1 B N M rd hC1 gC1 hM1 gM1 w π := by
    rcases R with ⟨k1, n1, t1, P1, J1, n1l, t1l, r1, r2, wf1, gw1, ga1⟩ | R
    · exact ⟨k1, n1, t1, Or.inl ⟨P1, J1, n1l, t1l, r1, r2, ⟨5 * (40 - o) + 3, wf1, by omega, trivial⟩, gw1, ga1⟩⟩
    · exact ⟨0, 0, 0, Or.inr R⟩
  obtain ⟨k1, n1, t1, S⟩ := S
  obtain ⟨rC3, rM3, hC3, gC3, hM3, gM3, x1, x2, R3⟩ := su_loop2 X IH hC 2700 0 999999 999999 hC1 gC1 hM1 gM1 rC1 rM1 k1 n1 t1 (by omega) (by omega) (by omega) (by omega) S
  refine ⟨rC3, rM3, hC3, gC3, hM3, gM3, ?_, ?_, R3⟩
  · rw [en_188, ht_188_0, ch_188_0, u1, ev_rs, ch_188_1]
    exact x1
  · rw [en_40, ht_40_0, ch_40_0, u2, ev_rs, ch_40_1]
    exact x2
/-- a comparison, or a sum alone -/
theorem ct_cmp (X : px h0 h1 g1 B N M rd) (IH : o < 40 → exC h0 g0 h1 g1 B N M rd D (o + 1) (e + 10)) (P : ps_O h0 g0 h1 g1 B N M rd hC gC hM gM k o n t w G) (J : 3 * (n + π) ≤ qk B N k) (hn : tok B N (tp B N k) ≠ 92 ∧ tok B N (tp B N k) ≠ 4 ∧ tok B N (tp B N k) ≠ 6 ∧ tok B N (tp B N k) ≠ 9) : ∃ (rC rM : Int32) (hC' : Nat → Nat → Int32) (gC' : Nat → Nat → Int64) (hM' : Nat → Nat → Int32) (gM' : Nat → Nat → Int64), am_call tb_P (e + 18) 181 [.ref 32] (pr_S, hC, gC) = some (some (.int rC), (pr_S, hC', gC')) ∧ am_call tb_P (e + 18) 35 [.ref 73] (pr_S, hM, gM) = some (some (.int rM), (pr_S, hM', gM')) ∧ ps_R h0 g0 h1 g1 B N M rd D hC n t w o π (5 * (40 - o) + 5) (40 - o) G rC rM hC' gC' hM' gM' := by
  obtain ⟨rC1, rM1, hC1, gC1, hM1, gM1, u1, u2, R⟩ := ct_sum X IH hC gC hM gM k n t w G π P J
  have u1' := mo_d (d' := e + 17) (by omega) u1
  have u2' := mo_d (d' := e + 16) (by omega) u2
  have tl := tok_l X (tp B N k)
  have tc := P.2.2.1.1.2.1
  have e6 := P.2.2.2.2.1.1
  have e26 := P.2.2.2.2.1.2.1
  have hk : k < 2001 := by have := X.2.2.2.1; have := P.2.2.1.2.2; omega
  have tm := (px_t X P.2.1 P.2.2.1.2.2).1
  have w1 : hC 1 1 ≠ 92 := by rw [tc]; exact fun q => hn.1 ((cl_e (b := 92) tl (by decide)).mp q)
  have w2 : hC 1 1 ≠ 260 := by rw [tc]; exact fun q => hn.2.1 ((cl_e (b := 4) tl (by decide)).mp q)
  have w3 : hC 1 1 ≠ 262 := by rw [tc]; exact fun q => hn.2.2.1 ((cl_e (b := 6) tl (by decide)).mp q)
  have w4 : hC 1 1 ≠ 265 := by rw [tc]; exact fun q => hn.2.2.2 ((cl_e (b := 9) tl (by decide)).mp q)
  have m1 : hM 75 k ≠ 4 := by rw [tm]; exact fun q => hn.2.1 ((nI_eq (b := 4) (by omega) (by decide)).mp q)
  have m2 : hM 75 k ≠ 6 := by rw [tm]; exact fun q => hn.2.2.1 ((nI_eq (b := 6) (by omega) (by decide)).mp q)
  have m3 : hM 75 k ≠ 9 := by rw [tm]; exact fun q => hn.2.2.2 ((nI_eq (b := 9) (by omega) (by decide)).mp q)
  have m4 : hM 75 k ≠ 92 := by rw [tm]; exact fun q => hn.1 ((nI_eq (b := 92) (by omega) (by decide)).mp q)
  have ref : ∀ (v : Int32) (hx : Nat → Nat → Int32) (gx : Nat → Nat → Int64), am_call tb_P (e + 17) 39 [.ref 73] (pr_S, hM, gM) = some (some (.int v), (pr_S, hx, gx)) → am_call tb_P (e + 18) 35 [.ref 73] (pr_S, hM, gM) = some (some (.int v), (pr_S, hx, gx)) := fun v hx gx hr => by
    rw [en_35, ht_35_0, ch_35_0]; (try simp +decide (disch := omega) only [ni_bF, nI_clamp, nI_add, pk_mul, dc_ltT, dc_ltF, dc_leT, dc_leF, dc_eqF, dc_neT, dn_eq, dn_ne, dn_lt, dn_ge, si_at, si_c, si_k, q_at_nI, q_put_nI, ne_eq, not_false_eq_true, not_true_eq_false, ↓reduceIte, v0_ltT, v0_ltF, v0_gtT, v0_gtF, v0_leT, v0_leF, v0_geT, v0_geF, v0_eqT, v0_eqF, v0_add, v0_dda, v0_mul, v0_lum, v0_sub, v0_bad, v0_cl, e26, e6]); rw [ht_35_1, ch_35_1]; (try simp +decide (disch := omega) only [ni_bF, nI_clamp, nI_add, pk_mul, dc_ltT, dc_ltF, dc_leT, dc_leF, dc_eqF, dc_neT, dn_eq, dn_ne, dn_lt, dn_ge, si_at, si_c, si_k, q_at_nI, q_put_nI, ne_eq, not_false_eq_true, not_true_eq_false, ↓reduceIte, v0_ltT, v0_ltF, v0_gtT, v0_gtF, v0_leT, v0_leF, v0_geT, v0_geF, v0_eqT, v0_eqF, v0_add, v0_dda, v0_mul, v0_lum, v0_sub, v0_bad, v0_cl, v4_eqT, v4_eqF, v6_eqT, v6_eqF, v9_eqT, v9_eqF, v92_eqT, v92_eqF, e26, e6]); rw [if_neg m1, if_neg m2, if_neg m3, if_neg m4, sk_35_2_147, ht_35_8, ch_35_6, hr, ev_rs, ch_35_11]
  rcases R with ⟨k1, n1', t1, P1, J1, n1l, t1l, r1, r2, wf1, gw1, ga1⟩ | ⟨k1, n1', P1, J1⟩
  · have i60 : am_call tb_P (e + 16) 27 [.ref 73, .int 60] (pr_S, hM1, gM1) = _ := ps_is (τ := 60) (e + 15) X P1 (by decide)
    by_cases c : tok B N (tp B N k1) = 60
    · obtain ⟨hC1', gC1', rC2, rM2, hC2, gC2, hM2, gM2, rC3, rM3, hC3, hM3, k3, n3, t3, a1, a2, a3, a4, a5, a6, a7⟩ := op_step (e + 7) (5 * (40 - o) + 5) (5 * (40 - o) + 4) 60 188 40 X (by omega) (ct_sum X IH) (fun hC gC q1 q2 => cf_sum (e + 10) q1 q2) (fun hC gC hM gM k n w P => pb_sum (e + 9) X P) hC ⟨P1, J1, n1l, t1l, r1, r2, ⟨5 * (40 - o) + 4, wf1, by omega, trivial⟩, gw1, ga1⟩ c (by decide)
      have tv : hC1 1 1 = 60 := by rw [P1.2.2.1.1.2.1, c]; rfl
      have e61 := P1.2.2.2.2.1.1
      rw [if_pos c] at i60
      have a1' := mo_d (d' := e + 17) (by omega) a1
      have a2' := mo_d (d' := e + 17) (by omega) a2
      have a4' : am_call tb_P (e + 17) 199 [.ref 32, .int 8, .int 60, .int rC1, .int rC2] (pr_S, hC2, gC2) = _ := mo_d (d' := e + 17) (by omega) a4
      have a3' := mo_d (d' := e + 16) (by omega) a3
      have a5' : am_call tb_P (e + 16) 30 [.ref 73, .int 60, .int rM1, .int rM2, .int 0] (pr_S, hM2, gM2) = _ := mo_d (d' := e + 16) (by omega) a5
      refine ⟨rC3, rM3, hC3, gC2, hM3, gM2, ?_, ref rM3 hM3 gM2 ?_, ?_⟩
      · rw [en_181, ht_181_0, ch_181_0, if_neg w1, if_neg w2, if_neg w3, if_neg w4, sk_181_1_68, ht_181_5, ch_181_5, u1', ev_rs, ch_181_10, if_pos tv, ht_181_6, ch_181_11, a1', ev_rn, ch_181_12, a2', ev_rs, ch_181_13, a4', ev_rs, ch_181_14]
      · rw [en_39, ht_39_0, ch_39_0, u2', ev_rs, ch_39_1, i60, ev_rs, ch_39_2]; (try simp +decide (disch := omega) only [ni_bF, nI_clamp, nI_add, pk_mul, dc_ltT, dc_ltF, dc_leT, dc_leF, dc_eqF, dc_neT, dn_eq, dn_ne, dn_lt, dn_ge, si_at, si_c, si_k, q_at_nI, q_put_nI, ne_eq, not_false_eq_true, not_true_eq_false, ↓reduceIte, v0_ltT, v0_ltF, v0_gtT, v0_gtF, v0_leT, v0_leF, v0_geT, v0_geF, v0_eqT, v0_eqF, v0_add, v0_dda, v0_mul, v0_lum, v0_sub, v0_bad, v0_cl, v1_ltT, v1_ltF, v1_gtT, v1_gtF, v1_leT, v1_leF, v1_geT, v1_geF, v1_eqT, v1_eqF, v1_add, v1_dda, v1_mul, v1_lum, v1_sub, v1_bad, v1_cl, e61]); rw [a3', ev_rs, ch_39_4, a5', ev_rs, ch_39_5]
      · rcases a6 with ⟨q1, q2, q3, q4, q5, q6, ⟨f1, q7, q8, _⟩, q9, q10⟩ | a6
        · exact Or.inl ⟨k3, n3, t3, q1, q2, q3, q4, q5, q6, wf_fg q8 (Nat.le_refl _) q7, q9, q10⟩
        · exact Or.inr a6
    · have tv : hC1 1 1 ≠ 60 := by rw [P1.2.2.1.1.2.1]; exact fun q => c ((cl_e (b := 60) (tok_l X _) (by decide)).mp q)
      rw [if_neg c] at i60
      refine ⟨rC1, rM1, hC1, gC1, hM1, gM1, ?_, ref rM1 hM1 gM1 ?_, Or.inl ⟨k1, n1', t1, P1, J1, n1l, t1l, r1, r2, wf_fg (by omega) (Nat.le_refl _) wf1, gw1, ga1⟩⟩
      · rw [en_181, ht_181_0, ch_181_0, if_neg w1, if_neg w2, if_neg w3, if_neg w4, sk_181_1_68, ht_181_5, ch_181_5, u1', ev_rs, ch_181_10, if_neg tv]
      · rw [en_39, ht_39_0, ch_39_0, u2', ev_rs, ch_39_1, i60, ev_rs, ch_39_2]; (try simp +decide (disch := omega) only [ni_bF, nI_clamp, nI_add, pk_mul, dc_ltT, dc_ltF, dc_leT, dc_leF, dc_eqF, dc_neT, dn_eq, dn_ne, dn_lt, dn_ge, si_at, si_c, si_k, q_at_nI, q_put_nI, ne_eq, not_false_eq_true, not_true_eq_false, ↓reduceIte, v0_ltT, v0_ltF, v0_gtT, v0_gtF, v0_leT, v0_leF, v0_geT, v0_geF, v0_eqT, v0_eqF, v0_add, v0_dda, v0_mul, v0_lum, v0_sub, v0_bad, v0_cl, v1_ltT, v1_ltF, v1_gtT, v1_gtF, v1_leT, v1_leF, v1_geT, v1_geF, v1_eqT, v1_eqF, v1_add, v1_dda, v1_mul, v1_lum, v1_sub, v1_bad, v1_cl]); rw [ht_39_1, ch_39_3]
  · obtain ⟨c1, c2⟩ := cf_0 P1
    have tv : hC1 1 1 ≠ 60 := by rw [c2]; decide
    have i60 : am_call tb_P (e + 16) 27 [.ref 73, .int 60] (pr_S, hM1, gM1) = some (some (.int 0), (pr_S, hM1, gM1)) := ps_isB (τ := 60) (e + 15) X P1 (by decide) (by decide)
    refine ⟨rC1, rM1, hC1, gC1, hM1, gM1, ?_, ref rM1 hM1 gM1 ?_, Or.inr ⟨k1, n1', P1, J1⟩⟩
    · rw [en_181, ht_181_0, ch_181_0, if_neg w1, if_neg w2, if_neg w3, if_neg w4, sk_181_1_68, ht_181_5, ch_181_5, u1', ev_rs, ch_181_10, if_neg tv]
    · rw [en_39, ht_39_0, ch_39_0, u2', ev_rs, ch_39_1, i60, ev_rs, ch_39_2]; (try simp +decide (disch := omega) only [ni_bF, nI_clamp, nI_add, pk_mul, dc_ltT, dc_ltF, dc_leT, dc_leF, dc_eqF, dc_neT, dn_eq, dn_ne, dn_lt, dn_ge, si_at, si_c, si_k, q_at_nI, q_put_nI, ne_eq, not_false_eq_true, not_true_eq_false, ↓reduceIte, v0_ltT, v0_ltF, v0_gtT, v0_gtF, v0_leT, v0_leF, v0_geT, v0_geF, v0_eqT, v0_eqF, v0_add, v0_dda, v0_mul, v0_lum, v0_sub, v0_bad, v0_cl, v1_ltT, v1_ltF, v1_gtT, v1_gtF, v1_leT, v1_leF, v1_geT, v1_geF, v1_eqT, v1_eqF, v1_add, v1_dda, v1_mul, v1_lum, v1_sub, v1_bad, v1_cl]); rw [ht_39_1, ch_39_3]
end LP
