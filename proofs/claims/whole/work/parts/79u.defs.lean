/-! both parsers side by side: all DEFS -/
section DL
variable {H0 H1 hC hM : Nat → Nat → Int32} {G0 G1 gC gM : Nat → Nat → Int64} {B : Nat → Nat} {N M rd k o n t w π D e s : Nat} {G : List Nat} {sz L bd st : Nat → Nat}
/-- where the class has failed the reference fails too, at the latest at its next DEF -/
theorem lo_end (X : px H0 H1 G1 B N M rd) (S : pp_D H0 G0 H1 G1 B N M rd 0 hC gC hM gM) : ∃ hM', (∀ nn R, 990001 ≤ nn → am_fwd (am_call tb_P (e + 340)) (am_run (am_call tb_P (e + 340)) tb_r46_0 990000) tb_r46_2 80 [(0, .ref 73)] [] (pr_S, hM', gM) = some R → am_fwd (am_call tb_P (e + 340)) (am_run (am_call tb_P (e + 340)) tb_r46_0 nn) tb_r46_1 54 [(0, .ref 73)] [] (pr_S, hM, gM) = some R) ∧ pp_D H0 G0 H1 G1 B N M rd 0 hC gC hM' gM ∧ hM' 73 26 ≠ 0 := by
  obtain ⟨F, k, n, w, P, J⟩ := id S
  have X' := px_fx X F
  have Q : ps_B hC gC hM gM B N M rd hC gC hM gM k n w := ⟨pf_Cr F.2.1, pf_Mr, P⟩
  obtain ⟨f, p, a1, a2, a3, a4, a5, a6, a7, a8, a9⟩ := id P
  by_cases z : hM 73 26 = 0
  · obtain ⟨hM', o1, o2, o3⟩ := ps_oddB (e + 337) X' Q
    have i := ps_isB (τ := 2) (e + 338) X' Q (by decide) (by decide)
    have i' : am_call tb_P (e + 339) 27 [.ref 73, .int 2] (pr_S, hM, gM) = some (some (.int 0), (pr_S, hM, gM)) := i
    have h25 : hM 73 25 = nI rd := X'.2.2.2.2.2.2.2.1
    have hrd := X.2.2.2.2.2.2.1
    have rdf : am_call tb_P (e + 340) 45 [.ref 73] (pr_S, hM, gM) = some (none, (pr_S, hM', gM)) := by
      rw [en_45, ht_45_0, ch_45_0]; (try simp +decide (disch := omega) only [ni_bF, nI_clamp, nI_add, pk_mul, dc_ltT, dc_ltF, dc_leT, dc_leF, dc_eqF, dc_neT, dn_eq, dn_ne, dn_lt, dn_ge, si_at, si_c, si_k, q_at_nI, q_put_nI, ne_eq, not_false_eq_true, not_true_eq_false, ↓reduceIte, v0_ltT, v0_ltF, v0_gtT, v0_gtF, v0_leT, v0_leF, v0_geT, v0_geF, v0_eqT, v0_eqF, v0_add, v0_dda, v0_mul, v0_lum, v0_sub, v0_bad, v0_cl, v24_ltT, v24_ltF, v24_gtT, v24_gtF, v24_leT, v24_leF, v24_geT, v24_geF, v24_eqT, v24_eqF, v24_add, v24_dda, v24_mul, v24_lum, v24_sub, v24_bad, v24_cl, h25]); rw [i', ev_rs, ch_45_1]; (try simp +decide (disch := omega) only [ni_bF, nI_clamp, nI_add, pk_mul, dc_ltT, dc_ltF, dc_leT, dc_leF, dc_eqF, dc_neT, dn_eq, dn_ne, dn_lt, dn_ge, si_at, si_c, si_k, q_at_nI, q_put_nI, ne_eq, not_false_eq_true, not_true_eq_false, ↓reduceIte, v0_ltT, v0_ltF, v0_gtT, v0_gtF, v0_leT, v0_leF, v0_geT, v0_geF, v0_eqT, v0_eqF, v0_add, v0_dda, v0_mul, v0_lum, v0_sub, v0_bad, v0_cl, h25]); rw [o1, ev_rn, ch_45_3]
    have hk : k < 2001 := by have := X.2.2.2.1; omega
    have tk := (px_t X' pf_Mr a6).1
    have b4 : tok B N (tp B N k) = 1 := by
      rcases a9 with ⟨_, _, _, b4⟩ | ⟨b1, _⟩
      · exact b4
      · exact absurd (b1.symm.trans z) a2
    have t1 : hM 75 k ≠ 0 := by rw [tk, b4]; decide
    refine ⟨hM', fun nn R hn hR => ?_, ⟨fx_pf F o2.1 o2.2.1, k, n, w, o2.2.2, J⟩, o3⟩
    obtain ⟨q, rfl⟩ : ∃ q, nn = q + 1 := ⟨nn - 1, by omega⟩
    have fin : am_fwd (am_call tb_P (e + 340)) (am_run (am_call tb_P (e + 340)) tb_r46_0 q) tb_r46_1 54 [(0, .ref 73)] [] (pr_S, hM', gM) = some R := by
      rw [ht_46_1, ch_46_2, if_pos o3]
      exact mo_f (by omega) (by repeat (first | exact trivial | refine And.intro rfl ?_)) rfl hR
    rw [ht_46_1, ch_46_2]; (try simp +decide (disch := omega) only [ni_bF, nI_clamp, nI_add, pk_mul, dc_ltT, dc_ltF, dc_leT, dc_leF, dc_eqF, dc_neT, dn_eq, dn_ne, dn_lt, dn_ge, si_at, si_c, si_k, q_at_nI, q_put_nI, ne_eq, not_false_eq_true, not_true_eq_false, ↓reduceIte, v0_ltT, v0_ltF, v0_gtT, v0_gtF, v0_leT, v0_leF, v0_geT, v0_geF, v0_eqT, v0_eqF, v0_add, v0_dda, v0_mul, v0_lum, v0_sub, v0_bad, v0_cl, a5]); rw [if_neg (fun q => q z), if_neg t1, rdf, ev_rn, ch_46_4, sk_46_2_54, lp_46_54]
    exact fin
  · refine ⟨hM, fun nn R hn hR => ?_, S, z⟩
    rw [ht_46_1, ch_46_2, if_pos z]
    exact mo_f (by omega) (by repeat (first | exact trivial | refine And.intro rfl ?_)) rfl hR
theorem lo_one (X : px H0 H1 G1 B N M rd) (S : df_R H0 G0 H1 G1 B N M rd D k n t sz L bd st hC gC hM gM) (ht : tok B N (tp B N k) ≠ 0) : ∃ (hC2 : Nat → Nat → Int32) (gC2 : Nat → Nat → Int64) (hM2 : Nat → Nat → Int32) (gM2 : Nat → Nat → Int64), (∀ nn R, am_fwd (am_call tb_P (e + 340)) (am_run (am_call tb_P (e + 340)) tb_r174_0 nn) tb_r174_1 41 [(1, .int (nI (D + 1))), (0, .ref 32)] [] (pr_S, hC2, gC2) = some R → am_fwd (am_call tb_P (e + 340)) (am_run (am_call tb_P (e + 340)) tb_r174_0 (nn + 1)) tb_r174_1 41 [(1, .int (nI D)), (0, .ref 32)] [] (pr_S, hC, gC) = some R) ∧ (∀ nn R, am_fwd (am_call tb_P (e + 340)) (am_run (am_call tb_P (e + 340)) tb_r46_0 nn) tb_r46_1 54 [(0, .ref 73)] [] (pr_S, hM2, gM2) = some R → am_fwd (am_call tb_P (e + 340)) (am_run (am_call tb_P (e + 340)) tb_r46_0 (nn + 1)) tb_r46_1 54 [(0, .ref 73)] [] (pr_S, hM, gM) = some R) ∧ ((∃ k' n' t' sz' L' bd' st', df_R H0 G0 H1 G1 B N M rd (D + 1) k' n' t' sz' L' bd' st' hC2 gC2 hM2 gM2) ∨ pp_D H0 G0 H1 G1 B N M rd 0 hC2 gC2 hM2 gM2) := by
  obtain ⟨hC2, gC2, hM2, gM2, u1, u2, u3⟩ := df_step (e := e) X S
  obtain ⟨F, P, s0, d0, hD24, J, hLt, dt, w0, e32⟩ := id S
  have X' := px_fx X F
  have hk : k < 2001 := by have := X.2.2.2.1; have := P.1.2.2; omega
  have tk := (px_t X' pf_Mr P.1.2.2).1
  have f0 := P.2.1.1
  have f26 : hM 73 26 = 0 := by have := P.2.2.1.2.1; rw [am_si_off (by decide)] at this; exact this
  have e6 : hM 73 6 = nI k := by have := P.2.2.1.1; rw [am_si_off (by decide)] at this; exact this
  have tl := tok_l X' (tp B N k)
  have tc : hC 1 1 ≠ 256 := by rw [P.1.1.2.1]; exact fun q => ht ((cl_e (b := 0) tl (by decide)).mp q)
  have tm : hM 75 k ≠ 0 := by rw [tk]; exact fun q => ht ((nI_eq (b := 0) (by omega) (by decide)).mp q)
  refine ⟨hC2, gC2, hM2, gM2, fun nn R hR => ?_, fun nn R hR => ?_, u3⟩
  · rw [ht_174_1, ch_174_4]; (try simp +decide (disch := omega) only [ni_bF, nI_clamp, nI_add, pk_mul, dc_ltT, dc_ltF, dc_leT, dc_leF, dc_eqF, dc_neT, dn_eq, dn_ne, dn_lt, dn_ge, si_at, si_c, si_k, q_at_nI, q_put_nI, ne_eq, not_false_eq_true, not_true_eq_false, ↓reduceIte, v0_ltT, v0_ltF, v0_gtT, v0_gtF, v0_leT, v0_leF, v0_geT, v0_geF, v0_eqT, v0_eqF, v0_add, v0_dda, v0_mul, v0_lum, v0_sub, v0_bad, v0_cl, v256_ltT, v256_ltF, v256_gtT, v256_gtF, v256_leT, v256_leF, v256_geT, v256_geF, v256_eqT, v256_eqF, v256_add, v256_dda, v256_mul, v256_lum, v256_sub, v256_bad, v256_cl, v2000_ltT, v2000_ltF, v2000_gtT, v2000_gtF, v2000_leT, v2000_leF, v2000_geT, v2000_geF, v2000_eqT, v2000_eqF, v2000_add, v2000_dda, v2000_mul, v2000_lum, v2000_sub, v2000_bad, v2000_cl, f0]); rw [if_neg tc, u1, ev_rn, ch_174_6]; (try simp +decide (disch := omega) only [ni_bF, nI_clamp, nI_add, pk_mul, dc_ltT, dc_ltF, dc_leT, dc_leF, dc_eqF, dc_neT, dn_eq, dn_ne, dn_lt, dn_ge, si_at, si_c, si_k, q_at_nI, q_put_nI, ne_eq, not_false_eq_true, not_true_eq_false, ↓reduceIte, v0_ltT, v0_ltF, v0_gtT, v0_gtF, v0_leT, v0_leF, v0_geT, v0_geF, v0_eqT, v0_eqF, v0_add, v0_dda, v0_mul, v0_lum, v0_sub, v0_bad, v0_cl, v1_ltT, v1_ltF, v1_gtT, v1_gtF, v1_leT, v1_leF, v1_geT, v1_geF, v1_eqT, v1_eqF, v1_add, v1_dda, v1_mul, v1_lum, v1_sub, v1_bad, v1_cl, f0]); rw [sk_174_2_41, lp_174_41]
    exact hR
  · rw [ht_46_1, ch_46_2]; (try simp +decide (disch := omega) only [ni_bF, nI_clamp, nI_add, pk_mul, dc_ltT, dc_ltF, dc_leT, dc_leF, dc_eqF, dc_neT, dn_eq, dn_ne, dn_lt, dn_ge, si_at, si_c, si_k, q_at_nI, q_put_nI, ne_eq, not_false_eq_true, not_true_eq_false, ↓reduceIte, v0_ltT, v0_ltF, v0_gtT, v0_gtF, v0_leT, v0_leF, v0_geT, v0_geF, v0_eqT, v0_eqF, v0_add, v0_dda, v0_mul, v0_lum, v0_sub, v0_bad, v0_cl, e6, f26]); rw [if_neg tm, u2, ev_rn, ch_46_4, sk_46_2_54, lp_46_54]
    exact hR
theorem lo_stop (X : px H0 H1 G1 B N M rd) (S : df_R H0 G0 H1 G1 B N M rd D k n t sz L bd st hC gC hM gM) (ht : tok B N (tp B N k) = 0) : (∀ nn R, (∀ x1 : Int32, am_fwd (am_call tb_P (e + 340)) (am_run (am_call tb_P (e + 340)) tb_r174_0 0) tb_r174_2 78 [(1, .int x1), (0, .ref 32)] [] (pr_S, hC, gC) = some R) → am_fwd (am_call tb_P (e + 340)) (am_run (am_call tb_P (e + 340)) tb_r174_0 nn) tb_r174_1 41 [(1, .int (nI D)), (0, .ref 32)] [] (pr_S, hC, gC) = some R) ∧ (∀ nn R, 990000 ≤ nn → am_fwd (am_call tb_P (e + 340)) (am_run (am_call tb_P (e + 340)) tb_r46_0 990000) tb_r46_2 80 [(0, .ref 73)] [] (pr_S, hM, gM) = some R → am_fwd (am_call tb_P (e + 340)) (am_run (am_call tb_P (e + 340)) tb_r46_0 nn) tb_r46_1 54 [(0, .ref 73)] [] (pr_S, hM, gM) = some R) := by
  obtain ⟨F, P, s0, d0, hD24, J, hLt, dt, w0, e32⟩ := id S
  have X' := px_fx X F
  have hk : k < 2001 := by have := X.2.2.2.1; have := P.1.2.2; omega
  have tk := (px_t X' pf_Mr P.1.2.2).1
  have f0 := P.2.1.1
  have f26 : hM 73 26 = 0 := by have := P.2.2.1.2.1; rw [am_si_off (by decide)] at this; exact this
  have e6 : hM 73 6 = nI k := by have := P.2.2.1.1; rw [am_si_off (by decide)] at this; exact this
  have tc : hC 1 1 = 256 := by rw [P.1.1.2.1, ht]; rfl
  have tm : hM 75 k = 0 := by rw [tk, ht]; rfl
  refine ⟨fun nn R hR => ?_, fun nn R hn hR => ?_⟩
  · rw [ht_174_1, ch_174_4]; try simp +decide (disch := omega) only [ni_bF, nI_clamp, nI_add, pk_mul, dc_ltT, dc_ltF, dc_leT, dc_leF, dc_eqF, dc_neT, dn_eq, dn_ne, dn_lt, dn_ge, si_at, si_c, si_k, q_at_nI, q_put_nI, ne_eq, not_false_eq_true, not_true_eq_false, ↓reduceIte, v0_ltT, v0_ltF, v0_gtT, v0_gtF, v0_leT, v0_leF, v0_geT, v0_geF, v0_eqT, v0_eqF, v0_add, v0_dda, v0_mul, v0_lum, v0_sub, v0_bad, v0_cl, v256_ltT, v256_ltF, v256_gtT, v256_gtF, v256_leT, v256_leF, v256_geT, v256_geF, v256_eqT, v256_eqF, v256_add, v256_dda, v256_mul, v256_lum, v256_sub, v256_bad, v256_cl, v2000_ltT, v2000_ltF, v2000_gtT, v2000_gtF, v2000_leT, v2000_leF, v2000_geT, v2000_geF, v2000_eqT, v2000_eqF, v2000_add, v2000_dda, v2000_mul, v2000_lum, v2000_sub, v2000_bad, v2000_cl, f0, tc]
    exact mo_f (Nat.zero_le _) (by repeat (first | exact trivial | refine And.intro rfl ?_)) rfl (hR _)
  · rw [ht_46_1, ch_46_2]; try simp +decide (disch := omega) only [ni_bF, nI_clamp, nI_add, pk_mul, dc_ltT, dc_ltF, dc_leT, dc_leF, dc_eqF, dc_neT, dn_eq, dn_ne, dn_lt, dn_ge, si_at, si_c, si_k, q_at_nI, q_put_nI, ne_eq, not_false_eq_true, not_true_eq_false, ↓reduceIte, v0_ltT, v0_ltF, v0_gtT, v0_gtF, v0_leT, v0_leF, v0_geT, v0_geF, v0_eqT, v0_eqF, v0_add, v0_dda, v0_mul, v0_lum, v0_sub, v0_bad, v0_cl, e6, f26, tm]
    exact mo_f (by omega) (by repeat (first | exact trivial | refine And.intro rfl ?_)) rfl hR
theorem lo_bad (S : pp_D H0 G0 H1 G1 B N M rd 0 hC gC hM gM) (hD : D ≤ 25) (nn : Nat) (R : Option Value × am_G) (hR : ∀ x1 : Int32, am_fwd (am_call tb_P (e + 340)) (am_run (am_call tb_P (e + 340)) tb_r174_0 0) tb_r174_2 78 [(1, .int x1), (0, .ref 32)] [] (pr_S, hC, gC) = some R) : am_fwd (am_call tb_P (e + 340)) (am_run (am_call tb_P (e + 340)) tb_r174_0 nn) tb_r174_1 41 [(1, .int (nI D)), (0, .ref 32)] [] (pr_S, hC, gC) = some R := by
  obtain ⟨F, k, n, w, ⟨f, p, a1, a2, _⟩, J⟩ := S
  have nz : hC 32 1 ≠ 0 := by rw [a1]; exact a2
  rw [ht_174_1, ch_174_4]; (try simp +decide (disch := omega) only [ni_bF, nI_clamp, nI_add, pk_mul, dc_ltT, dc_ltF, dc_leT, dc_leF, dc_eqF, dc_neT, dn_eq, dn_ne, dn_lt, dn_ge, si_at, si_c, si_k, q_at_nI, q_put_nI, ne_eq, not_false_eq_true, not_true_eq_false, ↓reduceIte, v0_ltT, v0_ltF, v0_gtT, v0_gtF, v0_leT, v0_leF, v0_geT, v0_geF, v0_eqT, v0_eqF, v0_add, v0_dda, v0_mul, v0_lum, v0_sub, v0_bad, v0_cl, v256_ltT, v256_ltF, v256_gtT, v256_gtF, v256_leT, v256_leF, v256_geT, v256_geF, v256_eqT, v256_eqF, v256_add, v256_dda, v256_mul, v256_lum, v256_sub, v256_bad, v256_cl, v2000_ltT, v2000_ltF, v2000_gtT, v2000_gtF, v2000_leT, v2000_leF, v2000_geT, v2000_geF, v2000_eqT, v2000_eqF, v2000_add, v2000_dda, v2000_mul, v2000_lum, v2000_sub, v2000_bad, v2000_cl]); rw [if_pos nz]
  exact mo_f (Nat.zero_le _) (by repeat (first | exact trivial | refine And.intro rfl ?_)) rfl (hR _)
theorem lo_defs (X : px H0 H1 G1 B N M rd) : ∀ (m D : Nat), D + m = 24 → ∀ (hC : Nat → Nat → Int32) (gC : Nat → Nat → Int64) (hM : Nat → Nat → Int32) (gM : Nat → Nat → Int64) (k n t : Nat) (sz L bd st : Nat → Nat), df_R H0 G0 H1 G1 B N M rd D k n t sz L bd st hC gC hM gM → ∃ (hC' : Nat → Nat → Int32) (gC' : Nat → Nat → Int64) (hM' : Nat → Nat → Int32) (gM' : Nat → Nat → Int64), (∀ nn R, 26 - D ≤ nn → (∀ x1 : Int32, am_fwd (am_call tb_P (e + 340)) (am_run (am_call tb_P (e + 340)) tb_r174_0 0) tb_r174_2 78 [(1, .int x1), (0, .ref 32)] [] (pr_S, hC', gC') = some R) → am_fwd (am_call tb_P (e + 340)) (am_run (am_call tb_P (e + 340)) tb_r174_0 nn) tb_r174_1 41 [(1, .int (nI D)), (0, .ref 32)] [] (pr_S, hC, gC) = some R) ∧ (∀ nn R, 27 - D + 990000 ≤ nn → am_fwd (am_call tb_P (e + 340)) (am_run (am_call tb_P (e + 340)) tb_r46_0 990000) tb_r46_2 80 [(0, .ref 73)] [] (pr_S, hM', gM') = some R → am_fwd (am_call tb_P (e + 340)) (am_run (am_call tb_P (e + 340)) tb_r46_0 nn) tb_r46_1 54 [(0, .ref 73)] [] (pr_S, hM, gM) = some R) ∧ ((∃ D k n t sz L bd st, df_R H0 G0 H1 G1 B N M rd D k n t sz L bd st hC' gC' hM' gM' ∧ tok B N (tp B N k) = 0) ∨ (pp_D H0 G0 H1 G1 B N M rd 0 hC' gC' hM' gM' ∧ hM' 73 26 ≠ 0)) := by
  intro m
  induction m with
  | zero =>
    intro D hD hC gC hM gM k n t sz L bd st S
    by_cases ht : tok B N (tp B N k) = 0
    · obtain ⟨u1, u2⟩ := lo_stop (e := e) X S ht
      exact ⟨hC, gC, hM, gM, fun nn R _ hR => u1 nn R hR, fun nn R hn hR => u2 nn R (by omega) hR, Or.inl ⟨D, k, n, t, sz, L, bd, st, S, ht⟩⟩
    · obtain ⟨hC2, gC2, hM2, gM2, u1, u2, u3⟩ := lo_one (e := e) X S ht
      rcases u3 with ⟨k', n', t', sz', L', bd', st', S'⟩ | S'
      · exact absurd S'.2.2.2.2.1 (by omega)
      · obtain ⟨hM3, v1, v2, v3⟩ := lo_end (e := e) X S'
        refine ⟨hC2, gC2, hM3, gM2, fun nn R hn hR => ?_, fun nn R hn hR => ?_, Or.inr ⟨v2, v3⟩⟩
        · obtain ⟨q, rfl⟩ : ∃ q, nn = q + 1 := ⟨nn - 1, by omega⟩
          exact u1 q R (lo_bad S' (by omega) q R hR)
        · obtain ⟨q, rfl⟩ : ∃ q, nn = q + 1 := ⟨nn - 1, by omega⟩
          exact u2 q R (v1 q R (by omega) hR)
  | succ m ih =>
    intro D hD hC gC hM gM k n t sz L bd st S
    by_cases ht : tok B N (tp B N k) = 0
    · obtain ⟨u1, u2⟩ := lo_stop (e := e) X S ht
      exact ⟨hC, gC, hM, gM, fun nn R _ hR => u1 nn R hR, fun nn R hn hR => u2 nn R (by omega) hR, Or.inl ⟨D, k, n, t, sz, L, bd, st, S, ht⟩⟩
    · obtain ⟨hC2, gC2, hM2, gM2, u1, u2, u3⟩ := lo_one (e := e) X S ht
      rcases u3 with ⟨k', n', t', sz', L', bd', st', S'⟩ | S'
      · obtain ⟨hC3, gC3, hM3, gM3, v1, v2, v3⟩ := ih (D + 1) (by omega) hC2 gC2 hM2 gM2 k' n' t' sz' L' bd' st' S'
        refine ⟨hC3, gC3, hM3, gM3, fun nn R hn hR => ?_, fun nn R hn hR => ?_, v3⟩
        · obtain ⟨q, rfl⟩ : ∃ q, nn = q + 1 := ⟨nn - 1, by omega⟩
          exact u1 q R (v1 q R (by omega) hR)
        · obtain ⟨q, rfl⟩ : ∃ q, nn = q + 1 := ⟨nn - 1, by omega⟩
          exact u2 q R (v2 q R (by omega) hR)
      · obtain ⟨hM3, v1, v2, v3⟩ := lo_end (e := e) X S'
        refine ⟨hC2, gC2, hM3, gM2, fun nn R hn hR => ?_, fun nn R hn hR => ?_, Or.inr ⟨v2, v3⟩⟩
        · obtain ⟨q, rfl⟩ : ∃ q, nn = q + 1 := ⟨nn - 1, by omega⟩
          exact u1 q R (lo_bad S' (by omega) q R hR)
        · obtain ⟨q, rfl⟩ : ∃ q, nn = q + 1 := ⟨nn - 1, by omega⟩
          exact u2 q R (v1 q R (by omega) hR)
end DL
