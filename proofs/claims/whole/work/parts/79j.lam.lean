/-! both parsers side by side: \\ -/
section LM
variable {h0 h1 hC hM : Nat → Nat → Int32} {g0 g1 gC gM : Nat → Nat → Int64} {B : Nat → Nat} {N M rd k o n t w π D e s : Nat} {G : List Nat}
theorem ea_newThingB (d : Nat) {kd : Int32} (h : hC 32 1 ≠ 0) : am_call tb_P (d + 1) 198 [.ref 32, .int kd] (pr_S, hC, gC) = some (some (.int (-1)), (pr_S, hC, gC)) := by
  rw [en_198, ht_198_0, ch_198_0, if_neg h]
/-- expect and take, right or doomed -/
theorem st_expc (d τ : Nat) (X : px h0 h1 g1 B N M rd) (hτ : τ < 256) (h4 : τ ≠ 0 ∧ τ ≠ 1 ∧ τ ≠ 2 ∧ τ ≠ 3 ∧ τ ≠ 41) (S : (ps_O h0 g0 h1 g1 B N M rd hC gC hM gM k o n t w G ∧ 3 * (n + π) ≤ qk B N k) ∨ ps_D h0 g0 h1 g1 B N M rd hC gC hM gM w π) : ∃ (hC' : Nat → Nat → Int32) (gC' : Nat → Nat → Int64) (hM' : Nat → Nat → Int32), am_call tb_P (d + 6) 178 [.ref 32, .int (cl τ)] (pr_S, hC, gC) = some (none, (pr_S, hC', gC')) ∧ am_call tb_P (d + 6) 29 [.ref 73, .int (nI τ)] (pr_S, hM, gM) = some (none, (pr_S, hM', gM)) ∧ (∀ c, c ≠ 1 → c ≠ 32 → hC' c = hC c) ∧ hM' 73 33 = hM 73 33 ∧ ((ps_O h0 g0 h1 g1 B N M rd hC' gC' hM' gM (k + 1) o n t w G ∧ 3 * (n + π) ≤ qk B N (k + 1)) ∨ ps_D h0 g0 h1 g1 B N M rd hC' gC' hM' gM w π) := by
  rcases S with ⟨P, J⟩ | ⟨k, n', P, J⟩
  · obtain ⟨F1, F2, P'⟩ := id P
    have hk : k < 2001 := by have := X.2.2.2.1; have := P'.1.2.2; omega
    have tk := (px_t X F2 P'.1.2.2).1
    by_cases c : tok B N (tp B N k) = τ
    · obtain ⟨hC', gC', s1, s2, s3⟩ := ps_adv d X P (by rw [c]; omega)
      have tc : hC 1 1 = cl τ := by rw [P'.1.1.2.1, c]
      have q := qk_s (B := B) (N := N) (k := k) (by rw [c]; omega) (by rw [c]; omega) (by rw [c]; omega) (by rw [c]; omega)
      refine ⟨hC', gC', am_si hM 73 6 (nI (k + 1)), ?_, ?_, s2, am_si_off (by decide), ?_⟩
      · rw [en_178, ht_178_0, ch_178_0, if_neg (fun q => q tc), s1, ev_rn, ch_178_2, sk_178_1_23, ht_178_2, ch_178_4]
      · have i := em_isT (gM := gM) (d + 4) P'.2.2.1.2.1 P'.2.2.1.1 hk (tk.trans (by rw [c]))
        have e6 := P'.2.2.1.1
        rw [en_29, ht_29_0, ch_29_0, i, ev_rs, ch_29_1]; (try simp +decide (disch := omega) only [ni_bF, nI_clamp, nI_add, pk_mul, dc_ltT, dc_ltF, dc_leT, dc_leF, dc_eqF, dc_neT, dn_eq, dn_ne, dn_lt, dn_ge, si_at, si_c, si_k, q_at_nI, q_put_nI, ne_eq, not_false_eq_true, not_true_eq_false, ↓reduceIte, v0_ltT, v0_ltF, v0_gtT, v0_gtF, v0_leT, v0_leF, v0_geT, v0_geF, v0_eqT, v0_eqF, v0_add, v0_dda, v0_mul, v0_lum, v0_sub, v0_bad, v0_cl, v1_ltT, v1_ltF, v1_gtT, v1_gtF, v1_leT, v1_leF, v1_geT, v1_geF, v1_eqT, v1_eqF, v1_add, v1_dda, v1_mul, v1_lum, v1_sub, v1_bad, v1_cl, e6]); rw [sk_29_1_25, ht_29_2, ch_29_3]
      · rcases s3 with s3 | s3
        · exact Or.inl ⟨s3, by omega⟩
        · exact Or.inr ⟨k + 1, n, s3, by omega⟩
    · have tc : hC 1 1 ≠ cl τ := by rw [P'.1.1.2.1]; exact fun q => c ((cl_e (tok_l X _) hτ).mp q)
      refine ⟨xfl hC 2 (hC 1 2), gC, xfm2 hM 2 (hM 76 k), ?_, ?_, fun c q1 q2 => by unfold xfl; rw [am_si_ne q1, am_si_ne q2, am_si_ne q2], by unfold xfm2; rw [am_si_off (by decide), am_si_off (by decide)], Or.inr ⟨k, n, ps_fl X P (by decide), by omega⟩⟩
      · rw [en_178, ht_178_0, ch_178_0, if_pos tc, ht_178_1, ch_178_1, ea_pfail _ P'.2.1.1, ev_rn, ch_178_3, ht_178_2, ch_178_4]
      · have i := em_isF (gM := gM) (v := nI τ) (d + 4) P'.2.2.1.1 hk (fun _ => by rw [tk]; exact fun q => c ((nI_eq (by have := tok_l X (tp B N k); omega) (by omega)).mp q))
        have od := em_odd (gM := gM) (d + 3) P'.2.2.1.2.1 P'.2.2.1.1 hk (by rw [tk]; exact fun q => P'.1.2.1 ((nI_eq (b := 1) (by have := tok_l X (tp B N k); omega) (by decide)).mp q))
        rw [en_29, ht_29_0, ch_29_0, i, ev_rs, ch_29_1, if_pos rfl, ht_29_1, ch_29_2, od, ev_rn, ch_29_4, ht_29_2, ch_29_3]
  · obtain ⟨F1, F2, f, p, a1, a2, a3, a4, a5, a6, a7, a8, a9⟩ := id P
    have hk : k < 2001 := by have := X.2.2.2.1; omega
    have i := ps_isB (τ := τ) (d + 4) X P hτ h4.2.1
    obtain ⟨t1, t2, _⟩ := px_t X F2 a6
    have ec := ea_expB (hC := hC) (gC := gC) (v := cl τ) (d + 4) (fun q => h4.2.1 ((cl_e hτ (by decide)).mp q)) (by rw [a1]; exact a2) a4
    by_cases z : hM 73 26 = 0
    · obtain ⟨hM', o1, o2, _⟩ := ps_oddB (d + 3) X P
      have b4 : tok B N (tp B N k) = 1 := by
        rcases a9 with ⟨_, _, _, b4⟩ | ⟨b1, _⟩
        · exact b4
        · exact absurd (b1.symm.trans z) a2
      have t1' : hM 75 k = 1 := by rw [t1, b4]; rfl
      have od : am_call tb_P (d + 5) 28 [.ref 73] (pr_S, hM, gM) = some (none, (pr_S, xfm2 hM 1 (hM 76 k), gM)) := by
        rw [en_28, ht_28_0, ch_28_0]; (try simp +decide (disch := omega) only [ni_bF, nI_clamp, nI_add, pk_mul, dc_ltT, dc_ltF, dc_leT, dc_leF, dc_eqF, dc_neT, dn_eq, dn_ne, dn_lt, dn_ge, si_at, si_c, si_k, q_at_nI, q_put_nI, ne_eq, not_false_eq_true, not_true_eq_false, ↓reduceIte, v0_ltT, v0_ltF, v0_gtT, v0_gtF, v0_leT, v0_leF, v0_geT, v0_geF, v0_eqT, v0_eqF, v0_add, v0_dda, v0_mul, v0_lum, v0_sub, v0_bad, v0_cl, v1_ltT, v1_ltF, v1_gtT, v1_gtF, v1_leT, v1_leF, v1_geT, v1_geF, v1_eqT, v1_eqF, v1_add, v1_dda, v1_mul, v1_lum, v1_sub, v1_bad, v1_cl, a5, t1']); rw [sk_28_1_19, ht_28_2, ch_28_2, em_pfail _ z a5 hk, ev_rn, ch_28_3]
      have e : hM' = xfm2 hM 1 (hM 76 k) := (Prod.mk.inj (Prod.mk.inj (Prod.mk.inj (Option.some.inj (o1.symm.trans od))).2).2).1
      refine ⟨hC, gC, hM', ec, ?_, fun _ _ _ => rfl, by rw [e]; unfold xfm2; rw [am_si_off (by decide), am_si_off (by decide)], Or.inr ⟨k, n', o2, J⟩⟩
      rw [en_29, ht_29_0, ch_29_0, i, ev_rs, ch_29_1, if_pos rfl, ht_29_1, ch_29_2, o1, ev_rn, ch_29_4, ht_29_2, ch_29_3]
    · have od : am_call tb_P (d + 5) 28 [.ref 73] (pr_S, hM, gM) = some (none, (pr_S, hM, gM)) := by
        by_cases c : hM 75 k = 1
        · rw [en_28, ht_28_0, ch_28_0]; (try simp +decide (disch := omega) only [ni_bF, nI_clamp, nI_add, pk_mul, dc_ltT, dc_ltF, dc_leT, dc_leF, dc_eqF, dc_neT, dn_eq, dn_ne, dn_lt, dn_ge, si_at, si_c, si_k, q_at_nI, q_put_nI, ne_eq, not_false_eq_true, not_true_eq_false, ↓reduceIte, v0_ltT, v0_ltF, v0_gtT, v0_gtF, v0_leT, v0_leF, v0_geT, v0_geF, v0_eqT, v0_eqF, v0_add, v0_dda, v0_mul, v0_lum, v0_sub, v0_bad, v0_cl, v1_ltT, v1_ltF, v1_gtT, v1_gtF, v1_leT, v1_leF, v1_geT, v1_geF, v1_eqT, v1_eqF, v1_add, v1_dda, v1_mul, v1_lum, v1_sub, v1_bad, v1_cl, a5, c]); rw [sk_28_1_19, ht_28_2, ch_28_2, em_pfailB _ z, ev_rn, ch_28_3]
        · rw [en_28, ht_28_0, ch_28_0]; (try simp +decide (disch := omega) only [ni_bF, nI_clamp, nI_add, pk_mul, dc_ltT, dc_ltF, dc_leT, dc_leF, dc_eqF, dc_neT, dn_eq, dn_ne, dn_lt, dn_ge, si_at, si_c, si_k, q_at_nI, q_put_nI, ne_eq, not_false_eq_true, not_true_eq_false, ↓reduceIte, v0_ltT, v0_ltF, v0_gtT, v0_gtF, v0_leT, v0_leF, v0_geT, v0_geF, v0_eqT, v0_eqF, v0_add, v0_dda, v0_mul, v0_lum, v0_sub, v0_bad, v0_cl, v1_ltT, v1_ltF, v1_gtT, v1_gtF, v1_leT, v1_leF, v1_geT, v1_geF, v1_eqT, v1_eqF, v1_add, v1_dda, v1_mul, v1_lum, v1_sub, v1_bad, v1_cl, a5]); rw [if_pos c, ht_28_1, ch_28_1, ht_28_2, ch_28_2, em_pfailB _ z, ev_rn, ch_28_3]
      refine ⟨hC, gC, hM, ec, ?_, fun _ _ _ => rfl, rfl, Or.inr ⟨k, n', P, J⟩⟩
      rw [en_29, ht_29_0, ch_29_0, i, ev_rs, ch_29_1, if_pos rfl, ht_29_1, ch_29_2, od, ev_rn, ch_29_4, ht_29_2, ch_29_3]
/-- the end of a scope, right or doomed -/
theorem st_leave (d : Nat) {j : Nat} {Y : List Nat} (hY : G.length = w) (S : (ps_O h0 g0 h1 g1 B N M rd hC gC hM gM k (o + 1) n t (w + j) (Y ++ G) ∧ 3 * (n + π) ≤ qk B N k ∧ w ≤ 4 + 2 * o) ∨ ps_D h0 g0 h1 g1 B N M rd hC gC hM gM (w + j) π) : am_call tb_P (d + 1) 197 [.ref 32, .int (nI w)] (pr_S, hC, gC) = some (none, (pr_S, am_si (am_si hC 32 2 (hC 32 2 - 1)) 32 3 (nI w), gC)) ∧ ((ps_O h0 g0 h1 g1 B N M rd (am_si (am_si hC 32 2 (hC 32 2 - 1)) 32 3 (nI w)) gC (am_si (am_si hM 73 32 (nI w)) 73 29 (hM 73 29 - 1)) gM k o n t w G ∧ 3 * (n + π) ≤ qk B N k) ∨ ps_D h0 g0 h1 g1 B N M rd (am_si (am_si hC 32 2 (hC 32 2 - 1)) 32 3 (nI w)) gC (am_si (am_si hM 73 32 (nI w)) 73 29 (hM 73 29 - 1)) gM w π) := by
  refine ⟨ea_leave d, ?_⟩
  rcases S with ⟨P, J, hw⟩ | ⟨k, n', P, J⟩
  · obtain ⟨F1, F2, P'⟩ := id P
    have e2 := P'.2.1.2.1
    have e29 := P'.2.2.1.2.2.1
    have ho := P'.2.2.2.2.2.2.1
    rw [e2, e29, nI_pred]
    exact Or.inl ⟨po_leave P hY (fun c q => by rw [am_si_ne q, am_si_ne q]) (fun x q => by rw [am_si_off (by omega), am_si_off (by omega)]) (by rw [am_si_off (by decide), am_si_at]) (am_si_at _ _ _ _) (fun c q => by rw [am_si_ne q, am_si_ne q]) (fun x q1 q2 => by rw [am_si_off (by omega), am_si_off (by omega)]) (am_si_at _ _ _ _) (by rw [am_si_off (by decide), am_si_at]) (by omega) hw, J⟩
  · exact Or.inr ⟨k, n', pb_cg P (fun c q => by rw [am_si_ne q, am_si_ne q]) (by rw [am_si_off (by decide), am_si_off (by decide)]) (by rw [am_si_off (by decide), am_si_off (by decide)]) (fun c q => by rw [am_si_ne q, am_si_ne q]) (fun x q1 _ q3 => by rw [am_si_off (by omega), am_si_off (by omega)]) (by rw [am_si_off (by decide), am_si_at]), J⟩
/-- the reference's exp where it may have failed -/
theorem st_exM (X : px h0 h1 g1 B N M rd) (IH : exC h0 g0 h1 g1 B N M rd D o (e + 10)) (S : (ps_O h0 g0 h1 g1 B N M rd hC gC hM gM k o n t w G ∧ 3 * (n + π) ≤ qk B N k) ∨ ps_D h0 g0 h1 g1 B N M rd hC gC hM gM w π) : ∃ (rC rM : Int32) (hC' : Nat → Nat → Int32) (gC' : Nat → Nat → Int64) (hM' : Nat → Nat → Int32) (gM' : Nat → Nat → Int64), am_call tb_P (e + 10) 181 [.ref 32] (pr_S, hC, gC) = some (some (.int rC), (pr_S, hC', gC')) ∧ ((hM 73 26 = 0 ∧ am_call tb_P (e + 10) 35 [.ref 73] (pr_S, hM, gM) = some (some (.int rM), (pr_S, hM', gM'))) ∨ (hM 73 26 ≠ 0 ∧ rM = 0 ∧ hM' = hM ∧ gM' = gM)) ∧ ps_R h0 g0 h1 g1 B N M rd D hC n t w o π (5 * (41 - o)) (40 - o) G rC rM hC' gC' hM' gM' := by
  by_cases z : hM 73 26 = 0
  · obtain ⟨rC, rM, hC', gC', hM', gM', u1, u2, u3⟩ := st_ex X IH S
    exact ⟨rC, rM, hC', gC', hM', gM', u1, Or.inl ⟨z, u2⟩, u3⟩
  · rcases S with ⟨P, J⟩ | ⟨k, n', P, J⟩
    · exact absurd P.2.2.2.2.1.2.1 z
    · obtain ⟨c1, c2⟩ := cf_0 P
      exact ⟨-1, 0, hC, gC, hM, gM, cf_exp (e + 4) c1 c2, Or.inr ⟨z, rfl, rfl, rfl⟩, Or.inr ⟨k, n', P, J⟩⟩
theorem bd_fault (S : ps_D h0 g0 h1 g1 B N M rd hC gC hM gM w π) : hC 32 1 ≠ 0 := by
  obtain ⟨_, _, P, _⟩ := S
  exact (cf_0 P).1
/-- where the class has failed its steps do nothing more -/
theorem ln_name (d : Nat) {kd r : Int32} {hC' : Nat → Nat → Int32} {gC' : Nat → Nat → Int64} (S : ps_D h0 g0 h1 g1 B N M rd hC gC hM gM w π) (u : am_call tb_P (d + 2) 187 [.ref 32, .int kd] (pr_S, hC, gC) = some (some (.int r), (pr_S, hC', gC'))) : hC' 32 1 ≠ 0 := by
  obtain ⟨_, _, P, _⟩ := S
  obtain ⟨c1, c2⟩ := cf_0 P
  have v : am_call tb_P (d + 2) 187 [.ref 32, .int kd] (pr_S, hC, gC) = some (some (.int (-1)), (pr_S, hC, gC)) := by
    rw [en_187, ht_187_0, ch_187_0]; (try simp +decide (disch := omega) only [ni_bF, nI_clamp, nI_add, pk_mul, dc_ltT, dc_ltF, dc_leT, dc_leF, dc_eqF, dc_neT, dn_eq, dn_ne, dn_lt, dn_ge, si_at, si_c, si_k, q_at_nI, q_put_nI, ne_eq, not_false_eq_true, not_true_eq_false, ↓reduceIte, v0_ltT, v0_ltF, v0_gtT, v0_gtF, v0_leT, v0_leF, v0_geT, v0_geF, v0_eqT, v0_eqF, v0_add, v0_dda, v0_mul, v0_lum, v0_sub, v0_bad, v0_cl, v258_ltT, v258_ltF, v258_gtT, v258_gtF, v258_leT, v258_leF, v258_geT, v258_geF, v258_eqT, v258_eqF, v258_add, v258_dda, v258_mul, v258_lum, v258_sub, v258_bad, v258_cl, c2]); rw [ea_pfailB _ c1 c2, ev_rn, ch_187_2]
  have e : hC' = hC := (Prod.mk.inj (Prod.mk.inj (Prod.mk.inj (Option.some.inj (u.symm.trans v))).2).2).1
  rw [e]; exact c1
theorem ln_expect (d : Nat) {v : Int32} {hC' : Nat → Nat → Int32} {gC' : Nat → Nat → Int64} (hv : v ≠ 257) (S : ps_D h0 g0 h1 g1 B N M rd hC gC hM gM w π) (u : am_call tb_P (d + 2) 178 [.ref 32, .int v] (pr_S, hC, gC) = some (none, (pr_S, hC', gC'))) : hC' 32 1 ≠ 0 := by
  obtain ⟨_, _, P, _⟩ := S
  obtain ⟨c1, c2⟩ := cf_0 P
  have e : hC' = hC := (Prod.mk.inj (Prod.mk.inj (Prod.mk.inj (Option.some.inj (u.symm.trans (ea_expB d hv c1 c2)))).2).2).1
  rw [e]; exact c1
theorem ln_bring (d : Nat) {v : Int64} {r : Int32} {hC' : Nat → Nat → Int32} {gC' : Nat → Nat → Int64} (S : ps_D h0 g0 h1 g1 B N M rd hC gC hM gM w π) (u : am_call tb_P (d + 1) 200 [.ref 32, .long v, .int r] (pr_S, hC, gC) = some (none, (pr_S, hC', gC'))) : hC' 32 1 ≠ 0 := by
  obtain ⟨_, _, P, _⟩ := S
  obtain ⟨c1, c2⟩ := cf_0 P
  have v' : am_call tb_P (d + 1) 200 [.ref 32, .long v, .int r] (pr_S, hC, gC) = some (none, (pr_S, hC, gC)) := by
    rw [en_200, ht_200_0, ch_200_0, if_pos c1, ht_200_1, ch_200_1]
  have e : hC' = hC := (Prod.mk.inj (Prod.mk.inj (Prod.mk.inj (Option.some.inj (u.symm.trans v'))).2).2).1
  rw [e]; exact c1
theorem ln_expr (d : Nat) {r : Int32} {hC' : Nat → Nat → Int32} {gC' : Nat → Nat → Int64} (S : ps_D h0 g0 h1 g1 B N M rd hC gC hM gM w π) (u : am_call tb_P (d + 6) 181 [.ref 32] (pr_S, hC, gC) = some (some (.int r), (pr_S, hC', gC'))) : hC' 32 1 ≠ 0 := by
  obtain ⟨_, _, P, _⟩ := S
  obtain ⟨c1, c2⟩ := cf_0 P
  have e : hC' = hC := (Prod.mk.inj (Prod.mk.inj (Prod.mk.inj (Option.some.inj (u.symm.trans (cf_exp d c1 c2)))).2).2).1
  rw [e]; exact c1
theorem po_1 (P : ps_O h0 g0 h1 g1 B N M rd hC gC hM gM k o n t w G) : hC 32 1 = 0 := P.2.2.2.1.1
/-- \ -/
theorem ct_lam (X : px h0 h1 g1 B N M rd) (hD : h0 3 0 = nI (D + 1)) (hDm : h1 85 rd = nI D) (IH : o < 40 → exC h0 g0 h1 g1 B N M rd D (o + 1) (e + 10)) (P : ps_O h0 g0 h1 g1 B N M rd hC gC hM gM k o n t w G) (J : 3 * (n + π) ≤ qk B N k) (c : tok B N (tp B N k) = 92) : ∃ (rC rM : Int32) (hC' : Nat → Nat → Int32) (gC' : Nat → Nat → Int64) (hM' : Nat → Nat → Int32) (gM' : Nat → Nat → Int64), am_call tb_P (e + 11) 182 [.ref 32] (pr_S, hC, gC) = some (some (.int rC), (pr_S, hC', gC')) ∧ am_call tb_P (e + 11) 36 [.ref 73] (pr_S, hM, gM) = some (some (.int rM), (pr_S, hM', gM')) ∧ ps_R h0 g0 h1 g1 B N M rd D hC n t w o π (5 * (40 - o) + 5) (40 - o) G rC rM hC' gC' hM' gM' := by
  have hN := X.2.2.2.2.2.2.2.2
  have hrd := X.2.2.2.2.2.2.1
  have hw4 := P.2.2.2.2.2.2.2.2.2
  have hGl := P.2.2.2.2.2.1.1
  have ho4 := P.2.2.2.2.2.2.2.2.1
  have pa3 := P.2.2.2.1.2.2.1
  have q1 := qk_s (B := B) (N := N) (k := k) (by rw [c]; decide) (by rw [c]; decide) (by rw [c]; decide) (by rw [c]; decide)
  obtain ⟨hC1, hM1, a1, a2, a3, a4, a5⟩ := st_open (e + 8) X P
  -- from the binder on; hCp, hMp: behind the \ ; sl, mi: its THING in both
  have rest : ∀ (hCp : Nat → Nat → Int32) (gCp : Nat → Nat → Int64) (hMp : Nat → Nat → Int32) (sl mi : Int32), (o < 40 ∧ ps_O h0 g0 h1 g1 B N M rd hCp gCp hMp gM (k + 1) (o + 1) n (t + 1) w G ∧ 3 * (n + (π + 1)) ≤ qk B N (k + 1) ∧ sl = nI t ∧ mi = nI t ∧ gw hC hCp n t (t + 1) D ∧ hCp 9 t = 4) ∨ ps_D h0 g0 h1 g1 B N M rd hCp gCp hMp gM w (π + 1) →
      ∃ (r4 : Int32) (hC4 : Nat → Nat → Int32) (gC4 : Nat → Nat → Int64) (hM4 : Nat → Nat → Int32) (v4 : Int64) (hC5 : Nat → Nat → Int32) (gC5 : Nat → Nat → Int64) (hM5 hC6 : Nat → Nat → Int32) (gC6 : Nat → Nat → Int64) (hM6 : Nat → Nat → Int32) (gM6 : Nat → Nat → Int64) (r7 m7 : Int32) (hC7 : Nat → Nat → Int32) (gC7 : Nat → Nat → Int64) (hM7 : Nat → Nat → Int32) (gM7 : Nat → Nat → Int64) (hC8 : Nat → Nat → Int32) (r9 m9 : Int32) (hC9 hM9 : Nat → Nat → Int32), am_call tb_P (e + 10) 187 [.ref 32, .int 3] (pr_S, hCp, gCp) = some (some (.int r4), (pr_S, hC4, gC4)) ∧ am_call tb_P (e + 10) 34 [.ref 73, .int 3, .long (Int64.ofNat 0)] (pr_S, hMp, gM) = some (some (.long v4), (pr_S, hM4, gM)) ∧ am_call tb_P (e + 10) 178 [.ref 32, .int 46] (pr_S, hC4, gC4) = some (none, (pr_S, hC5, gC5)) ∧ am_call tb_P (e + 10) 29 [.ref 73, .int 46] (pr_S, hM4, gM) = some (none, (pr_S, hM5, gM)) ∧ hM5 73 33 = hM4 73 33 ∧ hM5 73 32 = nI w ∧ am_call tb_P (e + 10) 200 [.ref 32, .long (gCp 1 3), .int r4] (pr_S, hC5, gC5) = some (none, (pr_S, hC6, gC6)) ∧ am_call tb_P (e + 10) 32 [.ref 73, .long v4, .int (hM4 73 33)] (pr_S, hM5, gM) = some (none, (pr_S, hM6, gM6)) ∧ am_call tb_P (e + 10) 181 [.ref 32] (pr_S, hC6, gC6) = some (some (.int r7), (pr_S, hC7, gC7)) ∧ ((hM6 73 26 = 0 ∧ am_call tb_P (e + 10) 35 [.ref 73] (pr_S, hM6, gM6) = some (some (.int m7), (pr_S, hM7, gM7))) ∨ (hM6 73 26 ≠ 0 ∧ m7 = 0 ∧ hM7 = hM6 ∧ gM7 = gM6)) ∧ am_call tb_P (e + 10) 197 [.ref 32, .int (nI w)] (pr_S, hC7, gC7) = some (none, (pr_S, hC8, gC7)) ∧ am_call tb_P (e + 10) 199 [.ref 32, .int 4, .int sl, .int r7, .int (-1)] (pr_S, hC8, gC7) = some (some (.int r9), (pr_S, hC9, gC7)) ∧ am_call tb_P (e + 10) 30 [.ref 73, .int 20, .int m7, .int (hM4 73 33), .int 0] (pr_S, am_si (am_si hM7 73 32 (nI w)) 73 29 (hM7 73 29 - 1), gM7) = some (some (.int m9), (pr_S, hM9, gM7)) ∧ ¬ am_bad m9 5800 ∧ ps_R h0 g0 h1 g1 B N M rd D hC n t w o π (5 * (40 - o) + 5) (40 - o) G r9 m9 hC9 gC7 (am_si hM9 83 m9.toNatClampNeg mi) gM7 := by
    intro hCp gCp hMp sl mi H
    have wlt : w < 190 := by omega
    have S0 : (ps_O h0 g0 h1 g1 B N M rd hCp gCp hMp gM (k + 1) (o + 1) n (t + 1) w G ∧ 3 * (n + (π + 1)) ≤ qk B N (k + 1) ∧ (tok B N (tp B N (k + 1)) = 2 → gCp 1 3 ≠ Int64.ofNat 0)) ∨ ps_D h0 g0 h1 g1 B N M rd hCp gCp hMp gM w (π + 1) := by
      rcases H with ⟨_, x1, x2, _⟩ | H
      · exact Or.inl ⟨x1, x2, fun z => by
          obtain ⟨z1, z2, z3⟩ := tok_n z
          rw [x1.2.2.1.1.2.2.2.1 z1 z2]
          exact tok_nm X z⟩
      · exact Or.inr H
    obtain ⟨hC4, gC4, hM4, r4, v4, b1, b2, R4⟩ := st_name (kd := 3) (bar := Int64.ofNat 0) (e + 3) X hD hDm (by decide) S0
    have S4 : (ps_O h0 g0 h1 g1 B N M rd hC4 gC4 hM4 gM (k + 1 + 1) (o + 1) n (t + 1 + 1) w G ∧ 3 * (n + (π + 1)) ≤ qk B N (k + 1 + 1)) ∨ ps_D h0 g0 h1 g1 B N M rd hC4 gC4 hM4 gM w (π + 1) := by
      rcases R4 with ⟨x1, x2, _⟩ | x
      · exact Or.inl ⟨x1, x2⟩
      · exact Or.inr x
    obtain ⟨hC5, gC5, hM5, d1, d2, d3, d4, R5⟩ := st_expc (e + 4) 46 X (by decide) (by decide) S4
    have m32 : hM5 73 32 = nI w := by
      rcases R5 with ⟨x1, _⟩ | ⟨_, _, ⟨_, _, f, p, y1, y2, y3, y4, y5, y6, y7, y8, _⟩, _⟩
      · exact x1.2.2.2.2.1.2.2.2.1
      · exact y8
    have S5 : (ps_O h0 g0 h1 g1 B N M rd hC5 gC5 hM5 gM (k + 1 + 1 + 1) (o + 1) n (t + 1 + 1) w G ∧ 3 * (n + (π + 1)) ≤ qk B N (k + 1 + 1 + 1) ∧ v4 = gCp 1 3 ∧ r4 = nI (t + 1) ∧ hM4 73 33 = nI (t + 1) ∧ t + 1 < t + 1 + 1 ∧ w + 1 ≤ 4 + 2 * (o + 1)) ∨ ps_D h0 g0 h1 g1 B N M rd hC5 gC5 hM5 gM w (π + 1) := by
      rcases R5 with ⟨x1, x2⟩ | x
      · rcases R4 with ⟨y1, y2, y3, y4, y5, _⟩ | y
        · exact Or.inl ⟨x1, x2, y5, y3, y4, by omega, by omega⟩
        · exact absurd (po_1 x1) (ln_expect (e + 8) (by decide) y d1)
      · exact Or.inr x
    obtain ⟨hC6, gC6, hM6, gM6, f1, f2, f3, R6⟩ := st_know (D := D) (e + 9) wlt S5
    have S6 : (ps_O h0 g0 h1 g1 B N M rd hC6 gC6 hM6 gM6 (k + 1 + 1 + 1) (o + 1) n (t + 1 + 1) (w + 1) ((t + 1) :: G) ∧ 3 * (n + (π + 1)) ≤ qk B N (k + 1 + 1 + 1)) ∨ ps_D h0 g0 h1 g1 B N M rd hC6 gC6 hM6 gM6 (w + 1) (π + 1) := by
      rcases R6 with ⟨x1, x2, _⟩ | x
      · exact Or.inl ⟨x1, x2⟩
      · exact Or.inr x
    have R7 : ∃ (r7 m7 : Int32) (hC7 : Nat → Nat → Int32) (gC7 : Nat → Nat → Int64) (hM7 : Nat → Nat → Int32) (gM7 : Nat → Nat → Int64), am_call tb_P (e + 10) 181 [.ref 32] (pr_S, hC6, gC6) = some (some (.int r7), (pr_S, hC7, gC7)) ∧ ((hM6 73 26 = 0 ∧ am_call tb_P (e + 10) 35 [.ref 73] (pr_S, hM6, gM6) = some (some (.int m7), (pr_S, hM7, gM7))) ∨ (hM6 73 26 ≠ 0 ∧ m7 = 0 ∧ hM7 = hM6 ∧ gM7 = gM6)) ∧ ps_R h0 g0 h1 g1 B N M rd D hC6 n (t + 1 + 1) (w + 1) (o + 1) (π + 1) (5 * (41 - (o + 1))) (40 - (o + 1)) ((t + 1) :: G) r7 m7 hC7 gC7 hM7 gM7 := by
      by_cases ho : o < 40
      · exact st_exM X (IH ho) S6
      · rcases S6 with ⟨x1, _⟩ | ⟨k6, n6, P6, J6⟩
        · exact absurd x1.2.2.2.2.2.2.2.2.1 (by omega)
        · obtain ⟨c1, c2⟩ := cf_0 P6
          obtain ⟨hM', o1, o2⟩ := pb_exp (e + 2) X P6
          by_cases z : hM6 73 26 = 0
          · exact ⟨-1, 0, hC6, gC6, hM', gM6, cf_exp (e + 4) c1 c2, Or.inl ⟨z, o1⟩, Or.inr ⟨k6, n6, o2, J6⟩⟩
          · exact ⟨-1, 0, hC6, gC6, hM6, gM6, cf_exp (e + 4) c1 c2, Or.inr ⟨z, rfl, rfl, rfl⟩, Or.inr ⟨k6, n6, P6, J6⟩⟩
    obtain ⟨r7, m7, hC7, gC7, hM7, gM7, v1, v2, R7⟩ := R7
    rcases R7 with ⟨k7, n7, t7, P7, J7, n7l, t7l, e71, e72, wf7, gw7, ga7⟩ | R7
    · -- right
      have S7 := st_leave (hC := hC7) (gC := gC7) (hM := hM7) (gM := gM7) (j := 1) (Y := [t + 1]) (π := π + 1) (e + 9) hGl (Or.inl ⟨P7, J7, hw4⟩)
      obtain ⟨l1, l2⟩ := S7
      obtain ⟨z1, z2, gw6⟩ := R6.resolve_right (fun z => absurd (po_1 P7) (ln_expr (e + 4) z v1))
      obtain ⟨y1, y2⟩ := R5.resolve_right (fun z => absurd (po_1 z1) (ln_bring (e + 9) z f1))
      obtain ⟨x1, x2, x3, x4, x5, x6, gw4, gk4⟩ := R4.resolve_right (fun z => absurd (po_1 y1) (ln_expect (e + 8) (by decide) z d1))
      obtain ⟨ho, w1, w2, w3, w4, gwp, gkp⟩ := H.resolve_right (fun z => absurd (po_1 x1) (ln_name (e + 8) z b1))
      have gk : ∀ i, i < t + 1 + 1 → hC7 9 i = hC4 9 i := fun i hi => by
        rw [gw7.1 _ _ (by decide) (by decide) hi, gw6.1 _ _ (by decide) (by decide) hi, d3 _ (by decide) (by decide)]
      obtain ⟨P8, J8⟩ := l2.resolve_right (fun z => absurd (by rw [am_si_off (by decide), am_si_off (by decide)]; exact po_1 P7) (bd_fault z))
      have qb := qk_N (B := B) (k := k7) hN
      obtain ⟨F1, F2, P8'⟩ := id P8
      have xa := xn_at (hC := am_si (am_si hC7 32 2 (hC7 32 2 - 1)) 32 3 (nI w)) (n := n7) 4 (nI t) (nI (n7 - 1)) (-1) (-1)
      obtain ⟨y1', y2', y3', y4', y5'⟩ := xnm_c (hM := am_si (am_si hM7 73 32 (nI w)) 73 29 (hM7 73 29 - 1)) (n := n7) (2900 * rd) (wh := 20) (a := nI (2900 * rd + (n7 - 1))) (b := nI (t + 1)) (c := 0)
      obtain ⟨z1', z2', z3', z4', z5'⟩ := xnm_at (hM := am_si (am_si hM7 73 32 (nI w)) 73 29 (hM7 73 29 - 1)) (n := n7) (2900 * rd) 20 (nI (2900 * rd + (n7 - 1))) (nI (t + 1)) 0
      have Q := po_node (kd := 4) (m := nI t) (a := nI (n7 - 1)) (b := -1) (c := -1) (hM' := am_si (xnm (am_si (am_si hM7 73 32 (nI w)) 73 29 (hM7 73 29 - 1)) (2900 * rd) n7 20 (nI (2900 * rd + (n7 - 1))) (nI (t + 1)) 0) 83 (2900 * rd + n7) (nI t)) X P8 (by omega) (fun c q1 q2 => by rw [am_si_ne (by omega)]; exact y1' c q1 q2) (fun c i q1 q2 q3 => by rw [am_si_off (by omega)]; exact y2' c i q1 q2 q3) (fun i hi => by rw [am_si_ne (by decide)]; exact y3' i hi) (fun x hx => by rw [am_si_ne (by decide)]; exact y4' x hx) (by rw [am_si_ne (by decide)]; exact y5') (by
        unfold nr rp_N
        rw [xa.1, xa.2.1, xa.2.2.1, am_si_ne (show 79 ≠ 83 by decide), am_si_ne (show 80 ≠ 83 by decide), am_si_ne (show 81 ≠ 83 by decide), am_si_at, nI_add, nI_1]
        exact ⟨fun _ => ⟨⟨fun q => absurd q (by decide), fun q => absurd q (by decide), fun q => absurd q (by decide), fun q => absurd q (by decide), fun _ => ⟨z1', z2', z3', rfl⟩, fun q => absurd q (by decide), fun q => absurd q (by decide), fun q => absurd q (by decide), fun q => absurd q (by decide), fun q => absurd q (by decide)⟩, by rw [z1']; decide⟩, fun q => absurd q (by decide), fun _ => ⟨t, rfl, by omega, by rw [am_si_ne (by decide), am_si_ne (by decide), gk t (by omega), gw4.1 _ _ (by decide) (by decide) (by omega)]; exact gkp, by rw [am_si_ne (by decide), am_si_ne (by decide), gk (t + 1) (by omega)]; exact gk4⟩, fun q => absurd q (by decide), fun q => absurd q (by decide)⟩)
      refine ⟨r4, hC4, gC4, hM4, v4, hC5, gC5, hM5, hC6, gC6, hM6, gM6, r7, m7, hC7, gC7, hM7, gM7, (am_si (am_si hC7 32 2 (hC7 32 2 - 1)) 32 3 (nI w)), nI n7, nI (2900 * rd + n7), xn (am_si (am_si hC7 32 2 (hC7 32 2 - 1)) 32 3 (nI w)) n7 4 (nI t) (nI (n7 - 1)) (-1) (-1), xnm (am_si (am_si hM7 73 32 (nI w)) 73 29 (hM7 73 29 - 1)) (2900 * rd) n7 20 (nI (2900 * rd + (n7 - 1))) (nI (t + 1)) 0, b1, b2, d1, d2, d4, m32, f1, f2, v1, v2, l1, ?_, ?_, nI_in (by omega) (by decide), ?_⟩
      · rw [w3, e71]; exact ea_newNode (e + 8) P8'.2.1.1 P8'.2.2.2.2.2.1.1 (by omega)
      · rw [e72, x4]; exact em_node (e + 9) (px_25 X F2) P8'.2.2.1.2.2.2.2 hrd (by omega)
      · rw [nI_clamp (by omega), w4]
        refine Or.inl ⟨k7, n7 + 1, t7, Q, by omega, by omega, by omega, rfl, rfl, ?_, ?_, ga7⟩
        · show wfx _ _ _ n7 n t t7 G
          have w7 : wfx (xn (am_si (am_si hC7 32 2 (hC7 32 2 - 1)) 32 3 (nI w)) n7 4 (nI t) (nI (n7 - 1)) (-1) (-1)) (5 * (41 - (o + 1))) (40 - (o + 1)) (n7 - 1) n (t + 1 + 1) t7 ((t + 1) :: G) := wfx_cg (n := n7) wf7 (by omega) (fun c i q1 q2 q3 => by rw [xn_i (by omega) (by omega), am_si_ne (by omega), am_si_ne (by omega)])
          refine Or.inr (Or.inr (Or.inr (Or.inr (Or.inl ⟨xa.1, 5 * (41 - (o + 1)), 40 - (o + 1), n7 - 1, by omega, by omega, ?_, xa.2.2.1, by omega, wf_le (show n7 - 1 + 1 ≤ n7 by omega) w7⟩))))
          unfold mk
          rw [xa.1, if_neg (by decide), xa.2.1]
        · have g5 : gw hC4 hC6 n (t + 1 + 1) (t + 1 + 1) D := gw_t (gw_0 (n := n) (t := t + 1 + 1) d3) gw6 (Nat.le_refl _) (Nat.le_refl _)
          have g9 : gw hC7 (xn (am_si (am_si hC7 32 2 (hC7 32 2 - 1)) 32 3 (nI w)) n7 4 (nI t) (nI (n7 - 1)) (-1) (-1)) n7 t7 t7 D := ⟨fun c i q1 q2 _ => by rw [xn_c (by omega) (by omega), am_si_ne (by omega), am_si_ne (by omega)], fun i q1 q2 => absurd q1 (by omega), fun c i q1 q2 q3 => by rw [xn_i (by omega) (by omega), am_si_ne (by omega), am_si_ne (by omega)]⟩
          exact gw_t (gw_t (gw_t (gw_t gwp gw4 (Nat.le_refl _) (by omega)) g5 (Nat.le_refl _) (by omega)) gw7 (Nat.le_refl _) (by omega)) g9 (by omega) (by omega)
    · -- doomed
      obtain ⟨l1, l2⟩ := st_leave (hC := hC7) (gC := gC7) (hM := hM7) (gM := gM7) (j := 1) (Y := [t + 1]) (π := π + 1) (o := o) (k := 0) (n := 0) (t := 0) (e + 9) hGl (Or.inr R7)
      have l3 : ps_D h0 g0 h1 g1 B N M rd (am_si (am_si hC7 32 2 (hC7 32 2 - 1)) 32 3 (nI w)) gC7 (am_si (am_si hM7 73 32 (nI w)) 73 29 (hM7 73 29 - 1)) gM7 w (π + 1) := by
        rcases l2 with ⟨z, _⟩ | l2
        · exact absurd (po_1 z) (by rw [am_si_off (by decide), am_si_off (by decide)]; exact bd_fault R7)
        · exact l2
      obtain ⟨k8, n8, P8, J8⟩ := l3
      have qb := qk_N (B := B) (k := k8) hN
      obtain ⟨c1, c2⟩ := cf_0 P8
      obtain ⟨F1, F2, f, p, y1, y2, y3, y4, y5, y6, y7, y8, y9⟩ := id P8
      obtain ⟨y1', y2', y3', y4', y5'⟩ := xnm_c (hM := am_si (am_si hM7 73 32 (nI w)) 73 29 (hM7 73 29 - 1)) (n := n8) (2900 * rd) (wh := 20) (a := m7) (b := hM4 73 33) (c := 0)
      refine ⟨r4, hC4, gC4, hM4, v4, hC5, gC5, hM5, hC6, gC6, hM6, gM6, r7, m7, hC7, gC7, hM7, gM7, (am_si (am_si hC7 32 2 (hC7 32 2 - 1)) 32 3 (nI w)), -1, nI (2900 * rd + n8), (am_si (am_si hC7 32 2 (hC7 32 2 - 1)) 32 3 (nI w)), xnm (am_si (am_si hM7 73 32 (nI w)) 73 29 (hM7 73 29 - 1)) (2900 * rd) n8 20 m7 (hM4 73 33) 0, b1, b2, d1, d2, d4, m32, f1, f2, v1, v2, l1, ea_newNodeB (e + 9) c1, em_node (e + 9) (px_25 X F2) y7 hrd (by omega), nI_in (by omega) (by decide), Or.inr ⟨k8, n8 + 1, ?_, by omega⟩⟩
      rw [nI_clamp (by omega)]
      exact pb_node P8 (fun c q1 q2 => by rw [am_si_ne (by omega)]; exact y1' c q1 q2) (by omega) (fun c i q1 q2 q3 => by rw [am_si_off (by omega)]; exact y2' c i q1 q2 q3) (fun x hx => by rw [am_si_ne (by decide)]; exact y4' x hx) (by rw [am_si_ne (by decide)]; exact y5')
  have fin : ∀ (hC2 hCp : Nat → Nat → Int32) (gCp : Nat → Nat → Int64) (hM2 : Nat → Nat → Int32) (sl mi : Int32), am_call tb_P (e + 10) 198 [.ref 32, .int 4] (pr_S, hC1, gC) = some (some (.int sl), (pr_S, hC2, gC)) → am_call tb_P (e + 10) 177 [.ref 32] (pr_S, hC2, gC) = some (none, (pr_S, hCp, gCp)) → ((hM1 73 26 = 0 ∧ am_call tb_P (e + 10) 31 [.ref 73, .int 4] (pr_S, hM1, gM) = some (some (.int mi), (pr_S, hM2, gM))) ∨ (hM1 73 26 ≠ 0 ∧ mi = 0 ∧ hM2 = hM1)) → (hM2 73 6 = nI k) → (hMp : Nat → Nat → Int32) → ((hM2 73 26 = 0 ∧ hMp = am_si hM2 73 6 (nI (k + 1))) ∨ (hM2 73 26 ≠ 0 ∧ hMp = hM2)) → ((o < 40 ∧ ps_O h0 g0 h1 g1 B N M rd hCp gCp hMp gM (k + 1) (o + 1) n (t + 1) w G ∧ 3 * (n + (π + 1)) ≤ qk B N (k + 1) ∧ sl = nI t ∧ mi = nI t ∧ gw hC hCp n t (t + 1) D ∧ hCp 9 t = 4) ∨ ps_D h0 g0 h1 g1 B N M rd hCp gCp hMp gM w (π + 1)) → ∃ (rC rM : Int32) (hC' : Nat → Nat → Int32) (gC' : Nat → Nat → Int64) (hM' : Nat → Nat → Int32) (gM' : Nat → Nat → Int64), am_call tb_P (e + 11) 182 [.ref 32] (pr_S, hC, gC) = some (some (.int rC), (pr_S, hC', gC')) ∧ am_call tb_P (e + 11) 36 [.ref 73] (pr_S, hM, gM) = some (some (.int rM), (pr_S, hM', gM')) ∧ ps_R h0 g0 h1 g1 B N M rd D hC n t w o π (5 * (40 - o) + 5) (40 - o) G rC rM hC' gC' hM' gM' := by
    intro hC2 hCp gCp hM2 sl mi b1 b2 b3 b4 hMp b5 H
    obtain ⟨r4, hC4, gC4, hM4, v4, hC5, gC5, hM5, hC6, gC6, hM6, gM6, r7, m7, hC7, gC7, hM7, gM7, hC8, r9, m9, hC9, hM9, u1, u2, u3, u4, u5, u6, u7, u8, u9, x1, x2, x3, x4, x5, x6⟩ := rest hCp gCp hMp sl mi H
    refine ⟨r9, m9, hC9, gC7, _, gM7, ?_, ?_, x6⟩
    · rw [en_182, ht_182_0, ch_182_0, a1, ev_rn, ch_182_1, b1, ev_rs, ch_182_2, b2, ev_rn, ch_182_3, u1, ev_rs, ch_182_4, u3, ev_rn, ch_182_5, u7, ev_rn, ch_182_6, u9, ev_rs, ch_182_7, pa3, x2, ev_rn, ch_182_8, x3, ev_rs, ch_182_9]
    · rcases b3 with ⟨c1, c2⟩ | ⟨c1, c2, c3⟩
      · rcases b5 with ⟨d1, d2⟩ | ⟨d1, d2⟩
        · subst d2
          rcases x1 with ⟨e1, e2⟩ | ⟨e1, e2, e3, e4⟩
          · rw [en_36, ht_36_0, ch_36_0, a2, ev_rn, ch_36_1]; (try simp +decide (disch := omega) only [ni_bF, nI_clamp, nI_add, pk_mul, dc_ltT, dc_ltF, dc_leT, dc_leF, dc_eqF, dc_neT, dn_eq, dn_ne, dn_lt, dn_ge, si_at, si_c, si_k, q_at_nI, q_put_nI, ne_eq, not_false_eq_true, not_true_eq_false, ↓reduceIte, v0_ltT, v0_ltF, v0_gtT, v0_gtF, v0_leT, v0_leF, v0_geT, v0_geF, v0_eqT, v0_eqF, v0_add, v0_dda, v0_mul, v0_lum, v0_sub, v0_bad, v0_cl, b4, u5, u6, x5]); rw [if_neg (fun q => q c1), c2, ev_rs, ch_36_3, sk_36_1_20, ht_36_2, ch_36_4]; (try simp +decide (disch := omega) only [ni_bF, nI_clamp, nI_add, pk_mul, dc_ltT, dc_ltF, dc_leT, dc_leF, dc_eqF, dc_neT, dn_eq, dn_ne, dn_lt, dn_ge, si_at, si_c, si_k, q_at_nI, q_put_nI, ne_eq, not_false_eq_true, not_true_eq_false, ↓reduceIte, v0_ltT, v0_ltF, v0_gtT, v0_gtF, v0_leT, v0_leF, v0_geT, v0_geF, v0_eqT, v0_eqF, v0_add, v0_dda, v0_mul, v0_lum, v0_sub, v0_bad, v0_cl, b4, u5, u6, x5]); rw [if_neg (fun q => q d1), sk_36_3_38, ht_36_4, ch_36_6]; (try simp +decide (disch := omega) only [ni_bF, nI_clamp, nI_add, pk_mul, dc_ltT, dc_ltF, dc_leT, dc_leF, dc_eqF, dc_neT, dn_eq, dn_ne, dn_lt, dn_ge, si_at, si_c, si_k, q_at_nI, q_put_nI, ne_eq, not_false_eq_true, not_true_eq_false, ↓reduceIte, v0_ltT, v0_ltF, v0_gtT, v0_gtF, v0_leT, v0_leF, v0_geT, v0_geF, v0_eqT, v0_eqF, v0_add, v0_dda, v0_mul, v0_lum, v0_sub, v0_bad, v0_cl, b4, u5, u6, x5]); rw [nI_1, u2, ev_rs, ch_36_7, u4, ev_rn, ch_36_8, u8, ev_rn, ch_36_9]; (try simp +decide (disch := omega) only [ni_bF, nI_clamp, nI_add, pk_mul, dc_ltT, dc_ltF, dc_leT, dc_leF, dc_eqF, dc_neT, dn_eq, dn_ne, dn_lt, dn_ge, si_at, si_c, si_k, q_at_nI, q_put_nI, ne_eq, not_false_eq_true, not_true_eq_false, ↓reduceIte, v0_ltT, v0_ltF, v0_gtT, v0_gtF, v0_leT, v0_leF, v0_geT, v0_geF, v0_eqT, v0_eqF, v0_add, v0_dda, v0_mul, v0_lum, v0_sub, v0_bad, v0_cl, b4, u5, u6, x5]); rw [if_neg (fun q => q e1), e2, ev_rs, ch_36_11, sk_36_5_89, ht_36_6, ch_36_12]; (try simp +decide (disch := omega) only [ni_bF, nI_clamp, nI_add, pk_mul, dc_ltT, dc_ltF, dc_leT, dc_leF, dc_eqF, dc_neT, dn_eq, dn_ne, dn_lt, dn_ge, si_at, si_c, si_k, q_at_nI, q_put_nI, ne_eq, not_false_eq_true, not_true_eq_false, ↓reduceIte, v0_ltT, v0_ltF, v0_gtT, v0_gtF, v0_leT, v0_leF, v0_geT, v0_geF, v0_eqT, v0_eqF, v0_add, v0_dda, v0_mul, v0_lum, v0_sub, v0_bad, v0_cl, v1_ltT, v1_ltF, v1_gtT, v1_gtF, v1_leT, v1_leF, v1_geT, v1_geF, v1_eqT, v1_eqF, v1_add, v1_dda, v1_mul, v1_lum, v1_sub, v1_bad, v1_cl, b4, u5, u6, x5]); rw [x4, ev_rs, ch_36_13]; try simp +decide (disch := omega) only [ni_bF, nI_clamp, nI_add, pk_mul, dc_ltT, dc_ltF, dc_leT, dc_leF, dc_eqF, dc_neT, dn_eq, dn_ne, dn_lt, dn_ge, si_at, si_c, si_k, q_at_nI, q_put_nI, ne_eq, not_false_eq_true, not_true_eq_false, ↓reduceIte, v0_ltT, v0_ltF, v0_gtT, v0_gtF, v0_leT, v0_leF, v0_geT, v0_geF, v0_eqT, v0_eqF, v0_add, v0_dda, v0_mul, v0_lum, v0_sub, v0_bad, v0_cl, b4, u5, u6, x5]
          · subst e2 e3 e4
            rw [en_36, ht_36_0, ch_36_0, a2, ev_rn, ch_36_1]; (try simp +decide (disch := omega) only [ni_bF, nI_clamp, nI_add, pk_mul, dc_ltT, dc_ltF, dc_leT, dc_leF, dc_eqF, dc_neT, dn_eq, dn_ne, dn_lt, dn_ge, si_at, si_c, si_k, q_at_nI, q_put_nI, ne_eq, not_false_eq_true, not_true_eq_false, ↓reduceIte, v0_ltT, v0_ltF, v0_gtT, v0_gtF, v0_leT, v0_leF, v0_geT, v0_geF, v0_eqT, v0_eqF, v0_add, v0_dda, v0_mul, v0_lum, v0_sub, v0_bad, v0_cl, b4, u5, u6, x5]); rw [if_neg (fun q => q c1), c2, ev_rs, ch_36_3, sk_36_1_20, ht_36_2, ch_36_4]; (try simp +decide (disch := omega) only [ni_bF, nI_clamp, nI_add, pk_mul, dc_ltT, dc_ltF, dc_leT, dc_leF, dc_eqF, dc_neT, dn_eq, dn_ne, dn_lt, dn_ge, si_at, si_c, si_k, q_at_nI, q_put_nI, ne_eq, not_false_eq_true, not_true_eq_false, ↓reduceIte, v0_ltT, v0_ltF, v0_gtT, v0_gtF, v0_leT, v0_leF, v0_geT, v0_geF, v0_eqT, v0_eqF, v0_add, v0_dda, v0_mul, v0_lum, v0_sub, v0_bad, v0_cl, b4, u5, u6, x5]); rw [if_neg (fun q => q d1), sk_36_3_38, ht_36_4, ch_36_6]; (try simp +decide (disch := omega) only [ni_bF, nI_clamp, nI_add, pk_mul, dc_ltT, dc_ltF, dc_leT, dc_leF, dc_eqF, dc_neT, dn_eq, dn_ne, dn_lt, dn_ge, si_at, si_c, si_k, q_at_nI, q_put_nI, ne_eq, not_false_eq_true, not_true_eq_false, ↓reduceIte, v0_ltT, v0_ltF, v0_gtT, v0_gtF, v0_leT, v0_leF, v0_geT, v0_geF, v0_eqT, v0_eqF, v0_add, v0_dda, v0_mul, v0_lum, v0_sub, v0_bad, v0_cl, b4, u5, u6, x5]); rw [nI_1, u2, ev_rs, ch_36_7, u4, ev_rn, ch_36_8, u8, ev_rn, ch_36_9]; (try simp +decide (disch := omega) only [ni_bF, nI_clamp, nI_add, pk_mul, dc_ltT, dc_ltF, dc_leT, dc_leF, dc_eqF, dc_neT, dn_eq, dn_ne, dn_lt, dn_ge, si_at, si_c, si_k, q_at_nI, q_put_nI, ne_eq, not_false_eq_true, not_true_eq_false, ↓reduceIte, v0_ltT, v0_ltF, v0_gtT, v0_gtF, v0_leT, v0_leF, v0_geT, v0_geF, v0_eqT, v0_eqF, v0_add, v0_dda, v0_mul, v0_lum, v0_sub, v0_bad, v0_cl, b4, u5, u6, x5]); rw [if_pos e1, ht_36_5, ch_36_10, ht_36_6, ch_36_12]; (try simp +decide (disch := omega) only [ni_bF, nI_clamp, nI_add, pk_mul, dc_ltT, dc_ltF, dc_leT, dc_leF, dc_eqF, dc_neT, dn_eq, dn_ne, dn_lt, dn_ge, si_at, si_c, si_k, q_at_nI, q_put_nI, ne_eq, not_false_eq_true, not_true_eq_false, ↓reduceIte, v0_ltT, v0_ltF, v0_gtT, v0_gtF, v0_leT, v0_leF, v0_geT, v0_geF, v0_eqT, v0_eqF, v0_add, v0_dda, v0_mul, v0_lum, v0_sub, v0_bad, v0_cl, v1_ltT, v1_ltF, v1_gtT, v1_gtF, v1_leT, v1_leF, v1_geT, v1_geF, v1_eqT, v1_eqF, v1_add, v1_dda, v1_mul, v1_lum, v1_sub, v1_bad, v1_cl, b4, u5, u6, x5]); rw [x4, ev_rs, ch_36_13]; try simp +decide (disch := omega) only [ni_bF, nI_clamp, nI_add, pk_mul, dc_ltT, dc_ltF, dc_leT, dc_leF, dc_eqF, dc_neT, dn_eq, dn_ne, dn_lt, dn_ge, si_at, si_c, si_k, q_at_nI, q_put_nI, ne_eq, not_false_eq_true, not_true_eq_false, ↓reduceIte, v0_ltT, v0_ltF, v0_gtT, v0_gtF, v0_leT, v0_leF, v0_geT, v0_geF, v0_eqT, v0_eqF, v0_add, v0_dda, v0_mul, v0_lum, v0_sub, v0_bad, v0_cl, b4, u5, u6, x5]
        · subst d2
          have i0 : am_si hMp 73 6 (nI (k + 0)) = hMp := si_id b4
          rcases x1 with ⟨e1, e2⟩ | ⟨e1, e2, e3, e4⟩
          · rw [en_36, ht_36_0, ch_36_0, a2, ev_rn, ch_36_1]; (try simp +decide (disch := omega) only [ni_bF, nI_clamp, nI_add, pk_mul, dc_ltT, dc_ltF, dc_leT, dc_leF, dc_eqF, dc_neT, dn_eq, dn_ne, dn_lt, dn_ge, si_at, si_c, si_k, q_at_nI, q_put_nI, ne_eq, not_false_eq_true, not_true_eq_false, ↓reduceIte, v0_ltT, v0_ltF, v0_gtT, v0_gtF, v0_leT, v0_leF, v0_geT, v0_geF, v0_eqT, v0_eqF, v0_add, v0_dda, v0_mul, v0_lum, v0_sub, v0_bad, v0_cl, b4, u5, u6, x5]); rw [if_neg (fun q => q c1), c2, ev_rs, ch_36_3, sk_36_1_20, ht_36_2, ch_36_4]; (try simp +decide (disch := omega) only [ni_bF, nI_clamp, nI_add, pk_mul, dc_ltT, dc_ltF, dc_leT, dc_leF, dc_eqF, dc_neT, dn_eq, dn_ne, dn_lt, dn_ge, si_at, si_c, si_k, q_at_nI, q_put_nI, ne_eq, not_false_eq_true, not_true_eq_false, ↓reduceIte, v0_ltT, v0_ltF, v0_gtT, v0_gtF, v0_leT, v0_leF, v0_geT, v0_geF, v0_eqT, v0_eqF, v0_add, v0_dda, v0_mul, v0_lum, v0_sub, v0_bad, v0_cl, b4, u5, u6, x5]); rw [if_pos d1, ht_36_3, ch_36_5, ht_36_4, ch_36_6]; (try simp +decide (disch := omega) only [ni_bF, nI_clamp, nI_add, pk_mul, dc_ltT, dc_ltF, dc_leT, dc_leF, dc_eqF, dc_neT, dn_eq, dn_ne, dn_lt, dn_ge, si_at, si_c, si_k, q_at_nI, q_put_nI, ne_eq, not_false_eq_true, not_true_eq_false, ↓reduceIte, v0_ltT, v0_ltF, v0_gtT, v0_gtF, v0_leT, v0_leF, v0_geT, v0_geF, v0_eqT, v0_eqF, v0_add, v0_dda, v0_mul, v0_lum, v0_sub, v0_bad, v0_cl, b4, u5, u6, x5]); rw [i0, u2, ev_rs, ch_36_7, u4, ev_rn, ch_36_8, u8, ev_rn, ch_36_9]; (try simp +decide (disch := omega) only [ni_bF, nI_clamp, nI_add, pk_mul, dc_ltT, dc_ltF, dc_leT, dc_leF, dc_eqF, dc_neT, dn_eq, dn_ne, dn_lt, dn_ge, si_at, si_c, si_k, q_at_nI, q_put_nI, ne_eq, not_false_eq_true, not_true_eq_false, ↓reduceIte, v0_ltT, v0_ltF, v0_gtT, v0_gtF, v0_leT, v0_leF, v0_geT, v0_geF, v0_eqT, v0_eqF, v0_add, v0_dda, v0_mul, v0_lum, v0_sub, v0_bad, v0_cl, b4, u5, u6, x5]); rw [if_neg (fun q => q e1), e2, ev_rs, ch_36_11, sk_36_5_89, ht_36_6, ch_36_12]; (try simp +decide (disch := omega) only [ni_bF, nI_clamp, nI_add, pk_mul, dc_ltT, dc_ltF, dc_leT, dc_leF, dc_eqF, dc_neT, dn_eq, dn_ne, dn_lt, dn_ge, si_at, si_c, si_k, q_at_nI, q_put_nI, ne_eq, not_false_eq_true, not_true_eq_false, ↓reduceIte, v0_ltT, v0_ltF, v0_gtT, v0_gtF, v0_leT, v0_leF, v0_geT, v0_geF, v0_eqT, v0_eqF, v0_add, v0_dda, v0_mul, v0_lum, v0_sub, v0_bad, v0_cl, v1_ltT, v1_ltF, v1_gtT, v1_gtF, v1_leT, v1_leF, v1_geT, v1_geF, v1_eqT, v1_eqF, v1_add, v1_dda, v1_mul, v1_lum, v1_sub, v1_bad, v1_cl, b4, u5, u6, x5]); rw [x4, ev_rs, ch_36_13]; try simp +decide (disch := omega) only [ni_bF, nI_clamp, nI_add, pk_mul, dc_ltT, dc_ltF, dc_leT, dc_leF, dc_eqF, dc_neT, dn_eq, dn_ne, dn_lt, dn_ge, si_at, si_c, si_k, q_at_nI, q_put_nI, ne_eq, not_false_eq_true, not_true_eq_false, ↓reduceIte, v0_ltT, v0_ltF, v0_gtT, v0_gtF, v0_leT, v0_leF, v0_geT, v0_geF, v0_eqT, v0_eqF, v0_add, v0_dda, v0_mul, v0_lum, v0_sub, v0_bad, v0_cl, b4, u5, u6, x5]
          · subst e2 e3 e4
            rw [en_36, ht_36_0, ch_36_0, a2, ev_rn, ch_36_1]; (try simp +decide (disch := omega) only [ni_bF, nI_clamp, nI_add, pk_mul, dc_ltT, dc_ltF, dc_leT, dc_leF, dc_eqF, dc_neT, dn_eq, dn_ne, dn_lt, dn_ge, si_at, si_c, si_k, q_at_nI, q_put_nI, ne_eq, not_false_eq_true, not_true_eq_false, ↓reduceIte, v0_ltT, v0_ltF, v0_gtT, v0_gtF, v0_leT, v0_leF, v0_geT, v0_geF, v0_eqT, v0_eqF, v0_add, v0_dda, v0_mul, v0_lum, v0_sub, v0_bad, v0_cl, b4, u5, u6, x5]); rw [if_neg (fun q => q c1), c2, ev_rs, ch_36_3, sk_36_1_20, ht_36_2, ch_36_4]; (try simp +decide (disch := omega) only [ni_bF, nI_clamp, nI_add, pk_mul, dc_ltT, dc_ltF, dc_leT, dc_leF, dc_eqF, dc_neT, dn_eq, dn_ne, dn_lt, dn_ge, si_at, si_c, si_k, q_at_nI, q_put_nI, ne_eq, not_false_eq_true, not_true_eq_false, ↓reduceIte, v0_ltT, v0_ltF, v0_gtT, v0_gtF, v0_leT, v0_leF, v0_geT, v0_geF, v0_eqT, v0_eqF, v0_add, v0_dda, v0_mul, v0_lum, v0_sub, v0_bad, v0_cl, b4, u5, u6, x5]); rw [if_pos d1, ht_36_3, ch_36_5, ht_36_4, ch_36_6]; (try simp +decide (disch := omega) only [ni_bF, nI_clamp, nI_add, pk_mul, dc_ltT, dc_ltF, dc_leT, dc_leF, dc_eqF, dc_neT, dn_eq, dn_ne, dn_lt, dn_ge, si_at, si_c, si_k, q_at_nI, q_put_nI, ne_eq, not_false_eq_true, not_true_eq_false, ↓reduceIte, v0_ltT, v0_ltF, v0_gtT, v0_gtF, v0_leT, v0_leF, v0_geT, v0_geF, v0_eqT, v0_eqF, v0_add, v0_dda, v0_mul, v0_lum, v0_sub, v0_bad, v0_cl, b4, u5, u6, x5]); rw [i0, u2, ev_rs, ch_36_7, u4, ev_rn, ch_36_8, u8, ev_rn, ch_36_9]; (try simp +decide (disch := omega) only [ni_bF, nI_clamp, nI_add, pk_mul, dc_ltT, dc_ltF, dc_leT, dc_leF, dc_eqF, dc_neT, dn_eq, dn_ne, dn_lt, dn_ge, si_at, si_c, si_k, q_at_nI, q_put_nI, ne_eq, not_false_eq_true, not_true_eq_false, ↓reduceIte, v0_ltT, v0_ltF, v0_gtT, v0_gtF, v0_leT, v0_leF, v0_geT, v0_geF, v0_eqT, v0_eqF, v0_add, v0_dda, v0_mul, v0_lum, v0_sub, v0_bad, v0_cl, b4, u5, u6, x5]); rw [if_pos e1, ht_36_5, ch_36_10, ht_36_6, ch_36_12]; (try simp +decide (disch := omega) only [ni_bF, nI_clamp, nI_add, pk_mul, dc_ltT, dc_ltF, dc_leT, dc_leF, dc_eqF, dc_neT, dn_eq, dn_ne, dn_lt, dn_ge, si_at, si_c, si_k, q_at_nI, q_put_nI, ne_eq, not_false_eq_true, not_true_eq_false, ↓reduceIte, v0_ltT, v0_ltF, v0_gtT, v0_gtF, v0_leT, v0_leF, v0_geT, v0_geF, v0_eqT, v0_eqF, v0_add, v0_dda, v0_mul, v0_lum, v0_sub, v0_bad, v0_cl, v1_ltT, v1_ltF, v1_gtT, v1_gtF, v1_leT, v1_leF, v1_geT, v1_geF, v1_eqT, v1_eqF, v1_add, v1_dda, v1_mul, v1_lum, v1_sub, v1_bad, v1_cl, b4, u5, u6, x5]); rw [x4, ev_rs, ch_36_13]; try simp +decide (disch := omega) only [ni_bF, nI_clamp, nI_add, pk_mul, dc_ltT, dc_ltF, dc_leT, dc_leF, dc_eqF, dc_neT, dn_eq, dn_ne, dn_lt, dn_ge, si_at, si_c, si_k, q_at_nI, q_put_nI, ne_eq, not_false_eq_true, not_true_eq_false, ↓reduceIte, v0_ltT, v0_ltF, v0_gtT, v0_gtF, v0_leT, v0_leF, v0_geT, v0_geF, v0_eqT, v0_eqF, v0_add, v0_dda, v0_mul, v0_lum, v0_sub, v0_bad, v0_cl, b4, u5, u6, x5]
      · subst c2 c3
        rcases b5 with ⟨d1, d2⟩ | ⟨d1, d2⟩
        · exact absurd d1 c1
        · subst d2
          have i0 : am_si hMp 73 6 (nI (k + 0)) = hMp := si_id b4
          rcases x1 with ⟨e1, e2⟩ | ⟨e1, e2, e3, e4⟩
          · rw [en_36, ht_36_0, ch_36_0, a2, ev_rn, ch_36_1]; (try simp +decide (disch := omega) only [ni_bF, nI_clamp, nI_add, pk_mul, dc_ltT, dc_ltF, dc_leT, dc_leF, dc_eqF, dc_neT, dn_eq, dn_ne, dn_lt, dn_ge, si_at, si_c, si_k, q_at_nI, q_put_nI, ne_eq, not_false_eq_true, not_true_eq_false, ↓reduceIte, v0_ltT, v0_ltF, v0_gtT, v0_gtF, v0_leT, v0_leF, v0_geT, v0_geF, v0_eqT, v0_eqF, v0_add, v0_dda, v0_mul, v0_lum, v0_sub, v0_bad, v0_cl, b4, u5, u6, x5]); rw [if_pos c1, ht_36_1, ch_36_2, ht_36_2, ch_36_4]; (try simp +decide (disch := omega) only [ni_bF, nI_clamp, nI_add, pk_mul, dc_ltT, dc_ltF, dc_leT, dc_leF, dc_eqF, dc_neT, dn_eq, dn_ne, dn_lt, dn_ge, si_at, si_c, si_k, q_at_nI, q_put_nI, ne_eq, not_false_eq_true, not_true_eq_false, ↓reduceIte, v0_ltT, v0_ltF, v0_gtT, v0_gtF, v0_leT, v0_leF, v0_geT, v0_geF, v0_eqT, v0_eqF, v0_add, v0_dda, v0_mul, v0_lum, v0_sub, v0_bad, v0_cl, b4, u5, u6, x5]); rw [if_pos d1, ht_36_3, ch_36_5, ht_36_4, ch_36_6]; (try simp +decide (disch := omega) only [ni_bF, nI_clamp, nI_add, pk_mul, dc_ltT, dc_ltF, dc_leT, dc_leF, dc_eqF, dc_neT, dn_eq, dn_ne, dn_lt, dn_ge, si_at, si_c, si_k, q_at_nI, q_put_nI, ne_eq, not_false_eq_true, not_true_eq_false, ↓reduceIte, v0_ltT, v0_ltF, v0_gtT, v0_gtF, v0_leT, v0_leF, v0_geT, v0_geF, v0_eqT, v0_eqF, v0_add, v0_dda, v0_mul, v0_lum, v0_sub, v0_bad, v0_cl, b4, u5, u6, x5]); rw [i0, u2, ev_rs, ch_36_7, u4, ev_rn, ch_36_8, u8, ev_rn, ch_36_9]; (try simp +decide (disch := omega) only [ni_bF, nI_clamp, nI_add, pk_mul, dc_ltT, dc_ltF, dc_leT, dc_leF, dc_eqF, dc_neT, dn_eq, dn_ne, dn_lt, dn_ge, si_at, si_c, si_k, q_at_nI, q_put_nI, ne_eq, not_false_eq_true, not_true_eq_false, ↓reduceIte, v0_ltT, v0_ltF, v0_gtT, v0_gtF, v0_leT, v0_leF, v0_geT, v0_geF, v0_eqT, v0_eqF, v0_add, v0_dda, v0_mul, v0_lum, v0_sub, v0_bad, v0_cl, b4, u5, u6, x5]); rw [if_neg (fun q => q e1), e2, ev_rs, ch_36_11, sk_36_5_89, ht_36_6, ch_36_12]; (try simp +decide (disch := omega) only [ni_bF, nI_clamp, nI_add, pk_mul, dc_ltT, dc_ltF, dc_leT, dc_leF, dc_eqF, dc_neT, dn_eq, dn_ne, dn_lt, dn_ge, si_at, si_c, si_k, q_at_nI, q_put_nI, ne_eq, not_false_eq_true, not_true_eq_false, ↓reduceIte, v0_ltT, v0_ltF, v0_gtT, v0_gtF, v0_leT, v0_leF, v0_geT, v0_geF, v0_eqT, v0_eqF, v0_add, v0_dda, v0_mul, v0_lum, v0_sub, v0_bad, v0_cl, v1_ltT, v1_ltF, v1_gtT, v1_gtF, v1_leT, v1_leF, v1_geT, v1_geF, v1_eqT, v1_eqF, v1_add, v1_dda, v1_mul, v1_lum, v1_sub, v1_bad, v1_cl, b4, u5, u6, x5]); rw [x4, ev_rs, ch_36_13]; try simp +decide (disch := omega) only [ni_bF, nI_clamp, nI_add, pk_mul, dc_ltT, dc_ltF, dc_leT, dc_leF, dc_eqF, dc_neT, dn_eq, dn_ne, dn_lt, dn_ge, si_at, si_c, si_k, q_at_nI, q_put_nI, ne_eq, not_false_eq_true, not_true_eq_false, ↓reduceIte, v0_ltT, v0_ltF, v0_gtT, v0_gtF, v0_leT, v0_leF, v0_geT, v0_geF, v0_eqT, v0_eqF, v0_add, v0_dda, v0_mul, v0_lum, v0_sub, v0_bad, v0_cl, b4, u5, u6, x5]
          · subst e2 e3 e4
            rw [en_36, ht_36_0, ch_36_0, a2, ev_rn, ch_36_1]; (try simp +decide (disch := omega) only [ni_bF, nI_clamp, nI_add, pk_mul, dc_ltT, dc_ltF, dc_leT, dc_leF, dc_eqF, dc_neT, dn_eq, dn_ne, dn_lt, dn_ge, si_at, si_c, si_k, q_at_nI, q_put_nI, ne_eq, not_false_eq_true, not_true_eq_false, ↓reduceIte, v0_ltT, v0_ltF, v0_gtT, v0_gtF, v0_leT, v0_leF, v0_geT, v0_geF, v0_eqT, v0_eqF, v0_add, v0_dda, v0_mul, v0_lum, v0_sub, v0_bad, v0_cl, b4, u5, u6, x5]); rw [if_pos c1, ht_36_1, ch_36_2, ht_36_2, ch_36_4]; (try simp +decide (disch := omega) only [ni_bF, nI_clamp, nI_add, pk_mul, dc_ltT, dc_ltF, dc_leT, dc_leF, dc_eqF, dc_neT, dn_eq, dn_ne, dn_lt, dn_ge, si_at, si_c, si_k, q_at_nI, q_put_nI, ne_eq, not_false_eq_true, not_true_eq_false, ↓reduceIte, v0_ltT, v0_ltF, v0_gtT, v0_gtF, v0_leT, v0_leF, v0_geT, v0_geF, v0_eqT, v0_eqF, v0_add, v0_dda, v0_mul, v0_lum, v0_sub, v0_bad, v0_cl, b4, u5, u6, x5]); rw [if_pos d1, ht_36_3, ch_36_5, ht_36_4, ch_36_6]; (try simp +decide (disch := omega) only [ni_bF, nI_clamp, nI_add, pk_mul, dc_ltT, dc_ltF, dc_leT, dc_leF, dc_eqF, dc_neT, dn_eq, dn_ne, dn_lt, dn_ge, si_at, si_c, si_k, q_at_nI, q_put_nI, ne_eq, not_false_eq_true, not_true_eq_false, ↓reduceIte, v0_ltT, v0_ltF, v0_gtT, v0_gtF, v0_leT, v0_leF, v0_geT, v0_geF, v0_eqT, v0_eqF, v0_add, v0_dda, v0_mul, v0_lum, v0_sub, v0_bad, v0_cl, b4, u5, u6, x5]); rw [i0, u2, ev_rs, ch_36_7, u4, ev_rn, ch_36_8, u8, ev_rn, ch_36_9]; (try simp +decide (disch := omega) only [ni_bF, nI_clamp, nI_add, pk_mul, dc_ltT, dc_ltF, dc_leT, dc_leF, dc_eqF, dc_neT, dn_eq, dn_ne, dn_lt, dn_ge, si_at, si_c, si_k, q_at_nI, q_put_nI, ne_eq, not_false_eq_true, not_true_eq_false, ↓reduceIte, v0_ltT, v0_ltF, v0_gtT, v0_gtF, v0_leT, v0_leF, v0_geT, v0_geF, v0_eqT, v0_eqF, v0_add, v0_dda, v0_mul, v0_lum, v0_sub, v0_bad, v0_cl, b4, u5, u6, x5]); rw [if_pos e1, ht_36_5, ch_36_10, ht_36_6, ch_36_12]; (try simp +decide (disch := omega) only [ni_bF, nI_clamp, nI_add, pk_mul, dc_ltT, dc_ltF, dc_leT, dc_leF, dc_eqF, dc_neT, dn_eq, dn_ne, dn_lt, dn_ge, si_at, si_c, si_k, q_at_nI, q_put_nI, ne_eq, not_false_eq_true, not_true_eq_false, ↓reduceIte, v0_ltT, v0_ltF, v0_gtT, v0_gtF, v0_leT, v0_leF, v0_geT, v0_geF, v0_eqT, v0_eqF, v0_add, v0_dda, v0_mul, v0_lum, v0_sub, v0_bad, v0_cl, v1_ltT, v1_ltF, v1_gtT, v1_gtF, v1_leT, v1_leF, v1_geT, v1_geF, v1_eqT, v1_eqF, v1_add, v1_dda, v1_mul, v1_lum, v1_sub, v1_bad, v1_cl, b4, u5, u6, x5]); rw [x4, ev_rs, ch_36_13]; try simp +decide (disch := omega) only [ni_bF, nI_clamp, nI_add, pk_mul, dc_ltT, dc_ltF, dc_leT, dc_leF, dc_eqF, dc_neT, dn_eq, dn_ne, dn_lt, dn_ge, si_at, si_c, si_k, q_at_nI, q_put_nI, ne_eq, not_false_eq_true, not_true_eq_false, ↓reduceIte, v0_ltT, v0_ltF, v0_gtT, v0_gtF, v0_leT, v0_leF, v0_geT, v0_geF, v0_eqT, v0_eqF, v0_add, v0_dda, v0_mul, v0_lum, v0_sub, v0_bad, v0_cl, b4, u5, u6, x5]
  rcases a5 with ⟨ho, P1⟩ | ⟨P1, z1⟩
  · obtain ⟨hC2, hM2, sl, mi, b1, b2, R2⟩ := st_thing (kd := 4) (e + 8) X P1 D hD hDm
    have f1 : hM1 73 26 = 0 := P1.2.2.2.2.1.2.1
    rcases R2 with ⟨tl, e1, e2, P2, c1, c2, c3, c4⟩ | ⟨P2, z2, p3⟩
    · obtain ⟨hC3, gC3, s1, s2, R3⟩ := ps_adv (e + 5) X P2 (by rw [c]; decide)
      have f2 : hM2 73 26 = 0 := P2.2.2.2.2.1.2.1
      refine fin hC2 hC3 gC3 hM2 sl mi b1 s1 (Or.inl ⟨f1, b2⟩) P2.2.2.2.2.1.1 _ (Or.inl ⟨f2, rfl⟩) ?_
      rcases R3 with R3 | R3
      · refine Or.inl ⟨ho, R3, by omega, e1, e2, ?_, by rw [s2 _ (by decide) (by decide)]; exact c3⟩
        refine gw_t (n' := n) (t' := t + 1) (a := hC2) ⟨fun c i q1 q2 q3 => by rw [c2 c i (by omega) q1 q2, a3 c (by omega) (by omega)], fun i q1 q2 => ?_, fun c i q1 q2 q3 => by rw [c1 c (by omega) (by omega), a3 c (by omega) (by omega)]⟩ (gw_0 s2) (Nat.le_refl _) (by omega)
        have : i = t := by omega
        subst this
        exact ⟨c4, by rw [c3]; decide⟩
      · exact Or.inr ⟨k + 1, n, R3, by omega⟩
    · obtain ⟨p1, p2⟩ := cf_0 P2
      obtain ⟨_, _, f, p, y1, y2, y3, y4, y5, y6, y7, y8, y9⟩ := id P2
      exact fin hC2 hC2 gC hM2 sl mi b1 (ea_advB (e + 9) p1) (Or.inl ⟨f1, b2⟩) y5 hM2 (Or.inr ⟨z2, rfl⟩) (Or.inr ⟨k, n, P2, by omega⟩)
  · obtain ⟨p1, p2⟩ := cf_0 P1
    obtain ⟨_, _, f, p, y1, y2, y3, y4, y5, y6, y7, y8, y9⟩ := id P1
    exact fin hC1 hC1 gC hM1 (-1) 0 (ea_newThingB (e + 9) p1) (ea_advB (e + 9) p1) (Or.inr ⟨z1, rfl, rfl⟩) y5 hM1 (Or.inr ⟨z1, rfl⟩) (Or.inr ⟨k, n, P1, by omega⟩)
end LM
