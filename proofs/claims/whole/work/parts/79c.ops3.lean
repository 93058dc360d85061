/-! both parsers side by side: names, scope, nodes -/
/-- what has grown: THINGS from t to t', all of DEF D; NODES below n as they were -/
def gw (hC hC' : Nat → Nat → Int32) (n t t' D : Nat) : Prop := (∀ c i, 9 ≤ c → c ≤ 11 → i < t → hC' c i = hC c i) ∧ (∀ i, t ≤ i → i < t' → hC' 10 i = nI D ∧ hC' 9 i ≠ 0) ∧ (∀ c i, 12 ≤ c → c ≤ 16 → i < n → hC' c i = hC c i)
theorem gw_0 {hC hC' : Nat → Nat → Int32} {n t D : Nat} (a : ∀ c, c ≠ 1 → c ≠ 32 → hC' c = hC c) : gw hC hC' n t t D := ⟨fun c i a1 a2 _ => by rw [a c (by omega) (by omega)], fun i a1 a2 => absurd a1 (by omega), fun c i a1 a2 _ => by rw [a c (by omega) (by omega)]⟩
theorem gw_t {h a b : Nat → Nat → Int32} {n n' t t' t'' D : Nat} (x : gw h a n t t' D) (y : gw a b n' t' t'' D) (hn : n ≤ n') (ht : t ≤ t') : gw h b n t t'' D := ⟨fun c i a1 a2 a3 => by rw [y.1 c i a1 a2 (by omega)]; exact x.1 c i a1 a2 a3, fun i a1 a2 => by
  by_cases c : i < t'
  · rw [y.1 10 i (by decide) (by decide) c, y.1 9 i (by decide) (by decide) c]; exact x.2.1 i a1 c
  · exact y.2.1 i (by omega) a2, fun c i a1 a2 a3 => by rw [y.2.2 c i a1 a2 (by omega)]; exact x.2.2 c i a1 a2 a3⟩
section OR
variable {h0 h1 hC hM : Nat → Nat → Int32} {g0 g1 gC gM : Nat → Nat → Int64} {B : Nat → Nat} {N M rd k o n t w π D : Nat} {G : List Nat}
theorem po_33 {v : Int32} (P : ps_O h0 g0 h1 g1 B N M rd hC gC hM gM k o n t w G) : ps_O h0 g0 h1 g1 B N M rd hC gC (am_si hM 73 33 v) gM k o n t w G := by
  obtain ⟨F1, F2, P⟩ := P
  exact ⟨F1, pf_Mo (by decide) F2, po_cg P (fun _ _ _ => rfl) (fun _ => rfl) (fun _ _ => rfl) (fun c hc => am_si_ne hc) (fun x _ q => am_si_off (by omega)) rfl P.1 (by rw [am_si_off (by decide)]; exact P.2.2.1.1) (Nat.le_refl _)⟩
/-- the NAME of \ , let, split -/
theorem st_name (d : Nat) {kd : Int32} {bar : Int64} (X : px h0 h1 g1 B N M rd) (hD : h0 3 0 = nI (D + 1)) (hDm : h1 85 rd = nI D) (hkd : kd ≠ 0) (S : (ps_O h0 g0 h1 g1 B N M rd hC gC hM gM k o n t w G ∧ 3 * (n + π) ≤ qk B N k ∧ (tok B N (tp B N k) = 2 → gC 1 3 ≠ bar)) ∨ ps_D h0 g0 h1 g1 B N M rd hC gC hM gM w π) :
    ∃ (hC' : Nat → Nat → Int32) (gC' : Nat → Nat → Int64) (hM' : Nat → Nat → Int32) (rC : Int32) (v : Int64), am_call tb_P (d + 7) 187 [.ref 32, .int kd] (pr_S, hC, gC) = some (some (.int rC), (pr_S, hC', gC')) ∧ am_call tb_P (d + 7) 34 [.ref 73, .int kd, .long bar] (pr_S, hM, gM) = some (some (.long v), (pr_S, hM', gM)) ∧ ((ps_O h0 g0 h1 g1 B N M rd hC' gC' hM' gM (k + 1) o n (t + 1) w G ∧ 3 * (n + π) ≤ qk B N (k + 1) ∧ rC = nI t ∧ hM' 73 33 = nI t ∧ v = gC 1 3 ∧ v = nm B (tp B N k) (la B N (tp B N k) - tp B N k) ∧ gw hC hC' n t (t + 1) D ∧ hC' 9 t = kd) ∨ ps_D h0 g0 h1 g1 B N M rd hC' gC' hM' gM w π) := by
  rcases S with ⟨P, J, nb⟩ | ⟨k, n, P, J⟩
  · obtain ⟨F1, F2, P'⟩ := id P
    have hk : k < 2001 := by have := X.2.2.2.1; have := P'.1.2.2; omega
    obtain ⟨tk, tpl, tn, _⟩ := px_t X F2 P'.1.2.2
    have f26 := P'.2.2.1.2.1
    have e6 := P'.2.2.1.1
    by_cases c : tok B N (tp B N k) = 2
    · have nb := nb c
      have hlt := px_lt X (k := k) (by rw [c]; decide)
      have tc : hC 1 1 = 258 := by rw [P'.1.1.2.1, c]; rfl
      have mn := tn c
      obtain ⟨c1, c2, c3⟩ := tok_n c
      have nmC : gC 1 3 = nm B (tp B N k) (la B N (tp B N k) - tp B N k) := P'.1.1.2.2.2.1 c1 c2
      have i := em_isT (gM := gM) (v := 2) (d + 5) f26 e6 hk (tk.trans (by rw [c]; rfl))
      have ne : lg_cmp (gM 78 k) bar ≠ 0 := lg_ne.mpr (by rw [mn, ← nmC]; exact nb)
      obtain ⟨hC2, hM2, rC, rM, s1, s2, s3⟩ := st_thing (kd := kd) (d + 4) X P D hD hDm
      rcases s3 with ⟨t1, t2, t3, Q, t4, t5, t6, t7⟩ | ⟨Q, t2, t3⟩
      · obtain ⟨hC3, gC3, a1, a2, a3⟩ := ps_adv (d + 1) X (po_33 (v := nI t) Q) (by rw [c]; decide)
        have q := qk_n X.2.2.2.2.2.2.2.2 c
        have e6' : hM2 73 6 = nI k := Q.2.2.2.2.1.1
        have f26' : hM2 73 26 = 0 := Q.2.2.2.2.1.2.1
        refine ⟨hC3, gC3, am_si (am_si hM2 73 33 (nI t)) 73 6 (nI (k + 1)), nI t, gM 78 k, ?_, ?_, ?_⟩
        · rw [t2] at s1
          rw [en_187, ht_187_0, ch_187_0, if_pos tc, ht_187_1, ch_187_1, s1, ev_rs, ch_187_3, a1, ev_rn, ch_187_4]
        · rw [t3] at s2
          have e6'' : (am_si hM2 73 33 (nI t)) 73 6 = nI k := by rw [am_si_off (by decide)]; exact e6'
          rw [en_34, ht_34_0, ch_34_0, i, ev_rs, ch_34_1]; (try simp +decide (disch := omega) only [ni_bF, nI_clamp, nI_add, pk_mul, dc_ltT, dc_ltF, dc_leT, dc_leF, dc_eqF, dc_neT, dn_eq, dn_ne, dn_lt, dn_ge, si_at, si_c, si_k, q_at_nI, q_put_nI, ne_eq, not_false_eq_true, not_true_eq_false, ↓reduceIte, v0_ltT, v0_ltF, v0_gtT, v0_gtF, v0_leT, v0_leF, v0_geT, v0_geF, v0_eqT, v0_eqF, v0_add, v0_dda, v0_mul, v0_lum, v0_sub, v0_bad, v0_cl, e6, e6', f26']); rw [ht_34_1, ch_34_2]; (try simp +decide (disch := omega) only [ni_bF, nI_clamp, nI_add, pk_mul, dc_ltT, dc_ltF, dc_leT, dc_leF, dc_eqF, dc_neT, dn_eq, dn_ne, dn_lt, dn_ge, si_at, si_c, si_k, q_at_nI, q_put_nI, ne_eq, not_false_eq_true, not_true_eq_false, ↓reduceIte, v0_ltT, v0_ltF, v0_gtT, v0_gtF, v0_leT, v0_leF, v0_geT, v0_geF, v0_eqT, v0_eqF, v0_add, v0_dda, v0_mul, v0_lum, v0_sub, v0_bad, v0_cl, e6, e6', f26']); rw [if_pos ne, ht_34_2, ch_34_4, s2, ev_rs, ch_34_6]; (try simp +decide (disch := omega) only [ni_bF, nI_clamp, nI_add, pk_mul, dc_ltT, dc_ltF, dc_leT, dc_leF, dc_eqF, dc_neT, dn_eq, dn_ne, dn_lt, dn_ge, si_at, si_c, si_k, q_at_nI, q_put_nI, ne_eq, not_false_eq_true, not_true_eq_false, ↓reduceIte, v0_ltT, v0_ltF, v0_gtT, v0_gtF, v0_leT, v0_leF, v0_geT, v0_geF, v0_eqT, v0_eqF, v0_add, v0_dda, v0_mul, v0_lum, v0_sub, v0_bad, v0_cl, e6, e6', f26']); rw [sk_34_3_72, ht_34_4, ch_34_8]; try simp +decide (disch := omega) only [ni_bF, nI_clamp, nI_add, pk_mul, dc_ltT, dc_ltF, dc_leT, dc_leF, dc_eqF, dc_neT, dn_eq, dn_ne, dn_lt, dn_ge, si_at, si_c, si_k, q_at_nI, q_put_nI, ne_eq, not_false_eq_true, not_true_eq_false, ↓reduceIte, v0_ltT, v0_ltF, v0_gtT, v0_gtF, v0_leT, v0_leF, v0_geT, v0_geF, v0_eqT, v0_eqF, v0_add, v0_dda, v0_mul, v0_lum, v0_sub, v0_bad, v0_cl, e6, e6', f26']
          rw [nI_1]
        · rcases a3 with a3 | a3
          · refine Or.inl ⟨a3, by omega, rfl, by rw [am_si_off (by decide), am_si_at], by rw [mn, nmC], mn, ?_, by rw [a2 _ (by decide) (by decide)]; exact t6⟩
            refine ⟨fun c i q1 q2 q3 => ?_, fun i q1 q2 => ?_, fun c i q1 q2 _ => ?_⟩
            · rw [a2 c (by omega) (by omega)]; exact t5 c i (by omega) q1 q2
            · have : i = t := by omega
              subst this
              rw [a2 _ (by decide) (by decide), a2 _ (by decide) (by decide), t7, t6]
              exact ⟨rfl, hkd⟩
            · rw [a2 c (by omega) (by omega), t4 c (by omega) (by omega)]
          · exact Or.inr ⟨k + 1, n, a3, by omega⟩
      · obtain ⟨F1', F2', f, p, b1, b2, b3, b4, b5, b6, b7, b8, b9⟩ := id Q
        have fc : hC2 32 1 ≠ 0 := by rw [b1]; exact b2
        refine ⟨hC2, gC, am_si hM2 73 33 rM, rC, gM 78 k, ?_, ?_, Or.inr ⟨k, n, pb_cg Q (fun _ _ => rfl) rfl rfl (fun c q => am_si_ne q) (fun x _ q _ => am_si_off (by omega)) (by rw [am_si_off (by decide)]; exact b8), by omega⟩⟩
        · rw [en_187, ht_187_0, ch_187_0, if_pos tc, ht_187_1, ch_187_1, s1, ev_rs, ch_187_3, ea_advB _ fc, ev_rn, ch_187_4]
        · have e6'' : (am_si hM2 73 33 rM) 73 6 = nI k := by rw [am_si_off (by decide)]; exact b5
          rw [en_34, ht_34_0, ch_34_0, i, ev_rs, ch_34_1]; (try simp +decide (disch := omega) only [ni_bF, nI_clamp, nI_add, pk_mul, dc_ltT, dc_ltF, dc_leT, dc_leF, dc_eqF, dc_neT, dn_eq, dn_ne, dn_lt, dn_ge, si_at, si_c, si_k, q_at_nI, q_put_nI, ne_eq, not_false_eq_true, not_true_eq_false, ↓reduceIte, v0_ltT, v0_ltF, v0_gtT, v0_gtF, v0_leT, v0_leF, v0_geT, v0_geF, v0_eqT, v0_eqF, v0_add, v0_dda, v0_mul, v0_lum, v0_sub, v0_bad, v0_cl, e6, b5]); rw [ht_34_1, ch_34_2]; (try simp +decide (disch := omega) only [ni_bF, nI_clamp, nI_add, pk_mul, dc_ltT, dc_ltF, dc_leT, dc_leF, dc_eqF, dc_neT, dn_eq, dn_ne, dn_lt, dn_ge, si_at, si_c, si_k, q_at_nI, q_put_nI, ne_eq, not_false_eq_true, not_true_eq_false, ↓reduceIte, v0_ltT, v0_ltF, v0_gtT, v0_gtF, v0_leT, v0_leF, v0_geT, v0_geF, v0_eqT, v0_eqF, v0_add, v0_dda, v0_mul, v0_lum, v0_sub, v0_bad, v0_cl, e6, b5]); rw [if_pos ne, ht_34_2, ch_34_4, s2, ev_rs, ch_34_6]; (try simp +decide (disch := omega) only [ni_bF, nI_clamp, nI_add, pk_mul, dc_ltT, dc_ltF, dc_leT, dc_leF, dc_eqF, dc_neT, dn_eq, dn_ne, dn_lt, dn_ge, si_at, si_c, si_k, q_at_nI, q_put_nI, ne_eq, not_false_eq_true, not_true_eq_false, ↓reduceIte, v0_ltT, v0_ltF, v0_gtT, v0_gtF, v0_leT, v0_leF, v0_geT, v0_geF, v0_eqT, v0_eqF, v0_add, v0_dda, v0_mul, v0_lum, v0_sub, v0_bad, v0_cl, e6, b5]); rw [if_pos t2, ht_34_3, ch_34_7, ht_34_4, ch_34_8]; try simp +decide (disch := omega) only [ni_bF, nI_clamp, nI_add, pk_mul, dc_ltT, dc_ltF, dc_leT, dc_leF, dc_eqF, dc_neT, dn_eq, dn_ne, dn_lt, dn_ge, si_at, si_c, si_k, q_at_nI, q_put_nI, ne_eq, not_false_eq_true, not_true_eq_false, ↓reduceIte, v0_ltT, v0_ltF, v0_gtT, v0_gtF, v0_leT, v0_leF, v0_geT, v0_geF, v0_eqT, v0_eqF, v0_add, v0_dda, v0_mul, v0_lum, v0_sub, v0_bad, v0_cl, e6, b5]
          rw [Nat.add_zero, si_id e6'']
    · have tc : hC 1 1 ≠ 258 := by rw [P'.1.1.2.1]; exact fun q => c ((cl_e (b := 2) (tok_l X _) (by decide)).mp q)
      have i := em_isF (gM := gM) (v := 2) (d + 5) e6 hk (fun _ => by rw [tk]; exact fun q => c ((nI_eq (b := 2) (by have := tok_l X (tp B N k); omega) (by decide)).mp q))
      have od := em_odd (gM := gM) (d + 4) f26 e6 hk (by rw [tk]; exact fun q => P'.1.2.1 ((nI_eq (b := 1) (by have := tok_l X (tp B N k); omega) (by decide)).mp q))
      refine ⟨xfl hC 2 (hC 1 2), gC, xfm2 hM 2 (hM 76 k), -1, Int64.ofNat 0, ?_, ?_, Or.inr ⟨k, n, ps_fl X P (by decide), by omega⟩⟩
      · rw [en_187, ht_187_0, ch_187_0, if_neg tc, ea_pfail _ P'.2.1.1, ev_rn, ch_187_2]
      · rw [en_34, ht_34_0, ch_34_0, i, ev_rs, ch_34_1]; (try simp +decide (disch := omega) only [ni_bF, nI_clamp, nI_add, pk_mul, dc_ltT, dc_ltF, dc_leT, dc_leF, dc_eqF, dc_neT, dn_eq, dn_ne, dn_lt, dn_ge, si_at, si_c, si_k, q_at_nI, q_put_nI, ne_eq, not_false_eq_true, not_true_eq_false, ↓reduceIte, v0_ltT, v0_ltF, v0_gtT, v0_gtF, v0_leT, v0_leF, v0_geT, v0_geF, v0_eqT, v0_eqF, v0_add, v0_dda, v0_mul, v0_lum, v0_sub, v0_bad, v0_cl]); rw [od, ev_rn, ch_34_3]
  · obtain ⟨hM', o1, o2, _⟩ := ps_oddB (d + 4) X P
    have i := ps_isB (τ := 2) (d + 5) X P (by decide) (by decide)
    obtain ⟨F1, F2, f, p, b1, b2, b3, b4, b5, b6, b7, b8, b9⟩ := id P
    refine ⟨hC, gC, hM', -1, Int64.ofNat 0, ?_, ?_, Or.inr ⟨k, n, o2, J⟩⟩
    · rw [en_187, ht_187_0, ch_187_0]; (try simp +decide (disch := omega) only [ni_bF, nI_clamp, nI_add, pk_mul, dc_ltT, dc_ltF, dc_leT, dc_leF, dc_eqF, dc_neT, dn_eq, dn_ne, dn_lt, dn_ge, si_at, si_c, si_k, q_at_nI, q_put_nI, ne_eq, not_false_eq_true, not_true_eq_false, ↓reduceIte, v0_ltT, v0_ltF, v0_gtT, v0_gtF, v0_leT, v0_leF, v0_geT, v0_geF, v0_eqT, v0_eqF, v0_add, v0_dda, v0_mul, v0_lum, v0_sub, v0_bad, v0_cl, v258_ltT, v258_ltF, v258_gtT, v258_gtF, v258_leT, v258_leF, v258_geT, v258_geF, v258_eqT, v258_eqF, v258_add, v258_dda, v258_mul, v258_lum, v258_sub, v258_bad, v258_cl, b4]); rw [ea_pfailB _ (by rw [b1]; exact b2) b4, ev_rn, ch_187_2]
    · have i' : am_call tb_P (d + 6) 27 [.ref 73, .int 2] (pr_S, hM, gM) = some (some (.int 0), (pr_S, hM, gM)) := i
      rw [en_34, ht_34_0, ch_34_0, i', ev_rs, ch_34_1]; (try simp +decide (disch := omega) only [ni_bF, nI_clamp, nI_add, pk_mul, dc_ltT, dc_ltF, dc_leT, dc_leF, dc_eqF, dc_neT, dn_eq, dn_ne, dn_lt, dn_ge, si_at, si_c, si_k, q_at_nI, q_put_nI, ne_eq, not_false_eq_true, not_true_eq_false, ↓reduceIte, v0_ltT, v0_ltF, v0_gtT, v0_gtF, v0_leT, v0_leF, v0_geT, v0_geF, v0_eqT, v0_eqF, v0_add, v0_dda, v0_mul, v0_lum, v0_sub, v0_bad, v0_cl]); rw [o1, ev_rn, ch_34_3]
theorem sc_up {T T' : Nat → Int32} : ∀ {G : List Nat}, (∀ i, i < G.length → T' i = T i) → sc_G T G → sc_G T' G
  | [], _, h => h
  | x :: G, e, ⟨h1, h2⟩ => ⟨by rw [e G.length (by rw [List.length_cons]; omega)]; exact h1, sc_up (fun i hi => e i (by rw [List.length_cons]; omega)) h2⟩
/-- a NAME comes into scope -/
theorem st_know (d : Nat) {v v' : Int64} {x : Nat} {rC rM : Int32} (hw : w < 190) (S : (ps_O h0 g0 h1 g1 B N M rd hC gC hM gM k o n t w G ∧ 3 * (n + π) ≤ qk B N k ∧ v' = v ∧ rC = nI x ∧ rM = nI x ∧ x < t ∧ w + 1 ≤ 4 + 2 * o) ∨ ps_D h0 g0 h1 g1 B N M rd hC gC hM gM w π) :
    ∃ (hC' : Nat → Nat → Int32) (gC' : Nat → Nat → Int64) (hM' : Nat → Nat → Int32) (gM' : Nat → Nat → Int64), am_call tb_P (d + 1) 200 [.ref 32, .long v, .int rC] (pr_S, hC, gC) = some (none, (pr_S, hC', gC')) ∧ am_call tb_P (d + 1) 32 [.ref 73, .long v', .int rM] (pr_S, hM, gM) = some (none, (pr_S, hM', gM')) ∧ hM' 73 26 = hM 73 26 ∧ ((ps_O h0 g0 h1 g1 B N M rd hC' gC' hM' gM' k o n t (w + 1) (x :: G) ∧ 3 * (n + π) ≤ qk B N k ∧ gw hC hC' n t t D) ∨ ps_D h0 g0 h1 g1 B N M rd hC' gC' hM' gM' (w + 1) π) := by
  rcases S with ⟨P, J, rfl, rfl, rfl, hx, hw4⟩ | ⟨k, n, P, J⟩
  · obtain ⟨F1, F2, p1, p2, p3, p4, p5, p6, p7⟩ := P
    have f0 := p2.1
    have s3 := p2.2.2.1
    have m32 := p3.2.2.2.1
    refine ⟨am_si (am_si hC 34 w (nI x)) 32 3 (nI (w + 1)), am_sl gC 33 w v', am_si (am_si hM 96 w (nI x)) 73 32 (nI (w + 1)), am_sl gM 95 w v', ?_, ?_, by rw [am_si_off (by decide), am_si_ne (by decide)], Or.inl ⟨⟨?_, ?_, ?_⟩, J, ?_⟩⟩
    · rw [en_200, ht_200_0, ch_200_0]; (try simp +decide (disch := omega) only [ni_bF, nI_clamp, nI_add, pk_mul, dc_ltT, dc_ltF, dc_leT, dc_leF, dc_eqF, dc_neT, dn_eq, dn_ne, dn_lt, dn_ge, si_at, si_c, si_k, q_at_nI, q_put_nI, ne_eq, not_false_eq_true, not_true_eq_false, ↓reduceIte, v0_ltT, v0_ltF, v0_gtT, v0_gtF, v0_leT, v0_leF, v0_geT, v0_geF, v0_eqT, v0_eqF, v0_add, v0_dda, v0_mul, v0_lum, v0_sub, v0_bad, v0_cl, v1_ltT, v1_ltF, v1_gtT, v1_gtF, v1_leT, v1_leF, v1_geT, v1_geF, v1_eqT, v1_eqF, v1_add, v1_dda, v1_mul, v1_lum, v1_sub, v1_bad, v1_cl, v84_ltT, v84_ltF, v84_gtT, v84_gtF, v84_leT, v84_leF, v84_geT, v84_geF, v84_eqT, v84_eqF, v84_add, v84_dda, v84_mul, v84_lum, v84_sub, v84_bad, v84_cl, f0, s3]); rw [ht_200_1, ch_200_1]
    · rw [en_32, ht_32_0, ch_32_0]; try simp +decide (disch := omega) only [ni_bF, nI_clamp, nI_add, pk_mul, dc_ltT, dc_ltF, dc_leT, dc_leF, dc_eqF, dc_neT, dn_eq, dn_ne, dn_lt, dn_ge, si_at, si_c, si_k, q_at_nI, q_put_nI, ne_eq, not_false_eq_true, not_true_eq_false, ↓reduceIte, v0_ltT, v0_ltF, v0_gtT, v0_gtF, v0_leT, v0_leF, v0_geT, v0_geF, v0_eqT, v0_eqF, v0_add, v0_dda, v0_mul, v0_lum, v0_sub, v0_bad, v0_cl, v1_ltT, v1_ltF, v1_gtT, v1_gtF, v1_leT, v1_leF, v1_geT, v1_geF, v1_eqT, v1_eqF, v1_add, v1_dda, v1_mul, v1_lum, v1_sub, v1_bad, v1_cl, m32]
    · exact ⟨fun c q1 q2 q3 q4 q5 => by rw [am_si_ne q4, am_si_ne q5]; exact F1.1 c q1 q2 q3 q4 q5, by rw [am_si_ne (by decide), am_si_ne (by decide)]; exact F1.2.1, by rw [am_si_ne (by decide), am_si_ne (by decide)]; exact F1.2.2.1, fun c q1 q2 => by rw [am_sl_ne q2]; exact F1.2.2.2 c q1 q2⟩
    · exact ⟨fun c q1 q2 q3 q4 q5 => by rw [am_si_ne q1, am_si_ne q5]; exact F2.1 c q1 q2 q3 q4 q5, fun x a1 a2 a3 a4 a5 a6 a7 => by rw [am_si_off (by omega), am_si_ne (by decide)]; exact F2.2.1 x a1 a2 a3 a4 a5 a6 a7, fun c q => by rw [am_sl_ne q]; exact F2.2.2.1 c q, fun c i a1 a2 a3 => by rw [am_si_ne (by omega), am_si_ne (by omega)]; exact F2.2.2.2.1 c i a1 a2 a3, fun i hi => by rw [am_si_ne (by decide), am_si_ne (by decide)]; exact F2.2.2.2.2.1 i hi, fun c i a1 a2 a3 => by rw [am_si_ne (by omega), am_si_ne (by omega)]; exact F2.2.2.2.2.2 c i a1 a2 a3⟩
    · refine ⟨?_, ⟨?_, ?_, am_si_at _ _ _ _, by rw [am_si_off (by decide), am_si_ne (by decide)]; exact p2.2.2.2⟩, ⟨?_, ?_, ?_, am_si_at _ _ _ _, ?_⟩, ⟨?_, ⟨?_, ?_⟩, fun i hi => ?_, fun y hy => ?_⟩, ?_, ?_, p7.1, by omega⟩
      · unfold at_C at p1 ⊢
        rw [am_si_ne (by decide), am_si_ne (by decide), am_sl_ne (by decide)]; exact p1
      · rw [am_si_off (by decide), am_si_ne (by decide)]; exact p2.1
      · rw [am_si_off (by decide), am_si_ne (by decide)]; exact p2.2.1
      · rw [am_si_off (by decide), am_si_ne (by decide)]; exact p3.1
      · rw [am_si_off (by decide), am_si_ne (by decide)]; exact p3.2.1
      · rw [am_si_off (by decide), am_si_ne (by decide)]; exact p3.2.2.1
      · rw [am_si_off (by decide), am_si_ne (by decide)]; exact p3.2.2.2.2
      · rw [List.length_cons, p4.1]
      · rw [am_si_ne (by decide), p4.1, am_si_at]
      · refine sc_up (fun i hi => ?_) p4.2.1
        rw [p4.1] at hi
        rw [am_si_ne (by decide), am_si_off (by omega)]
      · by_cases e : i = w
        · subst e
          rw [am_si_ne (by decide), am_si_at, am_si_ne (by decide), am_si_at, sl_at, sl_at]
          exact ⟨rfl, rfl⟩
        · have q := p4.2.2.1 i (by omega)
          rw [am_si_ne (by decide), am_si_off (by omega), am_si_ne (by decide), am_si_off (by omega), am_sl_self, am_sl_self]
          simp only [vp_updL, if_neg e]
          exact q
      · rcases List.mem_cons.mp hy with e | e
        · omega
        · exact p4.2.2.2 y e
      · simp (disch := decide) only [am_si_ne]; exact p5
      · unfold nr rp_N at p6 ⊢
        simp (disch := decide) only [am_si_ne]
        exact p6
    · exact ⟨fun c i q1 q2 _ => by rw [am_si_ne (by omega), am_si_ne (by omega)], fun i q1 q2 => absurd q1 (by omega), fun c i q1 q2 _ => by rw [am_si_ne (by omega), am_si_ne (by omega)]⟩
  · obtain ⟨F1, F2, f, p, b1, b2, b3, b4, b5, b6, b7, b8, b9⟩ := P
    refine ⟨hC, gC, am_si (am_si hM 96 w rM) 73 32 (nI (w + 1)), am_sl gM 95 w v', ?_, ?_, by rw [am_si_off (by decide), am_si_ne (by decide)], Or.inr ⟨k, n, ⟨F1, ?_, f, p, b1, b2, b3, b4, ?_, b6, ?_, am_si_at _ _ _ _, ?_⟩, J⟩⟩
    · rw [en_200, ht_200_0, ch_200_0, if_pos (by rw [b1]; exact b2), ht_200_1, ch_200_1]
    · rw [en_32, ht_32_0, ch_32_0]; try simp +decide (disch := omega) only [ni_bF, nI_clamp, nI_add, pk_mul, dc_ltT, dc_ltF, dc_leT, dc_leF, dc_eqF, dc_neT, dn_eq, dn_ne, dn_lt, dn_ge, si_at, si_c, si_k, q_at_nI, q_put_nI, ne_eq, not_false_eq_true, not_true_eq_false, ↓reduceIte, v0_ltT, v0_ltF, v0_gtT, v0_gtF, v0_leT, v0_leF, v0_geT, v0_geF, v0_eqT, v0_eqF, v0_add, v0_dda, v0_mul, v0_lum, v0_sub, v0_bad, v0_cl, v1_ltT, v1_ltF, v1_gtT, v1_gtF, v1_leT, v1_leF, v1_geT, v1_geF, v1_eqT, v1_eqF, v1_add, v1_dda, v1_mul, v1_lum, v1_sub, v1_bad, v1_cl, b8]
    · exact ⟨fun c q1 q2 q3 q4 q5 => by rw [am_si_ne q1, am_si_ne q5]; exact F2.1 c q1 q2 q3 q4 q5, fun x a1 a2 a3 a4 a5 a6 a7 => by rw [am_si_off (by omega), am_si_ne (by decide)]; exact F2.2.1 x a1 a2 a3 a4 a5 a6 a7, fun c q => by rw [am_sl_ne q]; exact F2.2.2.1 c q, fun c i a1 a2 a3 => by rw [am_si_ne (by omega), am_si_ne (by omega)]; exact F2.2.2.2.1 c i a1 a2 a3, fun i hi => by rw [am_si_ne (by decide), am_si_ne (by decide)]; exact F2.2.2.2.2.1 i hi, fun c i a1 a2 a3 => by rw [am_si_ne (by omega), am_si_ne (by omega)]; exact F2.2.2.2.2.2 c i a1 a2 a3⟩
    · rw [am_si_off (by decide), am_si_ne (by decide)]; exact b5
    · rw [am_si_off (by decide), am_si_ne (by decide)]; exact b7
    · rw [am_si_off (by decide), am_si_ne (by decide), am_si_off (by decide), am_si_ne (by decide)]; exact b9
end OR
