/-! both parsers side by side: let -/
section LE
variable {h0 h1 hC hM : Nat → Nat → Int32} {g0 g1 gC gM : Nat → Nat → Int64} {B : Nat → Nat} {N M rd k o n t w π D e s : Nat} {G : List Nat}
theorem wfx_fr {h h' : Nat → Nat → Int32} {f g x s a b : Nat} (w : wfx h f g x s a b G) (e : ∀ c, c ≠ 1 → c ≠ 32 → h' c = h c) : wfx h' f g x s a b G := wfx_cg (n := x + 1) w (by omega) (fun c i q1 q2 _ => by rw [e c (by omega) (by omega)])
theorem wfx_gw {h h' : Nat → Nat → Int32} {f g x s a b n' t' t'' : Nat} (w : wfx h f g x s a b G) (hx : x < n') (e : gw h h' n' t' t'' D) : wfx h' f g x s a b G := wfx_cg w hx e.2.2
theorem gw_xn {h : Nat → Nat → Int32} {u v kd m a b c : Int32} : gw h (xn (am_si (am_si h 32 2 u) 32 3 v) n kd m a b c) n t t D := ⟨fun c i q1 q2 _ => by rw [xn_c (by omega) (by omega), am_si_ne (by omega), am_si_ne (by omega)], fun i q1 q2 => absurd q1 (by omega), fun c i q1 q2 q3 => by rw [xn_i (by omega) (by omega), am_si_ne (by omega), am_si_ne (by omega)]⟩
theorem ct_let (X : px h0 h1 g1 B N M rd) (hD : h0 3 0 = nI (D + 1)) (hDm : h1 85 rd = nI D) (IH : o < 40 → exC h0 g0 h1 g1 B N M rd D (o + 1) (e + 10)) (P : ps_O h0 g0 h1 g1 B N M rd hC gC hM gM k o n t w G) (J : 3 * (n + π) ≤ qk B N k) (c : tok B N (tp B N k) = 4) : ∃ (rC rM : Int32) (hC' : Nat → Nat → Int32) (gC' : Nat → Nat → Int64) (hM' : Nat → Nat → Int32) (gM' : Nat → Nat → Int64), am_call tb_P (e + 11) 183 [.ref 32] (pr_S, hC, gC) = some (some (.int rC), (pr_S, hC', gC')) ∧ am_call tb_P (e + 11) 37 [.ref 73] (pr_S, hM, gM) = some (some (.int rM), (pr_S, hM', gM')) ∧ ps_R h0 g0 h1 g1 B N M rd D hC n t w o π (5 * (40 - o) + 5) (40 - o) G rC rM hC' gC' hM' gM' := by
  have hw4 := P.2.2.2.2.2.2.2.2.2
  have hGl := P.2.2.2.2.2.1.1
  have ho4 := P.2.2.2.2.2.2.2.2.1
  have pa3 := P.2.2.2.1.2.2.1
  have wlt : w < 190 := by omega
  obtain ⟨hC1, hM1, hCp, gCp, hMp, a1, a2, a3, a4, a5, S0⟩ := sx_begin (D := D) (e := e) X P J c (by decide)
  obtain ⟨hC2, gC2, hM2, r2, v2, b1, b2, S1⟩ := sx_name (kd := 1) (e + 3) X hD hDm (by decide) S0
  obtain ⟨hC3, gC3, hM3, c1, c2, c3, c4, S2⟩ := sx_expc (e + 4) 61 X (by decide) (by decide) S1
  obtain ⟨r4, m4, hC4, gC4, hM4, gM4, d1, d2, S3⟩ := sx_ex X IH S2
  obtain ⟨hC5, gC5, hM5, f1, f2, f3, f4, S4⟩ := sx_expc (e + 4) 5 X (by decide) (by decide) S3
  have m32 := sx_32 S4
  have S4' := sx_imp (Ψ := fun _ n4 t4 G' => G' = G ∧ r2 = nI t ∧ hM2 73 33 = nI t ∧ v2 = gCp 1 3 ∧ n < n4 ∧ t + 1 ≤ t4 ∧ r4 = nI (n4 - 1) ∧ m4 = nI (2900 * rd + (n4 - 1)) ∧ wfx hC5 (5 * (41 - (o + 1))) (40 - (o + 1)) (n4 - 1) n (t + 1) t4 G ∧ gw hC hC5 n t t4 D ∧ hC5 9 t = 1) S4 (by
    rintro _ n4 t4 G' _ ⟨_, _, n3, t3, ⟨_, _, t2, rfl, ⟨rfl, rfl, rfl, u0⟩, u1, u2, u3, u4, u5⟩, x1, x2, x3, x4, x5, x6, x7⟩
    refine ⟨rfl, u1, u2, u3, x1, x2, x3, x4, wfx_fr x5 f3, gw_t (gw_t (gw_t u0 u4 (Nat.le_refl _) (Nat.le_refl _)) (gw_t (gw_0 c3) x6 (Nat.le_refl _) (Nat.le_refl _)) (Nat.le_refl _) (by omega)) (gw_0 f3) (Nat.le_refl _) (by omega), ?_⟩
    rw [f3 _ (by decide) (by decide), x6.1 _ _ (by decide) (by decide) (by omega), c3 _ (by decide) (by decide)]
    exact u5)
  obtain ⟨hC6, gC6, hM6, gM6, k1, k2, k3, S5⟩ := sx_know (D := D) (v := gCp 1 3) (v' := v2) (rC := r2) (rM := hM2 73 33) (e + 9) wlt S4' (by
    rintro _ n4 t4 G' ⟨_, u1, u2, u3, _, u5, _⟩
    exact ⟨u3, u2.trans u1.symm, t, u1, by omega, by omega⟩)
  obtain ⟨r7, m7, hC7, gC7, hM7, gM7, l1, l2, S6⟩ := sx_exM X IH S5
  have S6' := sx_imp (Ψ := fun k7 n7 t7 G' => ∃ n5 t5, G' = [t] ++ G ∧ r2 = nI t ∧ hM2 73 33 = nI t ∧ n < n5 ∧ n5 < n7 ∧ t + 1 ≤ t5 ∧ t5 ≤ t7 ∧ r4 = nI (n5 - 1) ∧ m4 = nI (2900 * rd + (n5 - 1)) ∧ r7 = nI (n7 - 1) ∧ m7 = nI (2900 * rd + (n7 - 1)) ∧ wfx hC7 (5 * (41 - (o + 1))) (40 - (o + 1)) (n5 - 1) n (t + 1) t5 G ∧ wfx hC7 (5 * (41 - (o + 1))) (40 - (o + 1)) (n7 - 1) n5 t5 t7 (t :: G) ∧ gw hC hC7 n t t7 D ∧ hC7 9 t = 1 ∧ ga B N k7 ≠ 3 ∧ o < 40) S6 (by
    rintro k7 n7 t7 G' Pq ⟨_, n5, t5, ⟨x, G1, rfl, u1, u2, ⟨rfl, y1, y2, y3, y4, y5, y6, y7, y8, y9, y10⟩, u4⟩, x1, x2, x3, x4, x5, x6, x7⟩
    have t2 : t7 ≤ 200 := Pq.2.2.2.2.2.2.1.2.2.1
    have : x = t := (nI_eq (by omega) (by omega)).mp (u1.symm.trans y1)
    subst this
    have gg := gw_t u4 x6 (Nat.le_refl _) (Nat.le_refl _)
    exact ⟨n5, t5, rfl, y1, y2, y4, x1, y5, x2, y6, y7, x3, x4, wfx_gw y8 (by omega) gg, x5, gw_t y9 gg (by omega) (by omega), by rw [gg.1 _ _ (by decide) (by decide) (by omega)]; exact y10, x7, by have := Pq.2.2.2.2.2.2.2.2.1; omega⟩)
  obtain ⟨p1, S7⟩ := sx_leave (e + 9) (j := 1) (w0 := w) rfl S6' (by
    rintro k7 n7 t7 G' ⟨n5, t5, z, _⟩
    exact ⟨_, G, z, hGl, hw4⟩)
  obtain ⟨r9, m9, hC9, hM9, q1, q2, q3, S8⟩ := sx_node (kd := 5) (m := r2) (a := r4) (b := r7) (c := -1) (wh := 4) (a' := m4) (b' := m7) (c' := hM2 73 33) (e + 8) X S7 (by
    rintro k7 n7 t7 G0 ⟨Y, ⟨n5, t5, z, y1, y2, y3, y4, y5, y6, y7, y8, y9, y10, y11, y12, y13, y14, y15, y16⟩, _⟩
    rw [y7, y8, y9, y10]
    exact ⟨by rw [nI_add], by rw [nI_add], Or.inl ⟨rfl, rfl, y2.trans y1.symm, t, y1, by omega, by rw [am_si_ne (by decide), am_si_ne (by decide)]; exact y14⟩⟩)
  refine ⟨r9, m9, hC9, gC7, hM9, gM7, ?_, ?_, ?_⟩
  · have e61 : am_call tb_P (e + 10) 178 [.ref 32, .int 61] (pr_S, hC2, gC2) = some (none, (pr_S, hC3, gC3)) := c1
    have e5 : am_call tb_P (e + 10) 178 [.ref 32, .int 261] (pr_S, hC4, gC4) = some (none, (pr_S, hC5, gC5)) := f1
    rw [en_183, ht_183_0, ch_183_0, a1, ev_rn, ch_183_1, a3, ev_rn, ch_183_2, b1, ev_rs, ch_183_3, e61, ev_rn, ch_183_4, d1, ev_rs, ch_183_5, e5, ev_rn, ch_183_6, k1, ev_rn, ch_183_7, l1, ev_rs, ch_183_8, pa3, p1, ev_rn, ch_183_9, q1 rfl, ev_rs, ch_183_10]
  · have e61 : am_call tb_P (e + 10) 29 [.ref 73, .int 61] (pr_S, hM2, gM) = some (none, (pr_S, hM3, gM)) := c2
    have e5 : am_call tb_P (e + 10) 29 [.ref 73, .int 5] (pr_S, hM4, gM4) = some (none, (pr_S, hM5, gM4)) := f2
    rcases a5 with ⟨z1, z2⟩ | ⟨z1, z2⟩
    · subst z2
      rcases l2 with ⟨y1, y2⟩ | ⟨y1, y2, y3, y4⟩
      · rw [en_37, ht_37_0, ch_37_0, a2, ev_rn, ch_37_1]; (try simp +decide (disch := omega) only [ni_bF, nI_clamp, nI_add, pk_mul, dc_ltT, dc_ltF, dc_leT, dc_leF, dc_eqF, dc_neT, dn_eq, dn_ne, dn_lt, dn_ge, si_at, si_c, si_k, q_at_nI, q_put_nI, ne_eq, not_false_eq_true, not_true_eq_false, ↓reduceIte, v0_ltT, v0_ltF, v0_gtT, v0_gtF, v0_leT, v0_leF, v0_geT, v0_geF, v0_eqT, v0_eqF, v0_add, v0_dda, v0_mul, v0_lum, v0_sub, v0_bad, v0_cl, a4, m32]); rw [if_neg (fun q => q z1), sk_37_1_21, ht_37_2, ch_37_3]; (try simp +decide (disch := omega) only [ni_bF, nI_clamp, nI_add, pk_mul, dc_ltT, dc_ltF, dc_leT, dc_leF, dc_eqF, dc_neT, dn_eq, dn_ne, dn_lt, dn_ge, si_at, si_c, si_k, q_at_nI, q_put_nI, ne_eq, not_false_eq_true, not_true_eq_false, ↓reduceIte, v0_ltT, v0_ltF, v0_gtT, v0_gtF, v0_leT, v0_leF, v0_geT, v0_geF, v0_eqT, v0_eqF, v0_add, v0_dda, v0_mul, v0_lum, v0_sub, v0_bad, v0_cl, a4, m32]); rw [nI_1, b2, ev_rs, ch_37_4, e61, ev_rn, ch_37_5, d2, ev_rs, ch_37_6, e5, ev_rn, ch_37_7, k2, ev_rn, ch_37_8]; (try simp +decide (disch := omega) only [ni_bF, nI_clamp, nI_add, pk_mul, dc_ltT, dc_ltF, dc_leT, dc_leF, dc_eqF, dc_neT, dn_eq, dn_ne, dn_lt, dn_ge, si_at, si_c, si_k, q_at_nI, q_put_nI, ne_eq, not_false_eq_true, not_true_eq_false, ↓reduceIte, v0_ltT, v0_ltF, v0_gtT, v0_gtF, v0_leT, v0_leF, v0_geT, v0_geF, v0_eqT, v0_eqF, v0_add, v0_dda, v0_mul, v0_lum, v0_sub, v0_bad, v0_cl, a4, m32]); rw [if_neg (fun q => q y1), y2, ev_rs, ch_37_10, sk_37_3_81, ht_37_4, ch_37_11]; (try simp +decide (disch := omega) only [ni_bF, nI_clamp, nI_add, pk_mul, dc_ltT, dc_ltF, dc_leT, dc_leF, dc_eqF, dc_neT, dn_eq, dn_ne, dn_lt, dn_ge, si_at, si_c, si_k, q_at_nI, q_put_nI, ne_eq, not_false_eq_true, not_true_eq_false, ↓reduceIte, v0_ltT, v0_ltF, v0_gtT, v0_gtF, v0_leT, v0_leF, v0_geT, v0_geF, v0_eqT, v0_eqF, v0_add, v0_dda, v0_mul, v0_lum, v0_sub, v0_bad, v0_cl, v1_ltT, v1_ltF, v1_gtT, v1_gtF, v1_leT, v1_leF, v1_geT, v1_geF, v1_eqT, v1_eqF, v1_add, v1_dda, v1_mul, v1_lum, v1_sub, v1_bad, v1_cl, a4, m32]); rw [q3, ev_rs, ch_37_12]
      · subst y2 y3 y4
        rw [en_37, ht_37_0, ch_37_0, a2, ev_rn, ch_37_1]; (try simp +decide (disch := omega) only [ni_bF, nI_clamp, nI_add, pk_mul, dc_ltT, dc_ltF, dc_leT, dc_leF, dc_eqF, dc_neT, dn_eq, dn_ne, dn_lt, dn_ge, si_at, si_c, si_k, q_at_nI, q_put_nI, ne_eq, not_false_eq_true, not_true_eq_false, ↓reduceIte, v0_ltT, v0_ltF, v0_gtT, v0_gtF, v0_leT, v0_leF, v0_geT, v0_geF, v0_eqT, v0_eqF, v0_add, v0_dda, v0_mul, v0_lum, v0_sub, v0_bad, v0_cl, a4, m32]); rw [if_neg (fun q => q z1), sk_37_1_21, ht_37_2, ch_37_3]; (try simp +decide (disch := omega) only [ni_bF, nI_clamp, nI_add, pk_mul, dc_ltT, dc_ltF, dc_leT, dc_leF, dc_eqF, dc_neT, dn_eq, dn_ne, dn_lt, dn_ge, si_at, si_c, si_k, q_at_nI, q_put_nI, ne_eq, not_false_eq_true, not_true_eq_false, ↓reduceIte, v0_ltT, v0_ltF, v0_gtT, v0_gtF, v0_leT, v0_leF, v0_geT, v0_geF, v0_eqT, v0_eqF, v0_add, v0_dda, v0_mul, v0_lum, v0_sub, v0_bad, v0_cl, a4, m32]); rw [nI_1, b2, ev_rs, ch_37_4, e61, ev_rn, ch_37_5, d2, ev_rs, ch_37_6, e5, ev_rn, ch_37_7, k2, ev_rn, ch_37_8]; (try simp +decide (disch := omega) only [ni_bF, nI_clamp, nI_add, pk_mul, dc_ltT, dc_ltF, dc_leT, dc_leF, dc_eqF, dc_neT, dn_eq, dn_ne, dn_lt, dn_ge, si_at, si_c, si_k, q_at_nI, q_put_nI, ne_eq, not_false_eq_true, not_true_eq_false, ↓reduceIte, v0_ltT, v0_ltF, v0_gtT, v0_gtF, v0_leT, v0_leF, v0_geT, v0_geF, v0_eqT, v0_eqF, v0_add, v0_dda, v0_mul, v0_lum, v0_sub, v0_bad, v0_cl, a4, m32]); rw [if_pos y1, ht_37_3, ch_37_9, ht_37_4, ch_37_11]; (try simp +decide (disch := omega) only [ni_bF, nI_clamp, nI_add, pk_mul, dc_ltT, dc_ltF, dc_leT, dc_leF, dc_eqF, dc_neT, dn_eq, dn_ne, dn_lt, dn_ge, si_at, si_c, si_k, q_at_nI, q_put_nI, ne_eq, not_false_eq_true, not_true_eq_false, ↓reduceIte, v0_ltT, v0_ltF, v0_gtT, v0_gtF, v0_leT, v0_leF, v0_geT, v0_geF, v0_eqT, v0_eqF, v0_add, v0_dda, v0_mul, v0_lum, v0_sub, v0_bad, v0_cl, v1_ltT, v1_ltF, v1_gtT, v1_gtF, v1_leT, v1_leF, v1_geT, v1_geF, v1_eqT, v1_eqF, v1_add, v1_dda, v1_mul, v1_lum, v1_sub, v1_bad, v1_cl, a4, m32]); rw [q3, ev_rs, ch_37_12]
    · subst z2
      have i0 : am_si hMp 73 6 (nI (k + 0)) = hMp := si_id a4
      rcases l2 with ⟨y1, y2⟩ | ⟨y1, y2, y3, y4⟩
      · rw [en_37, ht_37_0, ch_37_0, a2, ev_rn, ch_37_1]; (try simp +decide (disch := omega) only [ni_bF, nI_clamp, nI_add, pk_mul, dc_ltT, dc_ltF, dc_leT, dc_leF, dc_eqF, dc_neT, dn_eq, dn_ne, dn_lt, dn_ge, si_at, si_c, si_k, q_at_nI, q_put_nI, ne_eq, not_false_eq_true, not_true_eq_false, ↓reduceIte, v0_ltT, v0_ltF, v0_gtT, v0_gtF, v0_leT, v0_leF, v0_geT, v0_geF, v0_eqT, v0_eqF, v0_add, v0_dda, v0_mul, v0_lum, v0_sub, v0_bad, v0_cl, a4, m32]); rw [if_pos z1, ht_37_1, ch_37_2, ht_37_2, ch_37_3]; (try simp +decide (disch := omega) only [ni_bF, nI_clamp, nI_add, pk_mul, dc_ltT, dc_ltF, dc_leT, dc_leF, dc_eqF, dc_neT, dn_eq, dn_ne, dn_lt, dn_ge, si_at, si_c, si_k, q_at_nI, q_put_nI, ne_eq, not_false_eq_true, not_true_eq_false, ↓reduceIte, v0_ltT, v0_ltF, v0_gtT, v0_gtF, v0_leT, v0_leF, v0_geT, v0_geF, v0_eqT, v0_eqF, v0_add, v0_dda, v0_mul, v0_lum, v0_sub, v0_bad, v0_cl, a4, m32]); rw [i0, b2, ev_rs, ch_37_4, e61, ev_rn, ch_37_5, d2, ev_rs, ch_37_6, e5, ev_rn, ch_37_7, k2, ev_rn, ch_37_8]; (try simp +decide (disch := omega) only [ni_bF, nI_clamp, nI_add, pk_mul, dc_ltT, dc_ltF, dc_leT, dc_leF, dc_eqF, dc_neT, dn_eq, dn_ne, dn_lt, dn_ge, si_at, si_c, si_k, q_at_nI, q_put_nI, ne_eq, not_false_eq_true, not_true_eq_false, ↓reduceIte, v0_ltT, v0_ltF, v0_gtT, v0_gtF, v0_leT, v0_leF, v0_geT, v0_geF, v0_eqT, v0_eqF, v0_add, v0_dda, v0_mul, v0_lum, v0_sub, v0_bad, v0_cl, a4, m32]); rw [if_neg (fun q => q y1), y2, ev_rs, ch_37_10, sk_37_3_81, ht_37_4, ch_37_11]; (try simp +decide (disch := omega) only [ni_bF, nI_clamp, nI_add, pk_mul, dc_ltT, dc_ltF, dc_leT, dc_leF, dc_eqF, dc_neT, dn_eq, dn_ne, dn_lt, dn_ge, si_at, si_c, si_k, q_at_nI, q_put_nI, ne_eq, not_false_eq_true, not_true_eq_false, ↓reduceIte, v0_ltT, v0_ltF, v0_gtT, v0_gtF, v0_leT, v0_leF, v0_geT, v0_geF, v0_eqT, v0_eqF, v0_add, v0_dda, v0_mul, v0_lum, v0_sub, v0_bad, v0_cl, v1_ltT, v1_ltF, v1_gtT, v1_gtF, v1_leT, v1_leF, v1_geT, v1_geF, v1_eqT, v1_eqF, v1_add, v1_dda, v1_mul, v1_lum, v1_sub, v1_bad, v1_cl, a4, m32]); rw [q3, ev_rs, ch_37_12]
      · subst y2 y3 y4
        rw [en_37, ht_37_0, ch_37_0, a2, ev_rn, ch_37_1]; (try simp +decide (disch := omega) only [ni_bF, nI_clamp, nI_add, pk_mul, dc_ltT, dc_ltF, dc_leT, dc_leF, dc_eqF, dc_neT, dn_eq, dn_ne, dn_lt, dn_ge, si_at, si_c, si_k, q_at_nI, q_put_nI, ne_eq, not_false_eq_true, not_true_eq_false, ↓reduceIte, v0_ltT, v0_ltF, v0_gtT, v0_gtF, v0_leT, v0_leF, v0_geT, v0_geF, v0_eqT, v0_eqF, v0_add, v0_dda, v0_mul, v0_lum, v0_sub, v0_bad, v0_cl, a4, m32]); rw [if_pos z1, ht_37_1, ch_37_2, ht_37_2, ch_37_3]; (try simp +decide (disch := omega) only [ni_bF, nI_clamp, nI_add, pk_mul, dc_ltT, dc_ltF, dc_leT, dc_leF, dc_eqF, dc_neT, dn_eq, dn_ne, dn_lt, dn_ge, si_at, si_c, si_k, q_at_nI, q_put_nI, ne_eq, not_false_eq_true, not_true_eq_false, ↓reduceIte, v0_ltT, v0_ltF, v0_gtT, v0_gtF, v0_leT, v0_leF, v0_geT, v0_geF, v0_eqT, v0_eqF, v0_add, v0_dda, v0_mul, v0_lum, v0_sub, v0_bad, v0_cl, a4, m32]); rw [i0, b2, ev_rs, ch_37_4, e61, ev_rn, ch_37_5, d2, ev_rs, ch_37_6, e5, ev_rn, ch_37_7, k2, ev_rn, ch_37_8]; (try simp +decide (disch := omega) only [ni_bF, nI_clamp, nI_add, pk_mul, dc_ltT, dc_ltF, dc_leT, dc_leF, dc_eqF, dc_neT, dn_eq, dn_ne, dn_lt, dn_ge, si_at, si_c, si_k, q_at_nI, q_put_nI, ne_eq, not_false_eq_true, not_true_eq_false, ↓reduceIte, v0_ltT, v0_ltF, v0_gtT, v0_gtF, v0_leT, v0_leF, v0_geT, v0_geF, v0_eqT, v0_eqF, v0_add, v0_dda, v0_mul, v0_lum, v0_sub, v0_bad, v0_cl, a4, m32]); rw [if_pos y1, ht_37_3, ch_37_9, ht_37_4, ch_37_11]; (try simp +decide (disch := omega) only [ni_bF, nI_clamp, nI_add, pk_mul, dc_ltT, dc_ltF, dc_leT, dc_leF, dc_eqF, dc_neT, dn_eq, dn_ne, dn_lt, dn_ge, si_at, si_c, si_k, q_at_nI, q_put_nI, ne_eq, not_false_eq_true, not_true_eq_false, ↓reduceIte, v0_ltT, v0_ltF, v0_gtT, v0_gtF, v0_leT, v0_leF, v0_geT, v0_geF, v0_eqT, v0_eqF, v0_add, v0_dda, v0_mul, v0_lum, v0_sub, v0_bad, v0_cl, v1_ltT, v1_ltF, v1_gtT, v1_gtF, v1_leT, v1_leF, v1_geT, v1_geF, v1_eqT, v1_eqF, v1_add, v1_dda, v1_mul, v1_lum, v1_sub, v1_bad, v1_cl, a4, m32]); rw [q3, ev_rs, ch_37_12]
  · rcases S8 with ⟨k9, n9, t9, G0, P9, J9, n8, rfl, ⟨Y, ⟨n5, t5, z, y1, y2, y3, y4, y5, y6, y7, y8, y9, y10, y11, y12, y13, y14, y15, y16⟩, hl⟩, e1, e2, e3⟩ | Db
    · obtain ⟨_, rfl⟩ := List.append_inj' z (by rw [hl, hGl])
      refine Or.inl ⟨k9, n8 + 1, t9, P9, J9, by omega, by omega, e1, e2, ?_, ?_, y15⟩
      · show wfx hC9 _ _ n8 n t t9 G0
        have xa := xn_at (hC := am_si (am_si hC7 32 2 (hC7 32 2 - 1)) 32 3 (nI w)) (n := n8) 5 r2 r4 r7 (-1)
        have gx : gw hC7 hC9 n8 t9 t9 D := by rw [e3]; exact gw_xn
        rw [← e3] at xa
        have w1 := wfx_gw y11 (by omega) gx
        have w2 := wfx_gw y12 (by omega) gx
        refine Or.inr (Or.inr (Or.inr (Or.inr (Or.inr (Or.inl ⟨xa.1, 5 * (41 - (o + 1)), 40 - (o + 1), n5 - 1, n8 - 1, t5, by omega, by omega, ?_, by rw [xa.2.2.1, y7], by rw [xa.2.2.2.1, y9], by omega, wf_le (show n5 - 1 + 1 ≤ n8 by omega) w1, ?_⟩)))))
        · unfold mk
          rw [xa.1, if_neg (by decide), xa.2.1, y1]
        · rw [show n5 - 1 + 1 = n5 by omega]
          exact wf_le (show n8 - 1 + 1 ≤ n8 by omega) w2
      · have gx : gw hC7 hC9 n8 t9 t9 D := by rw [e3]; exact gw_xn
        exact gw_t y13 gx (by omega) (by omega)
    · exact Or.inr Db
end LE
