/-! both parsers side by side: if, split -/
section IF
variable {h0 h1 hC hM : Nat → Nat → Int32} {g0 g1 gC gM : Nat → Nat → Int64} {B : Nat → Nat} {N M rd k o n t w π D e s : Nat} {G : List Nat} {Φ : Nat → Nat → Nat → List Nat → Prop}
theorem sx_close (d : Nat) (S : sx h0 g0 h1 g1 B N M rd (o + 1) w π Φ hC gC hM gM) (q : ∀ k n t G, Φ k n t G → w ≤ 4 + 2 * o) : am_call tb_P (d + 1) 197 [.ref 32, .int (hC 32 3)] (pr_S, hC, gC) = some (none, (pr_S, am_si (am_si hC 32 2 (hC 32 2 - 1)) 32 3 (hC 32 3), gC)) ∧ sx h0 g0 h1 g1 B N M rd o w π Φ (am_si (am_si hC 32 2 (hC 32 2 - 1)) 32 3 (hC 32 3)) gC (am_si hM 73 29 (hM 73 29 - 1)) gM := by
  refine ⟨ea_leave d, ?_⟩
  rcases S with ⟨k, n, t, G, P, J, z⟩ | ⟨k, n', P, J⟩
  · obtain ⟨F1, F2, P'⟩ := id P
    have e2 := P'.2.1.2.1
    have e3 := P'.2.1.2.2.1
    have e29 := P'.2.2.1.2.2.1
    have ho := P'.2.2.2.2.2.2.1
    rw [e2, e3, e29, nI_pred]
    exact Or.inl ⟨k, n, t, G, po_leave (Y := []) P P'.2.2.2.1.1 (fun c q => by rw [am_si_ne q, am_si_ne q]) (fun x q => by rw [am_si_off (by omega), am_si_off (by omega)]) (by rw [am_si_off (by decide), am_si_at]) (am_si_at _ _ _ _) (fun c q => by rw [am_si_ne q]) (fun x q1 q2 => by rw [am_si_off (by omega)]) (am_si_at _ _ _ _) (by rw [am_si_off (by decide)]; exact P'.2.2.1.2.2.2.1) (by omega) (q _ _ _ _ z), J, z⟩
  · refine Or.inr ⟨k, n', pb_cg P (fun c q => by rw [am_si_ne q, am_si_ne q]) (by rw [am_si_off (by decide), am_si_off (by decide)]) (by rw [am_si_off (by decide), am_si_off (by decide)]) (fun c q => by rw [am_si_ne q]) (fun x q1 _ q3 => by rw [am_si_off (by omega)]) ?_, J⟩
    obtain ⟨F1, F2, f, p, b1, b2, b3, b4, b5, b6, b7, b8, b9⟩ := P
    rw [am_si_off (by decide)]; exact b8
theorem ct_if (X : px h0 h1 g1 B N M rd) (IH : o < 40 → exC h0 g0 h1 g1 B N M rd D (o + 1) (e + 10)) (P : ps_O h0 g0 h1 g1 B N M rd hC gC hM gM k o n t w G) (J : 3 * (n + π) ≤ qk B N k) (c : tok B N (tp B N k) = 6) : ∃ (rC rM : Int32) (hC' : Nat → Nat → Int32) (gC' : Nat → Nat → Int64) (hM' : Nat → Nat → Int32) (gM' : Nat → Nat → Int64), am_call tb_P (e + 11) 184 [.ref 32] (pr_S, hC, gC) = some (some (.int rC), (pr_S, hC', gC')) ∧ am_call tb_P (e + 11) 35 [.ref 73] (pr_S, hM, gM) = some (some (.int rM), (pr_S, hM', gM')) ∧ ps_R h0 g0 h1 g1 B N M rd D hC n t w o π (5 * (40 - o) + 5) (40 - o) G rC rM hC' gC' hM' gM' := by
  have hw4 := P.2.2.2.2.2.2.2.2.2
  have hGl := P.2.2.2.2.2.1.1
  have e6 := P.2.2.2.2.1.1
  have e26 := P.2.2.2.2.1.2.1
  have hk : k < 2001 := by have := X.2.2.2.1; have := P.2.2.1.2.2; omega
  have tm : hM 75 k = 6 := (px_t X P.2.1 P.2.2.1.2.2).1.trans (by rw [c]; rfl)
  obtain ⟨hC1, hM1, hCp, gCp, hMp, a1, a2, a3, a4, a5, S0⟩ := sx_begin (D := D) (e := e) X P J c (by decide)
  obtain ⟨r1, m1, hC2, gC2, hM2, gM2, b1, b2, S1⟩ := sx_ex X IH S0
  obtain ⟨hC3, gC3, hM3, c1, c2, c3, c4, S2⟩ := sx_expc (e + 4) 7 X (by decide) (by decide) S1
  obtain ⟨r4, m4, hC4, gC4, hM4, gM4, d1, d2, S3⟩ := sx_ex X IH S2
  obtain ⟨hC5, gC5, hM5, f1, f2, f3, f4, S4⟩ := sx_expc (e + 4) 8 X (by decide) (by decide) S3
  obtain ⟨r7, m7, hC7, gC7, hM7, gM7, l1, l2, S6⟩ := sx_ex X IH S4
  have S6' := sx_imp (Ψ := fun k7 n7 t7 G' => ∃ n2 t2 n4 t4, G' = G ∧ n < n2 ∧ n2 < n4 ∧ n4 < n7 ∧ t ≤ t2 ∧ t2 ≤ t4 ∧ t4 ≤ t7 ∧ r1 = nI (n2 - 1) ∧ m1 = nI (2900 * rd + (n2 - 1)) ∧ r4 = nI (n4 - 1) ∧ m4 = nI (2900 * rd + (n4 - 1)) ∧ r7 = nI (n7 - 1) ∧ m7 = nI (2900 * rd + (n7 - 1)) ∧ wfx hC7 (5 * (41 - (o + 1))) (40 - (o + 1)) (n2 - 1) n t t2 G ∧ wfx hC7 (5 * (41 - (o + 1))) (40 - (o + 1)) (n4 - 1) n2 t2 t4 G ∧ wfx hC7 (5 * (41 - (o + 1))) (40 - (o + 1)) (n7 - 1) n4 t4 t7 G ∧ gw hC hC7 n t t7 D ∧ ga B N k7 ≠ 3 ∧ o < 40) S6 (by
    rintro k7 n7 t7 G' Pq ⟨_, n4, t4, ⟨_, _, n2, t2, ⟨_, _, n0, t0, ⟨rfl, rfl, rfl, u0⟩, u1, u2, u3, u4, u5, u6, u7⟩, y1, y2, y3, y4, y5, y6, y7⟩, x1, x2, x3, x4, x5, x6, x7⟩
    have gB : gw hC2 hC5 n2 t2 t4 D := gw_t (gw_t (gw_0 c3) y6 (Nat.le_refl _) (Nat.le_refl _)) (gw_0 f3) (Nat.le_refl _) (by omega)
    have gD : gw hC4 hC7 n4 t4 t7 D := gw_t (gw_0 f3) x6 (Nat.le_refl _) (Nat.le_refl _)
    have gE : gw hC2 hC4 n2 t2 t4 D := gw_t (gw_0 c3) y6 (Nat.le_refl _) (Nat.le_refl _)
    have gF : gw hC2 hC7 n2 t2 t7 D := gw_t gE gD (by omega) (by omega)
    exact ⟨n2, t2, n4, t4, rfl, u1, y1, x1, u2, y2, x2, u3, u4, y3, y4, x3, x4, wfx_gw u5 (by omega) gF, wfx_gw y5 (by omega) gD, x5, gw_t (gw_t u0 u6 (Nat.le_refl _) (Nat.le_refl _)) gF (by omega) (by omega), x7, by have := Pq.2.2.2.2.2.2.2.2.1; omega⟩)
  obtain ⟨p1, S7⟩ := sx_close (e + 9) S6' (fun _ _ _ _ _ => hw4)
  obtain ⟨r9, m9, hC9, hM9, q1, q2, q3, S8⟩ := sx_node (kd := 6) (m := -1) (a := r1) (b := r4) (c := r7) (wh := 6) (a' := m1) (b' := m4) (c' := m7) (e + 8) X S7 (by
    rintro k7 n7 t7 G0 ⟨n2, t2, n4, t4, z, y1, y2, y3, y4, y5, y6, y7, y8, y9, y10, y11, y12, _⟩
    rw [y7, y8, y9, y10, y11, y12]
    exact ⟨by rw [nI_add], by rw [nI_add], Or.inr (Or.inl ⟨rfl, rfl, by rw [nI_add]⟩)⟩)
  refine ⟨r9, m9, hC9, gC7, hM9, gM7, ?_, ?_, ?_⟩
  · have e7 : am_call tb_P (e + 10) 178 [.ref 32, .int 263] (pr_S, hC2, gC2) = some (none, (pr_S, hC3, gC3)) := c1
    have e8 : am_call tb_P (e + 10) 178 [.ref 32, .int 264] (pr_S, hC4, gC4) = some (none, (pr_S, hC5, gC5)) := f1
    have pf : (am_si (am_si hC7 32 2 (hC7 32 2 - 1)) 32 3 (hC7 32 3)) 32 1 = hC7 32 1 := by rw [am_si_off (by decide), am_si_off (by decide)]
    rcases q2 with ⟨z1, z2⟩ | ⟨z1, z2, z3⟩
    · rw [en_184, ht_184_0, ch_184_0, a1, ev_rn, ch_184_1, a3, ev_rn, ch_184_2, b1, ev_rs, ch_184_3, e7, ev_rn, ch_184_4, d1, ev_rs, ch_184_5, e8, ev_rn, ch_184_6, l1, ev_rs, ch_184_7, p1, ev_rn, ch_184_8, if_pos z1, ht_184_1, ch_184_9, z2, ev_rs, ch_184_11, ht_184_2, ch_184_10]
    · subst z2 z3
      rw [en_184, ht_184_0, ch_184_0, a1, ev_rn, ch_184_1, a3, ev_rn, ch_184_2, b1, ev_rs, ch_184_3, e7, ev_rn, ch_184_4, d1, ev_rs, ch_184_5, e8, ev_rn, ch_184_6, l1, ev_rs, ch_184_7, p1, ev_rn, ch_184_8, if_neg z1, sk_184_1_69, ht_184_2, ch_184_10]
  · have e7 : am_call tb_P (e + 10) 29 [.ref 73, .int 7] (pr_S, hM2, gM2) = some (none, (pr_S, hM3, gM2)) := c2
    have e8 : am_call tb_P (e + 10) 29 [.ref 73, .int 8] (pr_S, hM4, gM4) = some (none, (pr_S, hM5, gM4)) := f2
    rcases a5 with ⟨z1, z2⟩ | ⟨z1, z2⟩
    · subst z2
      rw [en_35, ht_35_0, ch_35_0]; (try simp +decide (disch := omega) only [ni_bF, nI_clamp, nI_add, pk_mul, dc_ltT, dc_ltF, dc_leT, dc_leF, dc_eqF, dc_neT, dn_eq, dn_ne, dn_lt, dn_ge, si_at, si_c, si_k, q_at_nI, q_put_nI, ne_eq, not_false_eq_true, not_true_eq_false, ↓reduceIte, v0_ltT, v0_ltF, v0_gtT, v0_gtF, v0_leT, v0_leF, v0_geT, v0_geF, v0_eqT, v0_eqF, v0_add, v0_dda, v0_mul, v0_lum, v0_sub, v0_bad, v0_cl, e6, e26, tm, a4]); rw [ht_35_1, ch_35_1]; (try simp +decide (disch := omega) only [ni_bF, nI_clamp, nI_add, pk_mul, dc_ltT, dc_ltF, dc_leT, dc_leF, dc_eqF, dc_neT, dn_eq, dn_ne, dn_lt, dn_ge, si_at, si_c, si_k, q_at_nI, q_put_nI, ne_eq, not_false_eq_true, not_true_eq_false, ↓reduceIte, v0_ltT, v0_ltF, v0_gtT, v0_gtF, v0_leT, v0_leF, v0_geT, v0_geF, v0_eqT, v0_eqF, v0_add, v0_dda, v0_mul, v0_lum, v0_sub, v0_bad, v0_cl, v4_eqT, v4_eqF, v6_eqT, v6_eqF, v9_eqT, v9_eqF, v92_eqT, v92_eqF, e6, e26, tm, a4]); rw [sk_35_2_70, ht_35_4, ch_35_3, a2, ev_rn, ch_35_8]; (try simp +decide (disch := omega) only [ni_bF, nI_clamp, nI_add, pk_mul, dc_ltT, dc_ltF, dc_leT, dc_leF, dc_eqF, dc_neT, dn_eq, dn_ne, dn_lt, dn_ge, si_at, si_c, si_k, q_at_nI, q_put_nI, ne_eq, not_false_eq_true, not_true_eq_false, ↓reduceIte, v0_ltT, v0_ltF, v0_gtT, v0_gtF, v0_leT, v0_leF, v0_geT, v0_geF, v0_eqT, v0_eqF, v0_add, v0_dda, v0_mul, v0_lum, v0_sub, v0_bad, v0_cl, e6, e26, tm, a4]); rw [if_neg (fun q => q z1), sk_35_5_91, ht_35_6, ch_35_13]; (try simp +decide (disch := omega) only [ni_bF, nI_clamp, nI_add, pk_mul, dc_ltT, dc_ltF, dc_leT, dc_leF, dc_eqF, dc_neT, dn_eq, dn_ne, dn_lt, dn_ge, si_at, si_c, si_k, q_at_nI, q_put_nI, ne_eq, not_false_eq_true, not_true_eq_false, ↓reduceIte, v0_ltT, v0_ltF, v0_gtT, v0_gtF, v0_leT, v0_leF, v0_geT, v0_geF, v0_eqT, v0_eqF, v0_add, v0_dda, v0_mul, v0_lum, v0_sub, v0_bad, v0_cl, e6, e26, tm, a4]); rw [nI_1, b2, ev_rs, ch_35_14, e7, ev_rn, ch_35_15, d2, ev_rs, ch_35_16, e8, ev_rn, ch_35_17, l2, ev_rs, ch_35_18]; (try simp +decide (disch := omega) only [ni_bF, nI_clamp, nI_add, pk_mul, dc_ltT, dc_ltF, dc_leT, dc_leF, dc_eqF, dc_neT, dn_eq, dn_ne, dn_lt, dn_ge, si_at, si_c, si_k, q_at_nI, q_put_nI, ne_eq, not_false_eq_true, not_true_eq_false, ↓reduceIte, v0_ltT, v0_ltF, v0_gtT, v0_gtF, v0_leT, v0_leF, v0_geT, v0_geF, v0_eqT, v0_eqF, v0_add, v0_dda, v0_mul, v0_lum, v0_sub, v0_bad, v0_cl, v1_ltT, v1_ltF, v1_gtT, v1_gtF, v1_leT, v1_leF, v1_geT, v1_geF, v1_eqT, v1_eqF, v1_add, v1_dda, v1_mul, v1_lum, v1_sub, v1_bad, v1_cl, e6, e26, tm, a4]); rw [q3, ev_rs, ch_35_19]
    · subst z2
      have i0 : am_si hMp 73 6 (nI (k + 0)) = hMp := si_id a4
      rw [en_35, ht_35_0, ch_35_0]; (try simp +decide (disch := omega) only [ni_bF, nI_clamp, nI_add, pk_mul, dc_ltT, dc_ltF, dc_leT, dc_leF, dc_eqF, dc_neT, dn_eq, dn_ne, dn_lt, dn_ge, si_at, si_c, si_k, q_at_nI, q_put_nI, ne_eq, not_false_eq_true, not_true_eq_false, ↓reduceIte, v0_ltT, v0_ltF, v0_gtT, v0_gtF, v0_leT, v0_leF, v0_geT, v0_geF, v0_eqT, v0_eqF, v0_add, v0_dda, v0_mul, v0_lum, v0_sub, v0_bad, v0_cl, e6, e26, tm, a4]); rw [ht_35_1, ch_35_1]; (try simp +decide (disch := omega) only [ni_bF, nI_clamp, nI_add, pk_mul, dc_ltT, dc_ltF, dc_leT, dc_leF, dc_eqF, dc_neT, dn_eq, dn_ne, dn_lt, dn_ge, si_at, si_c, si_k, q_at_nI, q_put_nI, ne_eq, not_false_eq_true, not_true_eq_false, ↓reduceIte, v0_ltT, v0_ltF, v0_gtT, v0_gtF, v0_leT, v0_leF, v0_geT, v0_geF, v0_eqT, v0_eqF, v0_add, v0_dda, v0_mul, v0_lum, v0_sub, v0_bad, v0_cl, v4_eqT, v4_eqF, v6_eqT, v6_eqF, v9_eqT, v9_eqF, v92_eqT, v92_eqF, e6, e26, tm, a4]); rw [sk_35_2_70, ht_35_4, ch_35_3, a2, ev_rn, ch_35_8]; (try simp +decide (disch := omega) only [ni_bF, nI_clamp, nI_add, pk_mul, dc_ltT, dc_ltF, dc_leT, dc_leF, dc_eqF, dc_neT, dn_eq, dn_ne, dn_lt, dn_ge, si_at, si_c, si_k, q_at_nI, q_put_nI, ne_eq, not_false_eq_true, not_true_eq_false, ↓reduceIte, v0_ltT, v0_ltF, v0_gtT, v0_gtF, v0_leT, v0_leF, v0_geT, v0_geF, v0_eqT, v0_eqF, v0_add, v0_dda, v0_mul, v0_lum, v0_sub, v0_bad, v0_cl, e6, e26, tm, a4]); rw [if_pos z1, ht_35_5, ch_35_12, ht_35_6, ch_35_13]; (try simp +decide (disch := omega) only [ni_bF, nI_clamp, nI_add, pk_mul, dc_ltT, dc_ltF, dc_leT, dc_leF, dc_eqF, dc_neT, dn_eq, dn_ne, dn_lt, dn_ge, si_at, si_c, si_k, q_at_nI, q_put_nI, ne_eq, not_false_eq_true, not_true_eq_false, ↓reduceIte, v0_ltT, v0_ltF, v0_gtT, v0_gtF, v0_leT, v0_leF, v0_geT, v0_geF, v0_eqT, v0_eqF, v0_add, v0_dda, v0_mul, v0_lum, v0_sub, v0_bad, v0_cl, e6, e26, tm, a4]); rw [i0, b2, ev_rs, ch_35_14, e7, ev_rn, ch_35_15, d2, ev_rs, ch_35_16, e8, ev_rn, ch_35_17, l2, ev_rs, ch_35_18]; (try simp +decide (disch := omega) only [ni_bF, nI_clamp, nI_add, pk_mul, dc_ltT, dc_ltF, dc_leT, dc_leF, dc_eqF, dc_neT, dn_eq, dn_ne, dn_lt, dn_ge, si_at, si_c, si_k, q_at_nI, q_put_nI, ne_eq, not_false_eq_true, not_true_eq_false, ↓reduceIte, v0_ltT, v0_ltF, v0_gtT, v0_gtF, v0_leT, v0_leF, v0_geT, v0_geF, v0_eqT, v0_eqF, v0_add, v0_dda, v0_mul, v0_lum, v0_sub, v0_bad, v0_cl, v1_ltT, v1_ltF, v1_gtT, v1_gtF, v1_leT, v1_leF, v1_geT, v1_geF, v1_eqT, v1_eqF, v1_add, v1_dda, v1_mul, v1_lum, v1_sub, v1_bad, v1_cl, e6, e26, tm, a4]); rw [q3, ev_rs, ch_35_19]
  · rcases S8 with ⟨k9, n9, t9, G0, P9, J9, n8, rfl, ⟨n2, t2, n4, t4, rfl, y1, y2, y3, y4, y5, y6, y7, y8, y9, y10, y11, y12, y13, y14, y15, y16, y17, y18⟩, e1, e2, e3⟩ | Db
    · have xa := xn_at (hC := am_si (am_si hC7 32 2 (hC7 32 2 - 1)) 32 3 (hC7 32 3)) (n := n8) 6 (-1) r1 r4 r7
      have gx : gw hC7 hC9 n8 t9 t9 D := by rw [e3]; exact gw_xn
      rw [← e3] at xa
      refine Or.inl ⟨k9, n8 + 1, t9, P9, J9, by omega, by omega, e1, e2, ?_, gw_t y16 gx (by omega) (by omega), y17⟩
      show wfx hC9 _ _ n8 n t t9 G0
      have w1 := wfx_gw y13 (by omega) gx
      have w2 := wfx_gw y14 (by omega) gx
      have w3 := wfx_gw y15 (by omega) gx
      refine Or.inr (Or.inr (Or.inr (Or.inr (Or.inr (Or.inr (Or.inl ⟨xa.1, 5 * (41 - (o + 1)), 40 - (o + 1), n2 - 1, n4 - 1, n8 - 1, t2, t4, by omega, by omega, by rw [xa.2.2.1, y7], by rw [xa.2.2.2.1, y9], by rw [xa.2.2.2.2, y11], by omega, wf_le (show n2 - 1 + 1 ≤ n8 by omega) w1, ?_, ?_⟩))))))
      · rw [show n2 - 1 + 1 = n2 by omega]
        exact wf_le (show n4 - 1 + 1 ≤ n8 by omega) w2
      · rw [show n4 - 1 + 1 = n4 by omega]
        exact wf_le (show n8 - 1 + 1 ≤ n8 by omega) w3
    · exact Or.inr Db
end IF
