/-! both parsers side by side: split, and every expression -/
section SL
variable {h0 h1 hC hM : Nat → Nat → Int32} {g0 g1 gC gM : Nat → Nat → Int64} {B : Nat → Nat} {N M rd k o n t w π D e s : Nat} {G : List Nat} {Φ : Nat → Nat → Nat → List Nat → Prop}
theorem sx_name2 (d : Nat) {f bar : Int64} (X : px h0 h1 g1 B N M rd) (hD : h0 3 0 = nI (D + 1)) (hDm : h1 85 rd = nI D) (S : sx h0 g0 h1 g1 B N M rd o w π Φ hC gC hM gM) (q : ∀ k n t G, Φ k n t G → bar = f) : ∃ (hC' : Nat → Nat → Int32) (gC' : Nat → Nat → Int64) (hM' : Nat → Nat → Int32) (v : Int64), am_call tb_P (d + 8) 186 [.ref 32, .long f] (pr_S, hC, gC) = some (none, (pr_S, hC', gC')) ∧ am_call tb_P (d + 8) 34 [.ref 73, .int 2, .long bar] (pr_S, hM, gM) = some (some (.long v), (pr_S, hM', gM)) ∧ sx h0 g0 h1 g1 B N M rd o w π (fun _ n t' G => ∃ k t, t' = t + 1 ∧ Φ k n t G ∧ v = gC 1 3 ∧ gw hC hC' n t (t + 1) D ∧ hC' 9 t = 2) hC' gC' hM' gM := by
  rcases S with ⟨k, n, t, G, P, J, z⟩ | S
  · have q := q k n t G z
    subst q
    obtain ⟨F1, F2, P'⟩ := id P
    have hk : k < 2001 := by have := X.2.2.2.1; have := P'.1.2.2; omega
    obtain ⟨tk, tpl, tn, _⟩ := px_t X F2 P'.1.2.2
    have f26 := P'.2.2.1.2.1
    have e6 := P'.2.2.1.1
    by_cases cc : tok B N (tp B N k) = 2 ∧ gC 1 3 = bar
    · obtain ⟨c, nb⟩ := cc
      have tc : hC 1 1 = 258 := by rw [P'.1.1.2.1, c]; rfl
      have mn := tn c
      obtain ⟨c1, c2, c3⟩ := tok_n c
      have nmC : gC 1 3 = nm B (tp B N k) (la B N (tp B N k) - tp B N k) := P'.1.1.2.2.2.1 c1 c2
      have i := em_isT (gM := gM) (v := 2) (d + 6) f26 e6 hk (tk.trans (by rw [c]; rfl))
      have eq : lg_cmp (gM 78 k) bar = 0 := by
        have : ¬ lg_cmp (gM 78 k) bar ≠ 0 := fun q => lg_ne.mp q (by rw [mn, ← nmC]; exact nb)
        exact Decidable.not_not.mp this
      have eqC : lg_cmp (gC 1 3) bar = 0 := by
        have : ¬ lg_cmp (gC 1 3) bar ≠ 0 := fun q => lg_ne.mp q nb
        exact Decidable.not_not.mp this
      have Pb := ps_fl (f := 4) X P (by decide)
      obtain ⟨k1, k2⟩ := cf_0 Pb
      refine ⟨xfl hC 4 (hC 1 2), gC, xfm2 hM 4 (hM 76 k), Int64.ofNat 0, ?_, ?_, Or.inr ⟨k, n, Pb, by omega⟩⟩
      · have nt : am_call tb_P (d + 7) 187 [.ref 32, .int 2] (pr_S, xfl hC 4 (hC 1 2), gC) = some (some (.int (-1)), (pr_S, xfl hC 4 (hC 1 2), gC)) := by
          rw [en_187, ht_187_0, ch_187_0]; (try simp +decide (disch := omega) only [ni_bF, nI_clamp, nI_add, pk_mul, dc_ltT, dc_ltF, dc_leT, dc_leF, dc_eqF, dc_neT, dn_eq, dn_ne, dn_lt, dn_ge, si_at, si_c, si_k, q_at_nI, q_put_nI, ne_eq, not_false_eq_true, not_true_eq_false, ↓reduceIte, v0_ltT, v0_ltF, v0_gtT, v0_gtF, v0_leT, v0_leF, v0_geT, v0_geF, v0_eqT, v0_eqF, v0_add, v0_dda, v0_mul, v0_lum, v0_sub, v0_bad, v0_cl, v258_ltT, v258_ltF, v258_gtT, v258_gtF, v258_leT, v258_leF, v258_geT, v258_geF, v258_eqT, v258_eqF, v258_add, v258_dda, v258_mul, v258_lum, v258_sub, v258_bad, v258_cl, k2]); rw [ea_pfailB _ k1 k2, ev_rn, ch_187_2]
        rw [en_186, ht_186_0, ch_186_0, if_neg (fun q => q tc), if_neg (fun q => q eqC), ea_pfail _ P'.2.1.1, ev_rn, ch_186_2, ht_186_1, ch_186_1, nt, ev_rs, ch_186_3]
      · rw [en_34, ht_34_0, ch_34_0, i, ev_rs, ch_34_1]; (try simp +decide (disch := omega) only [ni_bF, nI_clamp, nI_add, pk_mul, dc_ltT, dc_ltF, dc_leT, dc_leF, dc_eqF, dc_neT, dn_eq, dn_ne, dn_lt, dn_ge, si_at, si_c, si_k, q_at_nI, q_put_nI, ne_eq, not_false_eq_true, not_true_eq_false, ↓reduceIte, v0_ltT, v0_ltF, v0_gtT, v0_gtF, v0_leT, v0_leF, v0_geT, v0_geF, v0_eqT, v0_eqF, v0_add, v0_dda, v0_mul, v0_lum, v0_sub, v0_bad, v0_cl, e6]); rw [ht_34_1, ch_34_2]; (try simp +decide (disch := omega) only [ni_bF, nI_clamp, nI_add, pk_mul, dc_ltT, dc_ltF, dc_leT, dc_leF, dc_eqF, dc_neT, dn_eq, dn_ne, dn_lt, dn_ge, si_at, si_c, si_k, q_at_nI, q_put_nI, ne_eq, not_false_eq_true, not_true_eq_false, ↓reduceIte, v0_ltT, v0_ltF, v0_gtT, v0_gtF, v0_leT, v0_leF, v0_geT, v0_geF, v0_eqT, v0_eqF, v0_add, v0_dda, v0_mul, v0_lum, v0_sub, v0_bad, v0_cl, e6]); rw [if_neg (fun q => q eq), em_pfail _ f26 e6 hk, ev_rn, ch_34_5]
    · obtain ⟨hC', gC', hM', rC, v, a1, a2, a3⟩ := st_name (kd := 2) (bar := bar) (π := π) d X hD hDm (by decide) (Or.inl ⟨P, J, fun z q => cc ⟨z, q⟩⟩)
      refine ⟨hC', gC', hM', v, ?_, mo_d (by omega) a2, ?_⟩
      · by_cases c : tok B N (tp B N k) = 2
        · have tc : hC 1 1 = 258 := by rw [P'.1.1.2.1, c]; rfl
          have ne : lg_cmp (gC 1 3) bar ≠ 0 := lg_ne.mpr (fun q => cc ⟨c, q⟩)
          rw [en_186, ht_186_0, ch_186_0, if_neg (fun q => q tc), if_pos ne, ht_186_1, ch_186_1, a1, ev_rs, ch_186_3]
        · have tc : hC 1 1 ≠ 258 := by rw [P'.1.1.2.1]; exact fun q => c ((cl_e (b := 2) (tok_l X _) (by decide)).mp q)
          rw [en_186, ht_186_0, ch_186_0, if_pos tc, ht_186_1, ch_186_1, a1, ev_rs, ch_186_3]
      · rcases a3 with ⟨x1, x2, x3, x4, x5, x6, x7, x8⟩ | x
        · exact Or.inl ⟨k + 1, n, t + 1, G, x1, x2, k, t, rfl, z, x5, x7, x8⟩
        · exact Or.inr x
  · obtain ⟨hC', gC', hM', rC, v, a1, a2, a3⟩ := st_name (kd := 2) (bar := bar) (k := 0) (o := 0) (n := 0) (t := 0) (G := []) (π := π) d X hD hDm (by decide) (Or.inr S)
    refine ⟨hC', gC', hM', v, ?_, mo_d (by omega) a2, ?_⟩
    · obtain ⟨_, _, Pb, _⟩ := S
      have c2 := (cf_0 Pb).2
      have tc : hC 1 1 ≠ 258 := by rw [c2]; decide
      rw [en_186, ht_186_0, ch_186_0, if_pos tc, ht_186_1, ch_186_1, a1, ev_rs, ch_186_3]
    · rcases a3 with ⟨x, _⟩ | x
      · exact absurd (po_1 x) (ln_name (d + 5) S a1)
      · exact Or.inr x
theorem ct_split (X : px h0 h1 g1 B N M rd) (hD : h0 3 0 = nI (D + 1)) (hDm : h1 85 rd = nI D) (IH : o < 40 → exC h0 g0 h1 g1 B N M rd D (o + 1) (e + 10)) (P : ps_O h0 g0 h1 g1 B N M rd hC gC hM gM k o n t w G) (J : 3 * (n + π) ≤ qk B N k) (c : tok B N (tp B N k) = 9) : ∃ (rC rM : Int32) (hC' : Nat → Nat → Int32) (gC' : Nat → Nat → Int64) (hM' : Nat → Nat → Int32) (gM' : Nat → Nat → Int64), am_call tb_P (e + 11) 185 [.ref 32] (pr_S, hC, gC) = some (some (.int rC), (pr_S, hC', gC')) ∧ am_call tb_P (e + 11) 38 [.ref 73] (pr_S, hM, gM) = some (some (.int rM), (pr_S, hM', gM')) ∧ ps_R h0 g0 h1 g1 B N M rd D hC n t w o π (5 * (40 - o) + 5) (40 - o) G rC rM hC' gC' hM' gM' := by
  have hw4 := P.2.2.2.2.2.2.2.2.2
  have hGl := P.2.2.2.2.2.1.1
  have ho4 := P.2.2.2.2.2.2.2.2.1
  have pa3 := P.2.2.2.1.2.2.1
  have wlt : w < 190 := by omega
  have wlt1 : w + 1 < 190 := by omega
  obtain ⟨hC1, hM1, hCp, gCp, hMp, a1, a2, a3, a4, a5, S0⟩ := sx_begin (D := D) (e := e) X P J c (by decide)
  obtain ⟨r1, m1, hC2, gC2, hM2, gM2, b1, b2, S1⟩ := sx_ex X IH S0
  obtain ⟨hC3, gC3, hM3, c1, c2, c3, c4, S2⟩ := sx_expc (e + 4) 10 X (by decide) (by decide) S1
  obtain ⟨hC4, gC4, hM4, r4, v4, d1, d2, S3⟩ := sx_name (kd := 2) (e + 3) X hD hDm (by decide) S2
  obtain ⟨hC5, gC5, hM5, f1, f2, f3, f4, S4⟩ := sx_expc (e + 4) 44 X (by decide) (by decide) S3
  obtain ⟨hC6, gC6, hM6, v6, i1, i2, S5⟩ := sx_name2 (f := gC3 1 3) (bar := v4) (e + 2) X hD hDm S4 (by
    rintro _ n4 t4 G' ⟨_, _, t2, rfl, _, _, _, u3, _⟩
    exact u3)
  obtain ⟨hC8, gC8, hM8, j1, j2, j3, j4, S7⟩ := sx_expc (e + 4) 5 X (by decide) (by decide) S5
  have m32 := sx_32 S7
  have S7' := sx_imp (Ψ := fun _ n7 t7 G' => ∃ t2, t7 = t2 + 2 ∧ G' = G ∧ r4 = nI t2 ∧ hM4 73 33 = nI t2 ∧ v4 = gC3 1 3 ∧ v6 = gC5 1 3 ∧ n < n7 ∧ t ≤ t2 ∧ r1 = nI (n7 - 1) ∧ m1 = nI (2900 * rd + (n7 - 1)) ∧ wfx hC8 (5 * (41 - (o + 1))) (40 - (o + 1)) (n7 - 1) n t t2 G ∧ gw hC hC8 n t t7 D ∧ hC8 9 t2 = 2 ∧ hC8 9 (t2 + 1) = 2 ∧ o < 40) S7 (by
    rintro _ n7 t7 G' Pq ⟨_, _, t6, rfl, ⟨_, _, t2, rfl, ⟨_, _, n0, t0, ⟨rfl, rfl, rfl, u0⟩, u1, u2, u3, u4, u5, u6, u7⟩, y1, y2, y3, y4, y5⟩, x1, x2, x3⟩
    have gA : gw hC2 hC4 n7 t2 (t2 + 1) D := gw_t (gw_0 c3) y4 (Nat.le_refl _) (Nat.le_refl _)
    have gB : gw hC4 hC8 n7 (t2 + 1) (t2 + 1 + 1) D := gw_t (gw_t (gw_0 f3) x2 (Nat.le_refl _) (Nat.le_refl _)) (gw_0 j3) (Nat.le_refl _) (by omega)
    have gC' : gw hC2 hC8 n7 t2 (t2 + 1 + 1) D := gw_t gA gB (Nat.le_refl _) (by omega)
    refine ⟨t2, rfl, rfl, y1, y2, y3, x1, u1, u2, u3, u4, wfx_gw u5 (by omega) gC', gw_t (gw_t u0 u6 (Nat.le_refl _) (Nat.le_refl _)) gC' (by omega) (by omega), ?_, ?_, by have := Pq.2.2.2.2.2.2.2.2.1; omega⟩
    · rw [gB.1 _ _ (by decide) (by decide) (by omega)]; exact y5
    · rw [j3 _ (by decide) (by decide)]; exact x3)
  obtain ⟨hC9, gC9, hM9, gM9, k1, k2, k3, S8⟩ := sx_know (D := D) (v := gC3 1 3) (v' := v4) (rC := r4) (rM := hM4 73 33) (e + 9) wlt S7' (by
    rintro _ n4 t4 G' ⟨t2, rfl, _, u1, u2, u3, _⟩
    exact ⟨u3, u2.trans u1.symm, t2, u1, by omega, by omega⟩)
  obtain ⟨hCa, gCa, hMa, gMa, l1, l2, l3, S9⟩ := sx_know (D := D) (v := gC5 1 3) (v' := v6) (rC := r4 + 1) (rM := hM4 73 33 + 1) (e + 9) wlt1 S8 (by
    rintro _ n4 t4 G' ⟨x, G1, rfl, y1, y2, ⟨t2, rfl, _, u1, u2, u3, u4, _⟩, y3⟩
    exact ⟨u4, by rw [u1, u2], t2 + 1, by rw [u1, nI_1], by omega, by omega⟩)
  obtain ⟨rb, mb, hCb, gCb, hMb, gMb, n1, n2, Sb⟩ := sx_exM X IH S9
  have Sb' := sx_imp (Ψ := fun kb nb tb G' => ∃ n7 t2, G' = [t2 + 1, t2] ++ G ∧ r4 = nI t2 ∧ hM4 73 33 = nI t2 ∧ n < n7 ∧ n7 < nb ∧ t ≤ t2 ∧ t2 + 2 ≤ tb ∧ r1 = nI (n7 - 1) ∧ m1 = nI (2900 * rd + (n7 - 1)) ∧ rb = nI (nb - 1) ∧ mb = nI (2900 * rd + (nb - 1)) ∧ wfx hCb (5 * (41 - (o + 1))) (40 - (o + 1)) (n7 - 1) n t t2 G ∧ wfx hCb (5 * (41 - (o + 1))) (40 - (o + 1)) (nb - 1) n7 (t2 + 2) tb ((t2 + 1) :: t2 :: G) ∧ gw hC hCb n t tb D ∧ hCb 9 t2 = 2 ∧ hCb 9 (t2 + 1) = 2 ∧ o < 40 ∧ ga B N kb ≠ 3) Sb (by
    rintro kb nb tb G' Pq ⟨_, n7, t7, ⟨x', G2, rfl, u1', u2', ⟨x, G1, rfl, u1, u2, ⟨t2, rfl, rfl, y1, y2, y3, y4, y5, y6, y7, y8, y9, y10, y11, y12, y13⟩, u3⟩, u4⟩, x1, x2, x3, x4, x5, x6, x7⟩
    have tq : tb ≤ 200 := Pq.2.2.2.2.2.2.1.2.2.1
    have ex : x = t2 := (nI_eq (by omega) (by omega)).mp (u1.symm.trans y1)
    subst ex
    have ex' : x' = x + 1 := (nI_eq (by omega) (by omega)).mp (u1'.symm.trans (by rw [y1, nI_1]))
    subst ex'
    have gg := gw_t (gw_t u3 u4 (Nat.le_refl _) (Nat.le_refl _)) x6 (Nat.le_refl _) (Nat.le_refl _)
    exact ⟨n7, x, rfl, y1, y2, y5, x1, y6, x2, y7, y8, x3, x4, wfx_gw y9 (by omega) gg, x5, gw_t y10 gg (by omega) (by omega), by rw [gg.1 _ _ (by decide) (by decide) (by omega)]; exact y11, by rw [gg.1 _ _ (by decide) (by decide) (by omega)]; exact y12, y13, x7⟩)
  obtain ⟨p1, Sc⟩ := sx_leave (e + 9) (j := 2) (w0 := w) rfl Sb' (by
    rintro k7 n7 t7 G' ⟨n5, t5, z, _⟩
    exact ⟨_, G, z, hGl, hw4⟩)
  obtain ⟨r9, m9, hCd, hMd, q1, q2, q3, Sd⟩ := sx_node (kd := 7) (m := r4) (a := r1) (b := rb) (c := -1) (wh := 9) (a' := m1) (b' := mb) (c' := hM4 73 33) (e + 8) X Sc (by
    rintro kb nb tb G0 ⟨Y, ⟨n7, t2, z, y1, y2, y3, y4, y5, y6, y7, y8, y9, y10, y11, y12, y13, y14, y15, y16, y17⟩, _⟩
    rw [y7, y8, y9, y10]
    exact ⟨by rw [nI_add], by rw [nI_add], Or.inr (Or.inr ⟨rfl, rfl, y2.trans y1.symm, t2, y1, by omega, by rw [am_si_ne (by decide), am_si_ne (by decide)]; exact y14, by rw [am_si_ne (by decide), am_si_ne (by decide)]; exact y15⟩)⟩)
  refine ⟨r9, m9, hCd, gCb, hMd, gMb, ?_, ?_, ?_⟩
  · have e10 : am_call tb_P (e + 10) 178 [.ref 32, .int 266] (pr_S, hC2, gC2) = some (none, (pr_S, hC3, gC3)) := c1
    have e44 : am_call tb_P (e + 10) 178 [.ref 32, .int 44] (pr_S, hC4, gC4) = some (none, (pr_S, hC5, gC5)) := f1
    have e5 : am_call tb_P (e + 10) 178 [.ref 32, .int 261] (pr_S, hC6, gC6) = some (none, (pr_S, hC8, gC8)) := j1
    rw [en_185, ht_185_0, ch_185_0, a1, ev_rn, ch_185_1, a3, ev_rn, ch_185_2, b1, ev_rs, ch_185_3, e10, ev_rn, ch_185_4, d1, ev_rs, ch_185_5, e44, ev_rn, ch_185_6, i1, ev_rn, ch_185_7, e5, ev_rn, ch_185_8, k1, ev_rn, ch_185_9, l1, ev_rn, ch_185_10, n1, ev_rs, ch_185_11, pa3, p1, ev_rn, ch_185_12, q1 rfl, ev_rs, ch_185_13]
  · have e10 : am_call tb_P (e + 10) 29 [.ref 73, .int 10] (pr_S, hM2, gM2) = some (none, (pr_S, hM3, gM2)) := c2
    have e44 : am_call tb_P (e + 10) 29 [.ref 73, .int 44] (pr_S, hM4, gM2) = some (none, (pr_S, hM5, gM2)) := f2
    have e5 : am_call tb_P (e + 10) 29 [.ref 73, .int 5] (pr_S, hM6, gM2) = some (none, (pr_S, hM8, gM2)) := j2
    rcases a5 with ⟨z1, z2⟩ | ⟨z1, z2⟩
    · subst z2
      rcases n2 with ⟨y1, y2⟩ | ⟨y1, y2, y3, y4⟩
      · rw [en_38, ht_38_0, ch_38_0, a2, ev_rn, ch_38_1]; (try simp +decide (disch := omega) only [ni_bF, nI_clamp, nI_add, pk_mul, dc_ltT, dc_ltF, dc_leT, dc_leF, dc_eqF, dc_neT, dn_eq, dn_ne, dn_lt, dn_ge, si_at, si_c, si_k, q_at_nI, q_put_nI, ne_eq, not_false_eq_true, not_true_eq_false, ↓reduceIte, v0_ltT, v0_ltF, v0_gtT, v0_gtF, v0_leT, v0_leF, v0_geT, v0_geF, v0_eqT, v0_eqF, v0_add, v0_dda, v0_mul, v0_lum, v0_sub, v0_bad, v0_cl, a4, m32]); rw [if_neg (fun q => q z1), sk_38_1_21, ht_38_2, ch_38_3]; (try simp +decide (disch := omega) only [ni_bF, nI_clamp, nI_add, pk_mul, dc_ltT, dc_ltF, dc_leT, dc_leF, dc_eqF, dc_neT, dn_eq, dn_ne, dn_lt, dn_ge, si_at, si_c, si_k, q_at_nI, q_put_nI, ne_eq, not_false_eq_true, not_true_eq_false, ↓reduceIte, v0_ltT, v0_ltF, v0_gtT, v0_gtF, v0_leT, v0_leF, v0_geT, v0_geF, v0_eqT, v0_eqF, v0_add, v0_dda, v0_mul, v0_lum, v0_sub, v0_bad, v0_cl, a4, m32]); rw [nI_1, b2, ev_rs, ch_38_4, e10, ev_rn, ch_38_5, d2, ev_rs, ch_38_6, e44, ev_rn, ch_38_7, i2, ev_rs, ch_38_8, e5, ev_rn, ch_38_9, k2, ev_rn, ch_38_10]; (try simp +decide (disch := omega) only [ni_bF, nI_clamp, nI_add, pk_mul, dc_ltT, dc_ltF, dc_leT, dc_leF, dc_eqF, dc_neT, dn_eq, dn_ne, dn_lt, dn_ge, si_at, si_c, si_k, q_at_nI, q_put_nI, ne_eq, not_false_eq_true, not_true_eq_false, ↓reduceIte, v0_ltT, v0_ltF, v0_gtT, v0_gtF, v0_leT, v0_leF, v0_geT, v0_geF, v0_eqT, v0_eqF, v0_add, v0_dda, v0_mul, v0_lum, v0_sub, v0_bad, v0_cl, v1_ltT, v1_ltF, v1_gtT, v1_gtF, v1_leT, v1_leF, v1_geT, v1_geF, v1_eqT, v1_eqF, v1_add, v1_dda, v1_mul, v1_lum, v1_sub, v1_bad, v1_cl, a4, m32]); rw [l2, ev_rn, ch_38_11]; (try simp +decide (disch := omega) only [ni_bF, nI_clamp, nI_add, pk_mul, dc_ltT, dc_ltF, dc_leT, dc_leF, dc_eqF, dc_neT, dn_eq, dn_ne, dn_lt, dn_ge, si_at, si_c, si_k, q_at_nI, q_put_nI, ne_eq, not_false_eq_true, not_true_eq_false, ↓reduceIte, v0_ltT, v0_ltF, v0_gtT, v0_gtF, v0_leT, v0_leF, v0_geT, v0_geF, v0_eqT, v0_eqF, v0_add, v0_dda, v0_mul, v0_lum, v0_sub, v0_bad, v0_cl, a4, m32]); rw [if_neg (fun q => q y1), y2, ev_rs, ch_38_13, sk_38_3_106, ht_38_4, ch_38_14]; (try simp +decide (disch := omega) only [ni_bF, nI_clamp, nI_add, pk_mul, dc_ltT, dc_ltF, dc_leT, dc_leF, dc_eqF, dc_neT, dn_eq, dn_ne, dn_lt, dn_ge, si_at, si_c, si_k, q_at_nI, q_put_nI, ne_eq, not_false_eq_true, not_true_eq_false, ↓reduceIte, v0_ltT, v0_ltF, v0_gtT, v0_gtF, v0_leT, v0_leF, v0_geT, v0_geF, v0_eqT, v0_eqF, v0_add, v0_dda, v0_mul, v0_lum, v0_sub, v0_bad, v0_cl, v1_ltT, v1_ltF, v1_gtT, v1_gtF, v1_leT, v1_leF, v1_geT, v1_geF, v1_eqT, v1_eqF, v1_add, v1_dda, v1_mul, v1_lum, v1_sub, v1_bad, v1_cl, a4, m32]); rw [q3, ev_rs, ch_38_15]
      · subst y2 y3 y4
        rw [en_38, ht_38_0, ch_38_0, a2, ev_rn, ch_38_1]; (try simp +decide (disch := omega) only [ni_bF, nI_clamp, nI_add, pk_mul, dc_ltT, dc_ltF, dc_leT, dc_leF, dc_eqF, dc_neT, dn_eq, dn_ne, dn_lt, dn_ge, si_at, si_c, si_k, q_at_nI, q_put_nI, ne_eq, not_false_eq_true, not_true_eq_false, ↓reduceIte, v0_ltT, v0_ltF, v0_gtT, v0_gtF, v0_leT, v0_leF, v0_geT, v0_geF, v0_eqT, v0_eqF, v0_add, v0_dda, v0_mul, v0_lum, v0_sub, v0_bad, v0_cl, a4, m32]); rw [if_neg (fun q => q z1), sk_38_1_21, ht_38_2, ch_38_3]; (try simp +decide (disch := omega) only [ni_bF, nI_clamp, nI_add, pk_mul, dc_ltT, dc_ltF, dc_leT, dc_leF, dc_eqF, dc_neT, dn_eq, dn_ne, dn_lt, dn_ge, si_at, si_c, si_k, q_at_nI, q_put_nI, ne_eq, not_false_eq_true, not_true_eq_false, ↓reduceIte, v0_ltT, v0_ltF, v0_gtT, v0_gtF, v0_leT, v0_leF, v0_geT, v0_geF, v0_eqT, v0_eqF, v0_add, v0_dda, v0_mul, v0_lum, v0_sub, v0_bad, v0_cl, a4, m32]); rw [nI_1, b2, ev_rs, ch_38_4, e10, ev_rn, ch_38_5, d2, ev_rs, ch_38_6, e44, ev_rn, ch_38_7, i2, ev_rs, ch_38_8, e5, ev_rn, ch_38_9, k2, ev_rn, ch_38_10]; (try simp +decide (disch := omega) only [ni_bF, nI_clamp, nI_add, pk_mul, dc_ltT, dc_ltF, dc_leT, dc_leF, dc_eqF, dc_neT, dn_eq, dn_ne, dn_lt, dn_ge, si_at, si_c, si_k, q_at_nI, q_put_nI, ne_eq, not_false_eq_true, not_true_eq_false, ↓reduceIte, v0_ltT, v0_ltF, v0_gtT, v0_gtF, v0_leT, v0_leF, v0_geT, v0_geF, v0_eqT, v0_eqF, v0_add, v0_dda, v0_mul, v0_lum, v0_sub, v0_bad, v0_cl, v1_ltT, v1_ltF, v1_gtT, v1_gtF, v1_leT, v1_leF, v1_geT, v1_geF, v1_eqT, v1_eqF, v1_add, v1_dda, v1_mul, v1_lum, v1_sub, v1_bad, v1_cl, a4, m32]); rw [l2, ev_rn, ch_38_11]; (try simp +decide (disch := omega) only [ni_bF, nI_clamp, nI_add, pk_mul, dc_ltT, dc_ltF, dc_leT, dc_leF, dc_eqF, dc_neT, dn_eq, dn_ne, dn_lt, dn_ge, si_at, si_c, si_k, q_at_nI, q_put_nI, ne_eq, not_false_eq_true, not_true_eq_false, ↓reduceIte, v0_ltT, v0_ltF, v0_gtT, v0_gtF, v0_leT, v0_leF, v0_geT, v0_geF, v0_eqT, v0_eqF, v0_add, v0_dda, v0_mul, v0_lum, v0_sub, v0_bad, v0_cl, a4, m32]); rw [if_pos y1, ht_38_3, ch_38_12, ht_38_4, ch_38_14]; (try simp +decide (disch := omega) only [ni_bF, nI_clamp, nI_add, pk_mul, dc_ltT, dc_ltF, dc_leT, dc_leF, dc_eqF, dc_neT, dn_eq, dn_ne, dn_lt, dn_ge, si_at, si_c, si_k, q_at_nI, q_put_nI, ne_eq, not_false_eq_true, not_true_eq_false, ↓reduceIte, v0_ltT, v0_ltF, v0_gtT, v0_gtF, v0_leT, v0_leF, v0_geT, v0_geF, v0_eqT, v0_eqF, v0_add, v0_dda, v0_mul, v0_lum, v0_sub, v0_bad, v0_cl, v1_ltT, v1_ltF, v1_gtT, v1_gtF, v1_leT, v1_leF, v1_geT, v1_geF, v1_eqT, v1_eqF, v1_add, v1_dda, v1_mul, v1_lum, v1_sub, v1_bad, v1_cl, a4, m32]); rw [q3, ev_rs, ch_38_15]
    · subst z2
      have i0 : am_si hMp 73 6 (nI (k + 0)) = hMp := si_id a4
      rcases n2 with ⟨y1, y2⟩ | ⟨y1, y2, y3, y4⟩
      · rw [en_38, ht_38_0, ch_38_0, a2, ev_rn, ch_38_1]; (try simp +decide (disch := omega) only [ni_bF, nI_clamp, nI_add, pk_mul, dc_ltT, dc_ltF, dc_leT, dc_leF, dc_eqF, dc_neT, dn_eq, dn_ne, dn_lt, dn_ge, si_at, si_c, si_k, q_at_nI, q_put_nI, ne_eq, not_false_eq_true, not_true_eq_false, ↓reduceIte, v0_ltT, v0_ltF, v0_gtT, v0_gtF, v0_leT, v0_leF, v0_geT, v0_geF, v0_eqT, v0_eqF, v0_add, v0_dda, v0_mul, v0_lum, v0_sub, v0_bad, v0_cl, a4, m32]); rw [if_pos z1, ht_38_1, ch_38_2, ht_38_2, ch_38_3]; (try simp +decide (disch := omega) only [ni_bF, nI_clamp, nI_add, pk_mul, dc_ltT, dc_ltF, dc_leT, dc_leF, dc_eqF, dc_neT, dn_eq, dn_ne, dn_lt, dn_ge, si_at, si_c, si_k, q_at_nI, q_put_nI, ne_eq, not_false_eq_true, not_true_eq_false, ↓reduceIte, v0_ltT, v0_ltF, v0_gtT, v0_gtF, v0_leT, v0_leF, v0_geT, v0_geF, v0_eqT, v0_eqF, v0_add, v0_dda, v0_mul, v0_lum, v0_sub, v0_bad, v0_cl, a4, m32]); rw [i0, b2, ev_rs, ch_38_4, e10, ev_rn, ch_38_5, d2, ev_rs, ch_38_6, e44, ev_rn, ch_38_7, i2, ev_rs, ch_38_8, e5, ev_rn, ch_38_9, k2, ev_rn, ch_38_10]; (try simp +decide (disch := omega) only [ni_bF, nI_clamp, nI_add, pk_mul, dc_ltT, dc_ltF, dc_leT, dc_leF, dc_eqF, dc_neT, dn_eq, dn_ne, dn_lt, dn_ge, si_at, si_c, si_k, q_at_nI, q_put_nI, ne_eq, not_false_eq_true, not_true_eq_false, ↓reduceIte, v0_ltT, v0_ltF, v0_gtT, v0_gtF, v0_leT, v0_leF, v0_geT, v0_geF, v0_eqT, v0_eqF, v0_add, v0_dda, v0_mul, v0_lum, v0_sub, v0_bad, v0_cl, v1_ltT, v1_ltF, v1_gtT, v1_gtF, v1_leT, v1_leF, v1_geT, v1_geF, v1_eqT, v1_eqF, v1_add, v1_dda, v1_mul, v1_lum, v1_sub, v1_bad, v1_cl, a4, m32]); rw [l2, ev_rn, ch_38_11]; (try simp +decide (disch := omega) only [ni_bF, nI_clamp, nI_add, pk_mul, dc_ltT, dc_ltF, dc_leT, dc_leF, dc_eqF, dc_neT, dn_eq, dn_ne, dn_lt, dn_ge, si_at, si_c, si_k, q_at_nI, q_put_nI, ne_eq, not_false_eq_true, not_true_eq_false, ↓reduceIte, v0_ltT, v0_ltF, v0_gtT, v0_gtF, v0_leT, v0_leF, v0_geT, v0_geF, v0_eqT, v0_eqF, v0_add, v0_dda, v0_mul, v0_lum, v0_sub, v0_bad, v0_cl, a4, m32]); rw [if_neg (fun q => q y1), y2, ev_rs, ch_38_13, sk_38_3_106, ht_38_4, ch_38_14]; (try simp +decide (disch := omega) only [ni_bF, nI_clamp, nI_add, pk_mul, dc_ltT, dc_ltF, dc_leT, dc_leF, dc_eqF, dc_neT, dn_eq, dn_ne, dn_lt, dn_ge, si_at, si_c, si_k, q_at_nI, q_put_nI, ne_eq, not_false_eq_true, not_true_eq_false, ↓reduceIte, v0_ltT, v0_ltF, v0_gtT, v0_gtF, v0_leT, v0_leF, v0_geT, v0_geF, v0_eqT, v0_eqF, v0_add, v0_dda, v0_mul, v0_lum, v0_sub, v0_bad, v0_cl, v1_ltT, v1_ltF, v1_gtT, v1_gtF, v1_leT, v1_leF, v1_geT, v1_geF, v1_eqT, v1_eqF, v1_add, v1_dda, v1_mul, v1_lum, v1_sub, v1_bad, v1_cl, a4, m32]); rw [q3, ev_rs, ch_38_15]
      · subst y2 y3 y4
        rw [en_38, ht_38_0, ch_38_0, a2, ev_rn, ch_38_1]; (try simp +decide (disch := omega) only [ni_bF, nI_clamp, nI_add, pk_mul, dc_ltT, dc_ltF, dc_leT, dc_leF, dc_eqF, dc_neT, dn_eq, dn_ne, dn_lt, dn_ge, si_at, si_c, si_k, q_at_nI, q_put_nI, ne_eq, not_false_eq_true, not_true_eq_false, ↓reduceIte, v0_ltT, v0_ltF, v0_gtT, v0_gtF, v0_leT, v0_leF, v0_geT, v0_geF, v0_eqT, v0_eqF, v0_add, v0_dda, v0_mul, v0_lum, v0_sub, v0_bad, v0_cl, a4, m32]); rw [if_pos z1, ht_38_1, ch_38_2, ht_38_2, ch_38_3]; (try simp +decide (disch := omega) only [ni_bF, nI_clamp, nI_add, pk_mul, dc_ltT, dc_ltF, dc_leT, dc_leF, dc_eqF, dc_neT, dn_eq, dn_ne, dn_lt, dn_ge, si_at, si_c, si_k, q_at_nI, q_put_nI, ne_eq, not_false_eq_true, not_true_eq_false, ↓reduceIte, v0_ltT, v0_ltF, v0_gtT, v0_gtF, v0_leT, v0_leF, v0_geT, v0_geF, v0_eqT, v0_eqF, v0_add, v0_dda, v0_mul, v0_lum, v0_sub, v0_bad, v0_cl, a4, m32]); rw [i0, b2, ev_rs, ch_38_4, e10, ev_rn, ch_38_5, d2, ev_rs, ch_38_6, e44, ev_rn, ch_38_7, i2, ev_rs, ch_38_8, e5, ev_rn, ch_38_9, k2, ev_rn, ch_38_10]; (try simp +decide (disch := omega) only [ni_bF, nI_clamp, nI_add, pk_mul, dc_ltT, dc_ltF, dc_leT, dc_leF, dc_eqF, dc_neT, dn_eq, dn_ne, dn_lt, dn_ge, si_at, si_c, si_k, q_at_nI, q_put_nI, ne_eq, not_false_eq_true, not_true_eq_false, ↓reduceIte, v0_ltT, v0_ltF, v0_gtT, v0_gtF, v0_leT, v0_leF, v0_geT, v0_geF, v0_eqT, v0_eqF, v0_add, v0_dda, v0_mul, v0_lum, v0_sub, v0_bad, v0_cl, v1_ltT, v1_ltF, v1_gtT, v1_gtF, v1_leT, v1_leF, v1_geT, v1_geF, v1_eqT, v1_eqF, v1_add, v1_dda, v1_mul, v1_lum, v1_sub, v1_bad, v1_cl, a4, m32]); rw [l2, ev_rn, ch_38_11]; (try simp +decide (disch := omega) only [ni_bF, nI_clamp, nI_add, pk_mul, dc_ltT, dc_ltF, dc_leT, dc_leF, dc_eqF, dc_neT, dn_eq, dn_ne, dn_lt, dn_ge, si_at, si_c, si_k, q_at_nI, q_put_nI, ne_eq, not_false_eq_true, not_true_eq_false, ↓reduceIte, v0_ltT, v0_ltF, v0_gtT, v0_gtF, v0_leT, v0_leF, v0_geT, v0_geF, v0_eqT, v0_eqF, v0_add, v0_dda, v0_mul, v0_lum, v0_sub, v0_bad, v0_cl, a4, m32]); rw [if_pos y1, ht_38_3, ch_38_12, ht_38_4, ch_38_14]; (try simp +decide (disch := omega) only [ni_bF, nI_clamp, nI_add, pk_mul, dc_ltT, dc_ltF, dc_leT, dc_leF, dc_eqF, dc_neT, dn_eq, dn_ne, dn_lt, dn_ge, si_at, si_c, si_k, q_at_nI, q_put_nI, ne_eq, not_false_eq_true, not_true_eq_false, ↓reduceIte, v0_ltT, v0_ltF, v0_gtT, v0_gtF, v0_leT, v0_leF, v0_geT, v0_geF, v0_eqT, v0_eqF, v0_add, v0_dda, v0_mul, v0_lum, v0_sub, v0_bad, v0_cl, v1_ltT, v1_ltF, v1_gtT, v1_gtF, v1_leT, v1_leF, v1_geT, v1_geF, v1_eqT, v1_eqF, v1_add, v1_dda, v1_mul, v1_lum, v1_sub, v1_bad, v1_cl, a4, m32]); rw [q3, ev_rs, ch_38_15]
  · rcases Sd with ⟨k9, n9, t9, G0, P9, J9, n8, rfl, ⟨Y, ⟨n5, t5, z, y1, y2, y3, y4, y5, y6, y7, y8, y9, y10, y11, y12, y13, y14, y15, y16, y17⟩, hl⟩, e1, e2, e3⟩ | Db
    · obtain ⟨_, rfl⟩ := List.append_inj' z (by rw [hl, hGl])
      have xa := xn_at (hC := am_si (am_si hCb 32 2 (hCb 32 2 - 1)) 32 3 (nI w)) (n := n8) 7 r4 r1 rb (-1)
      have gx : gw hCb hCd n8 t9 t9 D := by rw [e3]; exact gw_xn
      rw [← e3] at xa
      refine Or.inl ⟨k9, n8 + 1, t9, P9, J9, by omega, by omega, e1, e2, ?_, gw_t y13 gx (by omega) (by omega), y17⟩
      show wfx hCd _ _ n8 n t t9 G0
      have w1 := wfx_gw y11 (by omega) gx
      have w2 := wfx_gw y12 (by omega) gx
      refine Or.inr (Or.inr (Or.inr (Or.inr (Or.inr (Or.inr (Or.inr (Or.inl ⟨xa.1, 5 * (41 - (o + 1)), 40 - (o + 1), n5 - 1, n8 - 1, t5, by omega, by omega, ?_, by rw [xa.2.2.1, y7], by rw [xa.2.2.2.1, y9], by omega, wf_le (show n5 - 1 + 1 ≤ n8 by omega) w1, ?_⟩)))))))
      · unfold mk
        rw [xa.1, if_neg (by decide), xa.2.1, y1]
      · rw [show n5 - 1 + 1 = n5 by omega]
        exact wf_le (show n8 - 1 + 1 ≤ n8 by omega) w2
    · exact Or.inr Db
/-- every expression, at depth e where 8 frames a level are free -/
theorem ex_level (X : px h0 h1 g1 B N M rd) (hD : h0 3 0 = nI (D + 1)) (hDm : h1 85 rd = nI D) (IH : o < 40 → exC h0 g0 h1 g1 B N M rd D (o + 1) (e + 10)) (ho : o ≤ 40) : exC h0 g0 h1 g1 B N M rd D o (e + 18) := by
  intro hC gC hM gM k n t w G π P J
  have fe : 5 * (41 - o) = 5 * (40 - o) + 5 := by omega
  rw [fe]
  have tc := P.2.2.1.1.2.1
  have e6 := P.2.2.2.2.1.1
  have e26 := P.2.2.2.2.1.2.1
  have hk : k < 2001 := by have := X.2.2.2.1; have := P.2.2.1.2.2; omega
  have tm := (px_t X P.2.1 P.2.2.1.2.2).1
  by_cases c1 : tok B N (tp B N k) = 92
  · obtain ⟨rC, rM, hC', gC', hM', gM', u1, u2, u3⟩ := ct_lam X hD hDm IH P J c1
    have u1' := mo_d (d' := e + 17) (by omega) u1
    have u2' := mo_d (d' := e + 17) (by omega) u2
    have t1 : hC 1 1 = 92 := by rw [tc, c1]; rfl
    have t2 : hM 75 k = 92 := tm.trans (by rw [c1]; rfl)
    refine ⟨rC, rM, hC', gC', hM', gM', ?_, ?_, u3⟩
    · rw [en_181, ht_181_0, ch_181_0]; (try simp +decide (disch := omega) only [ni_bF, nI_clamp, nI_add, pk_mul, dc_ltT, dc_ltF, dc_leT, dc_leF, dc_eqF, dc_neT, dn_eq, dn_ne, dn_lt, dn_ge, si_at, si_c, si_k, q_at_nI, q_put_nI, ne_eq, not_false_eq_true, not_true_eq_false, ↓reduceIte, v0_ltT, v0_ltF, v0_gtT, v0_gtF, v0_leT, v0_leF, v0_geT, v0_geF, v0_eqT, v0_eqF, v0_add, v0_dda, v0_mul, v0_lum, v0_sub, v0_bad, v0_cl, v92_eqT, v92_eqF, v260_eqT, v260_eqF, v262_eqT, v262_eqF, v265_eqT, v265_eqF, t1]); rw [ht_181_1, ch_181_1, u1', ev_rs, ch_181_6]
    · rw [en_35, ht_35_0, ch_35_0]; (try simp +decide (disch := omega) only [ni_bF, nI_clamp, nI_add, pk_mul, dc_ltT, dc_ltF, dc_leT, dc_leF, dc_eqF, dc_neT, dn_eq, dn_ne, dn_lt, dn_ge, si_at, si_c, si_k, q_at_nI, q_put_nI, ne_eq, not_false_eq_true, not_true_eq_false, ↓reduceIte, v0_ltT, v0_ltF, v0_gtT, v0_gtF, v0_leT, v0_leF, v0_geT, v0_geF, v0_eqT, v0_eqF, v0_add, v0_dda, v0_mul, v0_lum, v0_sub, v0_bad, v0_cl, e6, e26, t2]); rw [ht_35_1, ch_35_1]; (try simp +decide (disch := omega) only [ni_bF, nI_clamp, nI_add, pk_mul, dc_ltT, dc_ltF, dc_leT, dc_leF, dc_eqF, dc_neT, dn_eq, dn_ne, dn_lt, dn_ge, si_at, si_c, si_k, q_at_nI, q_put_nI, ne_eq, not_false_eq_true, not_true_eq_false, ↓reduceIte, v0_ltT, v0_ltF, v0_gtT, v0_gtF, v0_leT, v0_leF, v0_geT, v0_geF, v0_eqT, v0_eqF, v0_add, v0_dda, v0_mul, v0_lum, v0_sub, v0_bad, v0_cl, v4_eqT, v4_eqF, v6_eqT, v6_eqF, v9_eqT, v9_eqF, v92_eqT, v92_eqF, e6, e26, t2]); rw [ht_35_2, ch_35_5, u2', ev_rs, ch_35_10]
  by_cases c2 : tok B N (tp B N k) = 4
  · obtain ⟨rC, rM, hC', gC', hM', gM', u1, u2, u3⟩ := ct_let X hD hDm IH P J c2
    have u1' := mo_d (d' := e + 17) (by omega) u1
    have u2' := mo_d (d' := e + 17) (by omega) u2
    have t1 : hC 1 1 = 260 := by rw [tc, c2]; rfl
    have t2 : hM 75 k = 4 := tm.trans (by rw [c2]; rfl)
    refine ⟨rC, rM, hC', gC', hM', gM', ?_, ?_, u3⟩
    · rw [en_181, ht_181_0, ch_181_0]; (try simp +decide (disch := omega) only [ni_bF, nI_clamp, nI_add, pk_mul, dc_ltT, dc_ltF, dc_leT, dc_leF, dc_eqF, dc_neT, dn_eq, dn_ne, dn_lt, dn_ge, si_at, si_c, si_k, q_at_nI, q_put_nI, ne_eq, not_false_eq_true, not_true_eq_false, ↓reduceIte, v0_ltT, v0_ltF, v0_gtT, v0_gtF, v0_leT, v0_leF, v0_geT, v0_geF, v0_eqT, v0_eqF, v0_add, v0_dda, v0_mul, v0_lum, v0_sub, v0_bad, v0_cl, v92_eqT, v92_eqF, v260_eqT, v260_eqF, v262_eqT, v262_eqF, v265_eqT, v265_eqF, t1]); rw [sk_181_1_53, ht_181_2, ch_181_2, u1', ev_rs, ch_181_7]
    · rw [en_35, ht_35_0, ch_35_0]; (try simp +decide (disch := omega) only [ni_bF, nI_clamp, nI_add, pk_mul, dc_ltT, dc_ltF, dc_leT, dc_leF, dc_eqF, dc_neT, dn_eq, dn_ne, dn_lt, dn_ge, si_at, si_c, si_k, q_at_nI, q_put_nI, ne_eq, not_false_eq_true, not_true_eq_false, ↓reduceIte, v0_ltT, v0_ltF, v0_gtT, v0_gtF, v0_leT, v0_leF, v0_geT, v0_geF, v0_eqT, v0_eqF, v0_add, v0_dda, v0_mul, v0_lum, v0_sub, v0_bad, v0_cl, e6, e26, t2]); rw [ht_35_1, ch_35_1]; (try simp +decide (disch := omega) only [ni_bF, nI_clamp, nI_add, pk_mul, dc_ltT, dc_ltF, dc_leT, dc_leF, dc_eqF, dc_neT, dn_eq, dn_ne, dn_lt, dn_ge, si_at, si_c, si_k, q_at_nI, q_put_nI, ne_eq, not_false_eq_true, not_true_eq_false, ↓reduceIte, v0_ltT, v0_ltF, v0_gtT, v0_gtF, v0_leT, v0_leF, v0_geT, v0_geF, v0_eqT, v0_eqF, v0_add, v0_dda, v0_mul, v0_lum, v0_sub, v0_bad, v0_cl, v4_eqT, v4_eqF, v6_eqT, v6_eqF, v9_eqT, v9_eqF, v92_eqT, v92_eqF, e6, e26, t2]); rw [sk_35_2_65, ht_35_3, ch_35_2, u2', ev_rs, ch_35_7]
  by_cases c3 : tok B N (tp B N k) = 6
  · obtain ⟨rC, rM, hC', gC', hM', gM', u1, u2, u3⟩ := ct_if X IH P J c3
    have u1' := mo_d (d' := e + 17) (by omega) u1
    have u2' := mo_d (d' := e + 18) (by omega) u2
    have t1 : hC 1 1 = 262 := by rw [tc, c3]; rfl
    refine ⟨rC, rM, hC', gC', hM', gM', ?_, u2', u3⟩
    rw [en_181, ht_181_0, ch_181_0]; (try simp +decide (disch := omega) only [ni_bF, nI_clamp, nI_add, pk_mul, dc_ltT, dc_ltF, dc_leT, dc_leF, dc_eqF, dc_neT, dn_eq, dn_ne, dn_lt, dn_ge, si_at, si_c, si_k, q_at_nI, q_put_nI, ne_eq, not_false_eq_true, not_true_eq_false, ↓reduceIte, v0_ltT, v0_ltF, v0_gtT, v0_gtF, v0_leT, v0_leF, v0_geT, v0_geF, v0_eqT, v0_eqF, v0_add, v0_dda, v0_mul, v0_lum, v0_sub, v0_bad, v0_cl, v92_eqT, v92_eqF, v260_eqT, v260_eqF, v262_eqT, v262_eqF, v265_eqT, v265_eqF, t1]); rw [sk_181_1_58, ht_181_3, ch_181_3, u1', ev_rs, ch_181_8]
  by_cases c4 : tok B N (tp B N k) = 9
  · obtain ⟨rC, rM, hC', gC', hM', gM', u1, u2, u3⟩ := ct_split X hD hDm IH P J c4
    have u1' := mo_d (d' := e + 17) (by omega) u1
    have u2' := mo_d (d' := e + 17) (by omega) u2
    have t1 : hC 1 1 = 265 := by rw [tc, c4]; rfl
    have t2 : hM 75 k = 9 := tm.trans (by rw [c4]; rfl)
    refine ⟨rC, rM, hC', gC', hM', gM', ?_, ?_, u3⟩
    · rw [en_181, ht_181_0, ch_181_0]; (try simp +decide (disch := omega) only [ni_bF, nI_clamp, nI_add, pk_mul, dc_ltT, dc_ltF, dc_leT, dc_leF, dc_eqF, dc_neT, dn_eq, dn_ne, dn_lt, dn_ge, si_at, si_c, si_k, q_at_nI, q_put_nI, ne_eq, not_false_eq_true, not_true_eq_false, ↓reduceIte, v0_ltT, v0_ltF, v0_gtT, v0_gtF, v0_leT, v0_leF, v0_geT, v0_geF, v0_eqT, v0_eqF, v0_add, v0_dda, v0_mul, v0_lum, v0_sub, v0_bad, v0_cl, v92_eqT, v92_eqF, v260_eqT, v260_eqF, v262_eqT, v262_eqF, v265_eqT, v265_eqF, t1]); rw [sk_181_1_63, ht_181_4, ch_181_4, u1', ev_rs, ch_181_9]
    · rw [en_35, ht_35_0, ch_35_0]; (try simp +decide (disch := omega) only [ni_bF, nI_clamp, nI_add, pk_mul, dc_ltT, dc_ltF, dc_leT, dc_leF, dc_eqF, dc_neT, dn_eq, dn_ne, dn_lt, dn_ge, si_at, si_c, si_k, q_at_nI, q_put_nI, ne_eq, not_false_eq_true, not_true_eq_false, ↓reduceIte, v0_ltT, v0_ltF, v0_gtT, v0_gtF, v0_leT, v0_leF, v0_geT, v0_geF, v0_eqT, v0_eqF, v0_add, v0_dda, v0_mul, v0_lum, v0_sub, v0_bad, v0_cl, e6, e26, t2]); rw [ht_35_1, ch_35_1]; (try simp +decide (disch := omega) only [ni_bF, nI_clamp, nI_add, pk_mul, dc_ltT, dc_ltF, dc_leT, dc_leF, dc_eqF, dc_neT, dn_eq, dn_ne, dn_lt, dn_ge, si_at, si_c, si_k, q_at_nI, q_put_nI, ne_eq, not_false_eq_true, not_true_eq_false, ↓reduceIte, v0_ltT, v0_ltF, v0_gtT, v0_gtF, v0_leT, v0_leF, v0_geT, v0_geF, v0_eqT, v0_eqF, v0_add, v0_dda, v0_mul, v0_lum, v0_sub, v0_bad, v0_cl, v4_eqT, v4_eqF, v6_eqT, v6_eqF, v9_eqT, v9_eqF, v92_eqT, v92_eqF, e6, e26, t2]); rw [sk_35_2_142, ht_35_7, ch_35_4, u2', ev_rs, ch_35_9]
  exact ct_cmp X IH P J ⟨c1, c2, c3, c4⟩
theorem ex_all (X : px h0 h1 g1 B N M rd) (hD : h0 3 0 = nI (D + 1)) (hDm : h1 85 rd = nI D) : ∀ (j : Nat), j ≤ 40 → exC h0 g0 h1 g1 B N M rd D (40 - j) (8 * j + e + 18)
  | 0, _ => ex_level X hD hDm (fun h => absurd h (by omega)) (by omega)
  | j + 1, hj => by
    have ih := ex_all X hD hDm j (by omega)
    have := ex_level (e := 8 * (j + 1) + e) (o := 40 - (j + 1)) X hD hDm (fun _ => by
      rw [show 40 - (j + 1) + 1 = 40 - j by omega, show 8 * (j + 1) + e + 10 = 8 * j + e + 18 by omega]
      exact ih) (by omega)
    exact this
end SL
