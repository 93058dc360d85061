/-! an APPLICATION has its FUNCTION -/
section AP
variable {h0 h1 : Nat → Nat → Int32} {hl : Nat → Nat → Int64} {z nd nt nn hf lim : Nat} {sz L bd st : Nat → Nat} {md : Int32}
theorem rk_nt (Kx : rn_K h0 h1 z nd nt nn hf sz L bd st md) {e : Nat} (he : e < nd) : L (e + 1) ≤ nt ∧ L e + sz e ≤ L (e + 1) ∧ sz e ≤ 4 := by
  obtain ⟨p1, p2, p3, p4, p5, p6, p7, p8, p9, p10, p11, p12, p13, p14⟩ := Kx.1
  have m1 : L (e + 1) ≤ L nd := pg_mono (sz := sz) (fun d hd => (p12 d hd).2.2.2.2.2.2.2.2.2.1) (by omega) (Nat.le_refl _)
  exact ⟨by omega, (p12 e he).2.2.2.2.2.2.2.2.2.1, (p12 e he).2.1⟩
/-- a PARAMETER is given, or not -/
theorem pr_bp {hC hM : Nat → Nat → Int32} {nb ne nc nf np nw s cn cl : Nat} (d e j : Nat) (Kx : rn_K h0 h1 z nd nt nn hf sz L bd st md) (S : rn_S h0 h1 z nd nn sz lim md hC hM nb ne nc nf np nw s cn cl) (he : e < nd) (hj : j < sz e) (hb : nb < 20100) :
    ∃ b : Int32, (b = 0 ∨ b = 1) ∧ (∀ (d : Nat) (hx : Nat → Nat → Int32), hx 73 75 = hM 73 75 → hx 73 7 = hM 73 7 → hx 92 = hM 92 → hx 101 = hM 101 → am_call tb_P (d + 1) 76 [.ref 73, .int (nI (L e + j))] (pr_S, hx, hl) = some (some (.int b), (pr_S, hx, hl))) ∧ ∀ c f o : Int32, am_call tb_P (d + 2) 172 [.ref 45, .int (nI (L e + j)), .int c, .int f, .int o] (pr_S, hC, hl) = some (some (.int (nI nb)), (pr_S, xb hC nb (nI (L e + j)) (if b = 0 then c else -1) (if b = 0 then f else -1) o, hl)) := by
  obtain ⟨z1, z2, z3, z4, z5, z6⟩ := rk_z Kx
  obtain ⟨y1, y2, y3⟩ := rk_nt Kx he
  obtain ⟨p1, p2, p3, p4, p5, p6, p7, p8, p9, p10, p11, p12, p13, p14⟩ := Kx.1
  have n1 := S.1.1
  have m10 : hC 45 10 = md := S.2.2.1.2.2.1
  have m75 : hM 73 75 = md := S.2.2.1.2.2.2.2.2.2.1
  have eU : hC 31 = h0 31 := rk_c S (Or.inl (by decide))
  have eV : hM 101 = h1 101 := S.2.2.1.2.2.2.1 _ (by decide) (by decide)
  have h7 : hM 73 7 = nI hf := by rw [S.2.2.1.2.2.2.2.1 7 (by decide)]; exact Kx.2.2.2.1
  have g0 : h0 23 (L e + j) = 0 := (((p12 e he).2.2.2.2.2.2.2.2.2.2.2 (L e + j) (by omega) (by omega)).2).mpr (by omega)
  have g1 : hM 92 (200 * hf + (L e + j)) = 0 := by rw [rk_m Kx S (by unfold pg_c; omega) (by decide), (p13 _ (by omega)).1]; exact g0
  by_cases c1 : md &&& 2 = 0
  · refine ⟨0, Or.inl rfl, fun d hx x1 x2 x3 x4 => ?_, fun c f o => ?_⟩
    · rw [en_76, ht_76_0, ch_76_0]; (try simp +decide (disch := omega) only [ni_bF, nI_clamp, nI_add, pk_mul, dc_ltT, dc_ltF, dc_leT, dc_leF, dc_eqF, dc_neT, dn_eq, dn_ne, dn_lt, dn_ge, si_at, si_c, si_k, q_at_nI, q_put_nI, ne_eq, not_false_eq_true, not_true_eq_false, ↓reduceIte, v0_ltT, v0_ltF, v0_gtT, v0_gtF, v0_leT, v0_leF, v0_geT, v0_geF, v0_eqT, v0_eqF, v0_add, v0_dda, v0_mul, v0_lum, v0_sub, v0_bad, v0_cl, v200_ltT, v200_ltF, v200_gtT, v200_gtF, v200_leT, v200_leF, v200_geT, v200_geF, v200_eqT, v200_eqF, v200_add, v200_dda, v200_mul, v200_lum, v200_sub, v200_bad, v200_cl, x1, x2, x3, x4, m75, c1]); rw [ht_76_1, ch_76_1, ht_76_2, ch_76_2]; try simp +decide (disch := omega) only [ni_bF, nI_clamp, nI_add, pk_mul, dc_ltT, dc_ltF, dc_leT, dc_leF, dc_eqF, dc_neT, dn_eq, dn_ne, dn_lt, dn_ge, si_at, si_c, si_k, q_at_nI, q_put_nI, ne_eq, not_false_eq_true, not_true_eq_false, ↓reduceIte, v0_ltT, v0_ltF, v0_gtT, v0_gtF, v0_leT, v0_leF, v0_geT, v0_geF, v0_eqT, v0_eqF, v0_add, v0_dda, v0_mul, v0_lum, v0_sub, v0_bad, v0_cl, v1_ltT, v1_ltF, v1_gtT, v1_gtF, v1_leT, v1_leF, v1_geT, v1_geF, v1_eqT, v1_eqF, v1_add, v1_dda, v1_mul, v1_lum, v1_sub, v1_bad, v1_cl, x1, x2, x3, x4, m75, c1]
    · rw [if_pos rfl, if_pos rfl]
      rw [en_172, ht_172_0, ch_172_0]; (try simp +decide (disch := omega) only [ni_bF, nI_clamp, nI_add, pk_mul, dc_ltT, dc_ltF, dc_leT, dc_leF, dc_eqF, dc_neT, dn_eq, dn_ne, dn_lt, dn_ge, si_at, si_c, si_k, q_at_nI, q_put_nI, ne_eq, not_false_eq_true, not_true_eq_false, ↓reduceIte, v0_ltT, v0_ltF, v0_gtT, v0_gtF, v0_leT, v0_leF, v0_geT, v0_geF, v0_eqT, v0_eqF, v0_add, v0_dda, v0_mul, v0_lum, v0_sub, v0_bad, v0_cl, m10, c1]); rw [ht_172_1, ch_172_1, ea_bmake _ _ _ n1 hb, ev_rs, ch_172_3]
  · have md0 : md ≠ 0 := fun q => c1 (by rw [q]; rfl)
    have us := Kx.2.2.2.2.2.2 md0 (L e + j) (by omega)
    by_cases c2 : h0 31 (L e + j) = 0
    · have c3 : h1 101 (L e + j) = 0 := us.symm.trans c2
      refine ⟨1, Or.inr rfl, fun d hx x1 x2 x3 x4 => ?_, fun c f o => ?_⟩
      · rw [en_76, ht_76_0, ch_76_0]; (try simp +decide (disch := omega) only [ni_bF, nI_clamp, nI_add, pk_mul, dc_ltT, dc_ltF, dc_leT, dc_leF, dc_eqF, dc_neT, dn_eq, dn_ne, dn_lt, dn_ge, si_at, si_c, si_k, q_at_nI, q_put_nI, ne_eq, not_false_eq_true, not_true_eq_false, ↓reduceIte, v0_ltT, v0_ltF, v0_gtT, v0_gtF, v0_leT, v0_leF, v0_geT, v0_geF, v0_eqT, v0_eqF, v0_add, v0_dda, v0_mul, v0_lum, v0_sub, v0_bad, v0_cl, v200_ltT, v200_ltF, v200_gtT, v200_gtF, v200_leT, v200_leF, v200_geT, v200_geF, v200_eqT, v200_eqF, v200_add, v200_dda, v200_mul, v200_lum, v200_sub, v200_bad, v200_cl, x1, x2, x3, x4, m75, h7, g1, eV, c3]); rw [if_neg c1, sk_76_1_41, ht_76_2, ch_76_2]; try simp +decide (disch := omega) only [ni_bF, nI_clamp, nI_add, pk_mul, dc_ltT, dc_ltF, dc_leT, dc_leF, dc_eqF, dc_neT, dn_eq, dn_ne, dn_lt, dn_ge, si_at, si_c, si_k, q_at_nI, q_put_nI, ne_eq, not_false_eq_true, not_true_eq_false, ↓reduceIte, v0_ltT, v0_ltF, v0_gtT, v0_gtF, v0_leT, v0_leF, v0_geT, v0_geF, v0_eqT, v0_eqF, v0_add, v0_dda, v0_mul, v0_lum, v0_sub, v0_bad, v0_cl, v1_ltT, v1_ltF, v1_gtT, v1_gtF, v1_leT, v1_leF, v1_geT, v1_geF, v1_eqT, v1_eqF, v1_add, v1_dda, v1_mul, v1_lum, v1_sub, v1_bad, v1_cl, x1, x2, x3, x4, m75, h7, g1, eV, c3]
      · rw [if_neg (by decide), if_neg (by decide)]
        rw [en_172, ht_172_0, ch_172_0]; (try simp +decide (disch := omega) only [ni_bF, nI_clamp, nI_add, pk_mul, dc_ltT, dc_ltF, dc_leT, dc_leF, dc_eqF, dc_neT, dn_eq, dn_ne, dn_lt, dn_ge, si_at, si_c, si_k, q_at_nI, q_put_nI, ne_eq, not_false_eq_true, not_true_eq_false, ↓reduceIte, v0_ltT, v0_ltF, v0_gtT, v0_gtF, v0_leT, v0_leF, v0_geT, v0_geF, v0_eqT, v0_eqF, v0_add, v0_dda, v0_mul, v0_lum, v0_sub, v0_bad, v0_cl, m10, eU, c2]); rw [if_neg c1, at_31, ev_rs, ch_172_2]; (try simp +decide (disch := omega) only [ni_bF, nI_clamp, nI_add, pk_mul, dc_ltT, dc_ltF, dc_leT, dc_leF, dc_eqF, dc_neT, dn_eq, dn_ne, dn_lt, dn_ge, si_at, si_c, si_k, q_at_nI, q_put_nI, ne_eq, not_false_eq_true, not_true_eq_false, ↓reduceIte, v0_ltT, v0_ltF, v0_gtT, v0_gtF, v0_leT, v0_leF, v0_geT, v0_geF, v0_eqT, v0_eqF, v0_add, v0_dda, v0_mul, v0_lum, v0_sub, v0_bad, v0_cl, m10, eU, c2]); rw [ea_bmake _ _ _ n1 hb, ev_rs, ch_172_4]
    · have c3 : h1 101 (L e + j) ≠ 0 := fun q => c2 (us.trans q)
      refine ⟨0, Or.inl rfl, fun d hx x1 x2 x3 x4 => ?_, fun c f o => ?_⟩
      · rw [en_76, ht_76_0, ch_76_0]; (try simp +decide (disch := omega) only [ni_bF, nI_clamp, nI_add, pk_mul, dc_ltT, dc_ltF, dc_leT, dc_leF, dc_eqF, dc_neT, dn_eq, dn_ne, dn_lt, dn_ge, si_at, si_c, si_k, q_at_nI, q_put_nI, ne_eq, not_false_eq_true, not_true_eq_false, ↓reduceIte, v0_ltT, v0_ltF, v0_gtT, v0_gtF, v0_leT, v0_leF, v0_geT, v0_geF, v0_eqT, v0_eqF, v0_add, v0_dda, v0_mul, v0_lum, v0_sub, v0_bad, v0_cl, v200_ltT, v200_ltF, v200_gtT, v200_gtF, v200_leT, v200_leF, v200_geT, v200_geF, v200_eqT, v200_eqF, v200_add, v200_dda, v200_mul, v200_lum, v200_sub, v200_bad, v200_cl, x1, x2, x3, x4, m75, h7, g1, eV]); rw [if_neg c1, if_pos c3, ht_76_1, ch_76_1, ht_76_2, ch_76_2]; try simp +decide (disch := omega) only [ni_bF, nI_clamp, nI_add, pk_mul, dc_ltT, dc_ltF, dc_leT, dc_leF, dc_eqF, dc_neT, dn_eq, dn_ne, dn_lt, dn_ge, si_at, si_c, si_k, q_at_nI, q_put_nI, ne_eq, not_false_eq_true, not_true_eq_false, ↓reduceIte, v0_ltT, v0_ltF, v0_gtT, v0_gtF, v0_leT, v0_leF, v0_geT, v0_geF, v0_eqT, v0_eqF, v0_add, v0_dda, v0_mul, v0_lum, v0_sub, v0_bad, v0_cl, v1_ltT, v1_ltF, v1_gtT, v1_gtF, v1_leT, v1_leF, v1_geT, v1_geF, v1_eqT, v1_eqF, v1_add, v1_dda, v1_mul, v1_lum, v1_sub, v1_bad, v1_cl, x1, x2, x3, x4, m75, h7, g1, eV]
      · rw [if_pos rfl, if_pos rfl]
        rw [en_172, ht_172_0, ch_172_0]; (try simp +decide (disch := omega) only [ni_bF, nI_clamp, nI_add, pk_mul, dc_ltT, dc_ltF, dc_leT, dc_leF, dc_eqF, dc_neT, dn_eq, dn_ne, dn_lt, dn_ge, si_at, si_c, si_k, q_at_nI, q_put_nI, ne_eq, not_false_eq_true, not_true_eq_false, ↓reduceIte, v0_ltT, v0_ltF, v0_gtT, v0_gtF, v0_leT, v0_leF, v0_geT, v0_geF, v0_eqT, v0_eqF, v0_add, v0_dda, v0_mul, v0_lum, v0_sub, v0_bad, v0_cl, m10, eU]); rw [if_neg c1, at_31, ev_rs, ch_172_2]; (try simp +decide (disch := omega) only [ni_bF, nI_clamp, nI_add, pk_mul, dc_ltT, dc_ltF, dc_leT, dc_leF, dc_eqF, dc_neT, dn_eq, dn_ne, dn_lt, dn_ge, si_at, si_c, si_k, q_at_nI, q_put_nI, ne_eq, not_false_eq_true, not_true_eq_false, ↓reduceIte, v0_ltT, v0_ltF, v0_gtT, v0_gtF, v0_leT, v0_leF, v0_geT, v0_geF, v0_eqT, v0_eqF, v0_add, v0_dda, v0_mul, v0_lum, v0_sub, v0_bad, v0_cl, m10, eU]); rw [if_pos c2, ht_172_1, ch_172_1, ea_bmake _ _ _ n1 hb, ev_rs, ch_172_3]
/-- all ARGUMENTS are bound, the last first -/
theorem cd_loop (d e i0 : Nat) (x2 y2 : Int32) (Kx : rn_K h0 h1 z nd nt nn hf sz L bd st md) (he : e < nd) : ∀ (j n : Nat) (hC hM : Nat → Nat → Int32) (nb ne nc nf np nw s cn cl f : Nat) (sb se : Int32) (X : List Nat), j ≤ n → rn_S h0 h1 z nd nn sz lim md hC hM nb ne nc nf np nw s cn cl → (0 < j → f < nf ∧ hC 62 f = nI j ∧ hC 61 f = nI e) → j + X.length = sz e → (∀ t, L e + j ≤ t → t < L e + sz e → t ∈ X) → (∀ t ∈ X, t < L e + sz e) → sr_X (hC 49) (hC 52) (hM 114) (hM 115) nb ne X sb se → hC 45 11 = -1 → hM 73 77 = 7 → rn_P lim (nb + j) (ne + j) nc nf np nw s cn cl i0 0 0 0 →
    ∃ hC' hM' : Nat → Nat → Int32, am_fwd (am_call tb_P (d + 3)) (am_run (am_call tb_P (d + 3)) tb_r171_0 n) tb_r171_1 33 [(6, .int (nI j - 1)), (5, .int (nI (L e))), (4, .int sb), (3, .int (nI f)), (0, .ref 45), (1, .int (nI e)), (2, .int x2)] [] (pr_S, hC, hl) = some (none, (pr_S, hC', hl)) ∧ am_fwd (am_call tb_P (d + 3)) (am_run (am_call tb_P (d + 3)) tb_r86_0 n) tb_r86_1 15 [(5, .int (nI j - 1)), (4, .int (nI f)), (3, .int se), (0, .ref 73), (1, .int (nI e)), (2, .int y2)] [] (pr_S, hM, hl) = some (none, (pr_S, hM', hl)) ∧ rn_On h0 h1 z nd nn sz lim md hC' hM' i0 := by
  obtain ⟨z1, z2, z3, z4, z5, z6⟩ := rk_z Kx
  obtain ⟨y1, y2', y3⟩ := rk_nt Kx he
  obtain ⟨p1, p2, p3, p4, p5, p6, p7, p8, p9, p10, p11, p12, p13, p14⟩ := Kx.1
  obtain ⟨q1, q2, q3, q4, q5, q6, q7, q8, q9, q10, ⟨f0, g0, q11, q12, q13⟩, q14⟩ := p12 e he
  intro j
  induction j with
  | zero =>
    intro n hC hM nb ne nc nf np nw s cn cl f sb se X hn S hf0 hX1 hX2 hX3 X0 o1 o2 P
    have eDB : hC 22 = h0 22 := rk_c S (Or.inl (by decide))
    have h7 : hM 73 7 = nI hf := by rw [S.2.2.1.2.2.2.2.1 7 (by decide)]; exact Kx.2.2.2.1
    have t2 : hM 88 (24 * hf + e) = nI (z + bd e) := by rw [rk_m Kx S (by unfold pg_c; omega) (by decide), z6]; exact q8
    have v : rn_V h0 nd nn hC hM nb ne (bd e) sb se := ⟨4000, f0, g0, st e, L e + sz e, L (e + 1), pg_G (L e) (sz e), X, q13, q9, ⟨nt, p6, by omega, p2⟩, X0, fun t ht => hX2 t (by have := pg_Gb ht; omega) (pg_Gb ht).2, by omega, hX3⟩
    refine ⟨xg hC (nI (bd e)) sb, xgm hM (nI (z + bd e)) se, ?_, ?_, on_go S v o1 o2 P⟩
    · rw [ht_171_1, ch_171_3]; (try simp +decide (disch := omega) only [ni_bF, nI_clamp, nI_add, pk_mul, dc_ltT, dc_ltF, dc_leT, dc_leF, dc_eqF, dc_neT, dn_eq, dn_ne, dn_lt, dn_ge, si_at, si_c, si_k, q_at_nI, q_put_nI, ne_eq, not_false_eq_true, not_true_eq_false, ↓reduceIte, v0_ltT, v0_ltF, v0_gtT, v0_gtF, v0_leT, v0_leF, v0_geT, v0_geF, v0_eqT, v0_eqF, v0_add, v0_dda, v0_mul, v0_lum, v0_sub, v0_bad, v0_cl, eDB, q7]); rw [ht_171_2, ch_171_4, at_22, ev_rs, ch_171_6]; (try simp +decide (disch := omega) only [ni_bF, nI_clamp, nI_add, pk_mul, dc_ltT, dc_ltF, dc_leT, dc_leF, dc_eqF, dc_neT, dn_eq, dn_ne, dn_lt, dn_ge, si_at, si_c, si_k, q_at_nI, q_put_nI, ne_eq, not_false_eq_true, not_true_eq_false, ↓reduceIte, v0_ltT, v0_ltF, v0_gtT, v0_gtF, v0_leT, v0_leF, v0_geT, v0_geF, v0_eqT, v0_eqF, v0_add, v0_dda, v0_mul, v0_lum, v0_sub, v0_bad, v0_cl, eDB, q7]); rw [ea_goOn _ _ _, ev_rn, ch_171_8]
    · rw [ht_86_1, ch_86_1]; (try simp +decide (disch := omega) only [ni_bF, nI_clamp, nI_add, pk_mul, dc_ltT, dc_ltF, dc_leT, dc_leF, dc_eqF, dc_neT, dn_eq, dn_ne, dn_lt, dn_ge, si_at, si_c, si_k, q_at_nI, q_put_nI, ne_eq, not_false_eq_true, not_true_eq_false, ↓reduceIte, v0_ltT, v0_ltF, v0_gtT, v0_gtF, v0_leT, v0_leF, v0_geT, v0_geF, v0_eqT, v0_eqF, v0_add, v0_dda, v0_mul, v0_lum, v0_sub, v0_bad, v0_cl, v24_ltT, v24_ltF, v24_gtT, v24_gtF, v24_leT, v24_leF, v24_geT, v24_geF, v24_eqT, v24_eqF, v24_add, v24_dda, v24_mul, v24_lum, v24_sub, v24_bad, v24_cl, h7, t2]); rw [sk_86_2_106, ht_86_6, ch_86_2]; (try simp +decide (disch := omega) only [ni_bF, nI_clamp, nI_add, pk_mul, dc_ltT, dc_ltF, dc_leT, dc_leF, dc_eqF, dc_neT, dn_eq, dn_ne, dn_lt, dn_ge, si_at, si_c, si_k, q_at_nI, q_put_nI, ne_eq, not_false_eq_true, not_true_eq_false, ↓reduceIte, v0_ltT, v0_ltF, v0_gtT, v0_gtF, v0_leT, v0_leF, v0_geT, v0_geF, v0_eqT, v0_eqF, v0_add, v0_dda, v0_mul, v0_lum, v0_sub, v0_bad, v0_cl, v24_ltT, v24_ltF, v24_gtT, v24_gtF, v24_leT, v24_leF, v24_geT, v24_geF, v24_eqT, v24_eqF, v24_add, v24_dda, v24_mul, v24_lum, v24_sub, v24_bad, v24_cl, h7, t2]); rw [em_goes _ _ _, ev_rn, ch_86_4]
  | succ j ih =>
    intro n hC hM nb ne nc nf np nw s cn cl f sb se X hn S hf0 hX1 hX2 hX3 X0 o1 o2 P
    obtain ⟨n, rfl⟩ : ∃ n', n = n' + 1 := ⟨n - 1, by omega⟩
    obtain ⟨f1, f2, f3⟩ := hf0 (Nat.succ_pos _)
    have P0 := P
    obtain ⟨P1, P2, P3, P4, P5, P6, P7, P8, P9, P10, P11⟩ := P
    have h7 : hM 73 7 = nI hf := by rw [S.2.2.1.2.2.2.2.1 7 (by decide)]; exact Kx.2.2.2.1
    have t1 : hM 89 (24 * hf + e) = nI (L e) := by rw [rk_m Kx S (by unfold pg_c; omega) (by decide)]; exact q6
    have n5 := S.1.2.2.2.2.1
    have n6 := S.1.2.2.2.2.2.1
    obtain ⟨b, hb01, ab, bp⟩ := pr_bp (hl := hl) (d + 1) e j Kx S he (by omega) (by omega)
    rcases S.2.2.2.2.2.2.2.1 f f1 with ⟨g, _⟩ | ⟨m, d0, g1, g2, g3, g4, g5, g6, g7⟩
    · rw [f2, nl_m1 (by omega)] at g; exact g.elim
    have hm : m = j + 1 := (nI_eq (by
      have : m ≤ 4 := by
        have := (p12 d0 g3).2.1
        omega
      omega) (by omega)).mp (g1.symm.trans f2)
    subst hm
    have hd0 : d0 = e := (nI_eq (by omega) (by omega)).mp (g2.symm.trans f3)
    subst hd0
    obtain ⟨c1, c2, c3, c4, g, c5, c6, c7, c8, c9⟩ := g7 (Nat.succ_pos _)
    have Tb := rn_bd (t := nI (L d0 + j)) (c := if b = 0 then hC 64 f else -1) (f := if b = 0 then hC 65 f else -1) (o := sb) (Or.inr ⟨L d0 + j, by omega, rfl⟩) (fun u hu e => by
      rw [← (nI_eq (by omega) (by omega)).mp e]
      have := (((q14 (L d0 + j) (by omega) (by omega)).2).mpr (by omega))
      rw [this]; decide) (by rcases hb01 with rfl | rfl; · rw [if_pos rfl]; exact c3
                             · rw [if_neg (by decide)]; exact Or.inl rfl) (by rcases hb01 with rfl | rfl; · rw [if_pos rfl]; exact c4
                                                                              · rw [if_neg (by decide)]; exact Or.inl rfl) (by omega) (by omega) S
    have Tw := rn_wi (bb := nI nb) (uu := se) (by omega) Tb
    have bp1 := bp (hC 64 f) (hC 65 f) sb
    generalize ec : (if b = 0 then hC 64 f else -1) = cc at *
    generalize ef : (if b = 0 then hC 65 f else -1) = ff at *
    have X1 : sr_X ((xb hC nb (nI (L d0 + j)) cc ff sb) 49) ((xb hC nb (nI (L d0 + j)) cc ff sb) 52) ((xw (xm hM nb (nI (L d0 + j)) cc ff) ne (nI nb) se) 114) ((xw (xm hM nb (nI (L d0 + j)) cc ff) ne (nI nb) se) 115) (nb + 1) (ne + 1) ((L d0 + j) :: X) (nI nb) (nI ne) := ⟨nb, ne, by omega, by omega, rfl, rfl, by rw [xb_0, upd_at], by rw [xw_0, upd_at], by
      rw [xb_3, upd_at, xw_1, upd_at]
      refine sr_Xm (fun i hi => ⟨?_, ?_⟩) (fun i hi => ⟨?_, ?_⟩) (by omega) (by omega) X0
      · rw [xb_0, upd_ne (by omega)]
      · rw [upd_ne (by omega)]
      · rw [xw_0, upd_ne (by omega), xm_n (by decide)]
      · rw [upd_ne (by omega), xm_n (by decide)]⟩
    obtain ⟨hC', hM', u1, u2, u3⟩ := ih n (xb hC nb (nI (L d0 + j)) cc ff sb) (xw (xm hM nb (nI (L d0 + j)) cc ff) ne (nI nb) se) (nb + 1) (ne + 1) nc nf np nw s cn cl g (nI nb) (nI ne) ((L d0 + j) :: X) (by omega) Tw (fun _ => ⟨by omega, by rw [xb_n (by decide)]; exact c8, by rw [xb_n (by decide)]; exact c9⟩) (by rw [List.length_cons]; omega) (fun t ht ht2 => by
        by_cases y : t = L d0 + j
        · rw [y]; exact List.mem_cons_self
        · exact List.mem_cons_of_mem _ (hX2 t (by omega) ht2)) (fun t ht => by
        rcases List.mem_cons.mp ht with y | y
        · omega
        · exact hX3 t y) X1 (by rw [xb_n (by decide)]; exact o1) (by rw [xw_2, upd_ne (by decide), xm_4, upd_ne (by decide)]; exact o2) (by unfold rn_P; omega)
    have m1 : nI j + (-1) = nI j - 1 := by rw [Int32.sub_eq_add_neg]
    have k0 : nI (j + 1) - 1 = nI j := nI_pred j
    refine ⟨hC', hM', ?_, ?_, u3⟩
    · have lk : (xb hC nb (nI (L d0 + j)) cc ff sb) 63 f = nI g := by rw [xb_n (by decide)]; exact c6
      rw [k0, ht_171_1, ch_171_3]; (try simp +decide (disch := omega) only [ni_bF, nI_clamp, nI_add, pk_mul, dc_ltT, dc_ltF, dc_leT, dc_leF, dc_eqF, dc_neT, dn_eq, dn_ne, dn_lt, dn_ge, si_at, si_c, si_k, q_at_nI, q_put_nI, ne_eq, not_false_eq_true, not_true_eq_false, ↓reduceIte, v0_ltT, v0_ltF, v0_gtT, v0_gtF, v0_leT, v0_leF, v0_geT, v0_geF, v0_eqT, v0_eqF, v0_add, v0_dda, v0_mul, v0_lum, v0_sub, v0_bad, v0_cl]); rw [ea_fcell _ _ _ (by omega), ev_rs, ch_171_5, ea_ffrom _ _ _ (by omega), ev_rs, ch_171_7, bp1, ev_rs, ch_171_9, ea_flink _ _ _ (by omega), ev_rs, ch_171_10]; (try simp +decide (disch := omega) only [ni_bF, nI_clamp, nI_add, pk_mul, dc_ltT, dc_ltF, dc_leT, dc_leF, dc_eqF, dc_neT, dn_eq, dn_ne, dn_lt, dn_ge, si_at, si_c, si_k, q_at_nI, q_put_nI, ne_eq, not_false_eq_true, not_true_eq_false, ↓reduceIte, v0_ltT, v0_ltF, v0_gtT, v0_gtF, v0_leT, v0_leF, v0_geT, v0_geF, v0_eqT, v0_eqF, v0_add, v0_dda, v0_mul, v0_lum, v0_sub, v0_bad, v0_cl]); rw [sk_171_2_33, lk, m1, lp_171_33]
      exact mo_f (Nat.le_refl _) (by repeat (first | exact trivial | refine And.intro rfl ?_)) rfl u1
    · have n6' : (xm hM nb (nI (L d0 + j)) cc ff) 73 57 = nI ne := Tb.1.2.2.2.2.2.1
      have lk : (xw (xm hM nb (nI (L d0 + j)) cc ff) ne (nI nb) se) 117 f = nI g := by rw [xw_n (by decide), xm_n (by decide)]; exact c7
      rcases hb01 with rfl | rfl
      · rw [if_pos rfl] at ec ef
        rw [← ec, ← ef] at n6' lk u2
        rw [← ec, ← ef] at *
        rw [k0, ht_86_1, ch_86_1]; (try simp +decide (disch := omega) only [ni_bF, nI_clamp, nI_add, pk_mul, dc_ltT, dc_ltF, dc_leT, dc_leF, dc_eqF, dc_neT, dn_eq, dn_ne, dn_lt, dn_ge, si_at, si_c, si_k, q_at_nI, q_put_nI, ne_eq, not_false_eq_true, not_true_eq_false, ↓reduceIte, v0_ltT, v0_ltF, v0_gtT, v0_gtF, v0_leT, v0_leF, v0_geT, v0_geF, v0_eqT, v0_eqF, v0_add, v0_dda, v0_mul, v0_lum, v0_sub, v0_bad, v0_cl, v24_ltT, v24_ltF, v24_gtT, v24_gtF, v24_leT, v24_leF, v24_geT, v24_geF, v24_eqT, v24_eqF, v24_add, v24_dda, v24_mul, v24_lum, v24_sub, v24_bad, v24_cl, h7, t1, c1, c2, lk]); rw [ab _ hM rfl rfl rfl rfl, ev_rs, ch_86_3]; (try simp +decide (disch := omega) only [ni_bF, nI_clamp, nI_add, pk_mul, dc_ltT, dc_ltF, dc_leT, dc_leF, dc_eqF, dc_neT, dn_eq, dn_ne, dn_lt, dn_ge, si_at, si_c, si_k, q_at_nI, q_put_nI, ne_eq, not_false_eq_true, not_true_eq_false, ↓reduceIte, v0_ltT, v0_ltF, v0_gtT, v0_gtF, v0_leT, v0_leF, v0_geT, v0_geF, v0_eqT, v0_eqF, v0_add, v0_dda, v0_mul, v0_lum, v0_sub, v0_bad, v0_cl, h7, t1, c1, c2, lk]); rw [ht_86_2, ch_86_5]; (try simp +decide (disch := omega) only [ni_bF, nI_clamp, nI_add, pk_mul, dc_ltT, dc_ltF, dc_leT, dc_leF, dc_eqF, dc_neT, dn_eq, dn_ne, dn_lt, dn_ge, si_at, si_c, si_k, q_at_nI, q_put_nI, ne_eq, not_false_eq_true, not_true_eq_false, ↓reduceIte, v0_ltT, v0_ltF, v0_gtT, v0_gtF, v0_leT, v0_leF, v0_geT, v0_geF, v0_eqT, v0_eqF, v0_add, v0_dda, v0_mul, v0_lum, v0_sub, v0_bad, v0_cl, h7, t1, c1, c2, lk]); rw [ht_86_3, ch_86_6, ab _ hM rfl rfl rfl rfl, ev_rs, ch_86_7]; (try simp +decide (disch := omega) only [ni_bF, nI_clamp, nI_add, pk_mul, dc_ltT, dc_ltF, dc_leT, dc_leF, dc_eqF, dc_neT, dn_eq, dn_ne, dn_lt, dn_ge, si_at, si_c, si_k, q_at_nI, q_put_nI, ne_eq, not_false_eq_true, not_true_eq_false, ↓reduceIte, v0_ltT, v0_ltF, v0_gtT, v0_gtF, v0_leT, v0_leF, v0_geT, v0_geF, v0_eqT, v0_eqF, v0_add, v0_dda, v0_mul, v0_lum, v0_sub, v0_bad, v0_cl, h7, t1, c1, c2, lk]); rw [ht_86_4, ch_86_8]; (try simp +decide (disch := omega) only [ni_bF, nI_clamp, nI_add, pk_mul, dc_ltT, dc_ltF, dc_leT, dc_leF, dc_eqF, dc_neT, dn_eq, dn_ne, dn_lt, dn_ge, si_at, si_c, si_k, q_at_nI, q_put_nI, ne_eq, not_false_eq_true, not_true_eq_false, ↓reduceIte, v0_ltT, v0_ltF, v0_gtT, v0_gtF, v0_leT, v0_leF, v0_geT, v0_geF, v0_eqT, v0_eqF, v0_add, v0_dda, v0_mul, v0_lum, v0_sub, v0_bad, v0_cl, h7, t1, c1, c2, lk]); rw [ht_86_5, ch_86_9, em_bind _ _ _ n5 (by omega), ev_rs, ch_86_10, em_within _ _ _ n6' (by omega), ev_rs, ch_86_11]; (try simp +decide (disch := omega) only [ni_bF, nI_clamp, nI_add, pk_mul, dc_ltT, dc_ltF, dc_leT, dc_leF, dc_eqF, dc_neT, dn_eq, dn_ne, dn_lt, dn_ge, si_at, si_c, si_k, q_at_nI, q_put_nI, ne_eq, not_false_eq_true, not_true_eq_false, ↓reduceIte, v0_ltT, v0_ltF, v0_gtT, v0_gtF, v0_leT, v0_leF, v0_geT, v0_geF, v0_eqT, v0_eqF, v0_add, v0_dda, v0_mul, v0_lum, v0_sub, v0_bad, v0_cl, h7, t1, c1, c2, lk]); rw [sk_86_6_15, m1, lp_86_15]
        exact mo_f (Nat.le_refl _) (by repeat (first | exact trivial | refine And.intro rfl ?_)) rfl u2
      · rw [if_neg (by decide)] at ec ef
        rw [← ec, ← ef] at n6' lk u2
        rw [k0, ht_86_1, ch_86_1]; (try simp +decide (disch := omega) only [ni_bF, nI_clamp, nI_add, pk_mul, dc_ltT, dc_ltF, dc_leT, dc_leF, dc_eqF, dc_neT, dn_eq, dn_ne, dn_lt, dn_ge, si_at, si_c, si_k, q_at_nI, q_put_nI, ne_eq, not_false_eq_true, not_true_eq_false, ↓reduceIte, v0_ltT, v0_ltF, v0_gtT, v0_gtF, v0_leT, v0_leF, v0_geT, v0_geF, v0_eqT, v0_eqF, v0_add, v0_dda, v0_mul, v0_lum, v0_sub, v0_bad, v0_cl, v24_ltT, v24_ltF, v24_gtT, v24_gtF, v24_leT, v24_leF, v24_geT, v24_geF, v24_eqT, v24_eqF, v24_add, v24_dda, v24_mul, v24_lum, v24_sub, v24_bad, v24_cl, h7, t1, lk]); rw [ab _ hM rfl rfl rfl rfl, ev_rs, ch_86_3]; (try simp +decide (disch := omega) only [ni_bF, nI_clamp, nI_add, pk_mul, dc_ltT, dc_ltF, dc_leT, dc_leF, dc_eqF, dc_neT, dn_eq, dn_ne, dn_lt, dn_ge, si_at, si_c, si_k, q_at_nI, q_put_nI, ne_eq, not_false_eq_true, not_true_eq_false, ↓reduceIte, v0_ltT, v0_ltF, v0_gtT, v0_gtF, v0_leT, v0_leF, v0_geT, v0_geF, v0_eqT, v0_eqF, v0_add, v0_dda, v0_mul, v0_lum, v0_sub, v0_bad, v0_cl, h7, t1, lk]); rw [sk_86_2_63, ht_86_3, ch_86_6, ab _ hM rfl rfl rfl rfl, ev_rs, ch_86_7]; (try simp +decide (disch := omega) only [ni_bF, nI_clamp, nI_add, pk_mul, dc_ltT, dc_ltF, dc_leT, dc_leF, dc_eqF, dc_neT, dn_eq, dn_ne, dn_lt, dn_ge, si_at, si_c, si_k, q_at_nI, q_put_nI, ne_eq, not_false_eq_true, not_true_eq_false, ↓reduceIte, v0_ltT, v0_ltF, v0_gtT, v0_gtF, v0_leT, v0_leF, v0_geT, v0_geF, v0_eqT, v0_eqF, v0_add, v0_dda, v0_mul, v0_lum, v0_sub, v0_bad, v0_cl, h7, t1, lk]); rw [sk_86_4_83, ht_86_5, ch_86_9, em_bind _ _ _ n5 (by omega), ev_rs, ch_86_10, em_within _ _ _ n6' (by omega), ev_rs, ch_86_11]; (try simp +decide (disch := omega) only [ni_bF, nI_clamp, nI_add, pk_mul, dc_ltT, dc_ltF, dc_leT, dc_leF, dc_eqF, dc_neT, dn_eq, dn_ne, dn_lt, dn_ge, si_at, si_c, si_k, q_at_nI, q_put_nI, ne_eq, not_false_eq_true, not_true_eq_false, ↓reduceIte, v0_ltT, v0_ltF, v0_gtT, v0_gtF, v0_leT, v0_leF, v0_geT, v0_geF, v0_eqT, v0_eqF, v0_add, v0_dda, v0_mul, v0_lum, v0_sub, v0_bad, v0_cl, h7, t1, lk]); rw [sk_86_6_15, m1, lp_86_15]
        exact mo_f (Nat.le_refl _) (by repeat (first | exact trivial | refine And.intro rfl ?_)) rfl u2
end AP
