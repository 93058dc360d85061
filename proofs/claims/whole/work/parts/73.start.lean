/-! a RUN begins -/
theorem xm_si {h : Nat → Nat → Int32} {r k n : Nat} {v t c f : Int32} (e : r ≠ 73 ∧ r ≠ 110 ∧ r ≠ 111 ∧ r ≠ 112 ∧ r ≠ 113) : am_si (xm h n t c f) r k v = xm (am_si h r k v) n t c f := by
  unfold xm
  rw [si_comm (fun q => e.1 q.symm), si_comm (fun q => e.2.2.2.2 q.symm), si_comm (fun q => e.2.2.2.1 q.symm), si_comm (fun q => e.2.2.1 q.symm), si_comm (fun q => e.2.1 q.symm)]
theorem xw_si {h : Nat → Nat → Int32} {r k n : Nat} {v b u : Int32} (e : r ≠ 73 ∧ r ≠ 114 ∧ r ≠ 115) : am_si (xw h n b u) r k v = xw (am_si h r k v) n b u := by
  unfold xw
  rw [si_comm (fun q => e.1 q.symm), si_comm (fun q => e.2.2 q.symm), si_comm (fun q => e.2.1 q.symm)]
section ST
variable {h0 h1 : Nat → Nat → Int32} {hl : Nat → Nat → Int64} {z nd nt nn hf lim : Nat} {sz L bd st : Nat → Nat} {md : Int32}
theorem pl_loop (d e : Nat) (x2 x3 y2 y3 : Int32) (Kx : rn_K h0 h1 z nd nt nn hf sz L bd st md) (he : e < nd) (har : ∀ j, j < 4 → h0 72 j = h1 104 j) (hlim : lim ≤ 10000) : ∀ (q j n : Nat) (hC hM : Nat → Nat → Int32) (sb se : Int32) (X : List Nat), j + q = sz e → q + 20001 ≤ n → rn_S h0 h1 z nd nn sz lim md hC (am_si hM 128 2 0) j j j 0 0 0 0 0 0 → hC 45 13 = sb → hC 45 11 = -1 → hM 73 77 = 7 → X.length = j → (∀ t, L e ≤ t → t < L e + j → t ∈ X) → (∀ t ∈ X, t < L e + j) → sr_X (hC 49) (hC 52) (hM 114) (hM 115) j j X sb se →
    ∃ (hC' hM' : Nat → Nat → Int32) (o : Int32), rn_F h0 h1 hC' hM' o ∧ (∀ r, (∀ x7 : Int32, am_fwd (am_call tb_P (d + 8)) (am_run (am_call tb_P (d + 8)) tb_r151_0 0) tb_r151_6 159 [(7, .int x7), (6, .int (nI (sz e))), (5, .int (nI (L e))), (0, .ref 45), (1, .int (nI e)), (2, .int x2), (3, .int x3), (4, .ref 72)] [] (pr_S, hC', hl) = some r) → am_fwd (am_call tb_P (d + 8)) (am_run (am_call tb_P (d + 8)) tb_r151_0 n) tb_r151_1 48 [(7, .int (nI j)), (6, .int (nI (sz e))), (5, .int (nI (L e))), (0, .ref 45), (1, .int (nI e)), (2, .int x2), (3, .int x3), (4, .ref 72)] [] (pr_S, hC, hl) = some r) ∧ am_fwd (am_call tb_P (d + 8)) (am_run (am_call tb_P (d + 8)) tb_r87_0 n) tb_r87_4 93 [(5, .int (nI j)), (4, .int se), (0, .ref 73), (1, .int (nI e)), (2, .int y2), (3, .int y3)] [] (pr_S, hM, hl) = some (some (.int o), (pr_S, hM', hl)) := by
  obtain ⟨z1, z2, z3, z4, z5, z6⟩ := rk_z Kx
  obtain ⟨y1, y2', y3'⟩ := rk_nt Kx he
  obtain ⟨p1, p2, p3, p4, p5, p6, p7, p8, p9, p10, p11, p12, p13, p14⟩ := Kx.1
  obtain ⟨q1, q2, q3, q4, q5, q6, q7, q8, q9, q10, ⟨f0, g0, q11, q12, q13⟩, q14⟩ := p12 e he
  intro q
  induction q with
  | zero =>
    intro j n hC hM sb se X hj hn S e13 o1 o2 hX1 hX2 hX3 X0
    have ej : j = sz e := by omega
    subst ej
    have eDB : hC 22 = h0 22 := rk_c S (Or.inl (by decide))
    have h7 : hM 73 7 = nI hf := by
      have := S.2.2.1.2.2.2.2.1 7 (by decide)
      rw [am_si_ne (by decide)] at this
      rw [this]; exact Kx.2.2.2.1
    have mm : ∀ c, pg_c c → 73 < c → hM c = h0 c := fun c hc h2 => by
      have := rk_m Kx S hc h2
      rwa [am_si_ne (by unfold pg_c at hc; omega)] at this
    have t1 : hM 90 (24 * hf + e) = nI (sz e) := by rw [mm _ (by unfold pg_c; omega) (by decide)]; exact q3
    have t2 : hM 88 (24 * hf + e) = nI (z + bd e) := by rw [mm _ (by unfold pg_c; omega) (by decide), z6]; exact q8
    have X0' : sr_X (hC 49) (hC 52) ((am_si hM 128 2 0) 114) ((am_si hM 128 2 0) 115) (sz e) (sz e) X sb se := by
      rw [am_si_ne (by decide), am_si_ne (by decide)]; exact X0
    have v : rn_V h0 nd nn hC (am_si hM 128 2 0) (sz e) (sz e) (bd e) sb se := ⟨4000, f0, g0, st e, L e + sz e, L (e + 1), pg_G (L e) (sz e), X, q13, q9, ⟨nt, p6, by omega, p2⟩, X0', fun t ht => hX2 t (pg_Gb ht).1 (pg_Gb ht).2, by omega, hX3⟩
    have On := on_go (h1 := h1) (sz := sz) (md := md) (i := 0) S v o1 (by rw [am_si_ne (by decide)]; exact o2) (by unfold rn_P; omega)
    obtain ⟨hC', hM', o, u1, u2, u3⟩ := rt_all (hl := hl) d (nI e) x2 x3 (nI e) y2 y3 se (nI (sz e)) Kx 20001 0 n _ _ (by omega) (by omega) On
    refine ⟨hC', hM', o, u1, fun r hr => ?_, ?_⟩
    · have w := u2 r _ _ hr
      rw [ht_151_1, ch_151_4]; (try simp +decide (disch := omega) only [ni_bF, nI_clamp, nI_add, pk_mul, dc_ltT, dc_ltF, dc_leT, dc_leF, dc_eqF, dc_neT, dn_eq, dn_ne, dn_lt, dn_ge, si_at, si_c, si_k, q_at_nI, q_put_nI, ne_eq, not_false_eq_true, not_true_eq_false, ↓reduceIte, v0_ltT, v0_ltF, v0_gtT, v0_gtF, v0_leT, v0_leF, v0_geT, v0_geF, v0_eqT, v0_eqF, v0_add, v0_dda, v0_mul, v0_lum, v0_sub, v0_bad, v0_cl, eDB, q7, e13]); rw [ht_151_2, ch_151_5, at_22, ev_rs, ch_151_7]; (try simp +decide (disch := omega) only [ni_bF, nI_clamp, nI_add, pk_mul, dc_ltT, dc_ltF, dc_leT, dc_leF, dc_eqF, dc_neT, dn_eq, dn_ne, dn_lt, dn_ge, si_at, si_c, si_k, q_at_nI, q_put_nI, ne_eq, not_false_eq_true, not_true_eq_false, ↓reduceIte, v0_ltT, v0_ltF, v0_gtT, v0_gtF, v0_leT, v0_leF, v0_geT, v0_geF, v0_eqT, v0_eqF, v0_add, v0_dda, v0_mul, v0_lum, v0_sub, v0_bad, v0_cl, eDB, q7, e13]); rw [ea_goOn _ _ _, ev_rn, ch_151_9]
      exact w
    · have h7' : (am_si hM 128 2 0) 73 7 = nI hf := by rw [am_si_ne (by decide)]; exact h7
      rw [ht_87_4, ch_87_7]; (try simp +decide (disch := omega) only [ni_bF, nI_clamp, nI_add, pk_mul, dc_ltT, dc_ltF, dc_leT, dc_leF, dc_eqF, dc_neT, dn_eq, dn_ne, dn_lt, dn_ge, si_at, si_c, si_k, q_at_nI, q_put_nI, ne_eq, not_false_eq_true, not_true_eq_false, ↓reduceIte, v0_ltT, v0_ltF, v0_gtT, v0_gtF, v0_leT, v0_leF, v0_geT, v0_geF, v0_eqT, v0_eqF, v0_add, v0_dda, v0_mul, v0_lum, v0_sub, v0_bad, v0_cl, v24_ltT, v24_ltF, v24_gtT, v24_gtF, v24_leT, v24_leF, v24_geT, v24_geF, v24_eqT, v24_eqF, v24_add, v24_dda, v24_mul, v24_lum, v24_sub, v24_bad, v24_cl, h7, t1, h7', t2]); rw [sk_87_5_197, ht_87_7, ch_87_8]; (try simp +decide (disch := omega) only [ni_bF, nI_clamp, nI_add, pk_mul, dc_ltT, dc_ltF, dc_leT, dc_leF, dc_eqF, dc_neT, dn_eq, dn_ne, dn_lt, dn_ge, si_at, si_c, si_k, q_at_nI, q_put_nI, ne_eq, not_false_eq_true, not_true_eq_false, ↓reduceIte, v0_ltT, v0_ltF, v0_gtT, v0_gtF, v0_leT, v0_leF, v0_geT, v0_geF, v0_eqT, v0_eqF, v0_add, v0_dda, v0_mul, v0_lum, v0_sub, v0_bad, v0_cl, v2_ltT, v2_ltF, v2_gtT, v2_gtF, v2_leT, v2_leF, v2_geT, v2_geF, v2_eqT, v2_eqF, v2_add, v2_dda, v2_mul, v2_lum, v2_sub, v2_bad, v2_cl, v24_ltT, v24_ltF, v24_gtT, v24_gtF, v24_leT, v24_leF, v24_geT, v24_geF, v24_eqT, v24_eqF, v24_add, v24_dda, v24_mul, v24_lum, v24_sub, v24_bad, v24_cl, h7, t1, h7', t2]); rw [em_goes _ _ _, ev_rn, ch_87_10]
      exact u3
  | succ q ih =>
    intro j n hC hM sb se X hj hn S e13 o1 o2 hX1 hX2 hX3 X0
    obtain ⟨n, rfl⟩ : ∃ n', n = n' + 1 := ⟨n - 1, by omega⟩
    have eAR : hC 72 = h0 72 := rk_c S (Or.inr (by decide))
    have h7 : hM 73 7 = nI hf := by
      have := S.2.2.1.2.2.2.2.1 7 (by decide)
      rw [am_si_ne (by decide)] at this
      rw [this]; exact Kx.2.2.2.1
    have mm : ∀ c, pg_c c → 73 < c → hM c = h0 c := fun c hc h2 => by
      have := rk_m Kx S hc h2
      rwa [am_si_ne (by unfold pg_c at hc; omega)] at this
    have t1 : hM 90 (24 * hf + e) = nI (sz e) := by rw [mm _ (by unfold pg_c; omega) (by decide)]; exact q3
    have t2 : hM 89 (24 * hf + e) = nI (L e) := by rw [mm _ (by unfold pg_c; omega) (by decide)]; exact q6
    have av : hM 104 j = h0 72 j := by
      have := S.2.2.1.2.2.2.1 104 (by decide) (by decide)
      rw [am_si_ne (by decide)] at this
      rw [this]; exact (har j (by omega)).symm
    have n2 := S.1.2.1
    have n7 : hM 73 49 = nI j := by
      have := S.1.2.2.2.2.2.2.1
      rwa [am_si_ne (by decide)] at this
    have T1 := rn_cellK (v := h0 72 j) (e2 := 0) (hC' := am_si (am_si (xc hC j (-1) (-1) 1) 57 j 0) 58 j (h0 72 j)) (hM' := am_si (am_si (am_si (xim (xcm hM j (-1) (-1)) 2) 107 j 0) 108 j (h0 72 j)) 128 2 0) (by omega) S (fun q z => by rw [am_si_ne (by omega), am_si_ne (by omega), xc_n (by omega)]) (by rw [am_si_ne (by decide), am_si_ne (by decide), xc_0]) (by rw [am_si_ne (by decide), am_si_ne (by decide), xc_1]) (by rw [am_si_ne (by decide), am_si_self, xc_2, upd_upd]) (by rw [am_si_self, am_si_ne (by decide), xc_3, upd_upd]) (by rw [am_si_ne (by decide), am_si_ne (by decide), xc_4]) (by rw [am_si_ne (by decide), am_si_ne (by decide), xc_5]) (fun q z => by
        by_cases y : q = 128
        · subst y
          rw [am_si_self, am_si_ne (by decide), am_si_ne (by decide), xim_0, upd_upd, xcm_n (by decide), am_si_self]
        · rw [am_si_ne y, am_si_ne (by omega), am_si_ne (by omega), xim_n y, xcm_n (by omega), am_si_ne y]) (by rw [am_si_ne (by decide), am_si_ne (by decide), am_si_ne (by decide), xim_n (by decide), xcm_0, am_si_ne (by decide)]) (by rw [am_si_ne (by decide), am_si_ne (by decide), am_si_ne (by decide), xim_n (by decide), xcm_1, am_si_ne (by decide)]) (by rw [am_si_ne (by decide), am_si_ne (by decide), am_si_self, xim_n (by decide), xcm_2, upd_upd, am_si_ne (by decide)]) (by rw [am_si_ne (by decide), am_si_self, am_si_ne (by decide), xim_n (by decide), xcm_3, upd_upd, am_si_ne (by decide)]) (by rw [am_si_ne (by decide), am_si_ne (by decide), am_si_ne (by decide), xim_n (by decide), xcm_4, am_si_ne (by decide)]) (by rw [am_si_ne (by decide), am_si_ne (by decide), am_si_ne (by decide), xim_n (by decide), xcm_5, am_si_ne (by decide)])
    have gC1 : ∀ q, q ≠ 55 ∧ q ≠ 56 ∧ q ≠ 57 ∧ q ≠ 58 ∧ q ≠ 59 ∧ q ≠ 54 → (am_si (am_si (xc hC j (-1) (-1) 1) 57 j 0) 58 j (h0 72 j)) q = hC q := fun q z => by rw [am_si_ne (by omega), am_si_ne (by omega), xc_n (by omega)]
    have gM1 : ∀ q, q ≠ 105 ∧ q ≠ 106 ∧ q ≠ 107 ∧ q ≠ 108 ∧ q ≠ 109 ∧ q ≠ 73 ∧ q ≠ 128 → (am_si (am_si (xim (xcm hM j (-1) (-1)) 2) 107 j 0) 108 j (h0 72 j)) q = hM q := fun q z => by rw [am_si_ne (by omega), am_si_ne (by omega), xim_n (by omega), xcm_n (by omega)]
    have gM2 : ∀ q, q ≠ 49 → (am_si (am_si (xim (xcm hM j (-1) (-1)) 2) 107 j 0) 108 j (h0 72 j)) 73 q = hM 73 q := fun q z => by rw [am_si_ne (by decide), am_si_ne (by decide), xim_n (by decide), xcm_5, upd_ne z]
    have mk := ea_makeKept (hl := hl) (k := 0) (v := h0 72 j) (d + 5) hC n2 (by omega)
    have mc := em_cell (hl := hl) (a := -1) (b := -1) (d + 7) hM n7 (by omega)
    generalize eC : am_si (am_si (xc hC j (-1) (-1) 1) 57 j 0) 58 j (h0 72 j) = gC at *
    generalize eM : am_si (am_si (xim (xcm hM j (-1) (-1)) 2) 107 j 0) 108 j (h0 72 j) = gM at *
    obtain ⟨b, hb01, ab, bp⟩ := pr_bp (hl := hl) (d + 6) e j Kx T1 he (by omega) (by omega)
    have ab' := ab (d + 7) gM (by rw [am_si_ne (by decide)]) (by rw [am_si_ne (by decide)]) (by rw [am_si_ne (by decide)]) (by rw [am_si_ne (by decide)])
    have bp' := bp (nI j) (-1) sb
    rw [show (if b = 0 then (-1 : Int32) else -1) = -1 by split <;> rfl] at bp'
    have Tb := rn_bd (t := nI (L e + j)) (c := if b = 0 then nI j else -1) (f := -1) (o := sb) (Or.inr ⟨L e + j, by omega, rfl⟩) (fun u hu e' => by
      rw [← (nI_eq (by omega) (by omega)).mp e']
      have := (((q14 (L e + j) (by omega) (by omega)).2).mpr (by omega))
      rw [this]; decide) (by rcases hb01 with rfl | rfl; · rw [if_pos rfl]; exact Or.inr ⟨j, by omega, rfl⟩
                             · rw [if_neg (by decide)]; exact Or.inl rfl) (Or.inl rfl) (by omega) (by omega) T1
    generalize ec : (if b = 0 then nI j else -1) = cc at *
    have Tw := rn_wi (bb := nI j) (uu := se) (by omega) Tb
    rw [← xm_si (by decide), ← xw_si (by decide)] at Tw
    have Tz := rn_ma (j := 13) (v := nI j) (by decide) Tw
    have X1 : sr_X ((am_si (xb gC j (nI (L e + j)) cc (-1) sb) 45 13 (nI j)) 49) ((am_si (xb gC j (nI (L e + j)) cc (-1) sb) 45 13 (nI j)) 52) ((xw (xm gM j (nI (L e + j)) cc (-1)) j (nI j) se) 114) ((xw (xm gM j (nI (L e + j)) cc (-1)) j (nI j) se) 115) (j + 1) (j + 1) ((L e + j) :: X) (nI j) (nI j) := ⟨j, j, by omega, by omega, rfl, rfl, by rw [am_si_ne (by decide), xb_0, upd_at], by rw [xw_0, upd_at], by
      rw [am_si_ne (by decide), am_si_ne (by decide), xb_3, upd_at, xw_1, upd_at]
      refine sr_Xm (fun i hi => ⟨?_, ?_⟩) (fun i hi => ⟨?_, ?_⟩) (by omega) (by omega) X0
      · rw [xb_0, upd_ne (by omega), gC1 _ (by decide)]
      · rw [upd_ne (by omega), gC1 _ (by decide)]
      · rw [xw_0, upd_ne (by omega), xm_n (by decide), gM1 _ (by decide)]
      · rw [upd_ne (by omega), xm_n (by decide), gM1 _ (by decide)]⟩
    obtain ⟨hC', hM', o, u1, u2, u3⟩ := ih (j + 1) n (am_si (xb gC j (nI (L e + j)) cc (-1) sb) 45 13 (nI j)) (xw (xm gM j (nI (L e + j)) cc (-1)) j (nI j) se) (nI j) (nI j) ((L e + j) :: X) (by omega) (by omega) Tz (am_si_at _ _ _ _) (by rw [am_si_off (by decide), xb_n (by decide), gC1 _ (by decide)]; exact o1) (by rw [xw_2, upd_ne (by decide), xm_4, upd_ne (by decide), gM2 _ (by decide)]; exact o2) (by rw [List.length_cons, hX1]) (fun t ht ht2 => by
        by_cases y : t = L e + j
        · rw [y]; exact List.mem_cons_self
        · exact List.mem_cons_of_mem _ (hX2 t ht (by omega))) (fun t ht => by
        rcases List.mem_cons.mp ht with y | y
        · omega
        · have := hX3 t y; omega) X1
    refine ⟨hC', hM', o, u1, fun r hr => ?_, ?_⟩
    · have w := u2 r hr
      have g13 : gC 45 13 = sb := by rw [gC1 _ (by decide)]; exact e13
      rw [ht_151_1, ch_151_4]; (try simp +decide (disch := omega) only [ni_bF, nI_clamp, nI_add, pk_mul, dc_ltT, dc_ltF, dc_leT, dc_leF, dc_eqF, dc_neT, dn_eq, dn_ne, dn_lt, dn_ge, si_at, si_c, si_k, q_at_nI, q_put_nI, ne_eq, not_false_eq_true, not_true_eq_false, ↓reduceIte, v0_ltT, v0_ltF, v0_gtT, v0_gtF, v0_leT, v0_leF, v0_geT, v0_geF, v0_eqT, v0_eqF, v0_add, v0_dda, v0_mul, v0_lum, v0_sub, v0_bad, v0_cl, eAR]); rw [at_72, ev_rs, ch_151_6]; (try simp +decide (disch := omega) only [ni_bF, nI_clamp, nI_add, pk_mul, dc_ltT, dc_ltF, dc_leT, dc_leF, dc_eqF, dc_neT, dn_eq, dn_ne, dn_lt, dn_ge, si_at, si_c, si_k, q_at_nI, q_put_nI, ne_eq, not_false_eq_true, not_true_eq_false, ↓reduceIte, v0_ltT, v0_ltF, v0_gtT, v0_gtF, v0_leT, v0_leF, v0_geT, v0_geF, v0_eqT, v0_eqF, v0_add, v0_dda, v0_mul, v0_lum, v0_sub, v0_bad, v0_cl, eAR]); rw [mk, ev_rs, ch_151_8]; (try simp +decide (disch := omega) only [ni_bF, nI_clamp, nI_add, pk_mul, dc_ltT, dc_ltF, dc_leT, dc_leF, dc_eqF, dc_neT, dn_eq, dn_ne, dn_lt, dn_ge, si_at, si_c, si_k, q_at_nI, q_put_nI, ne_eq, not_false_eq_true, not_true_eq_false, ↓reduceIte, v0_ltT, v0_ltF, v0_gtT, v0_gtF, v0_leT, v0_leF, v0_geT, v0_geF, v0_eqT, v0_eqF, v0_add, v0_dda, v0_mul, v0_lum, v0_sub, v0_bad, v0_cl, eAR]); rw [g13, bp', ev_rs, ch_151_10]; (try simp +decide (disch := omega) only [ni_bF, nI_clamp, nI_add, pk_mul, dc_ltT, dc_ltF, dc_leT, dc_leF, dc_eqF, dc_neT, dn_eq, dn_ne, dn_lt, dn_ge, si_at, si_c, si_k, q_at_nI, q_put_nI, ne_eq, not_false_eq_true, not_true_eq_false, ↓reduceIte, v0_ltT, v0_ltF, v0_gtT, v0_gtF, v0_leT, v0_leF, v0_geT, v0_geF, v0_eqT, v0_eqF, v0_add, v0_dda, v0_mul, v0_lum, v0_sub, v0_bad, v0_cl, v1_ltT, v1_ltF, v1_gtT, v1_gtF, v1_leT, v1_leF, v1_geT, v1_geF, v1_eqT, v1_eqF, v1_add, v1_dda, v1_mul, v1_lum, v1_sub, v1_bad, v1_cl, eAR]); rw [sk_151_2_48, lp_151_48]
      exact mo_f (Nat.le_refl _) (by repeat (first | exact trivial | refine And.intro rfl ?_)) rfl w
    · have n5 : gM 73 54 = nI j := by
        have := T1.1.2.2.2.2.1
        rwa [am_si_ne (by decide)] at this
      have n6 : (xm gM j (nI (L e + j)) cc (-1)) 73 57 = nI j := by
        have := Tb.1.2.2.2.2.2.1
        rw [← xm_si (by decide), am_si_ne (by decide)] at this
        exact this
      have av' : (xim (xcm hM j (-1) (-1)) 2) 104 j = h0 72 j := by simp (disch := decide) only [xb_0, xb_1, xb_2, xb_3, xb_4, xb_5, xb_n, xm_0, xm_1, xm_2, xm_3, xm_4, xm_n, xw_0, xw_1, xw_2, xw_n, xc_0, xc_1, xc_2, xc_3, xc_4, xc_5, xc_n, xcm_0, xcm_1, xcm_2, xcm_3, xcm_4, xcm_5, xcm_n, xf_0, xf_1, xf_2, xf_3, xf_4, xf_5, xf_6, xf_n, xfm_0, xfm_1, xfm_2, xfm_3, xfm_4, xfm_5, xfm_6, xfm_n, xp_0, xp_1, xp_2, xp_3, xp_4, xp_n, xpm_0, xpm_1, xpm_2, xpm_3, xpm_n, xi_0, xi_n, xim_0, xim_n, xo_0, xo_n, xom_0, xom_n, upd_at, upd_ne]; exact av
      rcases hb01 with rfl | rfl
      · rw [if_pos rfl] at ec
        rw [← ec] at n6 u3
        rw [ht_87_4, ch_87_7]; (try simp +decide (disch := omega) only [ni_bF, nI_clamp, nI_add, pk_mul, dc_ltT, dc_ltF, dc_leT, dc_leF, dc_eqF, dc_neT, dn_eq, dn_ne, dn_lt, dn_ge, si_at, si_c, si_k, q_at_nI, q_put_nI, ne_eq, not_false_eq_true, not_true_eq_false, ↓reduceIte, v0_ltT, v0_ltF, v0_gtT, v0_gtF, v0_leT, v0_leF, v0_geT, v0_geF, v0_eqT, v0_eqF, v0_add, v0_dda, v0_mul, v0_lum, v0_sub, v0_bad, v0_cl, v24_ltT, v24_ltF, v24_gtT, v24_gtF, v24_leT, v24_leF, v24_geT, v24_geF, v24_eqT, v24_eqF, v24_add, v24_dda, v24_mul, v24_lum, v24_sub, v24_bad, v24_cl, h7, t1, t2, av', eM]); rw [mc, ev_rs, ch_87_9]; (try simp +decide (disch := omega) only [ni_bF, nI_clamp, nI_add, pk_mul, dc_ltT, dc_ltF, dc_leT, dc_leF, dc_eqF, dc_neT, dn_eq, dn_ne, dn_lt, dn_ge, si_at, si_c, si_k, q_at_nI, q_put_nI, ne_eq, not_false_eq_true, not_true_eq_false, ↓reduceIte, v0_ltT, v0_ltF, v0_gtT, v0_gtF, v0_leT, v0_leF, v0_geT, v0_geF, v0_eqT, v0_eqF, v0_add, v0_dda, v0_mul, v0_lum, v0_sub, v0_bad, v0_cl, h7, t1, t2, av', eM]); rw [ab', ev_rs, ch_87_11]; (try simp +decide (disch := omega) only [ni_bF, nI_clamp, nI_add, pk_mul, dc_ltT, dc_ltF, dc_leT, dc_leF, dc_eqF, dc_neT, dn_eq, dn_ne, dn_lt, dn_ge, si_at, si_c, si_k, q_at_nI, q_put_nI, ne_eq, not_false_eq_true, not_true_eq_false, ↓reduceIte, v0_ltT, v0_ltF, v0_gtT, v0_gtF, v0_leT, v0_leF, v0_geT, v0_geF, v0_eqT, v0_eqF, v0_add, v0_dda, v0_mul, v0_lum, v0_sub, v0_bad, v0_cl, h7, t1, t2, av', eM]); rw [ht_87_5, ch_87_13, ht_87_6, ch_87_14, em_bind _ _ _ n5 (by omega), ev_rs, ch_87_18, em_within _ _ _ n6 (by omega), ev_rs, ch_87_21]; (try simp +decide (disch := omega) only [ni_bF, nI_clamp, nI_add, pk_mul, dc_ltT, dc_ltF, dc_leT, dc_leF, dc_eqF, dc_neT, dn_eq, dn_ne, dn_lt, dn_ge, si_at, si_c, si_k, q_at_nI, q_put_nI, ne_eq, not_false_eq_true, not_true_eq_false, ↓reduceIte, v0_ltT, v0_ltF, v0_gtT, v0_gtF, v0_leT, v0_leF, v0_geT, v0_geF, v0_eqT, v0_eqF, v0_add, v0_dda, v0_mul, v0_lum, v0_sub, v0_bad, v0_cl, v1_ltT, v1_ltF, v1_gtT, v1_gtF, v1_leT, v1_leF, v1_geT, v1_geF, v1_eqT, v1_eqF, v1_add, v1_dda, v1_mul, v1_lum, v1_sub, v1_bad, v1_cl, h7, t1, t2, av', eM]); rw [sk_87_7_93, lp_87_93]
        exact mo_f (Nat.le_refl _) (by repeat (first | exact trivial | refine And.intro rfl ?_)) rfl u3
      · rw [if_neg (by decide)] at ec
        rw [← ec] at n6 u3
        rw [ht_87_4, ch_87_7]; (try simp +decide (disch := omega) only [ni_bF, nI_clamp, nI_add, pk_mul, dc_ltT, dc_ltF, dc_leT, dc_leF, dc_eqF, dc_neT, dn_eq, dn_ne, dn_lt, dn_ge, si_at, si_c, si_k, q_at_nI, q_put_nI, ne_eq, not_false_eq_true, not_true_eq_false, ↓reduceIte, v0_ltT, v0_ltF, v0_gtT, v0_gtF, v0_leT, v0_leF, v0_geT, v0_geF, v0_eqT, v0_eqF, v0_add, v0_dda, v0_mul, v0_lum, v0_sub, v0_bad, v0_cl, v24_ltT, v24_ltF, v24_gtT, v24_gtF, v24_leT, v24_leF, v24_geT, v24_geF, v24_eqT, v24_eqF, v24_add, v24_dda, v24_mul, v24_lum, v24_sub, v24_bad, v24_cl, h7, t1, t2, av', eM]); rw [mc, ev_rs, ch_87_9]; (try simp +decide (disch := omega) only [ni_bF, nI_clamp, nI_add, pk_mul, dc_ltT, dc_ltF, dc_leT, dc_leF, dc_eqF, dc_neT, dn_eq, dn_ne, dn_lt, dn_ge, si_at, si_c, si_k, q_at_nI, q_put_nI, ne_eq, not_false_eq_true, not_true_eq_false, ↓reduceIte, v0_ltT, v0_ltF, v0_gtT, v0_gtF, v0_leT, v0_leF, v0_geT, v0_geF, v0_eqT, v0_eqF, v0_add, v0_dda, v0_mul, v0_lum, v0_sub, v0_bad, v0_cl, h7, t1, t2, av', eM]); rw [ab', ev_rs, ch_87_11]; (try simp +decide (disch := omega) only [ni_bF, nI_clamp, nI_add, pk_mul, dc_ltT, dc_ltF, dc_leT, dc_leF, dc_eqF, dc_neT, dn_eq, dn_ne, dn_lt, dn_ge, si_at, si_c, si_k, q_at_nI, q_put_nI, ne_eq, not_false_eq_true, not_true_eq_false, ↓reduceIte, v0_ltT, v0_ltF, v0_gtT, v0_gtF, v0_leT, v0_leF, v0_geT, v0_geF, v0_eqT, v0_eqF, v0_add, v0_dda, v0_mul, v0_lum, v0_sub, v0_bad, v0_cl, h7, t1, t2, av', eM]); rw [sk_87_5_180, ht_87_6, ch_87_14, em_bind _ _ _ n5 (by omega), ev_rs, ch_87_18, em_within _ _ _ n6 (by omega), ev_rs, ch_87_21]; (try simp +decide (disch := omega) only [ni_bF, nI_clamp, nI_add, pk_mul, dc_ltT, dc_ltF, dc_leT, dc_leF, dc_eqF, dc_neT, dn_eq, dn_ne, dn_lt, dn_ge, si_at, si_c, si_k, q_at_nI, q_put_nI, ne_eq, not_false_eq_true, not_true_eq_false, ↓reduceIte, v0_ltT, v0_ltF, v0_gtT, v0_gtF, v0_leT, v0_leF, v0_geT, v0_geF, v0_eqT, v0_eqF, v0_add, v0_dda, v0_mul, v0_lum, v0_sub, v0_bad, v0_cl, v1_ltT, v1_ltF, v1_gtT, v1_gtF, v1_leT, v1_leF, v1_geT, v1_geF, v1_eqT, v1_eqF, v1_add, v1_dda, v1_mul, v1_lum, v1_sub, v1_bad, v1_cl, h7, t1, t2, av', eM]); rw [sk_87_7_93, lp_87_93]
        exact mo_f (Nat.le_refl _) (by repeat (first | exact trivial | refine And.intro rfl ?_)) rfl u3
end ST
