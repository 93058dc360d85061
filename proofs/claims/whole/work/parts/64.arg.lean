/-! an ARGUMENT, in both -/
theorem xi_si {h : Nat → Nat → Int32} {r j k : Nat} {v : Int32} (e : r ≠ 46) : xi (am_si h r j v) k = am_si (xi h k) r j v := by
  unfold xi
  rw [am_si_ne (show 46 ≠ r from fun q => e q.symm)]
  funext c x
  unfold am_si
  by_cases c1 : c = r
  · subst c1
    rw [if_neg e, if_pos rfl, if_pos rfl, if_neg e]
  · rw [if_neg c1, if_neg c1]
section AG
variable {h0 h1 hC hM : Nat → Nat → Int32} {hl : Nat → Nat → Int64} {z nd nt nn hf lim : Nat} {sz L bd st : Nat → Nat} {md : Int32} {nb ne nc nf np nw s cn cl y : Nat} {sb se : Int32}
theorem pr_arg (d : Nat) (Kx : rn_K h0 h1 z nd nt nn hf sz L bd st md) (S : rn_S h0 h1 z nd nn sz lim md hC hM nb ne nc nf np nw s cn cl) (v : rn_V h0 nd nn hC hM nb ne y sb se) (hb : nb ≤ 20100) (he : ne ≤ 42000) (hc : nc < 10100) (h31 : nf < 10100) :
    ∃ (hC' hM' : Nat → Nat → Int32) (nc' : Nat) (cv fv : Int32), am_call tb_P (d + 4) 163 [.ref 45, .int (nI y), .int sb] (pr_S, hC, hl) = some (none, (pr_S, hC', hl)) ∧ am_call tb_P (d + 3) 75 [.ref 73, .int (nI (z + y)), .int se] (pr_S, hM, hl) = some (none, (pr_S, hM', hl)) ∧ rn_S h0 h1 z nd nn sz lim md hC' hM' nb ne nc' nf np nw s cn cl ∧ nc ≤ nc' ∧ nc' ≤ nc + 1 ∧ hC' 45 17 = cv ∧ hM' 73 83 = cv ∧ hC' 45 18 = fv ∧ hM' 73 84 = fv ∧ sr_o nc' cv ∧ sr_o nb fv ∧ (∀ j, j ≠ 17 → j ≠ 18 → hC' 45 j = hC 45 j) ∧ (∀ j, 77 ≤ j → j < 83 → hM' 73 j = hM 73 j) ∧ (∀ x b e, rn_V h0 nd nn hC hM nb ne x b e → rn_V h0 nd nn hC' hM' nb ne x b e) ∧ (∀ k c v, rn_W sz hC hM nb nf np k c v → rn_W sz hC' hM' nb nf np k c v) := by
  obtain ⟨z1, z2, z3, z4, z5, z6⟩ := rk_z Kx
  have y1 := (vk_K v).1
  have eK : hC 26 = h0 26 := rk_c S (Or.inl (by decide))
  have eM : hC 27 = h0 27 := rk_c S (Or.inl (by decide))
  have rp := rk_rp Kx S y1
  have S4 := S.2.2.2.1
  by_cases k : h0 26 y = 1
  · obtain ⟨t, X, t1, t2, t3, t4, t5⟩ := vk_1 v k
    have t6 := t3 t t2
    obtain ⟨i, i1, i2, i3⟩ := fd_in (by omega) t2 t5
    have r1 := rp.2.1 k
    have f1 := ea_find (hl := hl) (d + 1) t t6 sb se X hC hb t2 t3 t5 t4
    have f2 := em_find (hl := hl) (d + 1) t t6 sb se X (hC 49) (hC 52) hM hb he (fun i hi => (S4 i hi).1) t2 t3 t5 t4
    rw [i3] at f1 f2
    obtain ⟨b1, b2, b3, b4, b5, b6⟩ := S4 i i1
    refine ⟨am_si (am_si hC 45 18 (nI i)) 45 17 (hC 50 i), am_si (am_si hM 73 84 (nI i)) 73 83 (hC 50 i), nc, hC 50 i, nI i, ?_, ?_, ?_, Nat.le_refl _, by omega, am_si_at _ _ _ _, am_si_at _ _ _ _, ?_, ?_, b5, Or.inr ⟨i, i1, rfl⟩, fun j q1 q2 => ?_, fun j q1 q2 => ?_, fun x b e => ?_, fun k c v => ?_⟩
    · rw [en_163, ht_163_0, ch_163_0, at_26, ev_rs, ch_163_1]; (try simp +decide (disch := omega) only [ni_bF, nI_clamp, nI_add, pk_mul, dc_ltT, dc_ltF, dc_leT, dc_leF, dc_eqF, dc_neT, dn_eq, dn_ne, dn_lt, dn_ge, si_at, si_c, si_k, q_at_nI, q_put_nI, ne_eq, not_false_eq_true, not_true_eq_false, ↓reduceIte, v0_ltT, v0_ltF, v0_gtT, v0_gtF, v0_leT, v0_leF, v0_geT, v0_geF, v0_eqT, v0_eqF, v0_add, v0_dda, v0_mul, v0_lum, v0_sub, v0_bad, v0_cl, v1_ltT, v1_ltF, v1_gtT, v1_gtF, v1_leT, v1_leF, v1_geT, v1_geF, v1_eqT, v1_eqF, v1_add, v1_dda, v1_mul, v1_lum, v1_sub, v1_bad, v1_cl, eK, eM, k, t1]); rw [at_27, ev_rs, ch_163_3]; (try simp +decide (disch := omega) only [ni_bF, nI_clamp, nI_add, pk_mul, dc_ltT, dc_ltF, dc_leT, dc_leF, dc_eqF, dc_neT, dn_eq, dn_ne, dn_lt, dn_ge, si_at, si_c, si_k, q_at_nI, q_put_nI, ne_eq, not_false_eq_true, not_true_eq_false, ↓reduceIte, v0_ltT, v0_ltF, v0_gtT, v0_gtF, v0_leT, v0_leF, v0_geT, v0_geF, v0_eqT, v0_eqF, v0_add, v0_dda, v0_mul, v0_lum, v0_sub, v0_bad, v0_cl, eK, eM, k, t1]); rw [f1, ev_rs, ch_163_5, ea_bcell _ _ _ (by omega), ev_rs, ch_163_7, sk_163_1_80, ht_163_2, ch_163_8]
      rw [am_si_ne (by decide)]
    · have r2 := r1.2
      rw [t1] at r2
      have r3 := r1.1
      rw [en_75, ht_75_0, ch_75_0]; (try simp +decide (disch := omega) only [ni_bF, nI_clamp, nI_add, pk_mul, dc_ltT, dc_ltF, dc_leT, dc_leF, dc_eqF, dc_neT, dn_eq, dn_ne, dn_lt, dn_ge, si_at, si_c, si_k, q_at_nI, q_put_nI, ne_eq, not_false_eq_true, not_true_eq_false, ↓reduceIte, v0_ltT, v0_ltF, v0_gtT, v0_gtF, v0_leT, v0_leF, v0_geT, v0_geF, v0_eqT, v0_eqF, v0_add, v0_dda, v0_mul, v0_lum, v0_sub, v0_bad, v0_cl, v23_ltT, v23_ltF, v23_gtT, v23_gtF, v23_leT, v23_leF, v23_geT, v23_geF, v23_eqT, v23_eqF, v23_add, v23_dda, v23_mul, v23_lum, v23_sub, v23_bad, v23_cl, r2, r3]); rw [f2, ev_rs, ch_75_2]; (try simp +decide (disch := omega) only [ni_bF, nI_clamp, nI_add, pk_mul, dc_ltT, dc_ltF, dc_leT, dc_leF, dc_eqF, dc_neT, dn_eq, dn_ne, dn_lt, dn_ge, si_at, si_c, si_k, q_at_nI, q_put_nI, ne_eq, not_false_eq_true, not_true_eq_false, ↓reduceIte, v0_ltT, v0_ltF, v0_gtT, v0_gtF, v0_leT, v0_leF, v0_geT, v0_geF, v0_eqT, v0_eqF, v0_add, v0_dda, v0_mul, v0_lum, v0_sub, v0_bad, v0_cl, r2, r3]); rw [sk_75_1_57, ht_75_2, ch_75_4]
      rw [b2]
    · exact rn_mo (by decide) (rn_mo (by decide) (rn_ma (by decide) (rn_ma (by decide) S)))
    · rw [am_si_off (by decide)]; exact am_si_at _ _ _ _
    · rw [am_si_off (by decide)]; exact am_si_at _ _ _ _
    · rw [am_si_off (by omega), am_si_off (by omega)]
    · rw [am_si_off (by omega), am_si_off (by omega)]
    · exact rn_Vc (fun c hc => by rw [am_si_ne hc, am_si_ne hc]) (fun c hc => by rw [am_si_ne hc, am_si_ne hc])
    · exact rn_Wc (fun c hc => by rw [am_si_ne hc, am_si_ne hc]) (fun c hc => by rw [am_si_ne hc, am_si_ne hc])
  · have n2 := S.1.2.1
    have n7 := S.1.2.2.2.2.2.2.1
    have q1 : (am_si hC 45 18 (-1)) 54 0 = nI nc := by rw [am_si_ne (by decide)]; exact n2
    have q2 : (am_si hM 73 84 (-1)) 73 49 = nI nc := by rw [am_si_off (by decide)]; exact n7
    have m1 := ea_cmake (a := nI y) (b := sb) (kp := 1) (d + 2) (am_si hC 45 18 (-1)) hl q1 hc (Or.inr rfl)
    have m2 := em_cell (a := nI (z + y)) (b := se) (d + 1) (am_si hM 73 84 (-1)) hl q2 (by omega)
    have k2 : hM 79 (z + y) ≠ 23 := by
      rcases (vk_K v).2 with x | x | x | x | x | x | x | x | x | x
      · rw [(rp.1 x).1]; decide
      · exact absurd x k
      · rw [(rp.2.2.1 x).1]; decide
      · rw [(rp.2.2.2.1 x).1]; decide
      · rw [(rp.2.2.2.2.1 x).1]; decide
      · rw [(rp.2.2.2.2.2.1 x).1]; decide
      · rw [(rp.2.2.2.2.2.2.1 x).1]; decide
      · rw [(rp.2.2.2.2.2.2.2.1 x).1]; decide
      · obtain ⟨_, _, m, _⟩ := vk_8 v x
        rw [(rp.2.2.2.2.2.2.2.2.1 x).1]
        rcases m with m | m | m | m <;> rw [m] <;> decide
      · rw [(rp.2.2.2.2.2.2.2.2.2 x).1]; decide
    refine ⟨am_si (xi (xc (am_si hC 45 18 (-1)) nc (nI y) sb 1) 2) 45 17 (nI nc), am_si (xim (xcm (am_si hM 73 84 (-1)) nc (nI (z + y)) se) 2) 73 83 (nI nc), nc + 1, nI nc, -1, ?_, ?_, ?_, by omega, Nat.le_refl _, am_si_at _ _ _ _, am_si_at _ _ _ _, ?_, ?_, Or.inr ⟨nc, by omega, rfl⟩, Or.inl rfl, fun j q1 q2 => ?_, fun j q1 q2 => ?_, fun x b e u => ?_, fun k c v u => ?_⟩
    · rw [en_163, ht_163_0, ch_163_0, at_26, ev_rs, ch_163_1]; (try simp +decide (disch := omega) only [ni_bF, nI_clamp, nI_add, pk_mul, dc_ltT, dc_ltF, dc_leT, dc_leF, dc_eqF, dc_neT, dn_eq, dn_ne, dn_lt, dn_ge, si_at, si_c, si_k, q_at_nI, q_put_nI, ne_eq, not_false_eq_true, not_true_eq_false, ↓reduceIte, v0_ltT, v0_ltF, v0_gtT, v0_gtF, v0_leT, v0_leF, v0_geT, v0_geF, v0_eqT, v0_eqF, v0_add, v0_dda, v0_mul, v0_lum, v0_sub, v0_bad, v0_cl, v1_ltT, v1_ltF, v1_gtT, v1_gtF, v1_leT, v1_leF, v1_geT, v1_geF, v1_eqT, v1_eqF, v1_add, v1_dda, v1_mul, v1_lum, v1_sub, v1_bad, v1_cl, eK]); rw [if_pos k, ht_163_1, ch_163_2, m1, ev_rs, ch_163_4, ea_inc2 _ _ _, ev_rn, ch_163_6, ht_163_2, ch_163_8]
      rw [xi_si (by decide)]
    · rw [en_75, ht_75_0, ch_75_0]; (try simp +decide (disch := omega) only [ni_bF, nI_clamp, nI_add, pk_mul, dc_ltT, dc_ltF, dc_leT, dc_leF, dc_eqF, dc_neT, dn_eq, dn_ne, dn_lt, dn_ge, si_at, si_c, si_k, q_at_nI, q_put_nI, ne_eq, not_false_eq_true, not_true_eq_false, ↓reduceIte, v0_ltT, v0_ltF, v0_gtT, v0_gtF, v0_leT, v0_leF, v0_geT, v0_geF, v0_eqT, v0_eqF, v0_add, v0_dda, v0_mul, v0_lum, v0_sub, v0_bad, v0_cl, v23_ltT, v23_ltF, v23_gtT, v23_gtF, v23_leT, v23_leF, v23_geT, v23_geF, v23_eqT, v23_eqF, v23_add, v23_dda, v23_mul, v23_lum, v23_sub, v23_bad, v23_cl]); rw [if_pos k2, ht_75_1, ch_75_1, m2, ev_rs, ch_75_3, ht_75_2, ch_75_4]
    · refine rn_mo (by decide) (rn_ma (by decide) (rn_cell (kp := 1) (rn_Vc (fun c hc => am_si_ne hc) (fun c hc => am_si_ne hc) v) h31 (rn_mo (v := -1) (j := 84) (by decide) (rn_ma (v := -1) (j := 18) (by decide) S)) (fun q z => by rw [xi_n (by omega), xc_n (by omega)]) ?_ ?_ ?_ ?_ ?_ ?_ ?_ (fun q z => by rw [xim_n (by omega), xcm_n (by omega)]) ?_ ?_ ?_ ?_ ?_ ?_ ?_))
      all_goals simp (disch := decide) only [xb_0, xb_1, xb_2, xb_3, xb_4, xb_5, xb_n, xm_0, xm_1, xm_2, xm_3, xm_4, xm_n, xw_0, xw_1, xw_2, xw_n, xc_0, xc_1, xc_2, xc_3, xc_4, xc_5, xc_n, xcm_0, xcm_1, xcm_2, xcm_3, xcm_4, xcm_5, xcm_n, xf_0, xf_1, xf_2, xf_3, xf_4, xf_5, xf_6, xf_n, xfm_0, xfm_1, xfm_2, xfm_3, xfm_4, xfm_5, xfm_6, xfm_n, xp_0, xp_1, xp_2, xp_3, xp_4, xp_n, xpm_0, xpm_1, xpm_2, xpm_3, xpm_n, xi_0, xi_n, xim_0, xim_n, xo_0, xo_n, xom_0, xom_n, upd_at, upd_ne]
    · rw [am_si_off (by decide)]; simp (disch := decide) only [xb_0, xb_1, xb_2, xb_3, xb_4, xb_5, xb_n, xm_0, xm_1, xm_2, xm_3, xm_4, xm_n, xw_0, xw_1, xw_2, xw_n, xc_0, xc_1, xc_2, xc_3, xc_4, xc_5, xc_n, xcm_0, xcm_1, xcm_2, xcm_3, xcm_4, xcm_5, xcm_n, xf_0, xf_1, xf_2, xf_3, xf_4, xf_5, xf_6, xf_n, xfm_0, xfm_1, xfm_2, xfm_3, xfm_4, xfm_5, xfm_6, xfm_n, xp_0, xp_1, xp_2, xp_3, xp_4, xp_n, xpm_0, xpm_1, xpm_2, xpm_3, xpm_n, xi_0, xi_n, xim_0, xim_n, xo_0, xo_n, xom_0, xom_n, upd_at, upd_ne]; exact am_si_at _ _ _ _
    · rw [am_si_off (by decide)]; simp (disch := decide) only [xb_0, xb_1, xb_2, xb_3, xb_4, xb_5, xb_n, xm_0, xm_1, xm_2, xm_3, xm_4, xm_n, xw_0, xw_1, xw_2, xw_n, xc_0, xc_1, xc_2, xc_3, xc_4, xc_5, xc_n, xcm_0, xcm_1, xcm_2, xcm_3, xcm_4, xcm_5, xcm_n, xf_0, xf_1, xf_2, xf_3, xf_4, xf_5, xf_6, xf_n, xfm_0, xfm_1, xfm_2, xfm_3, xfm_4, xfm_5, xfm_6, xfm_n, xp_0, xp_1, xp_2, xp_3, xp_4, xp_n, xpm_0, xpm_1, xpm_2, xpm_3, xpm_n, xi_0, xi_n, xim_0, xim_n, xo_0, xo_n, xom_0, xom_n, upd_at, upd_ne]; exact am_si_at _ _ _ _
    · rw [am_si_off (by omega)]; simp (disch := decide) only [xb_0, xb_1, xb_2, xb_3, xb_4, xb_5, xb_n, xm_0, xm_1, xm_2, xm_3, xm_4, xm_n, xw_0, xw_1, xw_2, xw_n, xc_0, xc_1, xc_2, xc_3, xc_4, xc_5, xc_n, xcm_0, xcm_1, xcm_2, xcm_3, xcm_4, xcm_5, xcm_n, xf_0, xf_1, xf_2, xf_3, xf_4, xf_5, xf_6, xf_n, xfm_0, xfm_1, xfm_2, xfm_3, xfm_4, xfm_5, xfm_6, xfm_n, xp_0, xp_1, xp_2, xp_3, xp_4, xp_n, xpm_0, xpm_1, xpm_2, xpm_3, xpm_n, xi_0, xi_n, xim_0, xim_n, xo_0, xo_n, xom_0, xom_n, upd_at, upd_ne]; exact am_si_off (by omega)
    · rw [am_si_off (by omega), xim_n (by decide), xcm_5, upd_ne (by omega)]; exact am_si_off (by omega)
    · refine rn_Vs (fun i _ => ?_) (fun i _ => ?_) (fun i _ => ?_) (fun i _ => ?_) (Nat.le_refl _) (Nat.le_refl _) _ _ _ u
      all_goals rw [am_si_ne (by decide)]; simp (disch := decide) only [xb_0, xb_1, xb_2, xb_3, xb_4, xb_5, xb_n, xm_0, xm_1, xm_2, xm_3, xm_4, xm_n, xw_0, xw_1, xw_2, xw_n, xc_0, xc_1, xc_2, xc_3, xc_4, xc_5, xc_n, xcm_0, xcm_1, xcm_2, xcm_3, xcm_4, xcm_5, xcm_n, xf_0, xf_1, xf_2, xf_3, xf_4, xf_5, xf_6, xf_n, xfm_0, xfm_1, xfm_2, xfm_3, xfm_4, xfm_5, xfm_6, xfm_n, xp_0, xp_1, xp_2, xp_3, xp_4, xp_n, xpm_0, xpm_1, xpm_2, xpm_3, xpm_n, xi_0, xi_n, xim_0, xim_n, xo_0, xo_n, xom_0, xom_n, upd_at, upd_ne]; rw [am_si_ne (by decide)]
    · refine rn_Ws (fun i _ => ?_) (fun i _ => ?_) (fun i _ => ?_) (fun i _ => ?_) (Nat.le_refl _) (Nat.le_refl _) (Nat.le_refl _) (by omega) _ _ _ u
      all_goals rw [am_si_ne (by decide)]; simp (disch := decide) only [xb_0, xb_1, xb_2, xb_3, xb_4, xb_5, xb_n, xm_0, xm_1, xm_2, xm_3, xm_4, xm_n, xw_0, xw_1, xw_2, xw_n, xc_0, xc_1, xc_2, xc_3, xc_4, xc_5, xc_n, xcm_0, xcm_1, xcm_2, xcm_3, xcm_4, xcm_5, xcm_n, xf_0, xf_1, xf_2, xf_3, xf_4, xf_5, xf_6, xf_n, xfm_0, xfm_1, xfm_2, xfm_3, xfm_4, xfm_5, xfm_6, xfm_n, xp_0, xp_1, xp_2, xp_3, xp_4, xp_n, xpm_0, xpm_1, xpm_2, xpm_3, xpm_n, xi_0, xi_n, xim_0, xim_n, xo_0, xo_n, xom_0, xom_n, upd_at, upd_ne]; rw [am_si_ne (by decide)]
end AG
